/-! The model's acts -/
theorem l_grows3 (k : Nat) : (l_grows k).length ≤ 3 := by
  unfold l_grows
  split <;> simp
theorem f_tr1 {M : f_M} {R : Nat → Int32} {m b : Nat} {l : List Nat} : f_mn (f_mI M 17 (f_lay (upd R m (nI b)) (m + 1) l)) 12 (m + 1 + l.length) = f_mn (f_mI M 17 (f_lay R m (b :: l))) 12 (m + (b :: l).length) := by
  rw [List.length_cons, show m + (l.length + 1) = m + 1 + l.length by omega]; rfl
theorem f_tr2 {M : f_M} {R : Nat → Int32} {m b : Nat} {l l2 : List Nat} : f_mn (f_mI M 17 (f_lay (f_lay (upd R m (nI b)) (m + 1) l) (m + 1 + l.length) l2)) 12 (m + 1 + l.length + l2.length) = f_mn (f_mI M 17 (f_lay R m ((b :: l) ++ l2))) 12 (m + ((b :: l) ++ l2).length) := by
  rw [f_lay_app, List.length_append, List.length_cons, show m + (l.length + 1 + l2.length) = m + 1 + l.length + l2.length by omega, show m + (l.length + 1) = m + 1 + l.length by omega]; rfl
section MX1
variable {G : g_G} {C : f_C} {M M2 : f_M} {ob h h2 : List va_E} {x y y2 y3 r9 fg : Int32} {j m k k9 w : Nat} {R : Nat → Int32} {T : f_T}
theorem r_above0 : g_Run G mX12_above 1 0 0 [.int 0] h (some (.int (-1))) h := by
  refine g_Run.of (lv := [(0, .int 0)]) (by decide) (Nat.le_of_ble_eq_true rfl) rfl ?_
  refine a_iload_n 0 1 rfl dX12_above_0 rfl rfl ?_
  refine a_iconst (x := 4) 2 rfl dX12_above_1 (by decide) ?_
  refine a_icmp_ne 9 5 rfl dX12_above_2 (by decide) (fun _ => ?_) (fun hc => absurd hc ((by decide)))
  refine a_iload_n 0 10 rfl dX12_above_9 rfl rfl ?_
  refine a_iconst (x := 5) 11 rfl dX12_above_10 (by decide) ?_
  refine a_icmp_ne 18 14 rfl dX12_above_11 (by decide) (fun _ => ?_) (fun hc => absurd hc ((by decide)))
  refine a_iload_n 0 19 rfl dX12_above_18 rfl rfl ?_
  refine a_if_le 26 22 rfl dX12_above_19 (by decide) (fun _ => ?_) (fun hc => absurd ((by decide)) hc)
  refine a_iconst (x := (-1)) 27 rfl dX12_above_26 (by decide) ?_
  exact a_ireturn .int rfl rfl (rfl) (rfl) dX12_above_27
theorem r_above1 : g_Run G mX12_above 1 0 0 [.int 1] h (some (.int 0)) h := by
  refine g_Run.of (lv := [(0, .int 1)]) (by decide) (Nat.le_of_ble_eq_true rfl) rfl ?_
  refine a_iload_n 0 1 rfl dX12_above_0 rfl rfl ?_
  refine a_iconst (x := 4) 2 rfl dX12_above_1 (by decide) ?_
  refine a_icmp_ne 9 5 rfl dX12_above_2 (by decide) (fun _ => ?_) (fun hc => absurd hc ((by decide)))
  refine a_iload_n 0 10 rfl dX12_above_9 rfl rfl ?_
  refine a_iconst (x := 5) 11 rfl dX12_above_10 (by decide) ?_
  refine a_icmp_ne 18 14 rfl dX12_above_11 (by decide) (fun _ => ?_) (fun hc => absurd hc ((by decide)))
  refine a_iload_n 0 19 rfl dX12_above_18 rfl rfl ?_
  refine a_if_le 26 22 rfl dX12_above_19 (by decide) (fun hc => absurd hc ((by decide))) (fun _ => ?_)
  refine a_iconst (x := 0) 23 rfl dX12_above_22 (by decide) ?_
  refine a_goto 27 dX12_above_23 (by decide) ?_
  exact a_ireturn .int rfl rfl (rfl) (rfl) dX12_above_27
theorem r_above2 : g_Run G mX12_above 1 0 0 [.int 2] h (some (.int 0)) h := by
  refine g_Run.of (lv := [(0, .int 2)]) (by decide) (Nat.le_of_ble_eq_true rfl) rfl ?_
  refine a_iload_n 0 1 rfl dX12_above_0 rfl rfl ?_
  refine a_iconst (x := 4) 2 rfl dX12_above_1 (by decide) ?_
  refine a_icmp_ne 9 5 rfl dX12_above_2 (by decide) (fun _ => ?_) (fun hc => absurd hc ((by decide)))
  refine a_iload_n 0 10 rfl dX12_above_9 rfl rfl ?_
  refine a_iconst (x := 5) 11 rfl dX12_above_10 (by decide) ?_
  refine a_icmp_ne 18 14 rfl dX12_above_11 (by decide) (fun _ => ?_) (fun hc => absurd hc ((by decide)))
  refine a_iload_n 0 19 rfl dX12_above_18 rfl rfl ?_
  refine a_if_le 26 22 rfl dX12_above_19 (by decide) (fun hc => absurd hc ((by decide))) (fun _ => ?_)
  refine a_iconst (x := 0) 23 rfl dX12_above_22 (by decide) ?_
  refine a_goto 27 dX12_above_23 (by decide) ?_
  exact a_ireturn .int rfl rfl (rfl) (rfl) dX12_above_27
theorem r_above3 : g_Run G mX12_above 1 0 0 [.int 3] h (some (.int 0)) h := by
  refine g_Run.of (lv := [(0, .int 3)]) (by decide) (Nat.le_of_ble_eq_true rfl) rfl ?_
  refine a_iload_n 0 1 rfl dX12_above_0 rfl rfl ?_
  refine a_iconst (x := 4) 2 rfl dX12_above_1 (by decide) ?_
  refine a_icmp_ne 9 5 rfl dX12_above_2 (by decide) (fun _ => ?_) (fun hc => absurd hc ((by decide)))
  refine a_iload_n 0 10 rfl dX12_above_9 rfl rfl ?_
  refine a_iconst (x := 5) 11 rfl dX12_above_10 (by decide) ?_
  refine a_icmp_ne 18 14 rfl dX12_above_11 (by decide) (fun _ => ?_) (fun hc => absurd hc ((by decide)))
  refine a_iload_n 0 19 rfl dX12_above_18 rfl rfl ?_
  refine a_if_le 26 22 rfl dX12_above_19 (by decide) (fun hc => absurd hc ((by decide))) (fun _ => ?_)
  refine a_iconst (x := 0) 23 rfl dX12_above_22 (by decide) ?_
  refine a_goto 27 dX12_above_23 (by decide) ?_
  exact a_ireturn .int rfl rfl (rfl) (rfl) dX12_above_27
theorem r_above4 : g_Run G mX12_above 1 0 0 [.int 4] h (some (.int 3)) h := by
  refine g_Run.of (lv := [(0, .int 4)]) (by decide) (Nat.le_of_ble_eq_true rfl) rfl ?_
  refine a_iload_n 0 1 rfl dX12_above_0 rfl rfl ?_
  refine a_iconst (x := 4) 2 rfl dX12_above_1 (by decide) ?_
  refine a_icmp_ne 9 5 rfl dX12_above_2 (by decide) (fun hc => absurd (rfl) hc) (fun _ => ?_)
  refine a_iconst (x := 3) 6 rfl dX12_above_5 (by decide) ?_
  refine a_goto 27 dX12_above_6 (by decide) ?_
  exact a_ireturn .int rfl rfl (rfl) (rfl) dX12_above_27
theorem r_above5 : g_Run G mX12_above 1 0 0 [.int 5] h (some (.int 2)) h := by
  refine g_Run.of (lv := [(0, .int 5)]) (by decide) (Nat.le_of_ble_eq_true rfl) rfl ?_
  refine a_iload_n 0 1 rfl dX12_above_0 rfl rfl ?_
  refine a_iconst (x := 4) 2 rfl dX12_above_1 (by decide) ?_
  refine a_icmp_ne 9 5 rfl dX12_above_2 (by decide) (fun _ => ?_) (fun hc => absurd hc ((by decide)))
  refine a_iload_n 0 10 rfl dX12_above_9 rfl rfl ?_
  refine a_iconst (x := 5) 11 rfl dX12_above_10 (by decide) ?_
  refine a_icmp_ne 18 14 rfl dX12_above_11 (by decide) (fun hc => absurd (rfl) hc) (fun _ => ?_)
  refine a_iconst (x := 2) 15 rfl dX12_above_14 (by decide) ?_
  refine a_goto 27 dX12_above_15 (by decide) ?_
  exact a_ireturn .int rfl rfl (rfl) (rfl) dX12_above_27
theorem r_body0_0 : g_Run G mX12_body 1 0 0 [.int 0, .int 0] h (some (.int 10)) h := by
  refine g_Run.of (lv := [(0, .int 0), (1, .int 0)]) (by decide) (Nat.le_of_ble_eq_true rfl) rfl ?_
  refine a_iload_n 0 1 rfl dX12_body_0 rfl rfl ?_
  refine a_tableIn (off := 35) 36 dX12_body_1 (by decide) (by decide) (by decide) (by decide) ?_
  refine a_bipush (x := 10) 38 rfl dX12_body_36 (by decide) ?_
  refine a_iload_n 1 39 rfl dX12_body_38 rfl rfl ?_
  refine a_iadd 40 rfl dX12_body_39 ?_
  refine a_eq (st2 := [.int (nI (10 + 0))]) rfl rfl (congrArg (fun z9 => Value.int z9 :: []) (nI_add 10 0)) rfl ?_
  exact a_ireturn .int rfl rfl (rfl) (rfl) dX12_body_40
theorem r_body0_1 : g_Run G mX12_body 1 0 0 [.int 0, .int 1] h (some (.int 11)) h := by
  refine g_Run.of (lv := [(0, .int 0), (1, .int 1)]) (by decide) (Nat.le_of_ble_eq_true rfl) rfl ?_
  refine a_iload_n 0 1 rfl dX12_body_0 rfl rfl ?_
  refine a_tableIn (off := 35) 36 dX12_body_1 (by decide) (by decide) (by decide) (by decide) ?_
  refine a_bipush (x := 10) 38 rfl dX12_body_36 (by decide) ?_
  refine a_iload_n 1 39 rfl dX12_body_38 rfl rfl ?_
  refine a_iadd 40 rfl dX12_body_39 ?_
  refine a_eq (st2 := [.int (nI (10 + 1))]) rfl rfl (congrArg (fun z9 => Value.int z9 :: []) (nI_add 10 1)) rfl ?_
  exact a_ireturn .int rfl rfl (rfl) (rfl) dX12_body_40
theorem r_body0_2 : g_Run G mX12_body 1 0 0 [.int 0, .int 2] h (some (.int 12)) h := by
  refine g_Run.of (lv := [(0, .int 0), (1, .int 2)]) (by decide) (Nat.le_of_ble_eq_true rfl) rfl ?_
  refine a_iload_n 0 1 rfl dX12_body_0 rfl rfl ?_
  refine a_tableIn (off := 35) 36 dX12_body_1 (by decide) (by decide) (by decide) (by decide) ?_
  refine a_bipush (x := 10) 38 rfl dX12_body_36 (by decide) ?_
  refine a_iload_n 1 39 rfl dX12_body_38 rfl rfl ?_
  refine a_iadd 40 rfl dX12_body_39 ?_
  refine a_eq (st2 := [.int (nI (10 + 2))]) rfl rfl (congrArg (fun z9 => Value.int z9 :: []) (nI_add 10 2)) rfl ?_
  exact a_ireturn .int rfl rfl (rfl) (rfl) dX12_body_40
theorem r_body1_0 : g_Run G mX12_body 1 0 0 [.int 1, .int 0] h (some (.int 0)) h := by
  refine g_Run.of (lv := [(0, .int 1), (1, .int 0)]) (by decide) (Nat.le_of_ble_eq_true rfl) rfl ?_
  refine a_iload_n 0 1 rfl dX12_body_0 rfl rfl ?_
  refine a_tableIn (off := 40) 41 dX12_body_1 (by decide) (by decide) (by decide) (by decide) ?_
  refine a_iload_n 1 42 rfl dX12_body_41 rfl rfl ?_
  refine a_iconst (x := 1) 43 rfl dX12_body_42 (by decide) ?_
  refine a_icmp_ne 51 46 rfl dX12_body_43 (by decide) (fun _ => ?_) (fun hc => absurd hc ((by decide)))
  refine a_iconst (x := 0) 52 rfl dX12_body_51 (by decide) ?_
  exact a_ireturn .int rfl rfl (rfl) (rfl) dX12_body_52
theorem r_body1_1 : g_Run G mX12_body 1 0 0 [.int 1, .int 1] h (some (.int 20)) h := by
  refine g_Run.of (lv := [(0, .int 1), (1, .int 1)]) (by decide) (Nat.le_of_ble_eq_true rfl) rfl ?_
  refine a_iload_n 0 1 rfl dX12_body_0 rfl rfl ?_
  refine a_tableIn (off := 40) 41 dX12_body_1 (by decide) (by decide) (by decide) (by decide) ?_
  refine a_iload_n 1 42 rfl dX12_body_41 rfl rfl ?_
  refine a_iconst (x := 1) 43 rfl dX12_body_42 (by decide) ?_
  refine a_icmp_ne 51 46 rfl dX12_body_43 (by decide) (fun hc => absurd (rfl) hc) (fun _ => ?_)
  refine a_bipush (x := 20) 48 rfl dX12_body_46 (by decide) ?_
  refine a_goto 52 dX12_body_48 (by decide) ?_
  exact a_ireturn .int rfl rfl (rfl) (rfl) dX12_body_52
theorem r_body1_2 : g_Run G mX12_body 1 0 0 [.int 1, .int 2] h (some (.int 0)) h := by
  refine g_Run.of (lv := [(0, .int 1), (1, .int 2)]) (by decide) (Nat.le_of_ble_eq_true rfl) rfl ?_
  refine a_iload_n 0 1 rfl dX12_body_0 rfl rfl ?_
  refine a_tableIn (off := 40) 41 dX12_body_1 (by decide) (by decide) (by decide) (by decide) ?_
  refine a_iload_n 1 42 rfl dX12_body_41 rfl rfl ?_
  refine a_iconst (x := 1) 43 rfl dX12_body_42 (by decide) ?_
  refine a_icmp_ne 51 46 rfl dX12_body_43 (by decide) (fun _ => ?_) (fun hc => absurd hc ((by decide)))
  refine a_iconst (x := 0) 52 rfl dX12_body_51 (by decide) ?_
  exact a_ireturn .int rfl rfl (rfl) (rfl) dX12_body_52
theorem r_body2_0 : g_Run G mX12_body 1 0 0 [.int 2, .int 0] h (some (.int 30)) h := by
  refine g_Run.of (lv := [(0, .int 2), (1, .int 0)]) (by decide) (Nat.le_of_ble_eq_true rfl) rfl ?_
  refine a_iload_n 0 1 rfl dX12_body_0 rfl rfl ?_
  refine a_tableIn (off := 52) 53 dX12_body_1 (by decide) (by decide) (by decide) (by decide) ?_
  refine a_iload_n 1 54 rfl dX12_body_53 rfl rfl ?_
  refine a_if_ne 62 57 rfl dX12_body_54 (by decide) (fun hc => absurd (rfl) hc) (fun _ => ?_)
  refine a_bipush (x := 30) 59 rfl dX12_body_57 (by decide) ?_
  refine a_goto 63 dX12_body_59 (by decide) ?_
  exact a_ireturn .int rfl rfl (rfl) (rfl) dX12_body_63
theorem r_body2_1 : g_Run G mX12_body 1 0 0 [.int 2, .int 1] h (some (.int 0)) h := by
  refine g_Run.of (lv := [(0, .int 2), (1, .int 1)]) (by decide) (Nat.le_of_ble_eq_true rfl) rfl ?_
  refine a_iload_n 0 1 rfl dX12_body_0 rfl rfl ?_
  refine a_tableIn (off := 52) 53 dX12_body_1 (by decide) (by decide) (by decide) (by decide) ?_
  refine a_iload_n 1 54 rfl dX12_body_53 rfl rfl ?_
  refine a_if_ne 62 57 rfl dX12_body_54 (by decide) (fun _ => ?_) (fun hc => absurd hc ((by decide)))
  refine a_iconst (x := 0) 63 rfl dX12_body_62 (by decide) ?_
  exact a_ireturn .int rfl rfl (rfl) (rfl) dX12_body_63
theorem r_body2_2 : g_Run G mX12_body 1 0 0 [.int 2, .int 2] h (some (.int 0)) h := by
  refine g_Run.of (lv := [(0, .int 2), (1, .int 2)]) (by decide) (Nat.le_of_ble_eq_true rfl) rfl ?_
  refine a_iload_n 0 1 rfl dX12_body_0 rfl rfl ?_
  refine a_tableIn (off := 52) 53 dX12_body_1 (by decide) (by decide) (by decide) (by decide) ?_
  refine a_iload_n 1 54 rfl dX12_body_53 rfl rfl ?_
  refine a_if_ne 62 57 rfl dX12_body_54 (by decide) (fun _ => ?_) (fun hc => absurd hc ((by decide)))
  refine a_iconst (x := 0) 63 rfl dX12_body_62 (by decide) ?_
  exact a_ireturn .int rfl rfl (rfl) (rfl) dX12_body_63
theorem r_body3_0 : g_Run G mX12_body 1 0 0 [.int 3, .int 0] h (some (.int 0)) h := by
  refine g_Run.of (lv := [(0, .int 3), (1, .int 0)]) (by decide) (Nat.le_of_ble_eq_true rfl) rfl ?_
  refine a_iload_n 0 1 rfl dX12_body_0 rfl rfl ?_
  refine a_tableIn (off := 63) 64 dX12_body_1 (by decide) (by decide) (by decide) (by decide) ?_
  refine a_iload_n 1 65 rfl dX12_body_64 rfl rfl ?_
  refine a_iconst (x := 1) 66 rfl dX12_body_65 (by decide) ?_
  refine a_icmp_ne 74 69 rfl dX12_body_66 (by decide) (fun _ => ?_) (fun hc => absurd hc ((by decide)))
  refine a_iconst (x := 0) 75 rfl dX12_body_74 (by decide) ?_
  exact a_ireturn .int rfl rfl (rfl) (rfl) dX12_body_75
theorem r_body3_1 : g_Run G mX12_body 1 0 0 [.int 3, .int 1] h (some (.int 50)) h := by
  refine g_Run.of (lv := [(0, .int 3), (1, .int 1)]) (by decide) (Nat.le_of_ble_eq_true rfl) rfl ?_
  refine a_iload_n 0 1 rfl dX12_body_0 rfl rfl ?_
  refine a_tableIn (off := 63) 64 dX12_body_1 (by decide) (by decide) (by decide) (by decide) ?_
  refine a_iload_n 1 65 rfl dX12_body_64 rfl rfl ?_
  refine a_iconst (x := 1) 66 rfl dX12_body_65 (by decide) ?_
  refine a_icmp_ne 74 69 rfl dX12_body_66 (by decide) (fun hc => absurd (rfl) hc) (fun _ => ?_)
  refine a_bipush (x := 50) 71 rfl dX12_body_69 (by decide) ?_
  refine a_goto 75 dX12_body_71 (by decide) ?_
  exact a_ireturn .int rfl rfl (rfl) (rfl) dX12_body_75
theorem r_body3_2 : g_Run G mX12_body 1 0 0 [.int 3, .int 2] h (some (.int 0)) h := by
  refine g_Run.of (lv := [(0, .int 3), (1, .int 2)]) (by decide) (Nat.le_of_ble_eq_true rfl) rfl ?_
  refine a_iload_n 0 1 rfl dX12_body_0 rfl rfl ?_
  refine a_tableIn (off := 63) 64 dX12_body_1 (by decide) (by decide) (by decide) (by decide) ?_
  refine a_iload_n 1 65 rfl dX12_body_64 rfl rfl ?_
  refine a_iconst (x := 1) 66 rfl dX12_body_65 (by decide) ?_
  refine a_icmp_ne 74 69 rfl dX12_body_66 (by decide) (fun _ => ?_) (fun hc => absurd hc ((by decide)))
  refine a_iconst (x := 0) 75 rfl dX12_body_74 (by decide) ?_
  exact a_ireturn .int rfl rfl (rfl) (rfl) dX12_body_75
theorem r_body4_0 : g_Run G mX12_body 1 0 0 [.int 4, .int 0] h (some (.int 0)) h := by
  refine g_Run.of (lv := [(0, .int 4), (1, .int 0)]) (by decide) (Nat.le_of_ble_eq_true rfl) rfl ?_
  refine a_iload_n 0 1 rfl dX12_body_0 rfl rfl ?_
  refine a_tableIn (off := 75) 76 dX12_body_1 (by decide) (by decide) (by decide) (by decide) ?_
  refine a_iload_n 1 77 rfl dX12_body_76 rfl rfl ?_
  refine a_iconst (x := 2) 78 rfl dX12_body_77 (by decide) ?_
  refine a_icmp_ne 86 81 rfl dX12_body_78 (by decide) (fun _ => ?_) (fun hc => absurd hc ((by decide)))
  refine a_iconst (x := 0) 87 rfl dX12_body_86 (by decide) ?_
  exact a_ireturn .int rfl rfl (rfl) (rfl) dX12_body_87
theorem r_body4_1 : g_Run G mX12_body 1 0 0 [.int 4, .int 1] h (some (.int 0)) h := by
  refine g_Run.of (lv := [(0, .int 4), (1, .int 1)]) (by decide) (Nat.le_of_ble_eq_true rfl) rfl ?_
  refine a_iload_n 0 1 rfl dX12_body_0 rfl rfl ?_
  refine a_tableIn (off := 75) 76 dX12_body_1 (by decide) (by decide) (by decide) (by decide) ?_
  refine a_iload_n 1 77 rfl dX12_body_76 rfl rfl ?_
  refine a_iconst (x := 2) 78 rfl dX12_body_77 (by decide) ?_
  refine a_icmp_ne 86 81 rfl dX12_body_78 (by decide) (fun _ => ?_) (fun hc => absurd hc ((by decide)))
  refine a_iconst (x := 0) 87 rfl dX12_body_86 (by decide) ?_
  exact a_ireturn .int rfl rfl (rfl) (rfl) dX12_body_87
theorem r_body4_2 : g_Run G mX12_body 1 0 0 [.int 4, .int 2] h (some (.int 60)) h := by
  refine g_Run.of (lv := [(0, .int 4), (1, .int 2)]) (by decide) (Nat.le_of_ble_eq_true rfl) rfl ?_
  refine a_iload_n 0 1 rfl dX12_body_0 rfl rfl ?_
  refine a_tableIn (off := 75) 76 dX12_body_1 (by decide) (by decide) (by decide) (by decide) ?_
  refine a_iload_n 1 77 rfl dX12_body_76 rfl rfl ?_
  refine a_iconst (x := 2) 78 rfl dX12_body_77 (by decide) ?_
  refine a_icmp_ne 86 81 rfl dX12_body_78 (by decide) (fun hc => absurd (rfl) hc) (fun _ => ?_)
  refine a_bipush (x := 60) 83 rfl dX12_body_81 (by decide) ?_
  refine a_goto 87 dX12_body_83 (by decide) ?_
  exact a_ireturn .int rfl rfl (rfl) (rfl) dX12_body_87
theorem r_body5_0 : g_Run G mX12_body 1 0 0 [.int 5, .int 0] h (some (.int 41)) h := by
  refine g_Run.of (lv := [(0, .int 5), (1, .int 0)]) (by decide) (Nat.le_of_ble_eq_true rfl) rfl ?_
  refine a_iload_n 0 1 rfl dX12_body_0 rfl rfl ?_
  refine a_tableOut 88 dX12_body_1 ((by decide)) (by decide) ?_
  refine a_iload_n 1 89 rfl dX12_body_88 rfl rfl ?_
  refine a_iconst (x := 2) 90 rfl dX12_body_89 (by decide) ?_
  refine a_icmp_ne 98 93 rfl dX12_body_90 (by decide) (fun _ => ?_) (fun hc => absurd hc ((by decide)))
  refine a_iload_n 1 99 rfl dX12_body_98 rfl rfl ?_
  refine a_if_ne 107 102 rfl dX12_body_99 (by decide) (fun hc => absurd (rfl) hc) (fun _ => ?_)
  refine a_bipush (x := 41) 104 rfl dX12_body_102 (by decide) ?_
  refine a_goto 108 dX12_body_104 (by decide) ?_
  exact a_ireturn .int rfl rfl (rfl) (rfl) dX12_body_108
theorem r_body5_1 : g_Run G mX12_body 1 0 0 [.int 5, .int 1] h (some (.int 0)) h := by
  refine g_Run.of (lv := [(0, .int 5), (1, .int 1)]) (by decide) (Nat.le_of_ble_eq_true rfl) rfl ?_
  refine a_iload_n 0 1 rfl dX12_body_0 rfl rfl ?_
  refine a_tableOut 88 dX12_body_1 ((by decide)) (by decide) ?_
  refine a_iload_n 1 89 rfl dX12_body_88 rfl rfl ?_
  refine a_iconst (x := 2) 90 rfl dX12_body_89 (by decide) ?_
  refine a_icmp_ne 98 93 rfl dX12_body_90 (by decide) (fun _ => ?_) (fun hc => absurd hc ((by decide)))
  refine a_iload_n 1 99 rfl dX12_body_98 rfl rfl ?_
  refine a_if_ne 107 102 rfl dX12_body_99 (by decide) (fun _ => ?_) (fun hc => absurd hc ((by decide)))
  refine a_iconst (x := 0) 108 rfl dX12_body_107 (by decide) ?_
  exact a_ireturn .int rfl rfl (rfl) (rfl) dX12_body_108
theorem r_body5_2 : g_Run G mX12_body 1 0 0 [.int 5, .int 2] h (some (.int 40)) h := by
  refine g_Run.of (lv := [(0, .int 5), (1, .int 2)]) (by decide) (Nat.le_of_ble_eq_true rfl) rfl ?_
  refine a_iload_n 0 1 rfl dX12_body_0 rfl rfl ?_
  refine a_tableOut 88 dX12_body_1 ((by decide)) (by decide) ?_
  refine a_iload_n 1 89 rfl dX12_body_88 rfl rfl ?_
  refine a_iconst (x := 2) 90 rfl dX12_body_89 (by decide) ?_
  refine a_icmp_ne 98 93 rfl dX12_body_90 (by decide) (fun hc => absurd (rfl) hc) (fun _ => ?_)
  refine a_bipush (x := 40) 95 rfl dX12_body_93 (by decide) ?_
  refine a_goto 108 dX12_body_95 (by decide) ?_
  exact a_ireturn .int rfl rfl (rfl) (rfl) dX12_body_108
theorem r_rn0_0 {d : Nat} (hd : 2 ≤ d) (hj : j < 8) (hk : M.2.2.2.1 0 j = nI k9) (hf : M.2.2.2.1 1 j = fg) (hk9 : k9 < 6) (hm : m ≤ 22) : g_Run G mX12_runs d 0 0 [.ref (g_ad G 38), .int (nI j), .int 0, .int 0, .int x] (g_hp G C (g_hm G (f_mn (f_mI M 17 (R)) 12 (m)) ++ ob)) (some (.int (f_grows 0 x (nI j)))) (g_hp G C (g_hm G (f_mn (f_mI M 17 (f_lay R m (l_grows 0))) 12 (m + (l_grows 0).length)) ++ ob)) := by
  have hcl : (nI m).toNatClampNeg = m := g_cl (by omega)
  refine g_Run.of (lv := [(0, .ref (g_ad G 38)), (1, .int (nI j)), (2, .int 0), (3, .int 0), (4, .int x)]) (by decide) (Nat.le_of_ble_eq_true rfl) rfl ?_
  refine a_iload_n 2 1 rfl dX12_runs_0 rfl rfl ?_
  refine a_istore (lv' := [(5, .int 0), (0, .ref (g_ad G 38)), (1, .int (nI j)), (2, .int 0), (3, .int 0), (4, .int x)]) 3 rfl dX12_runs_1 (by decide) rfl ?_
  refine a_iload 0 5 rfl dX12_runs_3 rfl ?_
  refine a_iload_n 4 6 rfl dX12_runs_5 rfl rfl ?_
  refine a_callS (as := [.int 0, .int 0]) (rest := []) (st2 := [.int 10]) (u1 := 0) (v1 := 0) (u2 := 0) (v2 := 0) (r_body0_0) oX12_body q_1630 q_1631 rfl (by omega) (by decide) rfl (Nat.le_of_ble_eq_true rfl) 9 rfl dX12_runs_6 rfl ?_
  refine a_if_ne 22 12 rfl dX12_runs_9 (by decide) (fun _ => ?_) (fun hc => absurd hc ((by decide)))
  refine a_iload 0 24 rfl dX12_runs_22 rfl ?_
  refine a_iload_n 4 25 rfl dX12_runs_24 rfl rfl ?_
  refine a_callS (as := [.int 0, .int 0]) (rest := []) (st2 := [.int 10]) (u1 := 0) (v1 := 0) (u2 := 0) (v2 := 0) (r_body0_0) oX12_body q_1630 q_1631 rfl (by omega) (by decide) rfl (Nat.le_of_ble_eq_true rfl) 28 rfl dX12_runs_25 rfl ?_
  refine a_istore (lv' := [(6, .int 10), (5, .int 0), (0, .ref (g_ad G 38)), (1, .int (nI j)), (2, .int 0), (3, .int 0), (4, .int x)]) 30 rfl dX12_runs_28 (by decide) rfl ?_
  refine a_aload_n 2 31 rfl dX12_runs_30 rfl rfl ?_
  refine a_get 42 cl_11 f_RX12_352_11 (by decide) (rfl) rfl 34 rfl dX12_runs_31 ?_
  refine a_bipush (x := 24) 36 rfl dX12_runs_34 (by decide) ?_
  refine a_icmp_ge 60 39 rfl dX12_runs_36 (by decide) (fun hc => absurd hc (nI_ge (a := m) (b := 24) (by omega) (by omega))) (fun _ => ?_)
  refine a_aload_n 2 40 rfl dX12_runs_39 rfl rfl ?_
  refine a_get 41 cl_11 f_RX12_92_11 (by decide) (rfl) rfl 43 rfl dX12_runs_40 ?_
  refine a_aload_n 2 44 rfl dX12_runs_43 rfl rfl ?_
  refine a_get 42 cl_11 f_RX12_352_11 (by decide) (rfl) rfl 47 rfl dX12_runs_44 ?_
  refine a_iload 0 49 rfl dX12_runs_47 rfl ?_
  refine a_iast (rfl) (vp_in_nI (n := m) (by omega) (by omega)) 50 rfl dX12_runs_49 ?_
  refine a_eq (h2 := g_hp G C (g_hm G (f_mI (f_mn M 12 m) 17 (upd R m (nI 10))) ++ ob)) rfl rfl rfl (by show (((g_hp G C (g_hm G (f_mn (f_mI M 17 R) 12 m) ++ ob)).set 62 (c_I G 24 (upd R (nI m).toNatClampNeg 10))) : List va_E) = _; rw [hcl]; rfl) ?_
  refine a_aload_n 2 51 rfl dX12_runs_50 rfl rfl ?_
  refine a_dup 52 rfl dX12_runs_51 rfl ?_
  refine a_get 42 cl_11 f_RX12_352_11 (by decide) (rfl) rfl 55 rfl dX12_runs_52 ?_
  refine a_iconst (x := 1) 56 rfl dX12_runs_55 (by decide) ?_
  refine a_iadd 57 rfl dX12_runs_56 ?_
  refine a_eq (st2 := [.int (nI (m + 1)), .ref (g_ad G 38)]) rfl rfl (congrArg (fun z9 => Value.int z9 :: [.ref (g_ad G 38)]) (nI_add m 1)) rfl ?_
  refine a_put (fs' := [.int (nI (M.1 0)), .int (nI (M.1 1)), .int (nI (M.1 2)), .int (nI (M.1 3)), .ref (g_ad G 39), .ref (g_ad G 40), .ref (g_ad G 41), .ref (g_ad G 42), .ref (g_ad G 43), .ref (g_ad G 44), .int (M.2.1 0), .ref (g_ad G 45), .int (nI (M.1 4)), .int (nI (M.1 5)), .int (M.2.1 1), .int (M.2.1 2), .long (M.2.2.1 0), .ref (g_ad G 46), .ref (g_ad G 47), .ref (g_ad G 48), .int (nI (M.1 6)), .long (M.2.2.1 1), .int (nI (M.1 7)), .int (nI (M.1 8)), .ref (g_ad G 49), .ref (g_ad G 50), .int (nI (M.1 9)), .int (nI (M.1 10)), .int (nI (M.1 11)), .long (M.2.2.1 2), .ref (g_ad G 51), .ref (g_ad G 52), .ref (g_ad G 53), .ref (g_ad G 54), .ref (g_ad G 55), .ref (g_ad G 56), .ref (g_ad G 57), .ref (g_ad G 58), .ref (g_ad G 59), .ref (g_ad G 60), .ref (g_ad G 61), .ref (g_ad G 62), .int (nI (m + 1))]) 42 cl_11 f_RX12_352_11 (by decide) (rfl) rfl rfl rfl (Nat.le_of_ble_eq_true rfl) rfl 60 rfl dX12_runs_57 ?_
  refine a_eq (h2 := g_hp G C (g_hm G (f_mn (f_mI M 17 (upd R m (nI 10))) 12 (m + 1)) ++ ob)) rfl rfl rfl (rfl) ?_
  refine a_iload 1 62 rfl dX12_runs_60 rfl ?_
  refine a_callS (as := [.int 0]) (rest := []) (st2 := [.int ((-1))]) (u1 := 0) (v1 := 0) (u2 := 0) (v2 := 0) (r_above0) oX12_above q_1633 q_1634 rfl (by omega) (by decide) rfl (Nat.le_of_ble_eq_true rfl) 65 rfl dX12_runs_62 rfl ?_
  refine a_istore (lv' := [(7, .int ((-1))), (6, .int 10), (5, .int 0), (0, .ref (g_ad G 38)), (1, .int (nI j)), (2, .int 0), (3, .int 0), (4, .int x)]) 67 rfl dX12_runs_65 (by decide) rfl ?_
  refine a_iconst (x := 0) 68 rfl dX12_runs_67 (by decide) ?_
  refine a_istore (lv' := [(8, .int 0), (7, .int ((-1))), (6, .int 10), (5, .int 0), (0, .ref (g_ad G 38)), (1, .int (nI j)), (2, .int 0), (3, .int 0), (4, .int x)]) 70 rfl dX12_runs_68 (by decide) rfl ?_
  refine a_iload 2 72 rfl dX12_runs_70 rfl ?_
  refine a_lookup (off := 76) 148 dX12_runs_72 (by decide) (by decide) (by decide) ?_
  refine a_iload 8 150 rfl dX12_runs_148 rfl ?_
  refine a_iload_n 5 151 rfl dX12_runs_150 rfl rfl ?_
  refine a_iadd 152 rfl dX12_runs_151 ?_
  exact a_ireturn .int rfl rfl (rfl) (rfl) dX12_runs_152
theorem r_rn0_2 {d : Nat} (hd : 3 ≤ d) (hj : j < 8) (hk : M.2.2.2.1 0 j = nI k9) (hf : M.2.2.2.1 1 j = fg) (hk9 : k9 < 6) (hm : m ≤ 21) : g_Run G mX12_runs d 0 0 [.ref (g_ad G 38), .int (nI j), .int 2, .int 0, .int x] (g_hp G C (g_hm G (f_mn (f_mI M 17 (R)) 12 (m)) ++ ob)) (some (.int (f_grows 2 x (nI j)))) (g_hp G C (g_hm G (f_mn (f_mI M 17 (f_lay R m (l_grows 2))) 12 (m + (l_grows 2).length)) ++ ob)) := by
  have hcl : (nI m).toNatClampNeg = m := g_cl (by omega)
  refine g_Run.of (lv := [(0, .ref (g_ad G 38)), (1, .int (nI j)), (2, .int 2), (3, .int 0), (4, .int x)]) (by decide) (Nat.le_of_ble_eq_true rfl) rfl ?_
  refine a_iload_n 2 1 rfl dX12_runs_0 rfl rfl ?_
  refine a_istore (lv' := [(5, .int 2), (0, .ref (g_ad G 38)), (1, .int (nI j)), (2, .int 2), (3, .int 0), (4, .int x)]) 3 rfl dX12_runs_1 (by decide) rfl ?_
  refine a_iload 0 5 rfl dX12_runs_3 rfl ?_
  refine a_iload_n 4 6 rfl dX12_runs_5 rfl rfl ?_
  refine a_callS (as := [.int 2, .int 0]) (rest := []) (st2 := [.int 30]) (u1 := 0) (v1 := 0) (u2 := 0) (v2 := 0) (r_body2_0) oX12_body q_1630 q_1631 rfl (by omega) (by decide) rfl (Nat.le_of_ble_eq_true rfl) 9 rfl dX12_runs_6 rfl ?_
  refine a_if_ne 22 12 rfl dX12_runs_9 (by decide) (fun _ => ?_) (fun hc => absurd hc ((by decide)))
  refine a_iload 0 24 rfl dX12_runs_22 rfl ?_
  refine a_iload_n 4 25 rfl dX12_runs_24 rfl rfl ?_
  refine a_callS (as := [.int 2, .int 0]) (rest := []) (st2 := [.int 30]) (u1 := 0) (v1 := 0) (u2 := 0) (v2 := 0) (r_body2_0) oX12_body q_1630 q_1631 rfl (by omega) (by decide) rfl (Nat.le_of_ble_eq_true rfl) 28 rfl dX12_runs_25 rfl ?_
  refine a_istore (lv' := [(6, .int 30), (5, .int 2), (0, .ref (g_ad G 38)), (1, .int (nI j)), (2, .int 2), (3, .int 0), (4, .int x)]) 30 rfl dX12_runs_28 (by decide) rfl ?_
  refine a_aload_n 2 31 rfl dX12_runs_30 rfl rfl ?_
  refine a_get 42 cl_11 f_RX12_352_11 (by decide) (rfl) rfl 34 rfl dX12_runs_31 ?_
  refine a_bipush (x := 24) 36 rfl dX12_runs_34 (by decide) ?_
  refine a_icmp_ge 60 39 rfl dX12_runs_36 (by decide) (fun hc => absurd hc (nI_ge (a := m) (b := 24) (by omega) (by omega))) (fun _ => ?_)
  refine a_aload_n 2 40 rfl dX12_runs_39 rfl rfl ?_
  refine a_get 41 cl_11 f_RX12_92_11 (by decide) (rfl) rfl 43 rfl dX12_runs_40 ?_
  refine a_aload_n 2 44 rfl dX12_runs_43 rfl rfl ?_
  refine a_get 42 cl_11 f_RX12_352_11 (by decide) (rfl) rfl 47 rfl dX12_runs_44 ?_
  refine a_iload 0 49 rfl dX12_runs_47 rfl ?_
  refine a_iast (rfl) (vp_in_nI (n := m) (by omega) (by omega)) 50 rfl dX12_runs_49 ?_
  refine a_eq (h2 := g_hp G C (g_hm G (f_mI (f_mn M 12 m) 17 (upd R m (nI 30))) ++ ob)) rfl rfl rfl (by show (((g_hp G C (g_hm G (f_mn (f_mI M 17 R) 12 m) ++ ob)).set 62 (c_I G 24 (upd R (nI m).toNatClampNeg 30))) : List va_E) = _; rw [hcl]; rfl) ?_
  refine a_aload_n 2 51 rfl dX12_runs_50 rfl rfl ?_
  refine a_dup 52 rfl dX12_runs_51 rfl ?_
  refine a_get 42 cl_11 f_RX12_352_11 (by decide) (rfl) rfl 55 rfl dX12_runs_52 ?_
  refine a_iconst (x := 1) 56 rfl dX12_runs_55 (by decide) ?_
  refine a_iadd 57 rfl dX12_runs_56 ?_
  refine a_eq (st2 := [.int (nI (m + 1)), .ref (g_ad G 38)]) rfl rfl (congrArg (fun z9 => Value.int z9 :: [.ref (g_ad G 38)]) (nI_add m 1)) rfl ?_
  refine a_put (fs' := [.int (nI (M.1 0)), .int (nI (M.1 1)), .int (nI (M.1 2)), .int (nI (M.1 3)), .ref (g_ad G 39), .ref (g_ad G 40), .ref (g_ad G 41), .ref (g_ad G 42), .ref (g_ad G 43), .ref (g_ad G 44), .int (M.2.1 0), .ref (g_ad G 45), .int (nI (M.1 4)), .int (nI (M.1 5)), .int (M.2.1 1), .int (M.2.1 2), .long (M.2.2.1 0), .ref (g_ad G 46), .ref (g_ad G 47), .ref (g_ad G 48), .int (nI (M.1 6)), .long (M.2.2.1 1), .int (nI (M.1 7)), .int (nI (M.1 8)), .ref (g_ad G 49), .ref (g_ad G 50), .int (nI (M.1 9)), .int (nI (M.1 10)), .int (nI (M.1 11)), .long (M.2.2.1 2), .ref (g_ad G 51), .ref (g_ad G 52), .ref (g_ad G 53), .ref (g_ad G 54), .ref (g_ad G 55), .ref (g_ad G 56), .ref (g_ad G 57), .ref (g_ad G 58), .ref (g_ad G 59), .ref (g_ad G 60), .ref (g_ad G 61), .ref (g_ad G 62), .int (nI (m + 1))]) 42 cl_11 f_RX12_352_11 (by decide) (rfl) rfl rfl rfl (Nat.le_of_ble_eq_true rfl) rfl 60 rfl dX12_runs_57 ?_
  refine a_eq (h2 := g_hp G C (g_hm G (f_mn (f_mI M 17 (upd R m (nI 30))) 12 (m + 1)) ++ ob)) rfl rfl rfl (rfl) ?_
  refine a_iload 1 62 rfl dX12_runs_60 rfl ?_
  refine a_callS (as := [.int 2]) (rest := []) (st2 := [.int 0]) (u1 := 0) (v1 := 0) (u2 := 0) (v2 := 0) (r_above2) oX12_above q_1633 q_1634 rfl (by omega) (by decide) rfl (Nat.le_of_ble_eq_true rfl) 65 rfl dX12_runs_62 rfl ?_
  refine a_istore (lv' := [(7, .int 0), (6, .int 30), (5, .int 2), (0, .ref (g_ad G 38)), (1, .int (nI j)), (2, .int 2), (3, .int 0), (4, .int x)]) 67 rfl dX12_runs_65 (by decide) rfl ?_
  refine a_iconst (x := 0) 68 rfl dX12_runs_67 (by decide) ?_
  refine a_istore (lv' := [(8, .int 0), (7, .int 0), (6, .int 30), (5, .int 2), (0, .ref (g_ad G 38)), (1, .int (nI j)), (2, .int 2), (3, .int 0), (4, .int x)]) 70 rfl dX12_runs_68 (by decide) rfl ?_
  refine a_iload 2 72 rfl dX12_runs_70 rfl ?_
  refine a_lookup (off := 133) 205 dX12_runs_72 (by decide) (by decide) (by decide) ?_
  refine a_aload_n 4 206 rfl dX12_runs_205 rfl rfl ?_
  refine a_iload_n 5 207 rfl dX12_runs_206 rfl rfl ?_
  refine a_iload 1 209 rfl dX12_runs_207 rfl ?_
  refine a_iconst (x := 0) 210 rfl dX12_runs_209 (by decide) ?_
  refine a_iload 8 212 rfl dX12_runs_210 rfl ?_
  refine a_callV (as := [.int (nI j), .int 0, .int 0, .int x]) (rest := []) (st2 := [.int (f_grows 0 x (nI j))]) (u1 := 0) (v1 := 0) (u2 := 0) (v2 := 0) ((r_rn0_0 (d := 2) (R := upd R m (nI 30)) (m := m + 1) (x := x) (by omega) hj hk hf hk9 (by omega))) (⟨_, _, _, _, rfl, rfl⟩) oX12_runs q_1626 q_1628 q_117 rfl (by omega) (by decide) rfl (Nat.le_of_ble_eq_true rfl) 215 rfl dX12_runs_212 rfl ?_
  refine a_ineg 216 rfl dX12_runs_215 ?_
  exact a_ireturn .int rfl rfl (rfl) ((congrArg (fun z9 => g_hp G C (g_hm G z9 ++ ob)) f_tr1)) dX12_runs_216
theorem r_rn0_5 {d : Nat} (hd : 4 ≤ d) (hj : j < 8) (hk : M.2.2.2.1 0 j = nI k9) (hf : M.2.2.2.1 1 j = fg) (hk9 : k9 < 6) (hm : m ≤ 20) : g_Run G mX12_runs d 0 0 [.ref (g_ad G 38), .int (nI j), .int 5, .int 0, .int x] (g_hp G C (g_hm G (f_mn (f_mI M 17 (R)) 12 (m)) ++ ob)) (some (.int (f_grows 5 x (nI j)))) (g_hp G C (g_hm G (f_mn (f_mI M 17 (f_lay R m (l_grows 5))) 12 (m + (l_grows 5).length)) ++ ob)) := by
  have hcl : (nI m).toNatClampNeg = m := g_cl (by omega)
  refine g_Run.of (lv := [(0, .ref (g_ad G 38)), (1, .int (nI j)), (2, .int 5), (3, .int 0), (4, .int x)]) (by decide) (Nat.le_of_ble_eq_true rfl) rfl ?_
  refine a_iload_n 2 1 rfl dX12_runs_0 rfl rfl ?_
  refine a_istore (lv' := [(5, .int 5), (0, .ref (g_ad G 38)), (1, .int (nI j)), (2, .int 5), (3, .int 0), (4, .int x)]) 3 rfl dX12_runs_1 (by decide) rfl ?_
  refine a_iload 0 5 rfl dX12_runs_3 rfl ?_
  refine a_iload_n 4 6 rfl dX12_runs_5 rfl rfl ?_
  refine a_callS (as := [.int 5, .int 0]) (rest := []) (st2 := [.int 41]) (u1 := 0) (v1 := 0) (u2 := 0) (v2 := 0) (r_body5_0) oX12_body q_1630 q_1631 rfl (by omega) (by decide) rfl (Nat.le_of_ble_eq_true rfl) 9 rfl dX12_runs_6 rfl ?_
  refine a_if_ne 22 12 rfl dX12_runs_9 (by decide) (fun _ => ?_) (fun hc => absurd hc ((by decide)))
  refine a_iload 0 24 rfl dX12_runs_22 rfl ?_
  refine a_iload_n 4 25 rfl dX12_runs_24 rfl rfl ?_
  refine a_callS (as := [.int 5, .int 0]) (rest := []) (st2 := [.int 41]) (u1 := 0) (v1 := 0) (u2 := 0) (v2 := 0) (r_body5_0) oX12_body q_1630 q_1631 rfl (by omega) (by decide) rfl (Nat.le_of_ble_eq_true rfl) 28 rfl dX12_runs_25 rfl ?_
  refine a_istore (lv' := [(6, .int 41), (5, .int 5), (0, .ref (g_ad G 38)), (1, .int (nI j)), (2, .int 5), (3, .int 0), (4, .int x)]) 30 rfl dX12_runs_28 (by decide) rfl ?_
  refine a_aload_n 2 31 rfl dX12_runs_30 rfl rfl ?_
  refine a_get 42 cl_11 f_RX12_352_11 (by decide) (rfl) rfl 34 rfl dX12_runs_31 ?_
  refine a_bipush (x := 24) 36 rfl dX12_runs_34 (by decide) ?_
  refine a_icmp_ge 60 39 rfl dX12_runs_36 (by decide) (fun hc => absurd hc (nI_ge (a := m) (b := 24) (by omega) (by omega))) (fun _ => ?_)
  refine a_aload_n 2 40 rfl dX12_runs_39 rfl rfl ?_
  refine a_get 41 cl_11 f_RX12_92_11 (by decide) (rfl) rfl 43 rfl dX12_runs_40 ?_
  refine a_aload_n 2 44 rfl dX12_runs_43 rfl rfl ?_
  refine a_get 42 cl_11 f_RX12_352_11 (by decide) (rfl) rfl 47 rfl dX12_runs_44 ?_
  refine a_iload 0 49 rfl dX12_runs_47 rfl ?_
  refine a_iast (rfl) (vp_in_nI (n := m) (by omega) (by omega)) 50 rfl dX12_runs_49 ?_
  refine a_eq (h2 := g_hp G C (g_hm G (f_mI (f_mn M 12 m) 17 (upd R m (nI 41))) ++ ob)) rfl rfl rfl (by show (((g_hp G C (g_hm G (f_mn (f_mI M 17 R) 12 m) ++ ob)).set 62 (c_I G 24 (upd R (nI m).toNatClampNeg 41))) : List va_E) = _; rw [hcl]; rfl) ?_
  refine a_aload_n 2 51 rfl dX12_runs_50 rfl rfl ?_
  refine a_dup 52 rfl dX12_runs_51 rfl ?_
  refine a_get 42 cl_11 f_RX12_352_11 (by decide) (rfl) rfl 55 rfl dX12_runs_52 ?_
  refine a_iconst (x := 1) 56 rfl dX12_runs_55 (by decide) ?_
  refine a_iadd 57 rfl dX12_runs_56 ?_
  refine a_eq (st2 := [.int (nI (m + 1)), .ref (g_ad G 38)]) rfl rfl (congrArg (fun z9 => Value.int z9 :: [.ref (g_ad G 38)]) (nI_add m 1)) rfl ?_
  refine a_put (fs' := [.int (nI (M.1 0)), .int (nI (M.1 1)), .int (nI (M.1 2)), .int (nI (M.1 3)), .ref (g_ad G 39), .ref (g_ad G 40), .ref (g_ad G 41), .ref (g_ad G 42), .ref (g_ad G 43), .ref (g_ad G 44), .int (M.2.1 0), .ref (g_ad G 45), .int (nI (M.1 4)), .int (nI (M.1 5)), .int (M.2.1 1), .int (M.2.1 2), .long (M.2.2.1 0), .ref (g_ad G 46), .ref (g_ad G 47), .ref (g_ad G 48), .int (nI (M.1 6)), .long (M.2.2.1 1), .int (nI (M.1 7)), .int (nI (M.1 8)), .ref (g_ad G 49), .ref (g_ad G 50), .int (nI (M.1 9)), .int (nI (M.1 10)), .int (nI (M.1 11)), .long (M.2.2.1 2), .ref (g_ad G 51), .ref (g_ad G 52), .ref (g_ad G 53), .ref (g_ad G 54), .ref (g_ad G 55), .ref (g_ad G 56), .ref (g_ad G 57), .ref (g_ad G 58), .ref (g_ad G 59), .ref (g_ad G 60), .ref (g_ad G 61), .ref (g_ad G 62), .int (nI (m + 1))]) 42 cl_11 f_RX12_352_11 (by decide) (rfl) rfl rfl rfl (Nat.le_of_ble_eq_true rfl) rfl 60 rfl dX12_runs_57 ?_
  refine a_eq (h2 := g_hp G C (g_hm G (f_mn (f_mI M 17 (upd R m (nI 41))) 12 (m + 1)) ++ ob)) rfl rfl rfl (rfl) ?_
  refine a_iload 1 62 rfl dX12_runs_60 rfl ?_
  refine a_callS (as := [.int 5]) (rest := []) (st2 := [.int 2]) (u1 := 0) (v1 := 0) (u2 := 0) (v2 := 0) (r_above5) oX12_above q_1633 q_1634 rfl (by omega) (by decide) rfl (Nat.le_of_ble_eq_true rfl) 65 rfl dX12_runs_62 rfl ?_
  refine a_istore (lv' := [(7, .int 2), (6, .int 41), (5, .int 5), (0, .ref (g_ad G 38)), (1, .int (nI j)), (2, .int 5), (3, .int 0), (4, .int x)]) 67 rfl dX12_runs_65 (by decide) rfl ?_
  refine a_iconst (x := 0) 68 rfl dX12_runs_67 (by decide) ?_
  refine a_istore (lv' := [(8, .int 0), (7, .int 2), (6, .int 41), (5, .int 5), (0, .ref (g_ad G 38)), (1, .int (nI j)), (2, .int 5), (3, .int 0), (4, .int x)]) 70 rfl dX12_runs_68 (by decide) rfl ?_
  refine a_iload 2 72 rfl dX12_runs_70 rfl ?_
  refine a_lookup (off := 158) 230 dX12_runs_72 (by decide) (by decide) (by decide) ?_
  refine a_aload_n 4 231 rfl dX12_runs_230 rfl rfl ?_
  refine a_iload_n 5 232 rfl dX12_runs_231 rfl rfl ?_
  refine a_iload 1 234 rfl dX12_runs_232 rfl ?_
  refine a_iconst (x := 0) 235 rfl dX12_runs_234 (by decide) ?_
  refine a_iload 8 237 rfl dX12_runs_235 rfl ?_
  refine a_callV (as := [.int (nI j), .int 2, .int 0, .int x]) (rest := []) (st2 := [.int (f_grows 2 x (nI j))]) (u1 := 0) (v1 := 0) (u2 := 0) (v2 := 0) ((r_rn0_2 (d := 3) (R := upd R m (nI 41)) (m := m + 1) (x := x) (by omega) hj hk hf hk9 (by omega))) (⟨_, _, _, _, rfl, rfl⟩) oX12_runs q_1626 q_1628 q_117 rfl (by omega) (by decide) rfl (Nat.le_of_ble_eq_true rfl) 240 rfl dX12_runs_237 rfl ?_
  refine a_iconst (x := 3) 241 rfl dX12_runs_240 (by decide) ?_
  refine a_imul 242 rfl dX12_runs_241 ?_
  exact a_ireturn .int rfl rfl (rfl) ((congrArg (fun z9 => g_hp G C (g_hm G z9 ++ ob)) f_tr1)) dX12_runs_242
theorem r_rn0_1 {d : Nat} (hd : 2 ≤ d) (hj : j < 8) (hk : M.2.2.2.1 0 j = nI k9) (hf : M.2.2.2.1 1 j = fg) (hk9 : k9 < 6) (hm : m ≤ 22) : g_Run G mX12_runs d 0 0 [.ref (g_ad G 38), .int (nI j), .int 1, .int 0, .int x] (g_hp G C (g_hm G (f_mn (f_mI M 17 (R)) 12 (m)) ++ ob)) (some (.int (f_grows 1 x (nI j)))) (g_hp G C (g_hm G (f_mn (f_mI M 17 (f_lay R m (l_grows 1))) 12 (m + (l_grows 1).length)) ++ ob)) := by
  have hcl : (nI m).toNatClampNeg = m := g_cl (by omega)
  refine g_Run.of (lv := [(0, .ref (g_ad G 38)), (1, .int (nI j)), (2, .int 1), (3, .int 0), (4, .int x)]) (by decide) (Nat.le_of_ble_eq_true rfl) rfl ?_
  refine a_iload_n 2 1 rfl dX12_runs_0 rfl rfl ?_
  refine a_istore (lv' := [(5, .int 1), (0, .ref (g_ad G 38)), (1, .int (nI j)), (2, .int 1), (3, .int 0), (4, .int x)]) 3 rfl dX12_runs_1 (by decide) rfl ?_
  refine a_iload 0 5 rfl dX12_runs_3 rfl ?_
  refine a_iload_n 4 6 rfl dX12_runs_5 rfl rfl ?_
  refine a_callS (as := [.int 1, .int 0]) (rest := []) (st2 := [.int 0]) (u1 := 0) (v1 := 0) (u2 := 0) (v2 := 0) (r_body1_0) oX12_body q_1630 q_1631 rfl (by omega) (by decide) rfl (Nat.le_of_ble_eq_true rfl) 9 rfl dX12_runs_6 rfl ?_
  refine a_if_ne 22 12 rfl dX12_runs_9 (by decide) (fun hc => absurd (rfl) hc) (fun _ => ?_)
  refine a_iload 0 14 rfl dX12_runs_12 rfl ?_
  refine a_callS (as := [.int 1]) (rest := []) (st2 := [.int 0]) (u1 := 0) (v1 := 0) (u2 := 0) (v2 := 0) (r_above1) oX12_above q_1633 q_1634 rfl (by omega) (by decide) rfl (Nat.le_of_ble_eq_true rfl) 17 rfl dX12_runs_14 rfl ?_
  refine a_istore (lv' := [(5, .int 0), (0, .ref (g_ad G 38)), (1, .int (nI j)), (2, .int 1), (3, .int 0), (4, .int x)]) 19 rfl dX12_runs_17 (by decide) rfl ?_
  refine a_goto 3 dX12_runs_19 (by decide) ?_
  refine a_iload 0 5 rfl dX12_runs_3 rfl ?_
  refine a_iload_n 4 6 rfl dX12_runs_5 rfl rfl ?_
  refine a_callS (as := [.int 0, .int 0]) (rest := []) (st2 := [.int 10]) (u1 := 0) (v1 := 0) (u2 := 0) (v2 := 0) (r_body0_0) oX12_body q_1630 q_1631 rfl (by omega) (by decide) rfl (Nat.le_of_ble_eq_true rfl) 9 rfl dX12_runs_6 rfl ?_
  refine a_if_ne 22 12 rfl dX12_runs_9 (by decide) (fun _ => ?_) (fun hc => absurd hc ((by decide)))
  refine a_iload 0 24 rfl dX12_runs_22 rfl ?_
  refine a_iload_n 4 25 rfl dX12_runs_24 rfl rfl ?_
  refine a_callS (as := [.int 0, .int 0]) (rest := []) (st2 := [.int 10]) (u1 := 0) (v1 := 0) (u2 := 0) (v2 := 0) (r_body0_0) oX12_body q_1630 q_1631 rfl (by omega) (by decide) rfl (Nat.le_of_ble_eq_true rfl) 28 rfl dX12_runs_25 rfl ?_
  refine a_istore (lv' := [(6, .int 10), (5, .int 0), (0, .ref (g_ad G 38)), (1, .int (nI j)), (2, .int 1), (3, .int 0), (4, .int x)]) 30 rfl dX12_runs_28 (by decide) rfl ?_
  refine a_aload_n 2 31 rfl dX12_runs_30 rfl rfl ?_
  refine a_get 42 cl_11 f_RX12_352_11 (by decide) (rfl) rfl 34 rfl dX12_runs_31 ?_
  refine a_bipush (x := 24) 36 rfl dX12_runs_34 (by decide) ?_
  refine a_icmp_ge 60 39 rfl dX12_runs_36 (by decide) (fun hc => absurd hc (nI_ge (a := m) (b := 24) (by omega) (by omega))) (fun _ => ?_)
  refine a_aload_n 2 40 rfl dX12_runs_39 rfl rfl ?_
  refine a_get 41 cl_11 f_RX12_92_11 (by decide) (rfl) rfl 43 rfl dX12_runs_40 ?_
  refine a_aload_n 2 44 rfl dX12_runs_43 rfl rfl ?_
  refine a_get 42 cl_11 f_RX12_352_11 (by decide) (rfl) rfl 47 rfl dX12_runs_44 ?_
  refine a_iload 0 49 rfl dX12_runs_47 rfl ?_
  refine a_iast (rfl) (vp_in_nI (n := m) (by omega) (by omega)) 50 rfl dX12_runs_49 ?_
  refine a_eq (h2 := g_hp G C (g_hm G (f_mI (f_mn M 12 m) 17 (upd R m (nI 10))) ++ ob)) rfl rfl rfl (by show (((g_hp G C (g_hm G (f_mn (f_mI M 17 R) 12 m) ++ ob)).set 62 (c_I G 24 (upd R (nI m).toNatClampNeg 10))) : List va_E) = _; rw [hcl]; rfl) ?_
  refine a_aload_n 2 51 rfl dX12_runs_50 rfl rfl ?_
  refine a_dup 52 rfl dX12_runs_51 rfl ?_
  refine a_get 42 cl_11 f_RX12_352_11 (by decide) (rfl) rfl 55 rfl dX12_runs_52 ?_
  refine a_iconst (x := 1) 56 rfl dX12_runs_55 (by decide) ?_
  refine a_iadd 57 rfl dX12_runs_56 ?_
  refine a_eq (st2 := [.int (nI (m + 1)), .ref (g_ad G 38)]) rfl rfl (congrArg (fun z9 => Value.int z9 :: [.ref (g_ad G 38)]) (nI_add m 1)) rfl ?_
  refine a_put (fs' := [.int (nI (M.1 0)), .int (nI (M.1 1)), .int (nI (M.1 2)), .int (nI (M.1 3)), .ref (g_ad G 39), .ref (g_ad G 40), .ref (g_ad G 41), .ref (g_ad G 42), .ref (g_ad G 43), .ref (g_ad G 44), .int (M.2.1 0), .ref (g_ad G 45), .int (nI (M.1 4)), .int (nI (M.1 5)), .int (M.2.1 1), .int (M.2.1 2), .long (M.2.2.1 0), .ref (g_ad G 46), .ref (g_ad G 47), .ref (g_ad G 48), .int (nI (M.1 6)), .long (M.2.2.1 1), .int (nI (M.1 7)), .int (nI (M.1 8)), .ref (g_ad G 49), .ref (g_ad G 50), .int (nI (M.1 9)), .int (nI (M.1 10)), .int (nI (M.1 11)), .long (M.2.2.1 2), .ref (g_ad G 51), .ref (g_ad G 52), .ref (g_ad G 53), .ref (g_ad G 54), .ref (g_ad G 55), .ref (g_ad G 56), .ref (g_ad G 57), .ref (g_ad G 58), .ref (g_ad G 59), .ref (g_ad G 60), .ref (g_ad G 61), .ref (g_ad G 62), .int (nI (m + 1))]) 42 cl_11 f_RX12_352_11 (by decide) (rfl) rfl rfl rfl (Nat.le_of_ble_eq_true rfl) rfl 60 rfl dX12_runs_57 ?_
  refine a_eq (h2 := g_hp G C (g_hm G (f_mn (f_mI M 17 (upd R m (nI 10))) 12 (m + 1)) ++ ob)) rfl rfl rfl (rfl) ?_
  refine a_iload 1 62 rfl dX12_runs_60 rfl ?_
  refine a_callS (as := [.int 0]) (rest := []) (st2 := [.int ((-1))]) (u1 := 0) (v1 := 0) (u2 := 0) (v2 := 0) (r_above0) oX12_above q_1633 q_1634 rfl (by omega) (by decide) rfl (Nat.le_of_ble_eq_true rfl) 65 rfl dX12_runs_62 rfl ?_
  refine a_istore (lv' := [(7, .int ((-1))), (6, .int 10), (5, .int 0), (0, .ref (g_ad G 38)), (1, .int (nI j)), (2, .int 1), (3, .int 0), (4, .int x)]) 67 rfl dX12_runs_65 (by decide) rfl ?_
  refine a_iconst (x := 0) 68 rfl dX12_runs_67 (by decide) ?_
  refine a_istore (lv' := [(8, .int 0), (7, .int ((-1))), (6, .int 10), (5, .int 0), (0, .ref (g_ad G 38)), (1, .int (nI j)), (2, .int 1), (3, .int 0), (4, .int x)]) 70 rfl dX12_runs_68 (by decide) rfl ?_
  refine a_iload 2 72 rfl dX12_runs_70 rfl ?_
  refine a_lookup (off := 76) 148 dX12_runs_72 (by decide) (by decide) (by decide) ?_
  refine a_iload 8 150 rfl dX12_runs_148 rfl ?_
  refine a_iload_n 5 151 rfl dX12_runs_150 rfl rfl ?_
  refine a_iadd 152 rfl dX12_runs_151 ?_
  exact a_ireturn .int rfl rfl (rfl) (rfl) dX12_runs_152
theorem r_rn0_3 {d : Nat} (hd : 2 ≤ d) (hj : j < 8) (hk : M.2.2.2.1 0 j = nI k9) (hf : M.2.2.2.1 1 j = fg) (hk9 : k9 < 6) (hm : m ≤ 22) : g_Run G mX12_runs d 0 0 [.ref (g_ad G 38), .int (nI j), .int 3, .int 0, .int x] (g_hp G C (g_hm G (f_mn (f_mI M 17 (R)) 12 (m)) ++ ob)) (some (.int (f_grows 3 x (nI j)))) (g_hp G C (g_hm G (f_mn (f_mI M 17 (f_lay R m (l_grows 3))) 12 (m + (l_grows 3).length)) ++ ob)) := by
  have hcl : (nI m).toNatClampNeg = m := g_cl (by omega)
  refine g_Run.of (lv := [(0, .ref (g_ad G 38)), (1, .int (nI j)), (2, .int 3), (3, .int 0), (4, .int x)]) (by decide) (Nat.le_of_ble_eq_true rfl) rfl ?_
  refine a_iload_n 2 1 rfl dX12_runs_0 rfl rfl ?_
  refine a_istore (lv' := [(5, .int 3), (0, .ref (g_ad G 38)), (1, .int (nI j)), (2, .int 3), (3, .int 0), (4, .int x)]) 3 rfl dX12_runs_1 (by decide) rfl ?_
  refine a_iload 0 5 rfl dX12_runs_3 rfl ?_
  refine a_iload_n 4 6 rfl dX12_runs_5 rfl rfl ?_
  refine a_callS (as := [.int 3, .int 0]) (rest := []) (st2 := [.int 0]) (u1 := 0) (v1 := 0) (u2 := 0) (v2 := 0) (r_body3_0) oX12_body q_1630 q_1631 rfl (by omega) (by decide) rfl (Nat.le_of_ble_eq_true rfl) 9 rfl dX12_runs_6 rfl ?_
  refine a_if_ne 22 12 rfl dX12_runs_9 (by decide) (fun hc => absurd (rfl) hc) (fun _ => ?_)
  refine a_iload 0 14 rfl dX12_runs_12 rfl ?_
  refine a_callS (as := [.int 3]) (rest := []) (st2 := [.int 0]) (u1 := 0) (v1 := 0) (u2 := 0) (v2 := 0) (r_above3) oX12_above q_1633 q_1634 rfl (by omega) (by decide) rfl (Nat.le_of_ble_eq_true rfl) 17 rfl dX12_runs_14 rfl ?_
  refine a_istore (lv' := [(5, .int 0), (0, .ref (g_ad G 38)), (1, .int (nI j)), (2, .int 3), (3, .int 0), (4, .int x)]) 19 rfl dX12_runs_17 (by decide) rfl ?_
  refine a_goto 3 dX12_runs_19 (by decide) ?_
  refine a_iload 0 5 rfl dX12_runs_3 rfl ?_
  refine a_iload_n 4 6 rfl dX12_runs_5 rfl rfl ?_
  refine a_callS (as := [.int 0, .int 0]) (rest := []) (st2 := [.int 10]) (u1 := 0) (v1 := 0) (u2 := 0) (v2 := 0) (r_body0_0) oX12_body q_1630 q_1631 rfl (by omega) (by decide) rfl (Nat.le_of_ble_eq_true rfl) 9 rfl dX12_runs_6 rfl ?_
  refine a_if_ne 22 12 rfl dX12_runs_9 (by decide) (fun _ => ?_) (fun hc => absurd hc ((by decide)))
  refine a_iload 0 24 rfl dX12_runs_22 rfl ?_
  refine a_iload_n 4 25 rfl dX12_runs_24 rfl rfl ?_
  refine a_callS (as := [.int 0, .int 0]) (rest := []) (st2 := [.int 10]) (u1 := 0) (v1 := 0) (u2 := 0) (v2 := 0) (r_body0_0) oX12_body q_1630 q_1631 rfl (by omega) (by decide) rfl (Nat.le_of_ble_eq_true rfl) 28 rfl dX12_runs_25 rfl ?_
  refine a_istore (lv' := [(6, .int 10), (5, .int 0), (0, .ref (g_ad G 38)), (1, .int (nI j)), (2, .int 3), (3, .int 0), (4, .int x)]) 30 rfl dX12_runs_28 (by decide) rfl ?_
  refine a_aload_n 2 31 rfl dX12_runs_30 rfl rfl ?_
  refine a_get 42 cl_11 f_RX12_352_11 (by decide) (rfl) rfl 34 rfl dX12_runs_31 ?_
  refine a_bipush (x := 24) 36 rfl dX12_runs_34 (by decide) ?_
  refine a_icmp_ge 60 39 rfl dX12_runs_36 (by decide) (fun hc => absurd hc (nI_ge (a := m) (b := 24) (by omega) (by omega))) (fun _ => ?_)
  refine a_aload_n 2 40 rfl dX12_runs_39 rfl rfl ?_
  refine a_get 41 cl_11 f_RX12_92_11 (by decide) (rfl) rfl 43 rfl dX12_runs_40 ?_
  refine a_aload_n 2 44 rfl dX12_runs_43 rfl rfl ?_
  refine a_get 42 cl_11 f_RX12_352_11 (by decide) (rfl) rfl 47 rfl dX12_runs_44 ?_
  refine a_iload 0 49 rfl dX12_runs_47 rfl ?_
  refine a_iast (rfl) (vp_in_nI (n := m) (by omega) (by omega)) 50 rfl dX12_runs_49 ?_
  refine a_eq (h2 := g_hp G C (g_hm G (f_mI (f_mn M 12 m) 17 (upd R m (nI 10))) ++ ob)) rfl rfl rfl (by show (((g_hp G C (g_hm G (f_mn (f_mI M 17 R) 12 m) ++ ob)).set 62 (c_I G 24 (upd R (nI m).toNatClampNeg 10))) : List va_E) = _; rw [hcl]; rfl) ?_
  refine a_aload_n 2 51 rfl dX12_runs_50 rfl rfl ?_
  refine a_dup 52 rfl dX12_runs_51 rfl ?_
  refine a_get 42 cl_11 f_RX12_352_11 (by decide) (rfl) rfl 55 rfl dX12_runs_52 ?_
  refine a_iconst (x := 1) 56 rfl dX12_runs_55 (by decide) ?_
  refine a_iadd 57 rfl dX12_runs_56 ?_
  refine a_eq (st2 := [.int (nI (m + 1)), .ref (g_ad G 38)]) rfl rfl (congrArg (fun z9 => Value.int z9 :: [.ref (g_ad G 38)]) (nI_add m 1)) rfl ?_
  refine a_put (fs' := [.int (nI (M.1 0)), .int (nI (M.1 1)), .int (nI (M.1 2)), .int (nI (M.1 3)), .ref (g_ad G 39), .ref (g_ad G 40), .ref (g_ad G 41), .ref (g_ad G 42), .ref (g_ad G 43), .ref (g_ad G 44), .int (M.2.1 0), .ref (g_ad G 45), .int (nI (M.1 4)), .int (nI (M.1 5)), .int (M.2.1 1), .int (M.2.1 2), .long (M.2.2.1 0), .ref (g_ad G 46), .ref (g_ad G 47), .ref (g_ad G 48), .int (nI (M.1 6)), .long (M.2.2.1 1), .int (nI (M.1 7)), .int (nI (M.1 8)), .ref (g_ad G 49), .ref (g_ad G 50), .int (nI (M.1 9)), .int (nI (M.1 10)), .int (nI (M.1 11)), .long (M.2.2.1 2), .ref (g_ad G 51), .ref (g_ad G 52), .ref (g_ad G 53), .ref (g_ad G 54), .ref (g_ad G 55), .ref (g_ad G 56), .ref (g_ad G 57), .ref (g_ad G 58), .ref (g_ad G 59), .ref (g_ad G 60), .ref (g_ad G 61), .ref (g_ad G 62), .int (nI (m + 1))]) 42 cl_11 f_RX12_352_11 (by decide) (rfl) rfl rfl rfl (Nat.le_of_ble_eq_true rfl) rfl 60 rfl dX12_runs_57 ?_
  refine a_eq (h2 := g_hp G C (g_hm G (f_mn (f_mI M 17 (upd R m (nI 10))) 12 (m + 1)) ++ ob)) rfl rfl rfl (rfl) ?_
  refine a_iload 1 62 rfl dX12_runs_60 rfl ?_
  refine a_callS (as := [.int 0]) (rest := []) (st2 := [.int ((-1))]) (u1 := 0) (v1 := 0) (u2 := 0) (v2 := 0) (r_above0) oX12_above q_1633 q_1634 rfl (by omega) (by decide) rfl (Nat.le_of_ble_eq_true rfl) 65 rfl dX12_runs_62 rfl ?_
  refine a_istore (lv' := [(7, .int ((-1))), (6, .int 10), (5, .int 0), (0, .ref (g_ad G 38)), (1, .int (nI j)), (2, .int 3), (3, .int 0), (4, .int x)]) 67 rfl dX12_runs_65 (by decide) rfl ?_
  refine a_iconst (x := 0) 68 rfl dX12_runs_67 (by decide) ?_
  refine a_istore (lv' := [(8, .int 0), (7, .int ((-1))), (6, .int 10), (5, .int 0), (0, .ref (g_ad G 38)), (1, .int (nI j)), (2, .int 3), (3, .int 0), (4, .int x)]) 70 rfl dX12_runs_68 (by decide) rfl ?_
  refine a_iload 2 72 rfl dX12_runs_70 rfl ?_
  refine a_lookup (off := 76) 148 dX12_runs_72 (by decide) (by decide) (by decide) ?_
  refine a_iload 8 150 rfl dX12_runs_148 rfl ?_
  refine a_iload_n 5 151 rfl dX12_runs_150 rfl rfl ?_
  refine a_iadd 152 rfl dX12_runs_151 ?_
  exact a_ireturn .int rfl rfl (rfl) (rfl) dX12_runs_152
theorem r_rn0_4 {d : Nat} (hd : 2 ≤ d) (hj : j < 8) (hk : M.2.2.2.1 0 j = nI k9) (hf : M.2.2.2.1 1 j = fg) (hk9 : k9 < 6) (hm : m ≤ 22) : g_Run G mX12_runs d 0 0 [.ref (g_ad G 38), .int (nI j), .int 4, .int 0, .int x] (g_hp G C (g_hm G (f_mn (f_mI M 17 (R)) 12 (m)) ++ ob)) (some (.int (f_grows 4 x (nI j)))) (g_hp G C (g_hm G (f_mn (f_mI M 17 (f_lay R m (l_grows 4))) 12 (m + (l_grows 4).length)) ++ ob)) := by
  have hcl : (nI m).toNatClampNeg = m := g_cl (by omega)
  refine g_Run.of (lv := [(0, .ref (g_ad G 38)), (1, .int (nI j)), (2, .int 4), (3, .int 0), (4, .int x)]) (by decide) (Nat.le_of_ble_eq_true rfl) rfl ?_
  refine a_iload_n 2 1 rfl dX12_runs_0 rfl rfl ?_
  refine a_istore (lv' := [(5, .int 4), (0, .ref (g_ad G 38)), (1, .int (nI j)), (2, .int 4), (3, .int 0), (4, .int x)]) 3 rfl dX12_runs_1 (by decide) rfl ?_
  refine a_iload 0 5 rfl dX12_runs_3 rfl ?_
  refine a_iload_n 4 6 rfl dX12_runs_5 rfl rfl ?_
  refine a_callS (as := [.int 4, .int 0]) (rest := []) (st2 := [.int 0]) (u1 := 0) (v1 := 0) (u2 := 0) (v2 := 0) (r_body4_0) oX12_body q_1630 q_1631 rfl (by omega) (by decide) rfl (Nat.le_of_ble_eq_true rfl) 9 rfl dX12_runs_6 rfl ?_
  refine a_if_ne 22 12 rfl dX12_runs_9 (by decide) (fun hc => absurd (rfl) hc) (fun _ => ?_)
  refine a_iload 0 14 rfl dX12_runs_12 rfl ?_
  refine a_callS (as := [.int 4]) (rest := []) (st2 := [.int 3]) (u1 := 0) (v1 := 0) (u2 := 0) (v2 := 0) (r_above4) oX12_above q_1633 q_1634 rfl (by omega) (by decide) rfl (Nat.le_of_ble_eq_true rfl) 17 rfl dX12_runs_14 rfl ?_
  refine a_istore (lv' := [(5, .int 3), (0, .ref (g_ad G 38)), (1, .int (nI j)), (2, .int 4), (3, .int 0), (4, .int x)]) 19 rfl dX12_runs_17 (by decide) rfl ?_
  refine a_goto 3 dX12_runs_19 (by decide) ?_
  refine a_iload 0 5 rfl dX12_runs_3 rfl ?_
  refine a_iload_n 4 6 rfl dX12_runs_5 rfl rfl ?_
  refine a_callS (as := [.int 3, .int 0]) (rest := []) (st2 := [.int 0]) (u1 := 0) (v1 := 0) (u2 := 0) (v2 := 0) (r_body3_0) oX12_body q_1630 q_1631 rfl (by omega) (by decide) rfl (Nat.le_of_ble_eq_true rfl) 9 rfl dX12_runs_6 rfl ?_
  refine a_if_ne 22 12 rfl dX12_runs_9 (by decide) (fun hc => absurd (rfl) hc) (fun _ => ?_)
  refine a_iload 0 14 rfl dX12_runs_12 rfl ?_
  refine a_callS (as := [.int 3]) (rest := []) (st2 := [.int 0]) (u1 := 0) (v1 := 0) (u2 := 0) (v2 := 0) (r_above3) oX12_above q_1633 q_1634 rfl (by omega) (by decide) rfl (Nat.le_of_ble_eq_true rfl) 17 rfl dX12_runs_14 rfl ?_
  refine a_istore (lv' := [(5, .int 0), (0, .ref (g_ad G 38)), (1, .int (nI j)), (2, .int 4), (3, .int 0), (4, .int x)]) 19 rfl dX12_runs_17 (by decide) rfl ?_
  refine a_goto 3 dX12_runs_19 (by decide) ?_
  refine a_iload 0 5 rfl dX12_runs_3 rfl ?_
  refine a_iload_n 4 6 rfl dX12_runs_5 rfl rfl ?_
  refine a_callS (as := [.int 0, .int 0]) (rest := []) (st2 := [.int 10]) (u1 := 0) (v1 := 0) (u2 := 0) (v2 := 0) (r_body0_0) oX12_body q_1630 q_1631 rfl (by omega) (by decide) rfl (Nat.le_of_ble_eq_true rfl) 9 rfl dX12_runs_6 rfl ?_
  refine a_if_ne 22 12 rfl dX12_runs_9 (by decide) (fun _ => ?_) (fun hc => absurd hc ((by decide)))
  refine a_iload 0 24 rfl dX12_runs_22 rfl ?_
  refine a_iload_n 4 25 rfl dX12_runs_24 rfl rfl ?_
  refine a_callS (as := [.int 0, .int 0]) (rest := []) (st2 := [.int 10]) (u1 := 0) (v1 := 0) (u2 := 0) (v2 := 0) (r_body0_0) oX12_body q_1630 q_1631 rfl (by omega) (by decide) rfl (Nat.le_of_ble_eq_true rfl) 28 rfl dX12_runs_25 rfl ?_
  refine a_istore (lv' := [(6, .int 10), (5, .int 0), (0, .ref (g_ad G 38)), (1, .int (nI j)), (2, .int 4), (3, .int 0), (4, .int x)]) 30 rfl dX12_runs_28 (by decide) rfl ?_
  refine a_aload_n 2 31 rfl dX12_runs_30 rfl rfl ?_
  refine a_get 42 cl_11 f_RX12_352_11 (by decide) (rfl) rfl 34 rfl dX12_runs_31 ?_
  refine a_bipush (x := 24) 36 rfl dX12_runs_34 (by decide) ?_
  refine a_icmp_ge 60 39 rfl dX12_runs_36 (by decide) (fun hc => absurd hc (nI_ge (a := m) (b := 24) (by omega) (by omega))) (fun _ => ?_)
  refine a_aload_n 2 40 rfl dX12_runs_39 rfl rfl ?_
  refine a_get 41 cl_11 f_RX12_92_11 (by decide) (rfl) rfl 43 rfl dX12_runs_40 ?_
  refine a_aload_n 2 44 rfl dX12_runs_43 rfl rfl ?_
  refine a_get 42 cl_11 f_RX12_352_11 (by decide) (rfl) rfl 47 rfl dX12_runs_44 ?_
  refine a_iload 0 49 rfl dX12_runs_47 rfl ?_
  refine a_iast (rfl) (vp_in_nI (n := m) (by omega) (by omega)) 50 rfl dX12_runs_49 ?_
  refine a_eq (h2 := g_hp G C (g_hm G (f_mI (f_mn M 12 m) 17 (upd R m (nI 10))) ++ ob)) rfl rfl rfl (by show (((g_hp G C (g_hm G (f_mn (f_mI M 17 R) 12 m) ++ ob)).set 62 (c_I G 24 (upd R (nI m).toNatClampNeg 10))) : List va_E) = _; rw [hcl]; rfl) ?_
  refine a_aload_n 2 51 rfl dX12_runs_50 rfl rfl ?_
  refine a_dup 52 rfl dX12_runs_51 rfl ?_
  refine a_get 42 cl_11 f_RX12_352_11 (by decide) (rfl) rfl 55 rfl dX12_runs_52 ?_
  refine a_iconst (x := 1) 56 rfl dX12_runs_55 (by decide) ?_
  refine a_iadd 57 rfl dX12_runs_56 ?_
  refine a_eq (st2 := [.int (nI (m + 1)), .ref (g_ad G 38)]) rfl rfl (congrArg (fun z9 => Value.int z9 :: [.ref (g_ad G 38)]) (nI_add m 1)) rfl ?_
  refine a_put (fs' := [.int (nI (M.1 0)), .int (nI (M.1 1)), .int (nI (M.1 2)), .int (nI (M.1 3)), .ref (g_ad G 39), .ref (g_ad G 40), .ref (g_ad G 41), .ref (g_ad G 42), .ref (g_ad G 43), .ref (g_ad G 44), .int (M.2.1 0), .ref (g_ad G 45), .int (nI (M.1 4)), .int (nI (M.1 5)), .int (M.2.1 1), .int (M.2.1 2), .long (M.2.2.1 0), .ref (g_ad G 46), .ref (g_ad G 47), .ref (g_ad G 48), .int (nI (M.1 6)), .long (M.2.2.1 1), .int (nI (M.1 7)), .int (nI (M.1 8)), .ref (g_ad G 49), .ref (g_ad G 50), .int (nI (M.1 9)), .int (nI (M.1 10)), .int (nI (M.1 11)), .long (M.2.2.1 2), .ref (g_ad G 51), .ref (g_ad G 52), .ref (g_ad G 53), .ref (g_ad G 54), .ref (g_ad G 55), .ref (g_ad G 56), .ref (g_ad G 57), .ref (g_ad G 58), .ref (g_ad G 59), .ref (g_ad G 60), .ref (g_ad G 61), .ref (g_ad G 62), .int (nI (m + 1))]) 42 cl_11 f_RX12_352_11 (by decide) (rfl) rfl rfl rfl (Nat.le_of_ble_eq_true rfl) rfl 60 rfl dX12_runs_57 ?_
  refine a_eq (h2 := g_hp G C (g_hm G (f_mn (f_mI M 17 (upd R m (nI 10))) 12 (m + 1)) ++ ob)) rfl rfl rfl (rfl) ?_
  refine a_iload 1 62 rfl dX12_runs_60 rfl ?_
  refine a_callS (as := [.int 0]) (rest := []) (st2 := [.int ((-1))]) (u1 := 0) (v1 := 0) (u2 := 0) (v2 := 0) (r_above0) oX12_above q_1633 q_1634 rfl (by omega) (by decide) rfl (Nat.le_of_ble_eq_true rfl) 65 rfl dX12_runs_62 rfl ?_
  refine a_istore (lv' := [(7, .int ((-1))), (6, .int 10), (5, .int 0), (0, .ref (g_ad G 38)), (1, .int (nI j)), (2, .int 4), (3, .int 0), (4, .int x)]) 67 rfl dX12_runs_65 (by decide) rfl ?_
  refine a_iconst (x := 0) 68 rfl dX12_runs_67 (by decide) ?_
  refine a_istore (lv' := [(8, .int 0), (7, .int ((-1))), (6, .int 10), (5, .int 0), (0, .ref (g_ad G 38)), (1, .int (nI j)), (2, .int 4), (3, .int 0), (4, .int x)]) 70 rfl dX12_runs_68 (by decide) rfl ?_
  refine a_iload 2 72 rfl dX12_runs_70 rfl ?_
  refine a_lookup (off := 76) 148 dX12_runs_72 (by decide) (by decide) (by decide) ?_
  refine a_iload 8 150 rfl dX12_runs_148 rfl ?_
  refine a_iload_n 5 151 rfl dX12_runs_150 rfl rfl ?_
  refine a_iadd 152 rfl dX12_runs_151 ?_
  exact a_ireturn .int rfl rfl (rfl) (rfl) dX12_runs_152
theorem r_rn0 {d : Nat} {q9 : Int32} (hd : 4 ≤ d) (hj : j < 8) (hk : M.2.2.2.1 0 j = nI k9) (hf : M.2.2.2.1 1 j = fg) (hk9 : k9 < 6) (hm : m ≤ 20) (hq : q9 = nI k) (hk6 : k < 6) : g_Run G mX12_runs d 0 0 [.ref (g_ad G 38), .int (nI j), .int q9, .int 0, .int x] (g_hp G C (g_hm G (f_mn (f_mI M 17 (R)) 12 (m)) ++ ob)) (some (.int (f_grows k x (nI j)))) (g_hp G C (g_hm G (f_mn (f_mI M 17 (f_lay R m (l_grows k))) 12 (m + (l_grows k).length)) ++ ob)) := by
  subst hq
  match k, hk6 with
  | 0, _ => exact r_rn0_0 (by omega) hj hk hf hk9 (by omega)
  | 1, _ => exact r_rn0_1 (by omega) hj hk hf hk9 (by omega)
  | 2, _ => exact r_rn0_2 (by omega) hj hk hf hk9 (by omega)
  | 3, _ => exact r_rn0_3 (by omega) hj hk hf hk9 (by omega)
  | 4, _ => exact r_rn0_4 (by omega) hj hk hf hk9 (by omega)
  | 5, _ => exact r_rn0_5 (by omega) hj hk hf hk9 (by omega)
theorem r_rn1_0 {d : Nat} (hd : 5 ≤ d) (hj : j < 8) (hk : M.2.2.2.1 0 j = nI k9) (hf : M.2.2.2.1 1 j = fg) (hk9 : k9 < 6) (hm : m ≤ 19) : g_Run G mX12_runs d 0 0 [.ref (g_ad G 38), .int (nI j), .int 0, .int 1, .int x] (g_hp G C (g_hm G (f_mn (f_mI M 17 (R)) 12 (m)) ++ ob)) (some (.int (f_turns 0 k9 x (nI j)))) (g_hp G C (g_hm G (f_mn (f_mI M 17 (f_lay R m (l_turns 0 k9))) 12 (m + (l_turns 0 k9).length)) ++ ob)) := by
  have hcl : (nI m).toNatClampNeg = m := g_cl (by omega)
  refine g_Run.of (lv := [(0, .ref (g_ad G 38)), (1, .int (nI j)), (2, .int 0), (3, .int 1), (4, .int x)]) (by decide) (Nat.le_of_ble_eq_true rfl) rfl ?_
  refine a_iload_n 2 1 rfl dX12_runs_0 rfl rfl ?_
  refine a_istore (lv' := [(5, .int 0), (0, .ref (g_ad G 38)), (1, .int (nI j)), (2, .int 0), (3, .int 1), (4, .int x)]) 3 rfl dX12_runs_1 (by decide) rfl ?_
  refine a_iload 0 5 rfl dX12_runs_3 rfl ?_
  refine a_iload_n 4 6 rfl dX12_runs_5 rfl rfl ?_
  refine a_callS (as := [.int 0, .int 1]) (rest := []) (st2 := [.int 11]) (u1 := 0) (v1 := 0) (u2 := 0) (v2 := 0) (r_body0_1) oX12_body q_1630 q_1631 rfl (by omega) (by decide) rfl (Nat.le_of_ble_eq_true rfl) 9 rfl dX12_runs_6 rfl ?_
  refine a_if_ne 22 12 rfl dX12_runs_9 (by decide) (fun _ => ?_) (fun hc => absurd hc ((by decide)))
  refine a_iload 0 24 rfl dX12_runs_22 rfl ?_
  refine a_iload_n 4 25 rfl dX12_runs_24 rfl rfl ?_
  refine a_callS (as := [.int 0, .int 1]) (rest := []) (st2 := [.int 11]) (u1 := 0) (v1 := 0) (u2 := 0) (v2 := 0) (r_body0_1) oX12_body q_1630 q_1631 rfl (by omega) (by decide) rfl (Nat.le_of_ble_eq_true rfl) 28 rfl dX12_runs_25 rfl ?_
  refine a_istore (lv' := [(6, .int 11), (5, .int 0), (0, .ref (g_ad G 38)), (1, .int (nI j)), (2, .int 0), (3, .int 1), (4, .int x)]) 30 rfl dX12_runs_28 (by decide) rfl ?_
  refine a_aload_n 2 31 rfl dX12_runs_30 rfl rfl ?_
  refine a_get 42 cl_11 f_RX12_352_11 (by decide) (rfl) rfl 34 rfl dX12_runs_31 ?_
  refine a_bipush (x := 24) 36 rfl dX12_runs_34 (by decide) ?_
  refine a_icmp_ge 60 39 rfl dX12_runs_36 (by decide) (fun hc => absurd hc (nI_ge (a := m) (b := 24) (by omega) (by omega))) (fun _ => ?_)
  refine a_aload_n 2 40 rfl dX12_runs_39 rfl rfl ?_
  refine a_get 41 cl_11 f_RX12_92_11 (by decide) (rfl) rfl 43 rfl dX12_runs_40 ?_
  refine a_aload_n 2 44 rfl dX12_runs_43 rfl rfl ?_
  refine a_get 42 cl_11 f_RX12_352_11 (by decide) (rfl) rfl 47 rfl dX12_runs_44 ?_
  refine a_iload 0 49 rfl dX12_runs_47 rfl ?_
  refine a_iast (rfl) (vp_in_nI (n := m) (by omega) (by omega)) 50 rfl dX12_runs_49 ?_
  refine a_eq (h2 := g_hp G C (g_hm G (f_mI (f_mn M 12 m) 17 (upd R m (nI 11))) ++ ob)) rfl rfl rfl (by show (((g_hp G C (g_hm G (f_mn (f_mI M 17 R) 12 m) ++ ob)).set 62 (c_I G 24 (upd R (nI m).toNatClampNeg 11))) : List va_E) = _; rw [hcl]; rfl) ?_
  refine a_aload_n 2 51 rfl dX12_runs_50 rfl rfl ?_
  refine a_dup 52 rfl dX12_runs_51 rfl ?_
  refine a_get 42 cl_11 f_RX12_352_11 (by decide) (rfl) rfl 55 rfl dX12_runs_52 ?_
  refine a_iconst (x := 1) 56 rfl dX12_runs_55 (by decide) ?_
  refine a_iadd 57 rfl dX12_runs_56 ?_
  refine a_eq (st2 := [.int (nI (m + 1)), .ref (g_ad G 38)]) rfl rfl (congrArg (fun z9 => Value.int z9 :: [.ref (g_ad G 38)]) (nI_add m 1)) rfl ?_
  refine a_put (fs' := [.int (nI (M.1 0)), .int (nI (M.1 1)), .int (nI (M.1 2)), .int (nI (M.1 3)), .ref (g_ad G 39), .ref (g_ad G 40), .ref (g_ad G 41), .ref (g_ad G 42), .ref (g_ad G 43), .ref (g_ad G 44), .int (M.2.1 0), .ref (g_ad G 45), .int (nI (M.1 4)), .int (nI (M.1 5)), .int (M.2.1 1), .int (M.2.1 2), .long (M.2.2.1 0), .ref (g_ad G 46), .ref (g_ad G 47), .ref (g_ad G 48), .int (nI (M.1 6)), .long (M.2.2.1 1), .int (nI (M.1 7)), .int (nI (M.1 8)), .ref (g_ad G 49), .ref (g_ad G 50), .int (nI (M.1 9)), .int (nI (M.1 10)), .int (nI (M.1 11)), .long (M.2.2.1 2), .ref (g_ad G 51), .ref (g_ad G 52), .ref (g_ad G 53), .ref (g_ad G 54), .ref (g_ad G 55), .ref (g_ad G 56), .ref (g_ad G 57), .ref (g_ad G 58), .ref (g_ad G 59), .ref (g_ad G 60), .ref (g_ad G 61), .ref (g_ad G 62), .int (nI (m + 1))]) 42 cl_11 f_RX12_352_11 (by decide) (rfl) rfl rfl rfl (Nat.le_of_ble_eq_true rfl) rfl 60 rfl dX12_runs_57 ?_
  refine a_eq (h2 := g_hp G C (g_hm G (f_mn (f_mI M 17 (upd R m (nI 11))) 12 (m + 1)) ++ ob)) rfl rfl rfl (rfl) ?_
  refine a_iload 1 62 rfl dX12_runs_60 rfl ?_
  refine a_callS (as := [.int 0]) (rest := []) (st2 := [.int ((-1))]) (u1 := 0) (v1 := 0) (u2 := 0) (v2 := 0) (r_above0) oX12_above q_1633 q_1634 rfl (by omega) (by decide) rfl (Nat.le_of_ble_eq_true rfl) 65 rfl dX12_runs_62 rfl ?_
  refine a_istore (lv' := [(7, .int ((-1))), (6, .int 11), (5, .int 0), (0, .ref (g_ad G 38)), (1, .int (nI j)), (2, .int 0), (3, .int 1), (4, .int x)]) 67 rfl dX12_runs_65 (by decide) rfl ?_
  refine a_iconst (x := 0) 68 rfl dX12_runs_67 (by decide) ?_
  refine a_istore (lv' := [(8, .int 0), (7, .int ((-1))), (6, .int 11), (5, .int 0), (0, .ref (g_ad G 38)), (1, .int (nI j)), (2, .int 0), (3, .int 1), (4, .int x)]) 70 rfl dX12_runs_68 (by decide) rfl ?_
  refine a_iload 2 72 rfl dX12_runs_70 rfl ?_
  refine a_lookup (off := 81) 153 dX12_runs_72 (by decide) (by decide) (by decide) ?_
  refine a_aload_n 4 154 rfl dX12_runs_153 rfl rfl ?_
  refine a_iload_n 5 155 rfl dX12_runs_154 rfl rfl ?_
  refine a_aload_n 4 156 rfl dX12_runs_155 rfl rfl ?_
  refine a_get 4 cl_11 f_RX12_15_11 (by decide) (rfl) rfl 159 rfl dX12_runs_156 ?_
  refine a_iload_n 5 160 rfl dX12_runs_159 rfl rfl ?_
  refine a_iald (rfl) (vp_in_nI (n := j) (by omega) (by omega)) 161 rfl dX12_runs_160 ?_
  refine a_eq (st2 := [.int ((M.2.2.2.1 0) j), .int (nI j), .ref (g_ad G 38)]) rfl rfl (congrArg (fun z9 => Value.int z9 :: [.int (nI j), .ref (g_ad G 38)]) (congrArg (M.2.2.2.1 0) (g_cl (by omega)))) rfl ?_
  refine a_eq (st2 := [.int (nI k9), .int (nI j), .ref (g_ad G 38)]) rfl rfl (congrArg (fun z9 => Value.int z9 :: [.int (nI j), .ref (g_ad G 38)]) (hk)) rfl ?_
  refine a_iconst (x := 0) 162 rfl dX12_runs_161 (by decide) ?_
  refine a_iload 8 164 rfl dX12_runs_162 rfl ?_
  refine a_callV (as := [.int (nI j), .int (nI k9), .int 0, .int x]) (rest := []) (st2 := [.int (f_grows k9 x (nI j))]) (u1 := 0) (v1 := 0) (u2 := 0) (v2 := 0) ((r_rn0 (d := 4) (k := k9) (R := upd R m (nI 11)) (m := m + 1) (x := x) (by omega) hj hk hf hk9 (by omega) rfl hk9)) (⟨_, _, _, _, rfl, rfl⟩) oX12_runs q_1626 q_1628 q_117 rfl (by omega) (by decide) rfl (Nat.le_of_ble_eq_true rfl) 167 rfl dX12_runs_164 rfl ?_
  refine a_iconst (x := 2) 168 rfl dX12_runs_167 (by decide) ?_
  refine a_imul 169 rfl dX12_runs_168 ?_
  exact a_ireturn .int rfl rfl (rfl) ((congrArg (fun z9 => g_hp G C (g_hm G z9 ++ ob)) f_tr1)) dX12_runs_169
theorem r_rn1_1 {d : Nat} (hd : 6 ≤ d) (hj : j < 8) (hk : M.2.2.2.1 0 j = nI k9) (hf : M.2.2.2.1 1 j = fg) (hk9 : k9 < 6) (hm : m ≤ 18) : g_Run G mX12_runs d 0 0 [.ref (g_ad G 38), .int (nI j), .int 1, .int 1, .int x] (g_hp G C (g_hm G (f_mn (f_mI M 17 (R)) 12 (m)) ++ ob)) (some (.int (f_turns 1 k9 x (nI j)))) (g_hp G C (g_hm G (f_mn (f_mI M 17 (f_lay R m (l_turns 1 k9))) 12 (m + (l_turns 1 k9).length)) ++ ob)) := by
  have hcl : (nI m).toNatClampNeg = m := g_cl (by omega)
  refine g_Run.of (lv := [(0, .ref (g_ad G 38)), (1, .int (nI j)), (2, .int 1), (3, .int 1), (4, .int x)]) (by decide) (Nat.le_of_ble_eq_true rfl) rfl ?_
  refine a_iload_n 2 1 rfl dX12_runs_0 rfl rfl ?_
  refine a_istore (lv' := [(5, .int 1), (0, .ref (g_ad G 38)), (1, .int (nI j)), (2, .int 1), (3, .int 1), (4, .int x)]) 3 rfl dX12_runs_1 (by decide) rfl ?_
  refine a_iload 0 5 rfl dX12_runs_3 rfl ?_
  refine a_iload_n 4 6 rfl dX12_runs_5 rfl rfl ?_
  refine a_callS (as := [.int 1, .int 1]) (rest := []) (st2 := [.int 20]) (u1 := 0) (v1 := 0) (u2 := 0) (v2 := 0) (r_body1_1) oX12_body q_1630 q_1631 rfl (by omega) (by decide) rfl (Nat.le_of_ble_eq_true rfl) 9 rfl dX12_runs_6 rfl ?_
  refine a_if_ne 22 12 rfl dX12_runs_9 (by decide) (fun _ => ?_) (fun hc => absurd hc ((by decide)))
  refine a_iload 0 24 rfl dX12_runs_22 rfl ?_
  refine a_iload_n 4 25 rfl dX12_runs_24 rfl rfl ?_
  refine a_callS (as := [.int 1, .int 1]) (rest := []) (st2 := [.int 20]) (u1 := 0) (v1 := 0) (u2 := 0) (v2 := 0) (r_body1_1) oX12_body q_1630 q_1631 rfl (by omega) (by decide) rfl (Nat.le_of_ble_eq_true rfl) 28 rfl dX12_runs_25 rfl ?_
  refine a_istore (lv' := [(6, .int 20), (5, .int 1), (0, .ref (g_ad G 38)), (1, .int (nI j)), (2, .int 1), (3, .int 1), (4, .int x)]) 30 rfl dX12_runs_28 (by decide) rfl ?_
  refine a_aload_n 2 31 rfl dX12_runs_30 rfl rfl ?_
  refine a_get 42 cl_11 f_RX12_352_11 (by decide) (rfl) rfl 34 rfl dX12_runs_31 ?_
  refine a_bipush (x := 24) 36 rfl dX12_runs_34 (by decide) ?_
  refine a_icmp_ge 60 39 rfl dX12_runs_36 (by decide) (fun hc => absurd hc (nI_ge (a := m) (b := 24) (by omega) (by omega))) (fun _ => ?_)
  refine a_aload_n 2 40 rfl dX12_runs_39 rfl rfl ?_
  refine a_get 41 cl_11 f_RX12_92_11 (by decide) (rfl) rfl 43 rfl dX12_runs_40 ?_
  refine a_aload_n 2 44 rfl dX12_runs_43 rfl rfl ?_
  refine a_get 42 cl_11 f_RX12_352_11 (by decide) (rfl) rfl 47 rfl dX12_runs_44 ?_
  refine a_iload 0 49 rfl dX12_runs_47 rfl ?_
  refine a_iast (rfl) (vp_in_nI (n := m) (by omega) (by omega)) 50 rfl dX12_runs_49 ?_
  refine a_eq (h2 := g_hp G C (g_hm G (f_mI (f_mn M 12 m) 17 (upd R m (nI 20))) ++ ob)) rfl rfl rfl (by show (((g_hp G C (g_hm G (f_mn (f_mI M 17 R) 12 m) ++ ob)).set 62 (c_I G 24 (upd R (nI m).toNatClampNeg 20))) : List va_E) = _; rw [hcl]; rfl) ?_
  refine a_aload_n 2 51 rfl dX12_runs_50 rfl rfl ?_
  refine a_dup 52 rfl dX12_runs_51 rfl ?_
  refine a_get 42 cl_11 f_RX12_352_11 (by decide) (rfl) rfl 55 rfl dX12_runs_52 ?_
  refine a_iconst (x := 1) 56 rfl dX12_runs_55 (by decide) ?_
  refine a_iadd 57 rfl dX12_runs_56 ?_
  refine a_eq (st2 := [.int (nI (m + 1)), .ref (g_ad G 38)]) rfl rfl (congrArg (fun z9 => Value.int z9 :: [.ref (g_ad G 38)]) (nI_add m 1)) rfl ?_
  refine a_put (fs' := [.int (nI (M.1 0)), .int (nI (M.1 1)), .int (nI (M.1 2)), .int (nI (M.1 3)), .ref (g_ad G 39), .ref (g_ad G 40), .ref (g_ad G 41), .ref (g_ad G 42), .ref (g_ad G 43), .ref (g_ad G 44), .int (M.2.1 0), .ref (g_ad G 45), .int (nI (M.1 4)), .int (nI (M.1 5)), .int (M.2.1 1), .int (M.2.1 2), .long (M.2.2.1 0), .ref (g_ad G 46), .ref (g_ad G 47), .ref (g_ad G 48), .int (nI (M.1 6)), .long (M.2.2.1 1), .int (nI (M.1 7)), .int (nI (M.1 8)), .ref (g_ad G 49), .ref (g_ad G 50), .int (nI (M.1 9)), .int (nI (M.1 10)), .int (nI (M.1 11)), .long (M.2.2.1 2), .ref (g_ad G 51), .ref (g_ad G 52), .ref (g_ad G 53), .ref (g_ad G 54), .ref (g_ad G 55), .ref (g_ad G 56), .ref (g_ad G 57), .ref (g_ad G 58), .ref (g_ad G 59), .ref (g_ad G 60), .ref (g_ad G 61), .ref (g_ad G 62), .int (nI (m + 1))]) 42 cl_11 f_RX12_352_11 (by decide) (rfl) rfl rfl rfl (Nat.le_of_ble_eq_true rfl) rfl 60 rfl dX12_runs_57 ?_
  refine a_eq (h2 := g_hp G C (g_hm G (f_mn (f_mI M 17 (upd R m (nI 20))) 12 (m + 1)) ++ ob)) rfl rfl rfl (rfl) ?_
  refine a_iload 1 62 rfl dX12_runs_60 rfl ?_
  refine a_callS (as := [.int 1]) (rest := []) (st2 := [.int 0]) (u1 := 0) (v1 := 0) (u2 := 0) (v2 := 0) (r_above1) oX12_above q_1633 q_1634 rfl (by omega) (by decide) rfl (Nat.le_of_ble_eq_true rfl) 65 rfl dX12_runs_62 rfl ?_
  refine a_istore (lv' := [(7, .int 0), (6, .int 20), (5, .int 1), (0, .ref (g_ad G 38)), (1, .int (nI j)), (2, .int 1), (3, .int 1), (4, .int x)]) 67 rfl dX12_runs_65 (by decide) rfl ?_
  refine a_iconst (x := 0) 68 rfl dX12_runs_67 (by decide) ?_
  refine a_istore (lv' := [(8, .int 0), (7, .int 0), (6, .int 20), (5, .int 1), (0, .ref (g_ad G 38)), (1, .int (nI j)), (2, .int 1), (3, .int 1), (4, .int x)]) 70 rfl dX12_runs_68 (by decide) rfl ?_
  refine a_iload 2 72 rfl dX12_runs_70 rfl ?_
  refine a_lookup (off := 120) 192 dX12_runs_72 (by decide) (by decide) (by decide) ?_
  refine a_aload_n 4 193 rfl dX12_runs_192 rfl rfl ?_
  refine a_iload_n 5 194 rfl dX12_runs_193 rfl rfl ?_
  refine a_iload 1 196 rfl dX12_runs_194 rfl ?_
  refine a_iconst (x := 1) 197 rfl dX12_runs_196 (by decide) ?_
  refine a_iload 8 199 rfl dX12_runs_197 rfl ?_
  refine a_callV (as := [.int (nI j), .int 0, .int 1, .int x]) (rest := []) (st2 := [.int (f_turns 0 k9 x (nI j))]) (u1 := 0) (v1 := 0) (u2 := 0) (v2 := 0) ((r_rn1_0 (d := 5) (R := upd R m (nI 20)) (m := m + 1) (x := x) (by omega) hj hk hf hk9 (by omega))) (⟨_, _, _, _, rfl, rfl⟩) oX12_runs q_1626 q_1628 q_117 rfl (by omega) (by decide) rfl (Nat.le_of_ble_eq_true rfl) 202 rfl dX12_runs_199 rfl ?_
  refine a_iconst (x := 3) 203 rfl dX12_runs_202 (by decide) ?_
  refine a_ixor 204 rfl dX12_runs_203 ?_
  exact a_ireturn .int rfl rfl (rfl) ((congrArg (fun z9 => g_hp G C (g_hm G z9 ++ ob)) f_tr1)) dX12_runs_204
theorem r_rn1_3 {d : Nat} (hd : 6 ≤ d) (hj : j < 8) (hk : M.2.2.2.1 0 j = nI k9) (hf : M.2.2.2.1 1 j = fg) (hk9 : k9 < 6) (hm : m ≤ 15) : g_Run G mX12_runs d 0 0 [.ref (g_ad G 38), .int (nI j), .int 3, .int 1, .int x] (g_hp G C (g_hm G (f_mn (f_mI M 17 (R)) 12 (m)) ++ ob)) (some (.int (f_turns 3 k9 x (nI j)))) (g_hp G C (g_hm G (f_mn (f_mI M 17 (f_lay R m (l_turns 3 k9))) 12 (m + (l_turns 3 k9).length)) ++ ob)) := by
  have hcl : (nI m).toNatClampNeg = m := g_cl (by omega)
  refine g_Run.of (lv := [(0, .ref (g_ad G 38)), (1, .int (nI j)), (2, .int 3), (3, .int 1), (4, .int x)]) (by decide) (Nat.le_of_ble_eq_true rfl) rfl ?_
  refine a_iload_n 2 1 rfl dX12_runs_0 rfl rfl ?_
  refine a_istore (lv' := [(5, .int 3), (0, .ref (g_ad G 38)), (1, .int (nI j)), (2, .int 3), (3, .int 1), (4, .int x)]) 3 rfl dX12_runs_1 (by decide) rfl ?_
  refine a_iload 0 5 rfl dX12_runs_3 rfl ?_
  refine a_iload_n 4 6 rfl dX12_runs_5 rfl rfl ?_
  refine a_callS (as := [.int 3, .int 1]) (rest := []) (st2 := [.int 50]) (u1 := 0) (v1 := 0) (u2 := 0) (v2 := 0) (r_body3_1) oX12_body q_1630 q_1631 rfl (by omega) (by decide) rfl (Nat.le_of_ble_eq_true rfl) 9 rfl dX12_runs_6 rfl ?_
  refine a_if_ne 22 12 rfl dX12_runs_9 (by decide) (fun _ => ?_) (fun hc => absurd hc ((by decide)))
  refine a_iload 0 24 rfl dX12_runs_22 rfl ?_
  refine a_iload_n 4 25 rfl dX12_runs_24 rfl rfl ?_
  refine a_callS (as := [.int 3, .int 1]) (rest := []) (st2 := [.int 50]) (u1 := 0) (v1 := 0) (u2 := 0) (v2 := 0) (r_body3_1) oX12_body q_1630 q_1631 rfl (by omega) (by decide) rfl (Nat.le_of_ble_eq_true rfl) 28 rfl dX12_runs_25 rfl ?_
  refine a_istore (lv' := [(6, .int 50), (5, .int 3), (0, .ref (g_ad G 38)), (1, .int (nI j)), (2, .int 3), (3, .int 1), (4, .int x)]) 30 rfl dX12_runs_28 (by decide) rfl ?_
  refine a_aload_n 2 31 rfl dX12_runs_30 rfl rfl ?_
  refine a_get 42 cl_11 f_RX12_352_11 (by decide) (rfl) rfl 34 rfl dX12_runs_31 ?_
  refine a_bipush (x := 24) 36 rfl dX12_runs_34 (by decide) ?_
  refine a_icmp_ge 60 39 rfl dX12_runs_36 (by decide) (fun hc => absurd hc (nI_ge (a := m) (b := 24) (by omega) (by omega))) (fun _ => ?_)
  refine a_aload_n 2 40 rfl dX12_runs_39 rfl rfl ?_
  refine a_get 41 cl_11 f_RX12_92_11 (by decide) (rfl) rfl 43 rfl dX12_runs_40 ?_
  refine a_aload_n 2 44 rfl dX12_runs_43 rfl rfl ?_
  refine a_get 42 cl_11 f_RX12_352_11 (by decide) (rfl) rfl 47 rfl dX12_runs_44 ?_
  refine a_iload 0 49 rfl dX12_runs_47 rfl ?_
  refine a_iast (rfl) (vp_in_nI (n := m) (by omega) (by omega)) 50 rfl dX12_runs_49 ?_
  refine a_eq (h2 := g_hp G C (g_hm G (f_mI (f_mn M 12 m) 17 (upd R m (nI 50))) ++ ob)) rfl rfl rfl (by show (((g_hp G C (g_hm G (f_mn (f_mI M 17 R) 12 m) ++ ob)).set 62 (c_I G 24 (upd R (nI m).toNatClampNeg 50))) : List va_E) = _; rw [hcl]; rfl) ?_
  refine a_aload_n 2 51 rfl dX12_runs_50 rfl rfl ?_
  refine a_dup 52 rfl dX12_runs_51 rfl ?_
  refine a_get 42 cl_11 f_RX12_352_11 (by decide) (rfl) rfl 55 rfl dX12_runs_52 ?_
  refine a_iconst (x := 1) 56 rfl dX12_runs_55 (by decide) ?_
  refine a_iadd 57 rfl dX12_runs_56 ?_
  refine a_eq (st2 := [.int (nI (m + 1)), .ref (g_ad G 38)]) rfl rfl (congrArg (fun z9 => Value.int z9 :: [.ref (g_ad G 38)]) (nI_add m 1)) rfl ?_
  refine a_put (fs' := [.int (nI (M.1 0)), .int (nI (M.1 1)), .int (nI (M.1 2)), .int (nI (M.1 3)), .ref (g_ad G 39), .ref (g_ad G 40), .ref (g_ad G 41), .ref (g_ad G 42), .ref (g_ad G 43), .ref (g_ad G 44), .int (M.2.1 0), .ref (g_ad G 45), .int (nI (M.1 4)), .int (nI (M.1 5)), .int (M.2.1 1), .int (M.2.1 2), .long (M.2.2.1 0), .ref (g_ad G 46), .ref (g_ad G 47), .ref (g_ad G 48), .int (nI (M.1 6)), .long (M.2.2.1 1), .int (nI (M.1 7)), .int (nI (M.1 8)), .ref (g_ad G 49), .ref (g_ad G 50), .int (nI (M.1 9)), .int (nI (M.1 10)), .int (nI (M.1 11)), .long (M.2.2.1 2), .ref (g_ad G 51), .ref (g_ad G 52), .ref (g_ad G 53), .ref (g_ad G 54), .ref (g_ad G 55), .ref (g_ad G 56), .ref (g_ad G 57), .ref (g_ad G 58), .ref (g_ad G 59), .ref (g_ad G 60), .ref (g_ad G 61), .ref (g_ad G 62), .int (nI (m + 1))]) 42 cl_11 f_RX12_352_11 (by decide) (rfl) rfl rfl rfl (Nat.le_of_ble_eq_true rfl) rfl 60 rfl dX12_runs_57 ?_
  refine a_eq (h2 := g_hp G C (g_hm G (f_mn (f_mI M 17 (upd R m (nI 50))) 12 (m + 1)) ++ ob)) rfl rfl rfl (rfl) ?_
  refine a_iload 1 62 rfl dX12_runs_60 rfl ?_
  refine a_callS (as := [.int 3]) (rest := []) (st2 := [.int 0]) (u1 := 0) (v1 := 0) (u2 := 0) (v2 := 0) (r_above3) oX12_above q_1633 q_1634 rfl (by omega) (by decide) rfl (Nat.le_of_ble_eq_true rfl) 65 rfl dX12_runs_62 rfl ?_
  refine a_istore (lv' := [(7, .int 0), (6, .int 50), (5, .int 3), (0, .ref (g_ad G 38)), (1, .int (nI j)), (2, .int 3), (3, .int 1), (4, .int x)]) 67 rfl dX12_runs_65 (by decide) rfl ?_
  refine a_iconst (x := 0) 68 rfl dX12_runs_67 (by decide) ?_
  refine a_istore (lv' := [(8, .int 0), (7, .int 0), (6, .int 50), (5, .int 3), (0, .ref (g_ad G 38)), (1, .int (nI j)), (2, .int 3), (3, .int 1), (4, .int x)]) 70 rfl dX12_runs_68 (by decide) rfl ?_
  refine a_iload 2 72 rfl dX12_runs_70 rfl ?_
  refine a_lookup (off := 171) 243 dX12_runs_72 (by decide) (by decide) (by decide) ?_
  refine a_aload_n 4 244 rfl dX12_runs_243 rfl rfl ?_
  refine a_iload_n 5 245 rfl dX12_runs_244 rfl rfl ?_
  refine a_iload 1 247 rfl dX12_runs_245 rfl ?_
  refine a_iconst (x := 1) 248 rfl dX12_runs_247 (by decide) ?_
  refine a_iload 8 250 rfl dX12_runs_248 rfl ?_
  refine a_callV (as := [.int (nI j), .int 0, .int 1, .int x]) (rest := []) (st2 := [.int (f_turns 0 k9 x (nI j))]) (u1 := 0) (v1 := 0) (u2 := 0) (v2 := 0) ((r_rn1_0 (d := 5) (R := upd R m (nI 50)) (m := m + 1) (x := x) (by omega) hj hk hf hk9 (by omega))) (⟨_, _, _, _, rfl, rfl⟩) oX12_runs q_1626 q_1628 q_117 rfl (by omega) (by decide) rfl (Nat.le_of_ble_eq_true rfl) 253 rfl dX12_runs_250 rfl ?_
  refine a_istore (lv' := [(8, .int (f_turns 0 k9 x (nI j))), (7, .int 0), (6, .int 50), (5, .int 3), (0, .ref (g_ad G 38)), (1, .int (nI j)), (2, .int 3), (3, .int 1), (4, .int x)]) 255 rfl dX12_runs_253 (by decide) rfl ?_
  refine a_iload 0 257 rfl dX12_runs_255 rfl ?_
  refine a_aload_n 4 258 rfl dX12_runs_257 rfl rfl ?_
  refine a_iload_n 5 259 rfl dX12_runs_258 rfl rfl ?_
  refine a_aload_n 4 260 rfl dX12_runs_259 rfl rfl ?_
  refine a_get 4 cl_11 f_RX12_15_11 (by decide) (rfl) rfl 263 rfl dX12_runs_260 ?_
  refine a_iload_n 5 264 rfl dX12_runs_263 rfl rfl ?_
  refine a_iald (rfl) (vp_in_nI (n := j) (by omega) (by omega)) 265 rfl dX12_runs_264 ?_
  refine a_eq (st2 := [.int ((M.2.2.2.1 0) j), .int (nI j), .ref (g_ad G 38), .int (f_turns 0 k9 x (nI j))]) rfl rfl (congrArg (fun z9 => Value.int z9 :: [.int (nI j), .ref (g_ad G 38), .int (f_turns 0 k9 x (nI j))]) (congrArg (M.2.2.2.1 0) (g_cl (by omega)))) rfl ?_
  refine a_eq (st2 := [.int (nI k9), .int (nI j), .ref (g_ad G 38), .int (f_turns 0 k9 x (nI j))]) rfl rfl (congrArg (fun z9 => Value.int z9 :: [.int (nI j), .ref (g_ad G 38), .int (f_turns 0 k9 x (nI j))]) (hk)) rfl ?_
  refine a_iconst (x := 0) 266 rfl dX12_runs_265 (by decide) ?_
  refine a_iconst (x := 2) 267 rfl dX12_runs_266 (by decide) ?_
  refine a_callV (as := [.int (nI j), .int (nI k9), .int 0, .int 2]) (rest := [.int (f_turns 0 k9 x (nI j))]) (st2 := [.int (f_grows k9 2 (nI j)), .int (f_turns 0 k9 x (nI j))]) (u1 := 0) (v1 := 0) (u2 := 0) (v2 := 0) ((r_rn0 (d := 4) (k := k9) (R := f_lay (upd R m (nI 50)) (m + 1) (l_turns 0 k9)) (m := m + 1 + (l_turns 0 k9).length) (x := 2) (by omega) hj hk hf hk9 (by have h3 := l_grows3 k9; show m + 1 + ((l_grows k9).length + 1) ≤ 20; omega) rfl hk9)) (⟨_, _, _, _, rfl, rfl⟩) oX12_runs q_1626 q_1628 q_117 rfl (by omega) (by decide) rfl (Nat.le_of_ble_eq_true rfl) 270 rfl dX12_runs_267 rfl ?_
  refine a_iadd 271 rfl dX12_runs_270 ?_
  exact a_ireturn .int rfl rfl (rfl) ((congrArg (fun z9 => g_hp G C (g_hm G z9 ++ ob)) f_tr2)) dX12_runs_271
theorem r_rn1_2 {d : Nat} (hd : 5 ≤ d) (hj : j < 8) (hk : M.2.2.2.1 0 j = nI k9) (hf : M.2.2.2.1 1 j = fg) (hk9 : k9 < 6) (hm : m ≤ 19) : g_Run G mX12_runs d 0 0 [.ref (g_ad G 38), .int (nI j), .int 2, .int 1, .int x] (g_hp G C (g_hm G (f_mn (f_mI M 17 (R)) 12 (m)) ++ ob)) (some (.int (f_turns 2 k9 x (nI j)))) (g_hp G C (g_hm G (f_mn (f_mI M 17 (f_lay R m (l_turns 2 k9))) 12 (m + (l_turns 2 k9).length)) ++ ob)) := by
  have hcl : (nI m).toNatClampNeg = m := g_cl (by omega)
  refine g_Run.of (lv := [(0, .ref (g_ad G 38)), (1, .int (nI j)), (2, .int 2), (3, .int 1), (4, .int x)]) (by decide) (Nat.le_of_ble_eq_true rfl) rfl ?_
  refine a_iload_n 2 1 rfl dX12_runs_0 rfl rfl ?_
  refine a_istore (lv' := [(5, .int 2), (0, .ref (g_ad G 38)), (1, .int (nI j)), (2, .int 2), (3, .int 1), (4, .int x)]) 3 rfl dX12_runs_1 (by decide) rfl ?_
  refine a_iload 0 5 rfl dX12_runs_3 rfl ?_
  refine a_iload_n 4 6 rfl dX12_runs_5 rfl rfl ?_
  refine a_callS (as := [.int 2, .int 1]) (rest := []) (st2 := [.int 0]) (u1 := 0) (v1 := 0) (u2 := 0) (v2 := 0) (r_body2_1) oX12_body q_1630 q_1631 rfl (by omega) (by decide) rfl (Nat.le_of_ble_eq_true rfl) 9 rfl dX12_runs_6 rfl ?_
  refine a_if_ne 22 12 rfl dX12_runs_9 (by decide) (fun hc => absurd (rfl) hc) (fun _ => ?_)
  refine a_iload 0 14 rfl dX12_runs_12 rfl ?_
  refine a_callS (as := [.int 2]) (rest := []) (st2 := [.int 0]) (u1 := 0) (v1 := 0) (u2 := 0) (v2 := 0) (r_above2) oX12_above q_1633 q_1634 rfl (by omega) (by decide) rfl (Nat.le_of_ble_eq_true rfl) 17 rfl dX12_runs_14 rfl ?_
  refine a_istore (lv' := [(5, .int 0), (0, .ref (g_ad G 38)), (1, .int (nI j)), (2, .int 2), (3, .int 1), (4, .int x)]) 19 rfl dX12_runs_17 (by decide) rfl ?_
  refine a_goto 3 dX12_runs_19 (by decide) ?_
  refine a_iload 0 5 rfl dX12_runs_3 rfl ?_
  refine a_iload_n 4 6 rfl dX12_runs_5 rfl rfl ?_
  refine a_callS (as := [.int 0, .int 1]) (rest := []) (st2 := [.int 11]) (u1 := 0) (v1 := 0) (u2 := 0) (v2 := 0) (r_body0_1) oX12_body q_1630 q_1631 rfl (by omega) (by decide) rfl (Nat.le_of_ble_eq_true rfl) 9 rfl dX12_runs_6 rfl ?_
  refine a_if_ne 22 12 rfl dX12_runs_9 (by decide) (fun _ => ?_) (fun hc => absurd hc ((by decide)))
  refine a_iload 0 24 rfl dX12_runs_22 rfl ?_
  refine a_iload_n 4 25 rfl dX12_runs_24 rfl rfl ?_
  refine a_callS (as := [.int 0, .int 1]) (rest := []) (st2 := [.int 11]) (u1 := 0) (v1 := 0) (u2 := 0) (v2 := 0) (r_body0_1) oX12_body q_1630 q_1631 rfl (by omega) (by decide) rfl (Nat.le_of_ble_eq_true rfl) 28 rfl dX12_runs_25 rfl ?_
  refine a_istore (lv' := [(6, .int 11), (5, .int 0), (0, .ref (g_ad G 38)), (1, .int (nI j)), (2, .int 2), (3, .int 1), (4, .int x)]) 30 rfl dX12_runs_28 (by decide) rfl ?_
  refine a_aload_n 2 31 rfl dX12_runs_30 rfl rfl ?_
  refine a_get 42 cl_11 f_RX12_352_11 (by decide) (rfl) rfl 34 rfl dX12_runs_31 ?_
  refine a_bipush (x := 24) 36 rfl dX12_runs_34 (by decide) ?_
  refine a_icmp_ge 60 39 rfl dX12_runs_36 (by decide) (fun hc => absurd hc (nI_ge (a := m) (b := 24) (by omega) (by omega))) (fun _ => ?_)
  refine a_aload_n 2 40 rfl dX12_runs_39 rfl rfl ?_
  refine a_get 41 cl_11 f_RX12_92_11 (by decide) (rfl) rfl 43 rfl dX12_runs_40 ?_
  refine a_aload_n 2 44 rfl dX12_runs_43 rfl rfl ?_
  refine a_get 42 cl_11 f_RX12_352_11 (by decide) (rfl) rfl 47 rfl dX12_runs_44 ?_
  refine a_iload 0 49 rfl dX12_runs_47 rfl ?_
  refine a_iast (rfl) (vp_in_nI (n := m) (by omega) (by omega)) 50 rfl dX12_runs_49 ?_
  refine a_eq (h2 := g_hp G C (g_hm G (f_mI (f_mn M 12 m) 17 (upd R m (nI 11))) ++ ob)) rfl rfl rfl (by show (((g_hp G C (g_hm G (f_mn (f_mI M 17 R) 12 m) ++ ob)).set 62 (c_I G 24 (upd R (nI m).toNatClampNeg 11))) : List va_E) = _; rw [hcl]; rfl) ?_
  refine a_aload_n 2 51 rfl dX12_runs_50 rfl rfl ?_
  refine a_dup 52 rfl dX12_runs_51 rfl ?_
  refine a_get 42 cl_11 f_RX12_352_11 (by decide) (rfl) rfl 55 rfl dX12_runs_52 ?_
  refine a_iconst (x := 1) 56 rfl dX12_runs_55 (by decide) ?_
  refine a_iadd 57 rfl dX12_runs_56 ?_
  refine a_eq (st2 := [.int (nI (m + 1)), .ref (g_ad G 38)]) rfl rfl (congrArg (fun z9 => Value.int z9 :: [.ref (g_ad G 38)]) (nI_add m 1)) rfl ?_
  refine a_put (fs' := [.int (nI (M.1 0)), .int (nI (M.1 1)), .int (nI (M.1 2)), .int (nI (M.1 3)), .ref (g_ad G 39), .ref (g_ad G 40), .ref (g_ad G 41), .ref (g_ad G 42), .ref (g_ad G 43), .ref (g_ad G 44), .int (M.2.1 0), .ref (g_ad G 45), .int (nI (M.1 4)), .int (nI (M.1 5)), .int (M.2.1 1), .int (M.2.1 2), .long (M.2.2.1 0), .ref (g_ad G 46), .ref (g_ad G 47), .ref (g_ad G 48), .int (nI (M.1 6)), .long (M.2.2.1 1), .int (nI (M.1 7)), .int (nI (M.1 8)), .ref (g_ad G 49), .ref (g_ad G 50), .int (nI (M.1 9)), .int (nI (M.1 10)), .int (nI (M.1 11)), .long (M.2.2.1 2), .ref (g_ad G 51), .ref (g_ad G 52), .ref (g_ad G 53), .ref (g_ad G 54), .ref (g_ad G 55), .ref (g_ad G 56), .ref (g_ad G 57), .ref (g_ad G 58), .ref (g_ad G 59), .ref (g_ad G 60), .ref (g_ad G 61), .ref (g_ad G 62), .int (nI (m + 1))]) 42 cl_11 f_RX12_352_11 (by decide) (rfl) rfl rfl rfl (Nat.le_of_ble_eq_true rfl) rfl 60 rfl dX12_runs_57 ?_
  refine a_eq (h2 := g_hp G C (g_hm G (f_mn (f_mI M 17 (upd R m (nI 11))) 12 (m + 1)) ++ ob)) rfl rfl rfl (rfl) ?_
  refine a_iload 1 62 rfl dX12_runs_60 rfl ?_
  refine a_callS (as := [.int 0]) (rest := []) (st2 := [.int ((-1))]) (u1 := 0) (v1 := 0) (u2 := 0) (v2 := 0) (r_above0) oX12_above q_1633 q_1634 rfl (by omega) (by decide) rfl (Nat.le_of_ble_eq_true rfl) 65 rfl dX12_runs_62 rfl ?_
  refine a_istore (lv' := [(7, .int ((-1))), (6, .int 11), (5, .int 0), (0, .ref (g_ad G 38)), (1, .int (nI j)), (2, .int 2), (3, .int 1), (4, .int x)]) 67 rfl dX12_runs_65 (by decide) rfl ?_
  refine a_iconst (x := 0) 68 rfl dX12_runs_67 (by decide) ?_
  refine a_istore (lv' := [(8, .int 0), (7, .int ((-1))), (6, .int 11), (5, .int 0), (0, .ref (g_ad G 38)), (1, .int (nI j)), (2, .int 2), (3, .int 1), (4, .int x)]) 70 rfl dX12_runs_68 (by decide) rfl ?_
  refine a_iload 2 72 rfl dX12_runs_70 rfl ?_
  refine a_lookup (off := 81) 153 dX12_runs_72 (by decide) (by decide) (by decide) ?_
  refine a_aload_n 4 154 rfl dX12_runs_153 rfl rfl ?_
  refine a_iload_n 5 155 rfl dX12_runs_154 rfl rfl ?_
  refine a_aload_n 4 156 rfl dX12_runs_155 rfl rfl ?_
  refine a_get 4 cl_11 f_RX12_15_11 (by decide) (rfl) rfl 159 rfl dX12_runs_156 ?_
  refine a_iload_n 5 160 rfl dX12_runs_159 rfl rfl ?_
  refine a_iald (rfl) (vp_in_nI (n := j) (by omega) (by omega)) 161 rfl dX12_runs_160 ?_
  refine a_eq (st2 := [.int ((M.2.2.2.1 0) j), .int (nI j), .ref (g_ad G 38)]) rfl rfl (congrArg (fun z9 => Value.int z9 :: [.int (nI j), .ref (g_ad G 38)]) (congrArg (M.2.2.2.1 0) (g_cl (by omega)))) rfl ?_
  refine a_eq (st2 := [.int (nI k9), .int (nI j), .ref (g_ad G 38)]) rfl rfl (congrArg (fun z9 => Value.int z9 :: [.int (nI j), .ref (g_ad G 38)]) (hk)) rfl ?_
  refine a_iconst (x := 0) 162 rfl dX12_runs_161 (by decide) ?_
  refine a_iload 8 164 rfl dX12_runs_162 rfl ?_
  refine a_callV (as := [.int (nI j), .int (nI k9), .int 0, .int x]) (rest := []) (st2 := [.int (f_grows k9 x (nI j))]) (u1 := 0) (v1 := 0) (u2 := 0) (v2 := 0) ((r_rn0 (d := 4) (k := k9) (R := upd R m (nI 11)) (m := m + 1) (x := x) (by omega) hj hk hf hk9 (by omega) rfl hk9)) (⟨_, _, _, _, rfl, rfl⟩) oX12_runs q_1626 q_1628 q_117 rfl (by omega) (by decide) rfl (Nat.le_of_ble_eq_true rfl) 167 rfl dX12_runs_164 rfl ?_
  refine a_iconst (x := 2) 168 rfl dX12_runs_167 (by decide) ?_
  refine a_imul 169 rfl dX12_runs_168 ?_
  exact a_ireturn .int rfl rfl (rfl) ((congrArg (fun z9 => g_hp G C (g_hm G z9 ++ ob)) f_tr1)) dX12_runs_169
theorem r_rn1_4 {d : Nat} (hd : 6 ≤ d) (hj : j < 8) (hk : M.2.2.2.1 0 j = nI k9) (hf : M.2.2.2.1 1 j = fg) (hk9 : k9 < 6) (hm : m ≤ 15) : g_Run G mX12_runs d 0 0 [.ref (g_ad G 38), .int (nI j), .int 4, .int 1, .int x] (g_hp G C (g_hm G (f_mn (f_mI M 17 (R)) 12 (m)) ++ ob)) (some (.int (f_turns 4 k9 x (nI j)))) (g_hp G C (g_hm G (f_mn (f_mI M 17 (f_lay R m (l_turns 4 k9))) 12 (m + (l_turns 4 k9).length)) ++ ob)) := by
  have hcl : (nI m).toNatClampNeg = m := g_cl (by omega)
  refine g_Run.of (lv := [(0, .ref (g_ad G 38)), (1, .int (nI j)), (2, .int 4), (3, .int 1), (4, .int x)]) (by decide) (Nat.le_of_ble_eq_true rfl) rfl ?_
  refine a_iload_n 2 1 rfl dX12_runs_0 rfl rfl ?_
  refine a_istore (lv' := [(5, .int 4), (0, .ref (g_ad G 38)), (1, .int (nI j)), (2, .int 4), (3, .int 1), (4, .int x)]) 3 rfl dX12_runs_1 (by decide) rfl ?_
  refine a_iload 0 5 rfl dX12_runs_3 rfl ?_
  refine a_iload_n 4 6 rfl dX12_runs_5 rfl rfl ?_
  refine a_callS (as := [.int 4, .int 1]) (rest := []) (st2 := [.int 0]) (u1 := 0) (v1 := 0) (u2 := 0) (v2 := 0) (r_body4_1) oX12_body q_1630 q_1631 rfl (by omega) (by decide) rfl (Nat.le_of_ble_eq_true rfl) 9 rfl dX12_runs_6 rfl ?_
  refine a_if_ne 22 12 rfl dX12_runs_9 (by decide) (fun hc => absurd (rfl) hc) (fun _ => ?_)
  refine a_iload 0 14 rfl dX12_runs_12 rfl ?_
  refine a_callS (as := [.int 4]) (rest := []) (st2 := [.int 3]) (u1 := 0) (v1 := 0) (u2 := 0) (v2 := 0) (r_above4) oX12_above q_1633 q_1634 rfl (by omega) (by decide) rfl (Nat.le_of_ble_eq_true rfl) 17 rfl dX12_runs_14 rfl ?_
  refine a_istore (lv' := [(5, .int 3), (0, .ref (g_ad G 38)), (1, .int (nI j)), (2, .int 4), (3, .int 1), (4, .int x)]) 19 rfl dX12_runs_17 (by decide) rfl ?_
  refine a_goto 3 dX12_runs_19 (by decide) ?_
  refine a_iload 0 5 rfl dX12_runs_3 rfl ?_
  refine a_iload_n 4 6 rfl dX12_runs_5 rfl rfl ?_
  refine a_callS (as := [.int 3, .int 1]) (rest := []) (st2 := [.int 50]) (u1 := 0) (v1 := 0) (u2 := 0) (v2 := 0) (r_body3_1) oX12_body q_1630 q_1631 rfl (by omega) (by decide) rfl (Nat.le_of_ble_eq_true rfl) 9 rfl dX12_runs_6 rfl ?_
  refine a_if_ne 22 12 rfl dX12_runs_9 (by decide) (fun _ => ?_) (fun hc => absurd hc ((by decide)))
  refine a_iload 0 24 rfl dX12_runs_22 rfl ?_
  refine a_iload_n 4 25 rfl dX12_runs_24 rfl rfl ?_
  refine a_callS (as := [.int 3, .int 1]) (rest := []) (st2 := [.int 50]) (u1 := 0) (v1 := 0) (u2 := 0) (v2 := 0) (r_body3_1) oX12_body q_1630 q_1631 rfl (by omega) (by decide) rfl (Nat.le_of_ble_eq_true rfl) 28 rfl dX12_runs_25 rfl ?_
  refine a_istore (lv' := [(6, .int 50), (5, .int 3), (0, .ref (g_ad G 38)), (1, .int (nI j)), (2, .int 4), (3, .int 1), (4, .int x)]) 30 rfl dX12_runs_28 (by decide) rfl ?_
  refine a_aload_n 2 31 rfl dX12_runs_30 rfl rfl ?_
  refine a_get 42 cl_11 f_RX12_352_11 (by decide) (rfl) rfl 34 rfl dX12_runs_31 ?_
  refine a_bipush (x := 24) 36 rfl dX12_runs_34 (by decide) ?_
  refine a_icmp_ge 60 39 rfl dX12_runs_36 (by decide) (fun hc => absurd hc (nI_ge (a := m) (b := 24) (by omega) (by omega))) (fun _ => ?_)
  refine a_aload_n 2 40 rfl dX12_runs_39 rfl rfl ?_
  refine a_get 41 cl_11 f_RX12_92_11 (by decide) (rfl) rfl 43 rfl dX12_runs_40 ?_
  refine a_aload_n 2 44 rfl dX12_runs_43 rfl rfl ?_
  refine a_get 42 cl_11 f_RX12_352_11 (by decide) (rfl) rfl 47 rfl dX12_runs_44 ?_
  refine a_iload 0 49 rfl dX12_runs_47 rfl ?_
  refine a_iast (rfl) (vp_in_nI (n := m) (by omega) (by omega)) 50 rfl dX12_runs_49 ?_
  refine a_eq (h2 := g_hp G C (g_hm G (f_mI (f_mn M 12 m) 17 (upd R m (nI 50))) ++ ob)) rfl rfl rfl (by show (((g_hp G C (g_hm G (f_mn (f_mI M 17 R) 12 m) ++ ob)).set 62 (c_I G 24 (upd R (nI m).toNatClampNeg 50))) : List va_E) = _; rw [hcl]; rfl) ?_
  refine a_aload_n 2 51 rfl dX12_runs_50 rfl rfl ?_
  refine a_dup 52 rfl dX12_runs_51 rfl ?_
  refine a_get 42 cl_11 f_RX12_352_11 (by decide) (rfl) rfl 55 rfl dX12_runs_52 ?_
  refine a_iconst (x := 1) 56 rfl dX12_runs_55 (by decide) ?_
  refine a_iadd 57 rfl dX12_runs_56 ?_
  refine a_eq (st2 := [.int (nI (m + 1)), .ref (g_ad G 38)]) rfl rfl (congrArg (fun z9 => Value.int z9 :: [.ref (g_ad G 38)]) (nI_add m 1)) rfl ?_
  refine a_put (fs' := [.int (nI (M.1 0)), .int (nI (M.1 1)), .int (nI (M.1 2)), .int (nI (M.1 3)), .ref (g_ad G 39), .ref (g_ad G 40), .ref (g_ad G 41), .ref (g_ad G 42), .ref (g_ad G 43), .ref (g_ad G 44), .int (M.2.1 0), .ref (g_ad G 45), .int (nI (M.1 4)), .int (nI (M.1 5)), .int (M.2.1 1), .int (M.2.1 2), .long (M.2.2.1 0), .ref (g_ad G 46), .ref (g_ad G 47), .ref (g_ad G 48), .int (nI (M.1 6)), .long (M.2.2.1 1), .int (nI (M.1 7)), .int (nI (M.1 8)), .ref (g_ad G 49), .ref (g_ad G 50), .int (nI (M.1 9)), .int (nI (M.1 10)), .int (nI (M.1 11)), .long (M.2.2.1 2), .ref (g_ad G 51), .ref (g_ad G 52), .ref (g_ad G 53), .ref (g_ad G 54), .ref (g_ad G 55), .ref (g_ad G 56), .ref (g_ad G 57), .ref (g_ad G 58), .ref (g_ad G 59), .ref (g_ad G 60), .ref (g_ad G 61), .ref (g_ad G 62), .int (nI (m + 1))]) 42 cl_11 f_RX12_352_11 (by decide) (rfl) rfl rfl rfl (Nat.le_of_ble_eq_true rfl) rfl 60 rfl dX12_runs_57 ?_
  refine a_eq (h2 := g_hp G C (g_hm G (f_mn (f_mI M 17 (upd R m (nI 50))) 12 (m + 1)) ++ ob)) rfl rfl rfl (rfl) ?_
  refine a_iload 1 62 rfl dX12_runs_60 rfl ?_
  refine a_callS (as := [.int 3]) (rest := []) (st2 := [.int 0]) (u1 := 0) (v1 := 0) (u2 := 0) (v2 := 0) (r_above3) oX12_above q_1633 q_1634 rfl (by omega) (by decide) rfl (Nat.le_of_ble_eq_true rfl) 65 rfl dX12_runs_62 rfl ?_
  refine a_istore (lv' := [(7, .int 0), (6, .int 50), (5, .int 3), (0, .ref (g_ad G 38)), (1, .int (nI j)), (2, .int 4), (3, .int 1), (4, .int x)]) 67 rfl dX12_runs_65 (by decide) rfl ?_
  refine a_iconst (x := 0) 68 rfl dX12_runs_67 (by decide) ?_
  refine a_istore (lv' := [(8, .int 0), (7, .int 0), (6, .int 50), (5, .int 3), (0, .ref (g_ad G 38)), (1, .int (nI j)), (2, .int 4), (3, .int 1), (4, .int x)]) 70 rfl dX12_runs_68 (by decide) rfl ?_
  refine a_iload 2 72 rfl dX12_runs_70 rfl ?_
  refine a_lookup (off := 171) 243 dX12_runs_72 (by decide) (by decide) (by decide) ?_
  refine a_aload_n 4 244 rfl dX12_runs_243 rfl rfl ?_
  refine a_iload_n 5 245 rfl dX12_runs_244 rfl rfl ?_
  refine a_iload 1 247 rfl dX12_runs_245 rfl ?_
  refine a_iconst (x := 1) 248 rfl dX12_runs_247 (by decide) ?_
  refine a_iload 8 250 rfl dX12_runs_248 rfl ?_
  refine a_callV (as := [.int (nI j), .int 0, .int 1, .int x]) (rest := []) (st2 := [.int (f_turns 0 k9 x (nI j))]) (u1 := 0) (v1 := 0) (u2 := 0) (v2 := 0) ((r_rn1_0 (d := 5) (R := upd R m (nI 50)) (m := m + 1) (x := x) (by omega) hj hk hf hk9 (by omega))) (⟨_, _, _, _, rfl, rfl⟩) oX12_runs q_1626 q_1628 q_117 rfl (by omega) (by decide) rfl (Nat.le_of_ble_eq_true rfl) 253 rfl dX12_runs_250 rfl ?_
  refine a_istore (lv' := [(8, .int (f_turns 0 k9 x (nI j))), (7, .int 0), (6, .int 50), (5, .int 3), (0, .ref (g_ad G 38)), (1, .int (nI j)), (2, .int 4), (3, .int 1), (4, .int x)]) 255 rfl dX12_runs_253 (by decide) rfl ?_
  refine a_iload 0 257 rfl dX12_runs_255 rfl ?_
  refine a_aload_n 4 258 rfl dX12_runs_257 rfl rfl ?_
  refine a_iload_n 5 259 rfl dX12_runs_258 rfl rfl ?_
  refine a_aload_n 4 260 rfl dX12_runs_259 rfl rfl ?_
  refine a_get 4 cl_11 f_RX12_15_11 (by decide) (rfl) rfl 263 rfl dX12_runs_260 ?_
  refine a_iload_n 5 264 rfl dX12_runs_263 rfl rfl ?_
  refine a_iald (rfl) (vp_in_nI (n := j) (by omega) (by omega)) 265 rfl dX12_runs_264 ?_
  refine a_eq (st2 := [.int ((M.2.2.2.1 0) j), .int (nI j), .ref (g_ad G 38), .int (f_turns 0 k9 x (nI j))]) rfl rfl (congrArg (fun z9 => Value.int z9 :: [.int (nI j), .ref (g_ad G 38), .int (f_turns 0 k9 x (nI j))]) (congrArg (M.2.2.2.1 0) (g_cl (by omega)))) rfl ?_
  refine a_eq (st2 := [.int (nI k9), .int (nI j), .ref (g_ad G 38), .int (f_turns 0 k9 x (nI j))]) rfl rfl (congrArg (fun z9 => Value.int z9 :: [.int (nI j), .ref (g_ad G 38), .int (f_turns 0 k9 x (nI j))]) (hk)) rfl ?_
  refine a_iconst (x := 0) 266 rfl dX12_runs_265 (by decide) ?_
  refine a_iconst (x := 2) 267 rfl dX12_runs_266 (by decide) ?_
  refine a_callV (as := [.int (nI j), .int (nI k9), .int 0, .int 2]) (rest := [.int (f_turns 0 k9 x (nI j))]) (st2 := [.int (f_grows k9 2 (nI j)), .int (f_turns 0 k9 x (nI j))]) (u1 := 0) (v1 := 0) (u2 := 0) (v2 := 0) ((r_rn0 (d := 4) (k := k9) (R := f_lay (upd R m (nI 50)) (m + 1) (l_turns 0 k9)) (m := m + 1 + (l_turns 0 k9).length) (x := 2) (by omega) hj hk hf hk9 (by have h3 := l_grows3 k9; show m + 1 + ((l_grows k9).length + 1) ≤ 20; omega) rfl hk9)) (⟨_, _, _, _, rfl, rfl⟩) oX12_runs q_1626 q_1628 q_117 rfl (by omega) (by decide) rfl (Nat.le_of_ble_eq_true rfl) 270 rfl dX12_runs_267 rfl ?_
  refine a_iadd 271 rfl dX12_runs_270 ?_
  exact a_ireturn .int rfl rfl (rfl) ((congrArg (fun z9 => g_hp G C (g_hm G z9 ++ ob)) f_tr2)) dX12_runs_271
theorem r_rn1_5 {d : Nat} (hd : 5 ≤ d) (hj : j < 8) (hk : M.2.2.2.1 0 j = nI k9) (hf : M.2.2.2.1 1 j = fg) (hk9 : k9 < 6) (hm : m ≤ 19) : g_Run G mX12_runs d 0 0 [.ref (g_ad G 38), .int (nI j), .int 5, .int 1, .int x] (g_hp G C (g_hm G (f_mn (f_mI M 17 (R)) 12 (m)) ++ ob)) (some (.int (f_turns 5 k9 x (nI j)))) (g_hp G C (g_hm G (f_mn (f_mI M 17 (f_lay R m (l_turns 5 k9))) 12 (m + (l_turns 5 k9).length)) ++ ob)) := by
  have hcl : (nI m).toNatClampNeg = m := g_cl (by omega)
  refine g_Run.of (lv := [(0, .ref (g_ad G 38)), (1, .int (nI j)), (2, .int 5), (3, .int 1), (4, .int x)]) (by decide) (Nat.le_of_ble_eq_true rfl) rfl ?_
  refine a_iload_n 2 1 rfl dX12_runs_0 rfl rfl ?_
  refine a_istore (lv' := [(5, .int 5), (0, .ref (g_ad G 38)), (1, .int (nI j)), (2, .int 5), (3, .int 1), (4, .int x)]) 3 rfl dX12_runs_1 (by decide) rfl ?_
  refine a_iload 0 5 rfl dX12_runs_3 rfl ?_
  refine a_iload_n 4 6 rfl dX12_runs_5 rfl rfl ?_
  refine a_callS (as := [.int 5, .int 1]) (rest := []) (st2 := [.int 0]) (u1 := 0) (v1 := 0) (u2 := 0) (v2 := 0) (r_body5_1) oX12_body q_1630 q_1631 rfl (by omega) (by decide) rfl (Nat.le_of_ble_eq_true rfl) 9 rfl dX12_runs_6 rfl ?_
  refine a_if_ne 22 12 rfl dX12_runs_9 (by decide) (fun hc => absurd (rfl) hc) (fun _ => ?_)
  refine a_iload 0 14 rfl dX12_runs_12 rfl ?_
  refine a_callS (as := [.int 5]) (rest := []) (st2 := [.int 2]) (u1 := 0) (v1 := 0) (u2 := 0) (v2 := 0) (r_above5) oX12_above q_1633 q_1634 rfl (by omega) (by decide) rfl (Nat.le_of_ble_eq_true rfl) 17 rfl dX12_runs_14 rfl ?_
  refine a_istore (lv' := [(5, .int 2), (0, .ref (g_ad G 38)), (1, .int (nI j)), (2, .int 5), (3, .int 1), (4, .int x)]) 19 rfl dX12_runs_17 (by decide) rfl ?_
  refine a_goto 3 dX12_runs_19 (by decide) ?_
  refine a_iload 0 5 rfl dX12_runs_3 rfl ?_
  refine a_iload_n 4 6 rfl dX12_runs_5 rfl rfl ?_
  refine a_callS (as := [.int 2, .int 1]) (rest := []) (st2 := [.int 0]) (u1 := 0) (v1 := 0) (u2 := 0) (v2 := 0) (r_body2_1) oX12_body q_1630 q_1631 rfl (by omega) (by decide) rfl (Nat.le_of_ble_eq_true rfl) 9 rfl dX12_runs_6 rfl ?_
  refine a_if_ne 22 12 rfl dX12_runs_9 (by decide) (fun hc => absurd (rfl) hc) (fun _ => ?_)
  refine a_iload 0 14 rfl dX12_runs_12 rfl ?_
  refine a_callS (as := [.int 2]) (rest := []) (st2 := [.int 0]) (u1 := 0) (v1 := 0) (u2 := 0) (v2 := 0) (r_above2) oX12_above q_1633 q_1634 rfl (by omega) (by decide) rfl (Nat.le_of_ble_eq_true rfl) 17 rfl dX12_runs_14 rfl ?_
  refine a_istore (lv' := [(5, .int 0), (0, .ref (g_ad G 38)), (1, .int (nI j)), (2, .int 5), (3, .int 1), (4, .int x)]) 19 rfl dX12_runs_17 (by decide) rfl ?_
  refine a_goto 3 dX12_runs_19 (by decide) ?_
  refine a_iload 0 5 rfl dX12_runs_3 rfl ?_
  refine a_iload_n 4 6 rfl dX12_runs_5 rfl rfl ?_
  refine a_callS (as := [.int 0, .int 1]) (rest := []) (st2 := [.int 11]) (u1 := 0) (v1 := 0) (u2 := 0) (v2 := 0) (r_body0_1) oX12_body q_1630 q_1631 rfl (by omega) (by decide) rfl (Nat.le_of_ble_eq_true rfl) 9 rfl dX12_runs_6 rfl ?_
  refine a_if_ne 22 12 rfl dX12_runs_9 (by decide) (fun _ => ?_) (fun hc => absurd hc ((by decide)))
  refine a_iload 0 24 rfl dX12_runs_22 rfl ?_
  refine a_iload_n 4 25 rfl dX12_runs_24 rfl rfl ?_
  refine a_callS (as := [.int 0, .int 1]) (rest := []) (st2 := [.int 11]) (u1 := 0) (v1 := 0) (u2 := 0) (v2 := 0) (r_body0_1) oX12_body q_1630 q_1631 rfl (by omega) (by decide) rfl (Nat.le_of_ble_eq_true rfl) 28 rfl dX12_runs_25 rfl ?_
  refine a_istore (lv' := [(6, .int 11), (5, .int 0), (0, .ref (g_ad G 38)), (1, .int (nI j)), (2, .int 5), (3, .int 1), (4, .int x)]) 30 rfl dX12_runs_28 (by decide) rfl ?_
  refine a_aload_n 2 31 rfl dX12_runs_30 rfl rfl ?_
  refine a_get 42 cl_11 f_RX12_352_11 (by decide) (rfl) rfl 34 rfl dX12_runs_31 ?_
  refine a_bipush (x := 24) 36 rfl dX12_runs_34 (by decide) ?_
  refine a_icmp_ge 60 39 rfl dX12_runs_36 (by decide) (fun hc => absurd hc (nI_ge (a := m) (b := 24) (by omega) (by omega))) (fun _ => ?_)
  refine a_aload_n 2 40 rfl dX12_runs_39 rfl rfl ?_
  refine a_get 41 cl_11 f_RX12_92_11 (by decide) (rfl) rfl 43 rfl dX12_runs_40 ?_
  refine a_aload_n 2 44 rfl dX12_runs_43 rfl rfl ?_
  refine a_get 42 cl_11 f_RX12_352_11 (by decide) (rfl) rfl 47 rfl dX12_runs_44 ?_
  refine a_iload 0 49 rfl dX12_runs_47 rfl ?_
  refine a_iast (rfl) (vp_in_nI (n := m) (by omega) (by omega)) 50 rfl dX12_runs_49 ?_
  refine a_eq (h2 := g_hp G C (g_hm G (f_mI (f_mn M 12 m) 17 (upd R m (nI 11))) ++ ob)) rfl rfl rfl (by show (((g_hp G C (g_hm G (f_mn (f_mI M 17 R) 12 m) ++ ob)).set 62 (c_I G 24 (upd R (nI m).toNatClampNeg 11))) : List va_E) = _; rw [hcl]; rfl) ?_
  refine a_aload_n 2 51 rfl dX12_runs_50 rfl rfl ?_
  refine a_dup 52 rfl dX12_runs_51 rfl ?_
  refine a_get 42 cl_11 f_RX12_352_11 (by decide) (rfl) rfl 55 rfl dX12_runs_52 ?_
  refine a_iconst (x := 1) 56 rfl dX12_runs_55 (by decide) ?_
  refine a_iadd 57 rfl dX12_runs_56 ?_
  refine a_eq (st2 := [.int (nI (m + 1)), .ref (g_ad G 38)]) rfl rfl (congrArg (fun z9 => Value.int z9 :: [.ref (g_ad G 38)]) (nI_add m 1)) rfl ?_
  refine a_put (fs' := [.int (nI (M.1 0)), .int (nI (M.1 1)), .int (nI (M.1 2)), .int (nI (M.1 3)), .ref (g_ad G 39), .ref (g_ad G 40), .ref (g_ad G 41), .ref (g_ad G 42), .ref (g_ad G 43), .ref (g_ad G 44), .int (M.2.1 0), .ref (g_ad G 45), .int (nI (M.1 4)), .int (nI (M.1 5)), .int (M.2.1 1), .int (M.2.1 2), .long (M.2.2.1 0), .ref (g_ad G 46), .ref (g_ad G 47), .ref (g_ad G 48), .int (nI (M.1 6)), .long (M.2.2.1 1), .int (nI (M.1 7)), .int (nI (M.1 8)), .ref (g_ad G 49), .ref (g_ad G 50), .int (nI (M.1 9)), .int (nI (M.1 10)), .int (nI (M.1 11)), .long (M.2.2.1 2), .ref (g_ad G 51), .ref (g_ad G 52), .ref (g_ad G 53), .ref (g_ad G 54), .ref (g_ad G 55), .ref (g_ad G 56), .ref (g_ad G 57), .ref (g_ad G 58), .ref (g_ad G 59), .ref (g_ad G 60), .ref (g_ad G 61), .ref (g_ad G 62), .int (nI (m + 1))]) 42 cl_11 f_RX12_352_11 (by decide) (rfl) rfl rfl rfl (Nat.le_of_ble_eq_true rfl) rfl 60 rfl dX12_runs_57 ?_
  refine a_eq (h2 := g_hp G C (g_hm G (f_mn (f_mI M 17 (upd R m (nI 11))) 12 (m + 1)) ++ ob)) rfl rfl rfl (rfl) ?_
  refine a_iload 1 62 rfl dX12_runs_60 rfl ?_
  refine a_callS (as := [.int 0]) (rest := []) (st2 := [.int ((-1))]) (u1 := 0) (v1 := 0) (u2 := 0) (v2 := 0) (r_above0) oX12_above q_1633 q_1634 rfl (by omega) (by decide) rfl (Nat.le_of_ble_eq_true rfl) 65 rfl dX12_runs_62 rfl ?_
  refine a_istore (lv' := [(7, .int ((-1))), (6, .int 11), (5, .int 0), (0, .ref (g_ad G 38)), (1, .int (nI j)), (2, .int 5), (3, .int 1), (4, .int x)]) 67 rfl dX12_runs_65 (by decide) rfl ?_
  refine a_iconst (x := 0) 68 rfl dX12_runs_67 (by decide) ?_
  refine a_istore (lv' := [(8, .int 0), (7, .int ((-1))), (6, .int 11), (5, .int 0), (0, .ref (g_ad G 38)), (1, .int (nI j)), (2, .int 5), (3, .int 1), (4, .int x)]) 70 rfl dX12_runs_68 (by decide) rfl ?_
  refine a_iload 2 72 rfl dX12_runs_70 rfl ?_
  refine a_lookup (off := 81) 153 dX12_runs_72 (by decide) (by decide) (by decide) ?_
  refine a_aload_n 4 154 rfl dX12_runs_153 rfl rfl ?_
  refine a_iload_n 5 155 rfl dX12_runs_154 rfl rfl ?_
  refine a_aload_n 4 156 rfl dX12_runs_155 rfl rfl ?_
  refine a_get 4 cl_11 f_RX12_15_11 (by decide) (rfl) rfl 159 rfl dX12_runs_156 ?_
  refine a_iload_n 5 160 rfl dX12_runs_159 rfl rfl ?_
  refine a_iald (rfl) (vp_in_nI (n := j) (by omega) (by omega)) 161 rfl dX12_runs_160 ?_
  refine a_eq (st2 := [.int ((M.2.2.2.1 0) j), .int (nI j), .ref (g_ad G 38)]) rfl rfl (congrArg (fun z9 => Value.int z9 :: [.int (nI j), .ref (g_ad G 38)]) (congrArg (M.2.2.2.1 0) (g_cl (by omega)))) rfl ?_
  refine a_eq (st2 := [.int (nI k9), .int (nI j), .ref (g_ad G 38)]) rfl rfl (congrArg (fun z9 => Value.int z9 :: [.int (nI j), .ref (g_ad G 38)]) (hk)) rfl ?_
  refine a_iconst (x := 0) 162 rfl dX12_runs_161 (by decide) ?_
  refine a_iload 8 164 rfl dX12_runs_162 rfl ?_
  refine a_callV (as := [.int (nI j), .int (nI k9), .int 0, .int x]) (rest := []) (st2 := [.int (f_grows k9 x (nI j))]) (u1 := 0) (v1 := 0) (u2 := 0) (v2 := 0) ((r_rn0 (d := 4) (k := k9) (R := upd R m (nI 11)) (m := m + 1) (x := x) (by omega) hj hk hf hk9 (by omega) rfl hk9)) (⟨_, _, _, _, rfl, rfl⟩) oX12_runs q_1626 q_1628 q_117 rfl (by omega) (by decide) rfl (Nat.le_of_ble_eq_true rfl) 167 rfl dX12_runs_164 rfl ?_
  refine a_iconst (x := 2) 168 rfl dX12_runs_167 (by decide) ?_
  refine a_imul 169 rfl dX12_runs_168 ?_
  exact a_ireturn .int rfl rfl (rfl) ((congrArg (fun z9 => g_hp G C (g_hm G z9 ++ ob)) f_tr1)) dX12_runs_169
theorem r_rn1 {d : Nat} {q9 : Int32} (hd : 6 ≤ d) (hj : j < 8) (hk : M.2.2.2.1 0 j = nI k9) (hf : M.2.2.2.1 1 j = fg) (hk9 : k9 < 6) (hm : m ≤ 15) (hq : q9 = nI k) (hk6 : k < 6) : g_Run G mX12_runs d 0 0 [.ref (g_ad G 38), .int (nI j), .int q9, .int 1, .int x] (g_hp G C (g_hm G (f_mn (f_mI M 17 (R)) 12 (m)) ++ ob)) (some (.int (f_turns k k9 x (nI j)))) (g_hp G C (g_hm G (f_mn (f_mI M 17 (f_lay R m (l_turns k k9))) 12 (m + (l_turns k k9).length)) ++ ob)) := by
  subst hq
  match k, hk6 with
  | 0, _ => exact r_rn1_0 (by omega) hj hk hf hk9 (by omega)
  | 1, _ => exact r_rn1_1 (by omega) hj hk hf hk9 (by omega)
  | 2, _ => exact r_rn1_2 (by omega) hj hk hf hk9 (by omega)
  | 3, _ => exact r_rn1_3 (by omega) hj hk hf hk9 (by omega)
  | 4, _ => exact r_rn1_4 (by omega) hj hk hf hk9 (by omega)
  | 5, _ => exact r_rn1_5 (by omega) hj hk hf hk9 (by omega)
theorem r_rn2_0 {d : Nat} (hd : 7 ≤ d) (hj : j < 8) (hk : M.2.2.2.1 0 j = nI k9) (hf : M.2.2.2.1 1 j = fg) (hk9 : k9 < 6) (hm : m ≤ 14) : g_Run G mX12_runs d 0 0 [.ref (g_ad G 38), .int (nI j), .int 0, .int 2, .int x] (g_hp G C (g_hm G (f_mn (f_mI M 17 (R)) 12 (m)) ++ ob)) (some (.int (f_tells 0 k9 x (nI j) fg))) (g_hp G C (g_hm G (f_mn (f_mI M 17 (f_lay R m (l_tells 0 k9))) 12 (m + (l_tells 0 k9).length)) ++ ob)) := by
  have hcl : (nI m).toNatClampNeg = m := g_cl (by omega)
  refine g_Run.of (lv := [(0, .ref (g_ad G 38)), (1, .int (nI j)), (2, .int 0), (3, .int 2), (4, .int x)]) (by decide) (Nat.le_of_ble_eq_true rfl) rfl ?_
  refine a_iload_n 2 1 rfl dX12_runs_0 rfl rfl ?_
  refine a_istore (lv' := [(5, .int 0), (0, .ref (g_ad G 38)), (1, .int (nI j)), (2, .int 0), (3, .int 2), (4, .int x)]) 3 rfl dX12_runs_1 (by decide) rfl ?_
  refine a_iload 0 5 rfl dX12_runs_3 rfl ?_
  refine a_iload_n 4 6 rfl dX12_runs_5 rfl rfl ?_
  refine a_callS (as := [.int 0, .int 2]) (rest := []) (st2 := [.int 12]) (u1 := 0) (v1 := 0) (u2 := 0) (v2 := 0) (r_body0_2) oX12_body q_1630 q_1631 rfl (by omega) (by decide) rfl (Nat.le_of_ble_eq_true rfl) 9 rfl dX12_runs_6 rfl ?_
  refine a_if_ne 22 12 rfl dX12_runs_9 (by decide) (fun _ => ?_) (fun hc => absurd hc ((by decide)))
  refine a_iload 0 24 rfl dX12_runs_22 rfl ?_
  refine a_iload_n 4 25 rfl dX12_runs_24 rfl rfl ?_
  refine a_callS (as := [.int 0, .int 2]) (rest := []) (st2 := [.int 12]) (u1 := 0) (v1 := 0) (u2 := 0) (v2 := 0) (r_body0_2) oX12_body q_1630 q_1631 rfl (by omega) (by decide) rfl (Nat.le_of_ble_eq_true rfl) 28 rfl dX12_runs_25 rfl ?_
  refine a_istore (lv' := [(6, .int 12), (5, .int 0), (0, .ref (g_ad G 38)), (1, .int (nI j)), (2, .int 0), (3, .int 2), (4, .int x)]) 30 rfl dX12_runs_28 (by decide) rfl ?_
  refine a_aload_n 2 31 rfl dX12_runs_30 rfl rfl ?_
  refine a_get 42 cl_11 f_RX12_352_11 (by decide) (rfl) rfl 34 rfl dX12_runs_31 ?_
  refine a_bipush (x := 24) 36 rfl dX12_runs_34 (by decide) ?_
  refine a_icmp_ge 60 39 rfl dX12_runs_36 (by decide) (fun hc => absurd hc (nI_ge (a := m) (b := 24) (by omega) (by omega))) (fun _ => ?_)
  refine a_aload_n 2 40 rfl dX12_runs_39 rfl rfl ?_
  refine a_get 41 cl_11 f_RX12_92_11 (by decide) (rfl) rfl 43 rfl dX12_runs_40 ?_
  refine a_aload_n 2 44 rfl dX12_runs_43 rfl rfl ?_
  refine a_get 42 cl_11 f_RX12_352_11 (by decide) (rfl) rfl 47 rfl dX12_runs_44 ?_
  refine a_iload 0 49 rfl dX12_runs_47 rfl ?_
  refine a_iast (rfl) (vp_in_nI (n := m) (by omega) (by omega)) 50 rfl dX12_runs_49 ?_
  refine a_eq (h2 := g_hp G C (g_hm G (f_mI (f_mn M 12 m) 17 (upd R m (nI 12))) ++ ob)) rfl rfl rfl (by show (((g_hp G C (g_hm G (f_mn (f_mI M 17 R) 12 m) ++ ob)).set 62 (c_I G 24 (upd R (nI m).toNatClampNeg 12))) : List va_E) = _; rw [hcl]; rfl) ?_
  refine a_aload_n 2 51 rfl dX12_runs_50 rfl rfl ?_
  refine a_dup 52 rfl dX12_runs_51 rfl ?_
  refine a_get 42 cl_11 f_RX12_352_11 (by decide) (rfl) rfl 55 rfl dX12_runs_52 ?_
  refine a_iconst (x := 1) 56 rfl dX12_runs_55 (by decide) ?_
  refine a_iadd 57 rfl dX12_runs_56 ?_
  refine a_eq (st2 := [.int (nI (m + 1)), .ref (g_ad G 38)]) rfl rfl (congrArg (fun z9 => Value.int z9 :: [.ref (g_ad G 38)]) (nI_add m 1)) rfl ?_
  refine a_put (fs' := [.int (nI (M.1 0)), .int (nI (M.1 1)), .int (nI (M.1 2)), .int (nI (M.1 3)), .ref (g_ad G 39), .ref (g_ad G 40), .ref (g_ad G 41), .ref (g_ad G 42), .ref (g_ad G 43), .ref (g_ad G 44), .int (M.2.1 0), .ref (g_ad G 45), .int (nI (M.1 4)), .int (nI (M.1 5)), .int (M.2.1 1), .int (M.2.1 2), .long (M.2.2.1 0), .ref (g_ad G 46), .ref (g_ad G 47), .ref (g_ad G 48), .int (nI (M.1 6)), .long (M.2.2.1 1), .int (nI (M.1 7)), .int (nI (M.1 8)), .ref (g_ad G 49), .ref (g_ad G 50), .int (nI (M.1 9)), .int (nI (M.1 10)), .int (nI (M.1 11)), .long (M.2.2.1 2), .ref (g_ad G 51), .ref (g_ad G 52), .ref (g_ad G 53), .ref (g_ad G 54), .ref (g_ad G 55), .ref (g_ad G 56), .ref (g_ad G 57), .ref (g_ad G 58), .ref (g_ad G 59), .ref (g_ad G 60), .ref (g_ad G 61), .ref (g_ad G 62), .int (nI (m + 1))]) 42 cl_11 f_RX12_352_11 (by decide) (rfl) rfl rfl rfl (Nat.le_of_ble_eq_true rfl) rfl 60 rfl dX12_runs_57 ?_
  refine a_eq (h2 := g_hp G C (g_hm G (f_mn (f_mI M 17 (upd R m (nI 12))) 12 (m + 1)) ++ ob)) rfl rfl rfl (rfl) ?_
  refine a_iload 1 62 rfl dX12_runs_60 rfl ?_
  refine a_callS (as := [.int 0]) (rest := []) (st2 := [.int ((-1))]) (u1 := 0) (v1 := 0) (u2 := 0) (v2 := 0) (r_above0) oX12_above q_1633 q_1634 rfl (by omega) (by decide) rfl (Nat.le_of_ble_eq_true rfl) 65 rfl dX12_runs_62 rfl ?_
  refine a_istore (lv' := [(7, .int ((-1))), (6, .int 12), (5, .int 0), (0, .ref (g_ad G 38)), (1, .int (nI j)), (2, .int 0), (3, .int 2), (4, .int x)]) 67 rfl dX12_runs_65 (by decide) rfl ?_
  refine a_iconst (x := 0) 68 rfl dX12_runs_67 (by decide) ?_
  refine a_istore (lv' := [(8, .int 0), (7, .int ((-1))), (6, .int 12), (5, .int 0), (0, .ref (g_ad G 38)), (1, .int (nI j)), (2, .int 0), (3, .int 2), (4, .int x)]) 70 rfl dX12_runs_68 (by decide) rfl ?_
  refine a_iload 2 72 rfl dX12_runs_70 rfl ?_
  refine a_lookup (off := 98) 170 dX12_runs_72 (by decide) (by decide) (by decide) ?_
  refine a_aload_n 4 171 rfl dX12_runs_170 rfl rfl ?_
  refine a_iload_n 5 172 rfl dX12_runs_171 rfl rfl ?_
  refine a_aload_n 4 173 rfl dX12_runs_172 rfl rfl ?_
  refine a_get 4 cl_11 f_RX12_15_11 (by decide) (rfl) rfl 176 rfl dX12_runs_173 ?_
  refine a_iload_n 5 177 rfl dX12_runs_176 rfl rfl ?_
  refine a_iald (rfl) (vp_in_nI (n := j) (by omega) (by omega)) 178 rfl dX12_runs_177 ?_
  refine a_eq (st2 := [.int ((M.2.2.2.1 0) j), .int (nI j), .ref (g_ad G 38)]) rfl rfl (congrArg (fun z9 => Value.int z9 :: [.int (nI j), .ref (g_ad G 38)]) (congrArg (M.2.2.2.1 0) (g_cl (by omega)))) rfl ?_
  refine a_eq (st2 := [.int (nI k9), .int (nI j), .ref (g_ad G 38)]) rfl rfl (congrArg (fun z9 => Value.int z9 :: [.int (nI j), .ref (g_ad G 38)]) (hk)) rfl ?_
  refine a_iconst (x := 1) 179 rfl dX12_runs_178 (by decide) ?_
  refine a_iload 8 181 rfl dX12_runs_179 rfl ?_
  refine a_callV (as := [.int (nI j), .int (nI k9), .int 1, .int x]) (rest := []) (st2 := [.int (f_turns k9 k9 x (nI j))]) (u1 := 0) (v1 := 0) (u2 := 0) (v2 := 0) ((r_rn1 (d := 6) (k := k9) (R := upd R m (nI 12)) (m := m + 1) (x := x) (by omega) hj hk hf hk9 (by omega) rfl hk9)) (⟨_, _, _, _, rfl, rfl⟩) oX12_runs q_1626 q_1628 q_117 rfl (by omega) (by decide) rfl (Nat.le_of_ble_eq_true rfl) 184 rfl dX12_runs_181 rfl ?_
  refine a_aload_n 4 185 rfl dX12_runs_184 rfl rfl ?_
  refine a_get 5 cl_11 f_RX12_19_11 (by decide) (rfl) rfl 188 rfl dX12_runs_185 ?_
  refine a_iload_n 5 189 rfl dX12_runs_188 rfl rfl ?_
  refine a_iald (rfl) (vp_in_nI (n := j) (by omega) (by omega)) 190 rfl dX12_runs_189 ?_
  refine a_eq (st2 := [.int ((M.2.2.2.1 1) j), .int (f_turns k9 k9 x (nI j))]) rfl rfl (congrArg (fun z9 => Value.int z9 :: [.int (f_turns k9 k9 x (nI j))]) (congrArg (M.2.2.2.1 1) (g_cl (by omega)))) rfl ?_
  refine a_eq (st2 := [.int fg, .int (f_turns k9 k9 x (nI j))]) rfl rfl (congrArg (fun z9 => Value.int z9 :: [.int (f_turns k9 k9 x (nI j))]) (hf)) rfl ?_
  refine a_isub 191 rfl dX12_runs_190 ?_
  exact a_ireturn .int rfl rfl (rfl) ((congrArg (fun z9 => g_hp G C (g_hm G z9 ++ ob)) f_tr1)) dX12_runs_191
theorem r_rn2_1 {d : Nat} (hd : 7 ≤ d) (hj : j < 8) (hk : M.2.2.2.1 0 j = nI k9) (hf : M.2.2.2.1 1 j = fg) (hk9 : k9 < 6) (hm : m ≤ 14) : g_Run G mX12_runs d 0 0 [.ref (g_ad G 38), .int (nI j), .int 1, .int 2, .int x] (g_hp G C (g_hm G (f_mn (f_mI M 17 (R)) 12 (m)) ++ ob)) (some (.int (f_tells 1 k9 x (nI j) fg))) (g_hp G C (g_hm G (f_mn (f_mI M 17 (f_lay R m (l_tells 1 k9))) 12 (m + (l_tells 1 k9).length)) ++ ob)) := by
  have hcl : (nI m).toNatClampNeg = m := g_cl (by omega)
  refine g_Run.of (lv := [(0, .ref (g_ad G 38)), (1, .int (nI j)), (2, .int 1), (3, .int 2), (4, .int x)]) (by decide) (Nat.le_of_ble_eq_true rfl) rfl ?_
  refine a_iload_n 2 1 rfl dX12_runs_0 rfl rfl ?_
  refine a_istore (lv' := [(5, .int 1), (0, .ref (g_ad G 38)), (1, .int (nI j)), (2, .int 1), (3, .int 2), (4, .int x)]) 3 rfl dX12_runs_1 (by decide) rfl ?_
  refine a_iload 0 5 rfl dX12_runs_3 rfl ?_
  refine a_iload_n 4 6 rfl dX12_runs_5 rfl rfl ?_
  refine a_callS (as := [.int 1, .int 2]) (rest := []) (st2 := [.int 0]) (u1 := 0) (v1 := 0) (u2 := 0) (v2 := 0) (r_body1_2) oX12_body q_1630 q_1631 rfl (by omega) (by decide) rfl (Nat.le_of_ble_eq_true rfl) 9 rfl dX12_runs_6 rfl ?_
  refine a_if_ne 22 12 rfl dX12_runs_9 (by decide) (fun hc => absurd (rfl) hc) (fun _ => ?_)
  refine a_iload 0 14 rfl dX12_runs_12 rfl ?_
  refine a_callS (as := [.int 1]) (rest := []) (st2 := [.int 0]) (u1 := 0) (v1 := 0) (u2 := 0) (v2 := 0) (r_above1) oX12_above q_1633 q_1634 rfl (by omega) (by decide) rfl (Nat.le_of_ble_eq_true rfl) 17 rfl dX12_runs_14 rfl ?_
  refine a_istore (lv' := [(5, .int 0), (0, .ref (g_ad G 38)), (1, .int (nI j)), (2, .int 1), (3, .int 2), (4, .int x)]) 19 rfl dX12_runs_17 (by decide) rfl ?_
  refine a_goto 3 dX12_runs_19 (by decide) ?_
  refine a_iload 0 5 rfl dX12_runs_3 rfl ?_
  refine a_iload_n 4 6 rfl dX12_runs_5 rfl rfl ?_
  refine a_callS (as := [.int 0, .int 2]) (rest := []) (st2 := [.int 12]) (u1 := 0) (v1 := 0) (u2 := 0) (v2 := 0) (r_body0_2) oX12_body q_1630 q_1631 rfl (by omega) (by decide) rfl (Nat.le_of_ble_eq_true rfl) 9 rfl dX12_runs_6 rfl ?_
  refine a_if_ne 22 12 rfl dX12_runs_9 (by decide) (fun _ => ?_) (fun hc => absurd hc ((by decide)))
  refine a_iload 0 24 rfl dX12_runs_22 rfl ?_
  refine a_iload_n 4 25 rfl dX12_runs_24 rfl rfl ?_
  refine a_callS (as := [.int 0, .int 2]) (rest := []) (st2 := [.int 12]) (u1 := 0) (v1 := 0) (u2 := 0) (v2 := 0) (r_body0_2) oX12_body q_1630 q_1631 rfl (by omega) (by decide) rfl (Nat.le_of_ble_eq_true rfl) 28 rfl dX12_runs_25 rfl ?_
  refine a_istore (lv' := [(6, .int 12), (5, .int 0), (0, .ref (g_ad G 38)), (1, .int (nI j)), (2, .int 1), (3, .int 2), (4, .int x)]) 30 rfl dX12_runs_28 (by decide) rfl ?_
  refine a_aload_n 2 31 rfl dX12_runs_30 rfl rfl ?_
  refine a_get 42 cl_11 f_RX12_352_11 (by decide) (rfl) rfl 34 rfl dX12_runs_31 ?_
  refine a_bipush (x := 24) 36 rfl dX12_runs_34 (by decide) ?_
  refine a_icmp_ge 60 39 rfl dX12_runs_36 (by decide) (fun hc => absurd hc (nI_ge (a := m) (b := 24) (by omega) (by omega))) (fun _ => ?_)
  refine a_aload_n 2 40 rfl dX12_runs_39 rfl rfl ?_
  refine a_get 41 cl_11 f_RX12_92_11 (by decide) (rfl) rfl 43 rfl dX12_runs_40 ?_
  refine a_aload_n 2 44 rfl dX12_runs_43 rfl rfl ?_
  refine a_get 42 cl_11 f_RX12_352_11 (by decide) (rfl) rfl 47 rfl dX12_runs_44 ?_
  refine a_iload 0 49 rfl dX12_runs_47 rfl ?_
  refine a_iast (rfl) (vp_in_nI (n := m) (by omega) (by omega)) 50 rfl dX12_runs_49 ?_
  refine a_eq (h2 := g_hp G C (g_hm G (f_mI (f_mn M 12 m) 17 (upd R m (nI 12))) ++ ob)) rfl rfl rfl (by show (((g_hp G C (g_hm G (f_mn (f_mI M 17 R) 12 m) ++ ob)).set 62 (c_I G 24 (upd R (nI m).toNatClampNeg 12))) : List va_E) = _; rw [hcl]; rfl) ?_
  refine a_aload_n 2 51 rfl dX12_runs_50 rfl rfl ?_
  refine a_dup 52 rfl dX12_runs_51 rfl ?_
  refine a_get 42 cl_11 f_RX12_352_11 (by decide) (rfl) rfl 55 rfl dX12_runs_52 ?_
  refine a_iconst (x := 1) 56 rfl dX12_runs_55 (by decide) ?_
  refine a_iadd 57 rfl dX12_runs_56 ?_
  refine a_eq (st2 := [.int (nI (m + 1)), .ref (g_ad G 38)]) rfl rfl (congrArg (fun z9 => Value.int z9 :: [.ref (g_ad G 38)]) (nI_add m 1)) rfl ?_
  refine a_put (fs' := [.int (nI (M.1 0)), .int (nI (M.1 1)), .int (nI (M.1 2)), .int (nI (M.1 3)), .ref (g_ad G 39), .ref (g_ad G 40), .ref (g_ad G 41), .ref (g_ad G 42), .ref (g_ad G 43), .ref (g_ad G 44), .int (M.2.1 0), .ref (g_ad G 45), .int (nI (M.1 4)), .int (nI (M.1 5)), .int (M.2.1 1), .int (M.2.1 2), .long (M.2.2.1 0), .ref (g_ad G 46), .ref (g_ad G 47), .ref (g_ad G 48), .int (nI (M.1 6)), .long (M.2.2.1 1), .int (nI (M.1 7)), .int (nI (M.1 8)), .ref (g_ad G 49), .ref (g_ad G 50), .int (nI (M.1 9)), .int (nI (M.1 10)), .int (nI (M.1 11)), .long (M.2.2.1 2), .ref (g_ad G 51), .ref (g_ad G 52), .ref (g_ad G 53), .ref (g_ad G 54), .ref (g_ad G 55), .ref (g_ad G 56), .ref (g_ad G 57), .ref (g_ad G 58), .ref (g_ad G 59), .ref (g_ad G 60), .ref (g_ad G 61), .ref (g_ad G 62), .int (nI (m + 1))]) 42 cl_11 f_RX12_352_11 (by decide) (rfl) rfl rfl rfl (Nat.le_of_ble_eq_true rfl) rfl 60 rfl dX12_runs_57 ?_
  refine a_eq (h2 := g_hp G C (g_hm G (f_mn (f_mI M 17 (upd R m (nI 12))) 12 (m + 1)) ++ ob)) rfl rfl rfl (rfl) ?_
  refine a_iload 1 62 rfl dX12_runs_60 rfl ?_
  refine a_callS (as := [.int 0]) (rest := []) (st2 := [.int ((-1))]) (u1 := 0) (v1 := 0) (u2 := 0) (v2 := 0) (r_above0) oX12_above q_1633 q_1634 rfl (by omega) (by decide) rfl (Nat.le_of_ble_eq_true rfl) 65 rfl dX12_runs_62 rfl ?_
  refine a_istore (lv' := [(7, .int ((-1))), (6, .int 12), (5, .int 0), (0, .ref (g_ad G 38)), (1, .int (nI j)), (2, .int 1), (3, .int 2), (4, .int x)]) 67 rfl dX12_runs_65 (by decide) rfl ?_
  refine a_iconst (x := 0) 68 rfl dX12_runs_67 (by decide) ?_
  refine a_istore (lv' := [(8, .int 0), (7, .int ((-1))), (6, .int 12), (5, .int 0), (0, .ref (g_ad G 38)), (1, .int (nI j)), (2, .int 1), (3, .int 2), (4, .int x)]) 70 rfl dX12_runs_68 (by decide) rfl ?_
  refine a_iload 2 72 rfl dX12_runs_70 rfl ?_
  refine a_lookup (off := 98) 170 dX12_runs_72 (by decide) (by decide) (by decide) ?_
  refine a_aload_n 4 171 rfl dX12_runs_170 rfl rfl ?_
  refine a_iload_n 5 172 rfl dX12_runs_171 rfl rfl ?_
  refine a_aload_n 4 173 rfl dX12_runs_172 rfl rfl ?_
  refine a_get 4 cl_11 f_RX12_15_11 (by decide) (rfl) rfl 176 rfl dX12_runs_173 ?_
  refine a_iload_n 5 177 rfl dX12_runs_176 rfl rfl ?_
  refine a_iald (rfl) (vp_in_nI (n := j) (by omega) (by omega)) 178 rfl dX12_runs_177 ?_
  refine a_eq (st2 := [.int ((M.2.2.2.1 0) j), .int (nI j), .ref (g_ad G 38)]) rfl rfl (congrArg (fun z9 => Value.int z9 :: [.int (nI j), .ref (g_ad G 38)]) (congrArg (M.2.2.2.1 0) (g_cl (by omega)))) rfl ?_
  refine a_eq (st2 := [.int (nI k9), .int (nI j), .ref (g_ad G 38)]) rfl rfl (congrArg (fun z9 => Value.int z9 :: [.int (nI j), .ref (g_ad G 38)]) (hk)) rfl ?_
  refine a_iconst (x := 1) 179 rfl dX12_runs_178 (by decide) ?_
  refine a_iload 8 181 rfl dX12_runs_179 rfl ?_
  refine a_callV (as := [.int (nI j), .int (nI k9), .int 1, .int x]) (rest := []) (st2 := [.int (f_turns k9 k9 x (nI j))]) (u1 := 0) (v1 := 0) (u2 := 0) (v2 := 0) ((r_rn1 (d := 6) (k := k9) (R := upd R m (nI 12)) (m := m + 1) (x := x) (by omega) hj hk hf hk9 (by omega) rfl hk9)) (⟨_, _, _, _, rfl, rfl⟩) oX12_runs q_1626 q_1628 q_117 rfl (by omega) (by decide) rfl (Nat.le_of_ble_eq_true rfl) 184 rfl dX12_runs_181 rfl ?_
  refine a_aload_n 4 185 rfl dX12_runs_184 rfl rfl ?_
  refine a_get 5 cl_11 f_RX12_19_11 (by decide) (rfl) rfl 188 rfl dX12_runs_185 ?_
  refine a_iload_n 5 189 rfl dX12_runs_188 rfl rfl ?_
  refine a_iald (rfl) (vp_in_nI (n := j) (by omega) (by omega)) 190 rfl dX12_runs_189 ?_
  refine a_eq (st2 := [.int ((M.2.2.2.1 1) j), .int (f_turns k9 k9 x (nI j))]) rfl rfl (congrArg (fun z9 => Value.int z9 :: [.int (f_turns k9 k9 x (nI j))]) (congrArg (M.2.2.2.1 1) (g_cl (by omega)))) rfl ?_
  refine a_eq (st2 := [.int fg, .int (f_turns k9 k9 x (nI j))]) rfl rfl (congrArg (fun z9 => Value.int z9 :: [.int (f_turns k9 k9 x (nI j))]) (hf)) rfl ?_
  refine a_isub 191 rfl dX12_runs_190 ?_
  exact a_ireturn .int rfl rfl (rfl) ((congrArg (fun z9 => g_hp G C (g_hm G z9 ++ ob)) f_tr1)) dX12_runs_191
theorem r_rn2_2 {d : Nat} (hd : 7 ≤ d) (hj : j < 8) (hk : M.2.2.2.1 0 j = nI k9) (hf : M.2.2.2.1 1 j = fg) (hk9 : k9 < 6) (hm : m ≤ 14) : g_Run G mX12_runs d 0 0 [.ref (g_ad G 38), .int (nI j), .int 2, .int 2, .int x] (g_hp G C (g_hm G (f_mn (f_mI M 17 (R)) 12 (m)) ++ ob)) (some (.int (f_tells 2 k9 x (nI j) fg))) (g_hp G C (g_hm G (f_mn (f_mI M 17 (f_lay R m (l_tells 2 k9))) 12 (m + (l_tells 2 k9).length)) ++ ob)) := by
  have hcl : (nI m).toNatClampNeg = m := g_cl (by omega)
  refine g_Run.of (lv := [(0, .ref (g_ad G 38)), (1, .int (nI j)), (2, .int 2), (3, .int 2), (4, .int x)]) (by decide) (Nat.le_of_ble_eq_true rfl) rfl ?_
  refine a_iload_n 2 1 rfl dX12_runs_0 rfl rfl ?_
  refine a_istore (lv' := [(5, .int 2), (0, .ref (g_ad G 38)), (1, .int (nI j)), (2, .int 2), (3, .int 2), (4, .int x)]) 3 rfl dX12_runs_1 (by decide) rfl ?_
  refine a_iload 0 5 rfl dX12_runs_3 rfl ?_
  refine a_iload_n 4 6 rfl dX12_runs_5 rfl rfl ?_
  refine a_callS (as := [.int 2, .int 2]) (rest := []) (st2 := [.int 0]) (u1 := 0) (v1 := 0) (u2 := 0) (v2 := 0) (r_body2_2) oX12_body q_1630 q_1631 rfl (by omega) (by decide) rfl (Nat.le_of_ble_eq_true rfl) 9 rfl dX12_runs_6 rfl ?_
  refine a_if_ne 22 12 rfl dX12_runs_9 (by decide) (fun hc => absurd (rfl) hc) (fun _ => ?_)
  refine a_iload 0 14 rfl dX12_runs_12 rfl ?_
  refine a_callS (as := [.int 2]) (rest := []) (st2 := [.int 0]) (u1 := 0) (v1 := 0) (u2 := 0) (v2 := 0) (r_above2) oX12_above q_1633 q_1634 rfl (by omega) (by decide) rfl (Nat.le_of_ble_eq_true rfl) 17 rfl dX12_runs_14 rfl ?_
  refine a_istore (lv' := [(5, .int 0), (0, .ref (g_ad G 38)), (1, .int (nI j)), (2, .int 2), (3, .int 2), (4, .int x)]) 19 rfl dX12_runs_17 (by decide) rfl ?_
  refine a_goto 3 dX12_runs_19 (by decide) ?_
  refine a_iload 0 5 rfl dX12_runs_3 rfl ?_
  refine a_iload_n 4 6 rfl dX12_runs_5 rfl rfl ?_
  refine a_callS (as := [.int 0, .int 2]) (rest := []) (st2 := [.int 12]) (u1 := 0) (v1 := 0) (u2 := 0) (v2 := 0) (r_body0_2) oX12_body q_1630 q_1631 rfl (by omega) (by decide) rfl (Nat.le_of_ble_eq_true rfl) 9 rfl dX12_runs_6 rfl ?_
  refine a_if_ne 22 12 rfl dX12_runs_9 (by decide) (fun _ => ?_) (fun hc => absurd hc ((by decide)))
  refine a_iload 0 24 rfl dX12_runs_22 rfl ?_
  refine a_iload_n 4 25 rfl dX12_runs_24 rfl rfl ?_
  refine a_callS (as := [.int 0, .int 2]) (rest := []) (st2 := [.int 12]) (u1 := 0) (v1 := 0) (u2 := 0) (v2 := 0) (r_body0_2) oX12_body q_1630 q_1631 rfl (by omega) (by decide) rfl (Nat.le_of_ble_eq_true rfl) 28 rfl dX12_runs_25 rfl ?_
  refine a_istore (lv' := [(6, .int 12), (5, .int 0), (0, .ref (g_ad G 38)), (1, .int (nI j)), (2, .int 2), (3, .int 2), (4, .int x)]) 30 rfl dX12_runs_28 (by decide) rfl ?_
  refine a_aload_n 2 31 rfl dX12_runs_30 rfl rfl ?_
  refine a_get 42 cl_11 f_RX12_352_11 (by decide) (rfl) rfl 34 rfl dX12_runs_31 ?_
  refine a_bipush (x := 24) 36 rfl dX12_runs_34 (by decide) ?_
  refine a_icmp_ge 60 39 rfl dX12_runs_36 (by decide) (fun hc => absurd hc (nI_ge (a := m) (b := 24) (by omega) (by omega))) (fun _ => ?_)
  refine a_aload_n 2 40 rfl dX12_runs_39 rfl rfl ?_
  refine a_get 41 cl_11 f_RX12_92_11 (by decide) (rfl) rfl 43 rfl dX12_runs_40 ?_
  refine a_aload_n 2 44 rfl dX12_runs_43 rfl rfl ?_
  refine a_get 42 cl_11 f_RX12_352_11 (by decide) (rfl) rfl 47 rfl dX12_runs_44 ?_
  refine a_iload 0 49 rfl dX12_runs_47 rfl ?_
  refine a_iast (rfl) (vp_in_nI (n := m) (by omega) (by omega)) 50 rfl dX12_runs_49 ?_
  refine a_eq (h2 := g_hp G C (g_hm G (f_mI (f_mn M 12 m) 17 (upd R m (nI 12))) ++ ob)) rfl rfl rfl (by show (((g_hp G C (g_hm G (f_mn (f_mI M 17 R) 12 m) ++ ob)).set 62 (c_I G 24 (upd R (nI m).toNatClampNeg 12))) : List va_E) = _; rw [hcl]; rfl) ?_
  refine a_aload_n 2 51 rfl dX12_runs_50 rfl rfl ?_
  refine a_dup 52 rfl dX12_runs_51 rfl ?_
  refine a_get 42 cl_11 f_RX12_352_11 (by decide) (rfl) rfl 55 rfl dX12_runs_52 ?_
  refine a_iconst (x := 1) 56 rfl dX12_runs_55 (by decide) ?_
  refine a_iadd 57 rfl dX12_runs_56 ?_
  refine a_eq (st2 := [.int (nI (m + 1)), .ref (g_ad G 38)]) rfl rfl (congrArg (fun z9 => Value.int z9 :: [.ref (g_ad G 38)]) (nI_add m 1)) rfl ?_
  refine a_put (fs' := [.int (nI (M.1 0)), .int (nI (M.1 1)), .int (nI (M.1 2)), .int (nI (M.1 3)), .ref (g_ad G 39), .ref (g_ad G 40), .ref (g_ad G 41), .ref (g_ad G 42), .ref (g_ad G 43), .ref (g_ad G 44), .int (M.2.1 0), .ref (g_ad G 45), .int (nI (M.1 4)), .int (nI (M.1 5)), .int (M.2.1 1), .int (M.2.1 2), .long (M.2.2.1 0), .ref (g_ad G 46), .ref (g_ad G 47), .ref (g_ad G 48), .int (nI (M.1 6)), .long (M.2.2.1 1), .int (nI (M.1 7)), .int (nI (M.1 8)), .ref (g_ad G 49), .ref (g_ad G 50), .int (nI (M.1 9)), .int (nI (M.1 10)), .int (nI (M.1 11)), .long (M.2.2.1 2), .ref (g_ad G 51), .ref (g_ad G 52), .ref (g_ad G 53), .ref (g_ad G 54), .ref (g_ad G 55), .ref (g_ad G 56), .ref (g_ad G 57), .ref (g_ad G 58), .ref (g_ad G 59), .ref (g_ad G 60), .ref (g_ad G 61), .ref (g_ad G 62), .int (nI (m + 1))]) 42 cl_11 f_RX12_352_11 (by decide) (rfl) rfl rfl rfl (Nat.le_of_ble_eq_true rfl) rfl 60 rfl dX12_runs_57 ?_
  refine a_eq (h2 := g_hp G C (g_hm G (f_mn (f_mI M 17 (upd R m (nI 12))) 12 (m + 1)) ++ ob)) rfl rfl rfl (rfl) ?_
  refine a_iload 1 62 rfl dX12_runs_60 rfl ?_
  refine a_callS (as := [.int 0]) (rest := []) (st2 := [.int ((-1))]) (u1 := 0) (v1 := 0) (u2 := 0) (v2 := 0) (r_above0) oX12_above q_1633 q_1634 rfl (by omega) (by decide) rfl (Nat.le_of_ble_eq_true rfl) 65 rfl dX12_runs_62 rfl ?_
  refine a_istore (lv' := [(7, .int ((-1))), (6, .int 12), (5, .int 0), (0, .ref (g_ad G 38)), (1, .int (nI j)), (2, .int 2), (3, .int 2), (4, .int x)]) 67 rfl dX12_runs_65 (by decide) rfl ?_
  refine a_iconst (x := 0) 68 rfl dX12_runs_67 (by decide) ?_
  refine a_istore (lv' := [(8, .int 0), (7, .int ((-1))), (6, .int 12), (5, .int 0), (0, .ref (g_ad G 38)), (1, .int (nI j)), (2, .int 2), (3, .int 2), (4, .int x)]) 70 rfl dX12_runs_68 (by decide) rfl ?_
  refine a_iload 2 72 rfl dX12_runs_70 rfl ?_
  refine a_lookup (off := 98) 170 dX12_runs_72 (by decide) (by decide) (by decide) ?_
  refine a_aload_n 4 171 rfl dX12_runs_170 rfl rfl ?_
  refine a_iload_n 5 172 rfl dX12_runs_171 rfl rfl ?_
  refine a_aload_n 4 173 rfl dX12_runs_172 rfl rfl ?_
  refine a_get 4 cl_11 f_RX12_15_11 (by decide) (rfl) rfl 176 rfl dX12_runs_173 ?_
  refine a_iload_n 5 177 rfl dX12_runs_176 rfl rfl ?_
  refine a_iald (rfl) (vp_in_nI (n := j) (by omega) (by omega)) 178 rfl dX12_runs_177 ?_
  refine a_eq (st2 := [.int ((M.2.2.2.1 0) j), .int (nI j), .ref (g_ad G 38)]) rfl rfl (congrArg (fun z9 => Value.int z9 :: [.int (nI j), .ref (g_ad G 38)]) (congrArg (M.2.2.2.1 0) (g_cl (by omega)))) rfl ?_
  refine a_eq (st2 := [.int (nI k9), .int (nI j), .ref (g_ad G 38)]) rfl rfl (congrArg (fun z9 => Value.int z9 :: [.int (nI j), .ref (g_ad G 38)]) (hk)) rfl ?_
  refine a_iconst (x := 1) 179 rfl dX12_runs_178 (by decide) ?_
  refine a_iload 8 181 rfl dX12_runs_179 rfl ?_
  refine a_callV (as := [.int (nI j), .int (nI k9), .int 1, .int x]) (rest := []) (st2 := [.int (f_turns k9 k9 x (nI j))]) (u1 := 0) (v1 := 0) (u2 := 0) (v2 := 0) ((r_rn1 (d := 6) (k := k9) (R := upd R m (nI 12)) (m := m + 1) (x := x) (by omega) hj hk hf hk9 (by omega) rfl hk9)) (⟨_, _, _, _, rfl, rfl⟩) oX12_runs q_1626 q_1628 q_117 rfl (by omega) (by decide) rfl (Nat.le_of_ble_eq_true rfl) 184 rfl dX12_runs_181 rfl ?_
  refine a_aload_n 4 185 rfl dX12_runs_184 rfl rfl ?_
  refine a_get 5 cl_11 f_RX12_19_11 (by decide) (rfl) rfl 188 rfl dX12_runs_185 ?_
  refine a_iload_n 5 189 rfl dX12_runs_188 rfl rfl ?_
  refine a_iald (rfl) (vp_in_nI (n := j) (by omega) (by omega)) 190 rfl dX12_runs_189 ?_
  refine a_eq (st2 := [.int ((M.2.2.2.1 1) j), .int (f_turns k9 k9 x (nI j))]) rfl rfl (congrArg (fun z9 => Value.int z9 :: [.int (f_turns k9 k9 x (nI j))]) (congrArg (M.2.2.2.1 1) (g_cl (by omega)))) rfl ?_
  refine a_eq (st2 := [.int fg, .int (f_turns k9 k9 x (nI j))]) rfl rfl (congrArg (fun z9 => Value.int z9 :: [.int (f_turns k9 k9 x (nI j))]) (hf)) rfl ?_
  refine a_isub 191 rfl dX12_runs_190 ?_
  exact a_ireturn .int rfl rfl (rfl) ((congrArg (fun z9 => g_hp G C (g_hm G z9 ++ ob)) f_tr1)) dX12_runs_191
theorem r_rn2_3 {d : Nat} (hd : 7 ≤ d) (hj : j < 8) (hk : M.2.2.2.1 0 j = nI k9) (hf : M.2.2.2.1 1 j = fg) (hk9 : k9 < 6) (hm : m ≤ 14) : g_Run G mX12_runs d 0 0 [.ref (g_ad G 38), .int (nI j), .int 3, .int 2, .int x] (g_hp G C (g_hm G (f_mn (f_mI M 17 (R)) 12 (m)) ++ ob)) (some (.int (f_tells 3 k9 x (nI j) fg))) (g_hp G C (g_hm G (f_mn (f_mI M 17 (f_lay R m (l_tells 3 k9))) 12 (m + (l_tells 3 k9).length)) ++ ob)) := by
  have hcl : (nI m).toNatClampNeg = m := g_cl (by omega)
  refine g_Run.of (lv := [(0, .ref (g_ad G 38)), (1, .int (nI j)), (2, .int 3), (3, .int 2), (4, .int x)]) (by decide) (Nat.le_of_ble_eq_true rfl) rfl ?_
  refine a_iload_n 2 1 rfl dX12_runs_0 rfl rfl ?_
  refine a_istore (lv' := [(5, .int 3), (0, .ref (g_ad G 38)), (1, .int (nI j)), (2, .int 3), (3, .int 2), (4, .int x)]) 3 rfl dX12_runs_1 (by decide) rfl ?_
  refine a_iload 0 5 rfl dX12_runs_3 rfl ?_
  refine a_iload_n 4 6 rfl dX12_runs_5 rfl rfl ?_
  refine a_callS (as := [.int 3, .int 2]) (rest := []) (st2 := [.int 0]) (u1 := 0) (v1 := 0) (u2 := 0) (v2 := 0) (r_body3_2) oX12_body q_1630 q_1631 rfl (by omega) (by decide) rfl (Nat.le_of_ble_eq_true rfl) 9 rfl dX12_runs_6 rfl ?_
  refine a_if_ne 22 12 rfl dX12_runs_9 (by decide) (fun hc => absurd (rfl) hc) (fun _ => ?_)
  refine a_iload 0 14 rfl dX12_runs_12 rfl ?_
  refine a_callS (as := [.int 3]) (rest := []) (st2 := [.int 0]) (u1 := 0) (v1 := 0) (u2 := 0) (v2 := 0) (r_above3) oX12_above q_1633 q_1634 rfl (by omega) (by decide) rfl (Nat.le_of_ble_eq_true rfl) 17 rfl dX12_runs_14 rfl ?_
  refine a_istore (lv' := [(5, .int 0), (0, .ref (g_ad G 38)), (1, .int (nI j)), (2, .int 3), (3, .int 2), (4, .int x)]) 19 rfl dX12_runs_17 (by decide) rfl ?_
  refine a_goto 3 dX12_runs_19 (by decide) ?_
  refine a_iload 0 5 rfl dX12_runs_3 rfl ?_
  refine a_iload_n 4 6 rfl dX12_runs_5 rfl rfl ?_
  refine a_callS (as := [.int 0, .int 2]) (rest := []) (st2 := [.int 12]) (u1 := 0) (v1 := 0) (u2 := 0) (v2 := 0) (r_body0_2) oX12_body q_1630 q_1631 rfl (by omega) (by decide) rfl (Nat.le_of_ble_eq_true rfl) 9 rfl dX12_runs_6 rfl ?_
  refine a_if_ne 22 12 rfl dX12_runs_9 (by decide) (fun _ => ?_) (fun hc => absurd hc ((by decide)))
  refine a_iload 0 24 rfl dX12_runs_22 rfl ?_
  refine a_iload_n 4 25 rfl dX12_runs_24 rfl rfl ?_
  refine a_callS (as := [.int 0, .int 2]) (rest := []) (st2 := [.int 12]) (u1 := 0) (v1 := 0) (u2 := 0) (v2 := 0) (r_body0_2) oX12_body q_1630 q_1631 rfl (by omega) (by decide) rfl (Nat.le_of_ble_eq_true rfl) 28 rfl dX12_runs_25 rfl ?_
  refine a_istore (lv' := [(6, .int 12), (5, .int 0), (0, .ref (g_ad G 38)), (1, .int (nI j)), (2, .int 3), (3, .int 2), (4, .int x)]) 30 rfl dX12_runs_28 (by decide) rfl ?_
  refine a_aload_n 2 31 rfl dX12_runs_30 rfl rfl ?_
  refine a_get 42 cl_11 f_RX12_352_11 (by decide) (rfl) rfl 34 rfl dX12_runs_31 ?_
  refine a_bipush (x := 24) 36 rfl dX12_runs_34 (by decide) ?_
  refine a_icmp_ge 60 39 rfl dX12_runs_36 (by decide) (fun hc => absurd hc (nI_ge (a := m) (b := 24) (by omega) (by omega))) (fun _ => ?_)
  refine a_aload_n 2 40 rfl dX12_runs_39 rfl rfl ?_
  refine a_get 41 cl_11 f_RX12_92_11 (by decide) (rfl) rfl 43 rfl dX12_runs_40 ?_
  refine a_aload_n 2 44 rfl dX12_runs_43 rfl rfl ?_
  refine a_get 42 cl_11 f_RX12_352_11 (by decide) (rfl) rfl 47 rfl dX12_runs_44 ?_
  refine a_iload 0 49 rfl dX12_runs_47 rfl ?_
  refine a_iast (rfl) (vp_in_nI (n := m) (by omega) (by omega)) 50 rfl dX12_runs_49 ?_
  refine a_eq (h2 := g_hp G C (g_hm G (f_mI (f_mn M 12 m) 17 (upd R m (nI 12))) ++ ob)) rfl rfl rfl (by show (((g_hp G C (g_hm G (f_mn (f_mI M 17 R) 12 m) ++ ob)).set 62 (c_I G 24 (upd R (nI m).toNatClampNeg 12))) : List va_E) = _; rw [hcl]; rfl) ?_
  refine a_aload_n 2 51 rfl dX12_runs_50 rfl rfl ?_
  refine a_dup 52 rfl dX12_runs_51 rfl ?_
  refine a_get 42 cl_11 f_RX12_352_11 (by decide) (rfl) rfl 55 rfl dX12_runs_52 ?_
  refine a_iconst (x := 1) 56 rfl dX12_runs_55 (by decide) ?_
  refine a_iadd 57 rfl dX12_runs_56 ?_
  refine a_eq (st2 := [.int (nI (m + 1)), .ref (g_ad G 38)]) rfl rfl (congrArg (fun z9 => Value.int z9 :: [.ref (g_ad G 38)]) (nI_add m 1)) rfl ?_
  refine a_put (fs' := [.int (nI (M.1 0)), .int (nI (M.1 1)), .int (nI (M.1 2)), .int (nI (M.1 3)), .ref (g_ad G 39), .ref (g_ad G 40), .ref (g_ad G 41), .ref (g_ad G 42), .ref (g_ad G 43), .ref (g_ad G 44), .int (M.2.1 0), .ref (g_ad G 45), .int (nI (M.1 4)), .int (nI (M.1 5)), .int (M.2.1 1), .int (M.2.1 2), .long (M.2.2.1 0), .ref (g_ad G 46), .ref (g_ad G 47), .ref (g_ad G 48), .int (nI (M.1 6)), .long (M.2.2.1 1), .int (nI (M.1 7)), .int (nI (M.1 8)), .ref (g_ad G 49), .ref (g_ad G 50), .int (nI (M.1 9)), .int (nI (M.1 10)), .int (nI (M.1 11)), .long (M.2.2.1 2), .ref (g_ad G 51), .ref (g_ad G 52), .ref (g_ad G 53), .ref (g_ad G 54), .ref (g_ad G 55), .ref (g_ad G 56), .ref (g_ad G 57), .ref (g_ad G 58), .ref (g_ad G 59), .ref (g_ad G 60), .ref (g_ad G 61), .ref (g_ad G 62), .int (nI (m + 1))]) 42 cl_11 f_RX12_352_11 (by decide) (rfl) rfl rfl rfl (Nat.le_of_ble_eq_true rfl) rfl 60 rfl dX12_runs_57 ?_
  refine a_eq (h2 := g_hp G C (g_hm G (f_mn (f_mI M 17 (upd R m (nI 12))) 12 (m + 1)) ++ ob)) rfl rfl rfl (rfl) ?_
  refine a_iload 1 62 rfl dX12_runs_60 rfl ?_
  refine a_callS (as := [.int 0]) (rest := []) (st2 := [.int ((-1))]) (u1 := 0) (v1 := 0) (u2 := 0) (v2 := 0) (r_above0) oX12_above q_1633 q_1634 rfl (by omega) (by decide) rfl (Nat.le_of_ble_eq_true rfl) 65 rfl dX12_runs_62 rfl ?_
  refine a_istore (lv' := [(7, .int ((-1))), (6, .int 12), (5, .int 0), (0, .ref (g_ad G 38)), (1, .int (nI j)), (2, .int 3), (3, .int 2), (4, .int x)]) 67 rfl dX12_runs_65 (by decide) rfl ?_
  refine a_iconst (x := 0) 68 rfl dX12_runs_67 (by decide) ?_
  refine a_istore (lv' := [(8, .int 0), (7, .int ((-1))), (6, .int 12), (5, .int 0), (0, .ref (g_ad G 38)), (1, .int (nI j)), (2, .int 3), (3, .int 2), (4, .int x)]) 70 rfl dX12_runs_68 (by decide) rfl ?_
  refine a_iload 2 72 rfl dX12_runs_70 rfl ?_
  refine a_lookup (off := 98) 170 dX12_runs_72 (by decide) (by decide) (by decide) ?_
  refine a_aload_n 4 171 rfl dX12_runs_170 rfl rfl ?_
  refine a_iload_n 5 172 rfl dX12_runs_171 rfl rfl ?_
  refine a_aload_n 4 173 rfl dX12_runs_172 rfl rfl ?_
  refine a_get 4 cl_11 f_RX12_15_11 (by decide) (rfl) rfl 176 rfl dX12_runs_173 ?_
  refine a_iload_n 5 177 rfl dX12_runs_176 rfl rfl ?_
  refine a_iald (rfl) (vp_in_nI (n := j) (by omega) (by omega)) 178 rfl dX12_runs_177 ?_
  refine a_eq (st2 := [.int ((M.2.2.2.1 0) j), .int (nI j), .ref (g_ad G 38)]) rfl rfl (congrArg (fun z9 => Value.int z9 :: [.int (nI j), .ref (g_ad G 38)]) (congrArg (M.2.2.2.1 0) (g_cl (by omega)))) rfl ?_
  refine a_eq (st2 := [.int (nI k9), .int (nI j), .ref (g_ad G 38)]) rfl rfl (congrArg (fun z9 => Value.int z9 :: [.int (nI j), .ref (g_ad G 38)]) (hk)) rfl ?_
  refine a_iconst (x := 1) 179 rfl dX12_runs_178 (by decide) ?_
  refine a_iload 8 181 rfl dX12_runs_179 rfl ?_
  refine a_callV (as := [.int (nI j), .int (nI k9), .int 1, .int x]) (rest := []) (st2 := [.int (f_turns k9 k9 x (nI j))]) (u1 := 0) (v1 := 0) (u2 := 0) (v2 := 0) ((r_rn1 (d := 6) (k := k9) (R := upd R m (nI 12)) (m := m + 1) (x := x) (by omega) hj hk hf hk9 (by omega) rfl hk9)) (⟨_, _, _, _, rfl, rfl⟩) oX12_runs q_1626 q_1628 q_117 rfl (by omega) (by decide) rfl (Nat.le_of_ble_eq_true rfl) 184 rfl dX12_runs_181 rfl ?_
  refine a_aload_n 4 185 rfl dX12_runs_184 rfl rfl ?_
  refine a_get 5 cl_11 f_RX12_19_11 (by decide) (rfl) rfl 188 rfl dX12_runs_185 ?_
  refine a_iload_n 5 189 rfl dX12_runs_188 rfl rfl ?_
  refine a_iald (rfl) (vp_in_nI (n := j) (by omega) (by omega)) 190 rfl dX12_runs_189 ?_
  refine a_eq (st2 := [.int ((M.2.2.2.1 1) j), .int (f_turns k9 k9 x (nI j))]) rfl rfl (congrArg (fun z9 => Value.int z9 :: [.int (f_turns k9 k9 x (nI j))]) (congrArg (M.2.2.2.1 1) (g_cl (by omega)))) rfl ?_
  refine a_eq (st2 := [.int fg, .int (f_turns k9 k9 x (nI j))]) rfl rfl (congrArg (fun z9 => Value.int z9 :: [.int (f_turns k9 k9 x (nI j))]) (hf)) rfl ?_
  refine a_isub 191 rfl dX12_runs_190 ?_
  exact a_ireturn .int rfl rfl (rfl) ((congrArg (fun z9 => g_hp G C (g_hm G z9 ++ ob)) f_tr1)) dX12_runs_191
theorem r_rn2_4 {d : Nat} (hd : 8 ≤ d) (hj : j < 8) (hk : M.2.2.2.1 0 j = nI k9) (hf : M.2.2.2.1 1 j = fg) (hk9 : k9 < 6) (hm : m ≤ 13) : g_Run G mX12_runs d 0 0 [.ref (g_ad G 38), .int (nI j), .int 4, .int 2, .int x] (g_hp G C (g_hm G (f_mn (f_mI M 17 (R)) 12 (m)) ++ ob)) (some (.int (f_tells 4 k9 x (nI j) fg))) (g_hp G C (g_hm G (f_mn (f_mI M 17 (f_lay R m (l_tells 4 k9))) 12 (m + (l_tells 4 k9).length)) ++ ob)) := by
  have hcl : (nI m).toNatClampNeg = m := g_cl (by omega)
  refine g_Run.of (lv := [(0, .ref (g_ad G 38)), (1, .int (nI j)), (2, .int 4), (3, .int 2), (4, .int x)]) (by decide) (Nat.le_of_ble_eq_true rfl) rfl ?_
  refine a_iload_n 2 1 rfl dX12_runs_0 rfl rfl ?_
  refine a_istore (lv' := [(5, .int 4), (0, .ref (g_ad G 38)), (1, .int (nI j)), (2, .int 4), (3, .int 2), (4, .int x)]) 3 rfl dX12_runs_1 (by decide) rfl ?_
  refine a_iload 0 5 rfl dX12_runs_3 rfl ?_
  refine a_iload_n 4 6 rfl dX12_runs_5 rfl rfl ?_
  refine a_callS (as := [.int 4, .int 2]) (rest := []) (st2 := [.int 60]) (u1 := 0) (v1 := 0) (u2 := 0) (v2 := 0) (r_body4_2) oX12_body q_1630 q_1631 rfl (by omega) (by decide) rfl (Nat.le_of_ble_eq_true rfl) 9 rfl dX12_runs_6 rfl ?_
  refine a_if_ne 22 12 rfl dX12_runs_9 (by decide) (fun _ => ?_) (fun hc => absurd hc ((by decide)))
  refine a_iload 0 24 rfl dX12_runs_22 rfl ?_
  refine a_iload_n 4 25 rfl dX12_runs_24 rfl rfl ?_
  refine a_callS (as := [.int 4, .int 2]) (rest := []) (st2 := [.int 60]) (u1 := 0) (v1 := 0) (u2 := 0) (v2 := 0) (r_body4_2) oX12_body q_1630 q_1631 rfl (by omega) (by decide) rfl (Nat.le_of_ble_eq_true rfl) 28 rfl dX12_runs_25 rfl ?_
  refine a_istore (lv' := [(6, .int 60), (5, .int 4), (0, .ref (g_ad G 38)), (1, .int (nI j)), (2, .int 4), (3, .int 2), (4, .int x)]) 30 rfl dX12_runs_28 (by decide) rfl ?_
  refine a_aload_n 2 31 rfl dX12_runs_30 rfl rfl ?_
  refine a_get 42 cl_11 f_RX12_352_11 (by decide) (rfl) rfl 34 rfl dX12_runs_31 ?_
  refine a_bipush (x := 24) 36 rfl dX12_runs_34 (by decide) ?_
  refine a_icmp_ge 60 39 rfl dX12_runs_36 (by decide) (fun hc => absurd hc (nI_ge (a := m) (b := 24) (by omega) (by omega))) (fun _ => ?_)
  refine a_aload_n 2 40 rfl dX12_runs_39 rfl rfl ?_
  refine a_get 41 cl_11 f_RX12_92_11 (by decide) (rfl) rfl 43 rfl dX12_runs_40 ?_
  refine a_aload_n 2 44 rfl dX12_runs_43 rfl rfl ?_
  refine a_get 42 cl_11 f_RX12_352_11 (by decide) (rfl) rfl 47 rfl dX12_runs_44 ?_
  refine a_iload 0 49 rfl dX12_runs_47 rfl ?_
  refine a_iast (rfl) (vp_in_nI (n := m) (by omega) (by omega)) 50 rfl dX12_runs_49 ?_
  refine a_eq (h2 := g_hp G C (g_hm G (f_mI (f_mn M 12 m) 17 (upd R m (nI 60))) ++ ob)) rfl rfl rfl (by show (((g_hp G C (g_hm G (f_mn (f_mI M 17 R) 12 m) ++ ob)).set 62 (c_I G 24 (upd R (nI m).toNatClampNeg 60))) : List va_E) = _; rw [hcl]; rfl) ?_
  refine a_aload_n 2 51 rfl dX12_runs_50 rfl rfl ?_
  refine a_dup 52 rfl dX12_runs_51 rfl ?_
  refine a_get 42 cl_11 f_RX12_352_11 (by decide) (rfl) rfl 55 rfl dX12_runs_52 ?_
  refine a_iconst (x := 1) 56 rfl dX12_runs_55 (by decide) ?_
  refine a_iadd 57 rfl dX12_runs_56 ?_
  refine a_eq (st2 := [.int (nI (m + 1)), .ref (g_ad G 38)]) rfl rfl (congrArg (fun z9 => Value.int z9 :: [.ref (g_ad G 38)]) (nI_add m 1)) rfl ?_
  refine a_put (fs' := [.int (nI (M.1 0)), .int (nI (M.1 1)), .int (nI (M.1 2)), .int (nI (M.1 3)), .ref (g_ad G 39), .ref (g_ad G 40), .ref (g_ad G 41), .ref (g_ad G 42), .ref (g_ad G 43), .ref (g_ad G 44), .int (M.2.1 0), .ref (g_ad G 45), .int (nI (M.1 4)), .int (nI (M.1 5)), .int (M.2.1 1), .int (M.2.1 2), .long (M.2.2.1 0), .ref (g_ad G 46), .ref (g_ad G 47), .ref (g_ad G 48), .int (nI (M.1 6)), .long (M.2.2.1 1), .int (nI (M.1 7)), .int (nI (M.1 8)), .ref (g_ad G 49), .ref (g_ad G 50), .int (nI (M.1 9)), .int (nI (M.1 10)), .int (nI (M.1 11)), .long (M.2.2.1 2), .ref (g_ad G 51), .ref (g_ad G 52), .ref (g_ad G 53), .ref (g_ad G 54), .ref (g_ad G 55), .ref (g_ad G 56), .ref (g_ad G 57), .ref (g_ad G 58), .ref (g_ad G 59), .ref (g_ad G 60), .ref (g_ad G 61), .ref (g_ad G 62), .int (nI (m + 1))]) 42 cl_11 f_RX12_352_11 (by decide) (rfl) rfl rfl rfl (Nat.le_of_ble_eq_true rfl) rfl 60 rfl dX12_runs_57 ?_
  refine a_eq (h2 := g_hp G C (g_hm G (f_mn (f_mI M 17 (upd R m (nI 60))) 12 (m + 1)) ++ ob)) rfl rfl rfl (rfl) ?_
  refine a_iload 1 62 rfl dX12_runs_60 rfl ?_
  refine a_callS (as := [.int 4]) (rest := []) (st2 := [.int 3]) (u1 := 0) (v1 := 0) (u2 := 0) (v2 := 0) (r_above4) oX12_above q_1633 q_1634 rfl (by omega) (by decide) rfl (Nat.le_of_ble_eq_true rfl) 65 rfl dX12_runs_62 rfl ?_
  refine a_istore (lv' := [(7, .int 3), (6, .int 60), (5, .int 4), (0, .ref (g_ad G 38)), (1, .int (nI j)), (2, .int 4), (3, .int 2), (4, .int x)]) 67 rfl dX12_runs_65 (by decide) rfl ?_
  refine a_iconst (x := 0) 68 rfl dX12_runs_67 (by decide) ?_
  refine a_istore (lv' := [(8, .int 0), (7, .int 3), (6, .int 60), (5, .int 4), (0, .ref (g_ad G 38)), (1, .int (nI j)), (2, .int 4), (3, .int 2), (4, .int x)]) 70 rfl dX12_runs_68 (by decide) rfl ?_
  refine a_iload 2 72 rfl dX12_runs_70 rfl ?_
  refine a_lookup (off := 200) 272 dX12_runs_72 (by decide) (by decide) (by decide) ?_
  refine a_aload_n 4 273 rfl dX12_runs_272 rfl rfl ?_
  refine a_iload_n 5 274 rfl dX12_runs_273 rfl rfl ?_
  refine a_iload 1 276 rfl dX12_runs_274 rfl ?_
  refine a_iconst (x := 2) 277 rfl dX12_runs_276 (by decide) ?_
  refine a_iload 8 279 rfl dX12_runs_277 rfl ?_
  refine a_callV (as := [.int (nI j), .int 3, .int 2, .int x]) (rest := []) (st2 := [.int (f_tells 3 k9 x (nI j) fg)]) (u1 := 0) (v1 := 0) (u2 := 0) (v2 := 0) ((r_rn2_3 (d := 7) (R := upd R m (nI 60)) (m := m + 1) (x := x) (by omega) hj hk hf hk9 (by omega))) (⟨_, _, _, _, rfl, rfl⟩) oX12_runs q_1626 q_1628 q_117 rfl (by omega) (by decide) rfl (Nat.le_of_ble_eq_true rfl) 282 rfl dX12_runs_279 rfl ?_
  refine a_aload_n 4 283 rfl dX12_runs_282 rfl rfl ?_
  refine a_get 5 cl_11 f_RX12_19_11 (by decide) (rfl) rfl 286 rfl dX12_runs_283 ?_
  refine a_iload_n 5 287 rfl dX12_runs_286 rfl rfl ?_
  refine a_iald (rfl) (vp_in_nI (n := j) (by omega) (by omega)) 288 rfl dX12_runs_287 ?_
  refine a_eq (st2 := [.int ((M.2.2.2.1 1) j), .int (f_tells 3 k9 x (nI j) fg)]) rfl rfl (congrArg (fun z9 => Value.int z9 :: [.int (f_tells 3 k9 x (nI j) fg)]) (congrArg (M.2.2.2.1 1) (g_cl (by omega)))) rfl ?_
  refine a_eq (st2 := [.int fg, .int (f_tells 3 k9 x (nI j) fg)]) rfl rfl (congrArg (fun z9 => Value.int z9 :: [.int (f_tells 3 k9 x (nI j) fg)]) (hf)) rfl ?_
  refine a_ixor 289 rfl dX12_runs_288 ?_
  exact a_ireturn .int rfl rfl (rfl) ((congrArg (fun z9 => g_hp G C (g_hm G z9 ++ ob)) f_tr1)) dX12_runs_289
theorem r_rn2_5 {d : Nat} (hd : 8 ≤ d) (hj : j < 8) (hk : M.2.2.2.1 0 j = nI k9) (hf : M.2.2.2.1 1 j = fg) (hk9 : k9 < 6) (hm : m ≤ 13) : g_Run G mX12_runs d 0 0 [.ref (g_ad G 38), .int (nI j), .int 5, .int 2, .int x] (g_hp G C (g_hm G (f_mn (f_mI M 17 (R)) 12 (m)) ++ ob)) (some (.int (f_tells 5 k9 x (nI j) fg))) (g_hp G C (g_hm G (f_mn (f_mI M 17 (f_lay R m (l_tells 5 k9))) 12 (m + (l_tells 5 k9).length)) ++ ob)) := by
  have hcl : (nI m).toNatClampNeg = m := g_cl (by omega)
  refine g_Run.of (lv := [(0, .ref (g_ad G 38)), (1, .int (nI j)), (2, .int 5), (3, .int 2), (4, .int x)]) (by decide) (Nat.le_of_ble_eq_true rfl) rfl ?_
  refine a_iload_n 2 1 rfl dX12_runs_0 rfl rfl ?_
  refine a_istore (lv' := [(5, .int 5), (0, .ref (g_ad G 38)), (1, .int (nI j)), (2, .int 5), (3, .int 2), (4, .int x)]) 3 rfl dX12_runs_1 (by decide) rfl ?_
  refine a_iload 0 5 rfl dX12_runs_3 rfl ?_
  refine a_iload_n 4 6 rfl dX12_runs_5 rfl rfl ?_
  refine a_callS (as := [.int 5, .int 2]) (rest := []) (st2 := [.int 40]) (u1 := 0) (v1 := 0) (u2 := 0) (v2 := 0) (r_body5_2) oX12_body q_1630 q_1631 rfl (by omega) (by decide) rfl (Nat.le_of_ble_eq_true rfl) 9 rfl dX12_runs_6 rfl ?_
  refine a_if_ne 22 12 rfl dX12_runs_9 (by decide) (fun _ => ?_) (fun hc => absurd hc ((by decide)))
  refine a_iload 0 24 rfl dX12_runs_22 rfl ?_
  refine a_iload_n 4 25 rfl dX12_runs_24 rfl rfl ?_
  refine a_callS (as := [.int 5, .int 2]) (rest := []) (st2 := [.int 40]) (u1 := 0) (v1 := 0) (u2 := 0) (v2 := 0) (r_body5_2) oX12_body q_1630 q_1631 rfl (by omega) (by decide) rfl (Nat.le_of_ble_eq_true rfl) 28 rfl dX12_runs_25 rfl ?_
  refine a_istore (lv' := [(6, .int 40), (5, .int 5), (0, .ref (g_ad G 38)), (1, .int (nI j)), (2, .int 5), (3, .int 2), (4, .int x)]) 30 rfl dX12_runs_28 (by decide) rfl ?_
  refine a_aload_n 2 31 rfl dX12_runs_30 rfl rfl ?_
  refine a_get 42 cl_11 f_RX12_352_11 (by decide) (rfl) rfl 34 rfl dX12_runs_31 ?_
  refine a_bipush (x := 24) 36 rfl dX12_runs_34 (by decide) ?_
  refine a_icmp_ge 60 39 rfl dX12_runs_36 (by decide) (fun hc => absurd hc (nI_ge (a := m) (b := 24) (by omega) (by omega))) (fun _ => ?_)
  refine a_aload_n 2 40 rfl dX12_runs_39 rfl rfl ?_
  refine a_get 41 cl_11 f_RX12_92_11 (by decide) (rfl) rfl 43 rfl dX12_runs_40 ?_
  refine a_aload_n 2 44 rfl dX12_runs_43 rfl rfl ?_
  refine a_get 42 cl_11 f_RX12_352_11 (by decide) (rfl) rfl 47 rfl dX12_runs_44 ?_
  refine a_iload 0 49 rfl dX12_runs_47 rfl ?_
  refine a_iast (rfl) (vp_in_nI (n := m) (by omega) (by omega)) 50 rfl dX12_runs_49 ?_
  refine a_eq (h2 := g_hp G C (g_hm G (f_mI (f_mn M 12 m) 17 (upd R m (nI 40))) ++ ob)) rfl rfl rfl (by show (((g_hp G C (g_hm G (f_mn (f_mI M 17 R) 12 m) ++ ob)).set 62 (c_I G 24 (upd R (nI m).toNatClampNeg 40))) : List va_E) = _; rw [hcl]; rfl) ?_
  refine a_aload_n 2 51 rfl dX12_runs_50 rfl rfl ?_
  refine a_dup 52 rfl dX12_runs_51 rfl ?_
  refine a_get 42 cl_11 f_RX12_352_11 (by decide) (rfl) rfl 55 rfl dX12_runs_52 ?_
  refine a_iconst (x := 1) 56 rfl dX12_runs_55 (by decide) ?_
  refine a_iadd 57 rfl dX12_runs_56 ?_
  refine a_eq (st2 := [.int (nI (m + 1)), .ref (g_ad G 38)]) rfl rfl (congrArg (fun z9 => Value.int z9 :: [.ref (g_ad G 38)]) (nI_add m 1)) rfl ?_
  refine a_put (fs' := [.int (nI (M.1 0)), .int (nI (M.1 1)), .int (nI (M.1 2)), .int (nI (M.1 3)), .ref (g_ad G 39), .ref (g_ad G 40), .ref (g_ad G 41), .ref (g_ad G 42), .ref (g_ad G 43), .ref (g_ad G 44), .int (M.2.1 0), .ref (g_ad G 45), .int (nI (M.1 4)), .int (nI (M.1 5)), .int (M.2.1 1), .int (M.2.1 2), .long (M.2.2.1 0), .ref (g_ad G 46), .ref (g_ad G 47), .ref (g_ad G 48), .int (nI (M.1 6)), .long (M.2.2.1 1), .int (nI (M.1 7)), .int (nI (M.1 8)), .ref (g_ad G 49), .ref (g_ad G 50), .int (nI (M.1 9)), .int (nI (M.1 10)), .int (nI (M.1 11)), .long (M.2.2.1 2), .ref (g_ad G 51), .ref (g_ad G 52), .ref (g_ad G 53), .ref (g_ad G 54), .ref (g_ad G 55), .ref (g_ad G 56), .ref (g_ad G 57), .ref (g_ad G 58), .ref (g_ad G 59), .ref (g_ad G 60), .ref (g_ad G 61), .ref (g_ad G 62), .int (nI (m + 1))]) 42 cl_11 f_RX12_352_11 (by decide) (rfl) rfl rfl rfl (Nat.le_of_ble_eq_true rfl) rfl 60 rfl dX12_runs_57 ?_
  refine a_eq (h2 := g_hp G C (g_hm G (f_mn (f_mI M 17 (upd R m (nI 40))) 12 (m + 1)) ++ ob)) rfl rfl rfl (rfl) ?_
  refine a_iload 1 62 rfl dX12_runs_60 rfl ?_
  refine a_callS (as := [.int 5]) (rest := []) (st2 := [.int 2]) (u1 := 0) (v1 := 0) (u2 := 0) (v2 := 0) (r_above5) oX12_above q_1633 q_1634 rfl (by omega) (by decide) rfl (Nat.le_of_ble_eq_true rfl) 65 rfl dX12_runs_62 rfl ?_
  refine a_istore (lv' := [(7, .int 2), (6, .int 40), (5, .int 5), (0, .ref (g_ad G 38)), (1, .int (nI j)), (2, .int 5), (3, .int 2), (4, .int x)]) 67 rfl dX12_runs_65 (by decide) rfl ?_
  refine a_iconst (x := 0) 68 rfl dX12_runs_67 (by decide) ?_
  refine a_istore (lv' := [(8, .int 0), (7, .int 2), (6, .int 40), (5, .int 5), (0, .ref (g_ad G 38)), (1, .int (nI j)), (2, .int 5), (3, .int 2), (4, .int x)]) 70 rfl dX12_runs_68 (by decide) rfl ?_
  refine a_iload 2 72 rfl dX12_runs_70 rfl ?_
  refine a_lookup (off := 145) 217 dX12_runs_72 (by decide) (by decide) (by decide) ?_
  refine a_aload_n 4 218 rfl dX12_runs_217 rfl rfl ?_
  refine a_iload_n 5 219 rfl dX12_runs_218 rfl rfl ?_
  refine a_iload 1 221 rfl dX12_runs_219 rfl ?_
  refine a_iconst (x := 2) 222 rfl dX12_runs_221 (by decide) ?_
  refine a_iload 8 224 rfl dX12_runs_222 rfl ?_
  refine a_iconst (x := 1) 225 rfl dX12_runs_224 (by decide) ?_
  refine a_iadd 226 rfl dX12_runs_225 ?_
  refine a_callV (as := [.int (nI j), .int 2, .int 2, .int (x + 1)]) (rest := []) (st2 := [.int (f_tells 2 k9 (x + 1) (nI j) fg)]) (u1 := 0) (v1 := 0) (u2 := 0) (v2 := 0) ((r_rn2_2 (d := 7) (R := upd R m (nI 40)) (m := m + 1) (x := x + 1) (by omega) hj hk hf hk9 (by omega))) (⟨_, _, _, _, rfl, rfl⟩) oX12_runs q_1626 q_1628 q_117 rfl (by omega) (by decide) rfl (Nat.le_of_ble_eq_true rfl) 229 rfl dX12_runs_226 rfl ?_
  exact a_ireturn .int rfl rfl (rfl) ((congrArg (fun z9 => g_hp G C (g_hm G z9 ++ ob)) f_tr1)) dX12_runs_229
theorem r_rn2 {d : Nat} {q9 : Int32} (hd : 8 ≤ d) (hj : j < 8) (hk : M.2.2.2.1 0 j = nI k9) (hf : M.2.2.2.1 1 j = fg) (hk9 : k9 < 6) (hm : m ≤ 13) (hq : q9 = nI k) (hk6 : k < 6) : g_Run G mX12_runs d 0 0 [.ref (g_ad G 38), .int (nI j), .int q9, .int 2, .int x] (g_hp G C (g_hm G (f_mn (f_mI M 17 (R)) 12 (m)) ++ ob)) (some (.int (f_tells k k9 x (nI j) fg))) (g_hp G C (g_hm G (f_mn (f_mI M 17 (f_lay R m (l_tells k k9))) 12 (m + (l_tells k k9).length)) ++ ob)) := by
  subst hq
  match k, hk6 with
  | 0, _ => exact r_rn2_0 (by omega) hj hk hf hk9 (by omega)
  | 1, _ => exact r_rn2_1 (by omega) hj hk hf hk9 (by omega)
  | 2, _ => exact r_rn2_2 (by omega) hj hk hf hk9 (by omega)
  | 3, _ => exact r_rn2_3 (by omega) hj hk hf hk9 (by omega)
  | 4, _ => exact r_rn2_4 (by omega) hj hk hf hk9 (by omega)
  | 5, _ => exact r_rn2_5 (by omega) hj hk hf hk9 (by omega)
theorem r_actM_out (hm : M.1 1 ≤ 8) (hi : ¬ vp_in y (M.1 1)) : g_Run G mX12_act 13 0 0 [.ref (g_ad G 38), .int y, .int y2, .int y3] (g_hp G C (g_hm G M ++ ob)) (some (.int 0)) (g_hp G C (g_hm G M ++ ob)) := by
  refine g_Run.of (lv := [(0, .ref (g_ad G 38)), (1, .int y), (2, .int y2), (3, .int y3)]) (by decide) (Nat.le_of_ble_eq_true rfl) rfl ?_
  refine a_aload_n 0 1 rfl dX12_act_0 rfl rfl ?_
  refine a_iload_n 1 2 rfl dX12_act_1 rfl rfl ?_
  refine a_callV (as := [.int y]) (rest := []) (st2 := [.int 0]) (u1 := 0) (v1 := 0) (u2 := 0) (v2 := 0) (r_isFam_out hm hi) (⟨_, _, _, _, rfl, rfl⟩) oX12_isFamily q_1273 q_1275 q_87 rfl (by omega) (by decide) rfl (Nat.le_of_ble_eq_true rfl) 5 rfl dX12_act_2 rfl ?_
  refine a_if_eq 20 8 rfl dX12_act_5 (by decide) (fun _ => ?_) (fun hc => absurd (rfl) hc)
  refine a_iconst (x := 0) 21 rfl dX12_act_20 (by decide) ?_
  exact a_ireturn .int rfl rfl (rfl) (rfl) dX12_act_21
theorem r_actM_bad (hm : M.1 1 ≤ 8) (hj : j < M.1 1) (hy : ¬ ((0 : Int32) ≤ y2 ∧ y2 ≤ 2)) : g_Run G mX12_act 13 0 0 [.ref (g_ad G 38), .int (nI j), .int y2, .int y3] (g_hp G C (g_hm G M ++ ob)) (some (.int 0)) (g_hp G C (g_hm G M ++ ob)) := by
  refine g_Run.of (lv := [(0, .ref (g_ad G 38)), (1, .int (nI j)), (2, .int y2), (3, .int y3)]) (by decide) (Nat.le_of_ble_eq_true rfl) rfl ?_
  refine a_aload_n 0 1 rfl dX12_act_0 rfl rfl ?_
  refine a_iload_n 1 2 rfl dX12_act_1 rfl rfl ?_
  refine a_callV (as := [.int (nI j)]) (rest := []) (st2 := [.int 1]) (u1 := 0) (v1 := 0) (u2 := 0) (v2 := 0) (r_isFam_in hm hj) (⟨_, _, _, _, rfl, rfl⟩) oX12_isFamily q_1273 q_1275 q_87 rfl (by omega) (by decide) rfl (Nat.le_of_ble_eq_true rfl) 5 rfl dX12_act_2 rfl ?_
  refine a_if_eq 20 8 rfl dX12_act_5 (by decide) (fun hc => absurd hc ((by decide))) (fun _ => ?_)
  refine a_iload_n 2 9 rfl dX12_act_8 rfl rfl ?_
  refine a_i2l 10 rfl dX12_act_9 ?_
  refine a_lconst (x := 0) 11 rfl dX12_act_10 (by decide) ?_
  refine a_ldc2 q_1404 14 rfl dX12_act_11 ?_
  refine a_callS (as := [.long y2.toInt64, .long 0, .long 2]) (rest := []) (st2 := [.int (f_i (decide ((0 : Int32) ≤ y2 ∧ y2 ≤ 2)))]) (u1 := 0) (v1 := 0) (u2 := 0) (v2 := 0) (r_isInB (y := y2) (a := 0) (b := 2) rfl rfl) oX12_isIn q_1242 q_1243 rfl (by omega) (by decide) rfl (Nat.le_of_ble_eq_true rfl) 17 rfl dX12_act_14 rfl ?_
  refine a_if_ne 22 20 rfl dX12_act_17 (by decide) (fun hc => absurd (f_i_F (decide_eq_false hy)) hc) (fun _ => ?_)
  refine a_iconst (x := 0) 21 rfl dX12_act_20 (by decide) ?_
  exact a_ireturn .int rfl rfl (rfl) (rfl) dX12_act_21
def f_acM (M : f_M) (l : List Nat) : f_M := f_mn (f_mI M 17 (f_lay (M.2.2.2.1 17) 0 l)) 12 l.length
theorem r_actM0 (hi : f_mis M j T) : g_Run G mX12_act 13 0 0 [.ref (g_ad G 38), .int (nI j), .int 0, .int y3] (g_hp G C (g_hm G M ++ ob)) (some (.int (f_act T.1 0 y3 (nI j) (nI T.2.1)))) (g_hp G C (g_hm G (f_acM M (l_act T.1 0)) ++ ob)) := by
  have hj : j < 8 := Nat.lt_of_lt_of_le hi.1 hi.2.1
  have w9 := r_rn0 (d := 8) (G := G) (C := C) (M := M) (ob := ob) (R := M.2.2.2.1 17) (m := 0) (x := y3) (k := T.1) (by omega) hj hi.2.2.1 hi.2.2.2.1 hi.2.2.2.2.2.1 (by omega) rfl hi.2.2.2.2.2.1
  rw [Nat.zero_add] at w9
  refine g_Run.of (lv := [(0, .ref (g_ad G 38)), (1, .int (nI j)), (2, .int 0), (3, .int y3)]) (by decide) (Nat.le_of_ble_eq_true rfl) rfl ?_
  refine a_aload_n 0 1 rfl dX12_act_0 rfl rfl ?_
  refine a_iload_n 1 2 rfl dX12_act_1 rfl rfl ?_
  refine a_callV (as := [.int (nI j)]) (rest := []) (st2 := [.int 1]) (u1 := 0) (v1 := 0) (u2 := 0) (v2 := 0) (r_isFam_in hi.2.1 hi.1) (⟨_, _, _, _, rfl, rfl⟩) oX12_isFamily q_1273 q_1275 q_87 rfl (by omega) (by decide) rfl (Nat.le_of_ble_eq_true rfl) 5 rfl dX12_act_2 rfl ?_
  refine a_if_eq 20 8 rfl dX12_act_5 (by decide) (fun hc => absurd hc ((by decide))) (fun _ => ?_)
  refine a_iload_n 2 9 rfl dX12_act_8 rfl rfl ?_
  refine a_i2l 10 rfl dX12_act_9 ?_
  refine a_lconst (x := 0) 11 rfl dX12_act_10 (by decide) ?_
  refine a_ldc2 q_1404 14 rfl dX12_act_11 ?_
  refine a_callS (as := [.long ((0 : Int32).toInt64), .long 0, .long 2]) (rest := []) (st2 := [.int (f_i (decide ((0 : Int32) ≤ (0 : Int32) ∧ (0 : Int32) ≤ 2)))]) (u1 := 0) (v1 := 0) (u2 := 0) (v2 := 0) (r_isInB (y := (0 : Int32)) (a := 0) (b := 2) rfl rfl) oX12_isIn q_1242 q_1243 rfl (by omega) (by decide) rfl (Nat.le_of_ble_eq_true rfl) 17 rfl dX12_act_14 rfl ?_
  refine a_if_ne 22 20 rfl dX12_act_17 (by decide) (fun _ => ?_) (fun hc => absurd hc (f_i_T (by decide)))
  refine a_aload_n 0 23 rfl dX12_act_22 rfl rfl ?_
  refine a_iconst (x := 0) 24 rfl dX12_act_23 (by decide) ?_
  refine a_put (fs' := [.int (nI (M.1 0)), .int (nI (M.1 1)), .int (nI (M.1 2)), .int (nI (M.1 3)), .ref (g_ad G 39), .ref (g_ad G 40), .ref (g_ad G 41), .ref (g_ad G 42), .ref (g_ad G 43), .ref (g_ad G 44), .int (M.2.1 0), .ref (g_ad G 45), .int (nI (M.1 4)), .int (nI (M.1 5)), .int (M.2.1 1), .int (M.2.1 2), .long (M.2.2.1 0), .ref (g_ad G 46), .ref (g_ad G 47), .ref (g_ad G 48), .int (nI (M.1 6)), .long (M.2.2.1 1), .int (nI (M.1 7)), .int (nI (M.1 8)), .ref (g_ad G 49), .ref (g_ad G 50), .int (nI (M.1 9)), .int (nI (M.1 10)), .int (nI (M.1 11)), .long (M.2.2.1 2), .ref (g_ad G 51), .ref (g_ad G 52), .ref (g_ad G 53), .ref (g_ad G 54), .ref (g_ad G 55), .ref (g_ad G 56), .ref (g_ad G 57), .ref (g_ad G 58), .ref (g_ad G 59), .ref (g_ad G 60), .ref (g_ad G 61), .ref (g_ad G 62), .int 0]) 42 cl_11 f_RX12_352_11 (by decide) (rfl) rfl rfl rfl (Nat.le_of_ble_eq_true rfl) rfl 27 rfl dX12_act_24 ?_
  refine a_eq (h2 := g_hp G C (g_hm G (f_mI (f_mn M 12 0) 17 (M.2.2.2.1 17)) ++ ob)) rfl rfl rfl (rfl) ?_
  refine a_eq (h2 := g_hp G C (g_hm G (f_mn (f_mI M 17 (M.2.2.2.1 17)) 12 0) ++ ob)) rfl rfl rfl (rfl) ?_
  refine a_aload_n 0 28 rfl dX12_act_27 rfl rfl ?_
  refine a_iload_n 1 29 rfl dX12_act_28 rfl rfl ?_
  refine a_aload_n 0 30 rfl dX12_act_29 rfl rfl ?_
  refine a_get 4 cl_11 f_RX12_15_11 (by decide) (rfl) rfl 33 rfl dX12_act_30 ?_
  refine a_iload_n 1 34 rfl dX12_act_33 rfl rfl ?_
  refine a_iald (rfl) (vp_in_nI (n := j) (by omega) (by omega)) 35 rfl dX12_act_34 ?_
  refine a_eq (st2 := [.int ((M.2.2.2.1 0) j), .int (nI j), .ref (g_ad G 38)]) rfl rfl (congrArg (fun z9 => Value.int z9 :: [.int (nI j), .ref (g_ad G 38)]) (congrArg (M.2.2.2.1 0) (g_cl (by omega)))) rfl ?_
  refine a_eq (st2 := [.int (nI T.1), .int (nI j), .ref (g_ad G 38)]) rfl rfl (congrArg (fun z9 => Value.int z9 :: [.int (nI j), .ref (g_ad G 38)]) (hi.2.2.1)) rfl ?_
  refine a_iload_n 2 36 rfl dX12_act_35 rfl rfl ?_
  refine a_iload_n 3 37 rfl dX12_act_36 rfl rfl ?_
  refine a_callV (as := [.int (nI j), .int (nI T.1), .int 0, .int y3]) (rest := []) (st2 := [.int (f_grows T.1 y3 (nI j))]) (u1 := 0) (v1 := 0) (u2 := 0) (v2 := 0) (w9) (⟨_, _, _, _, rfl, rfl⟩) oX12_runs q_1626 q_1628 q_117 rfl (by omega) (by decide) rfl (Nat.le_of_ble_eq_true rfl) 40 rfl dX12_act_37 rfl ?_
  exact a_ireturn .int rfl rfl (rfl) (rfl) dX12_act_40
theorem r_actM1 (hi : f_mis M j T) : g_Run G mX12_act 13 0 0 [.ref (g_ad G 38), .int (nI j), .int 1, .int y3] (g_hp G C (g_hm G M ++ ob)) (some (.int (f_act T.1 1 y3 (nI j) (nI T.2.1)))) (g_hp G C (g_hm G (f_acM M (l_act T.1 1)) ++ ob)) := by
  have hj : j < 8 := Nat.lt_of_lt_of_le hi.1 hi.2.1
  have w9 := r_rn1 (d := 8) (G := G) (C := C) (M := M) (ob := ob) (R := M.2.2.2.1 17) (m := 0) (x := y3) (k := T.1) (by omega) hj hi.2.2.1 hi.2.2.2.1 hi.2.2.2.2.2.1 (by omega) rfl hi.2.2.2.2.2.1
  rw [Nat.zero_add] at w9
  refine g_Run.of (lv := [(0, .ref (g_ad G 38)), (1, .int (nI j)), (2, .int 1), (3, .int y3)]) (by decide) (Nat.le_of_ble_eq_true rfl) rfl ?_
  refine a_aload_n 0 1 rfl dX12_act_0 rfl rfl ?_
  refine a_iload_n 1 2 rfl dX12_act_1 rfl rfl ?_
  refine a_callV (as := [.int (nI j)]) (rest := []) (st2 := [.int 1]) (u1 := 0) (v1 := 0) (u2 := 0) (v2 := 0) (r_isFam_in hi.2.1 hi.1) (⟨_, _, _, _, rfl, rfl⟩) oX12_isFamily q_1273 q_1275 q_87 rfl (by omega) (by decide) rfl (Nat.le_of_ble_eq_true rfl) 5 rfl dX12_act_2 rfl ?_
  refine a_if_eq 20 8 rfl dX12_act_5 (by decide) (fun hc => absurd hc ((by decide))) (fun _ => ?_)
  refine a_iload_n 2 9 rfl dX12_act_8 rfl rfl ?_
  refine a_i2l 10 rfl dX12_act_9 ?_
  refine a_lconst (x := 0) 11 rfl dX12_act_10 (by decide) ?_
  refine a_ldc2 q_1404 14 rfl dX12_act_11 ?_
  refine a_callS (as := [.long ((1 : Int32).toInt64), .long 0, .long 2]) (rest := []) (st2 := [.int (f_i (decide ((0 : Int32) ≤ (1 : Int32) ∧ (1 : Int32) ≤ 2)))]) (u1 := 0) (v1 := 0) (u2 := 0) (v2 := 0) (r_isInB (y := (1 : Int32)) (a := 0) (b := 2) rfl rfl) oX12_isIn q_1242 q_1243 rfl (by omega) (by decide) rfl (Nat.le_of_ble_eq_true rfl) 17 rfl dX12_act_14 rfl ?_
  refine a_if_ne 22 20 rfl dX12_act_17 (by decide) (fun _ => ?_) (fun hc => absurd hc (f_i_T (by decide)))
  refine a_aload_n 0 23 rfl dX12_act_22 rfl rfl ?_
  refine a_iconst (x := 0) 24 rfl dX12_act_23 (by decide) ?_
  refine a_put (fs' := [.int (nI (M.1 0)), .int (nI (M.1 1)), .int (nI (M.1 2)), .int (nI (M.1 3)), .ref (g_ad G 39), .ref (g_ad G 40), .ref (g_ad G 41), .ref (g_ad G 42), .ref (g_ad G 43), .ref (g_ad G 44), .int (M.2.1 0), .ref (g_ad G 45), .int (nI (M.1 4)), .int (nI (M.1 5)), .int (M.2.1 1), .int (M.2.1 2), .long (M.2.2.1 0), .ref (g_ad G 46), .ref (g_ad G 47), .ref (g_ad G 48), .int (nI (M.1 6)), .long (M.2.2.1 1), .int (nI (M.1 7)), .int (nI (M.1 8)), .ref (g_ad G 49), .ref (g_ad G 50), .int (nI (M.1 9)), .int (nI (M.1 10)), .int (nI (M.1 11)), .long (M.2.2.1 2), .ref (g_ad G 51), .ref (g_ad G 52), .ref (g_ad G 53), .ref (g_ad G 54), .ref (g_ad G 55), .ref (g_ad G 56), .ref (g_ad G 57), .ref (g_ad G 58), .ref (g_ad G 59), .ref (g_ad G 60), .ref (g_ad G 61), .ref (g_ad G 62), .int 0]) 42 cl_11 f_RX12_352_11 (by decide) (rfl) rfl rfl rfl (Nat.le_of_ble_eq_true rfl) rfl 27 rfl dX12_act_24 ?_
  refine a_eq (h2 := g_hp G C (g_hm G (f_mI (f_mn M 12 0) 17 (M.2.2.2.1 17)) ++ ob)) rfl rfl rfl (rfl) ?_
  refine a_eq (h2 := g_hp G C (g_hm G (f_mn (f_mI M 17 (M.2.2.2.1 17)) 12 0) ++ ob)) rfl rfl rfl (rfl) ?_
  refine a_aload_n 0 28 rfl dX12_act_27 rfl rfl ?_
  refine a_iload_n 1 29 rfl dX12_act_28 rfl rfl ?_
  refine a_aload_n 0 30 rfl dX12_act_29 rfl rfl ?_
  refine a_get 4 cl_11 f_RX12_15_11 (by decide) (rfl) rfl 33 rfl dX12_act_30 ?_
  refine a_iload_n 1 34 rfl dX12_act_33 rfl rfl ?_
  refine a_iald (rfl) (vp_in_nI (n := j) (by omega) (by omega)) 35 rfl dX12_act_34 ?_
  refine a_eq (st2 := [.int ((M.2.2.2.1 0) j), .int (nI j), .ref (g_ad G 38)]) rfl rfl (congrArg (fun z9 => Value.int z9 :: [.int (nI j), .ref (g_ad G 38)]) (congrArg (M.2.2.2.1 0) (g_cl (by omega)))) rfl ?_
  refine a_eq (st2 := [.int (nI T.1), .int (nI j), .ref (g_ad G 38)]) rfl rfl (congrArg (fun z9 => Value.int z9 :: [.int (nI j), .ref (g_ad G 38)]) (hi.2.2.1)) rfl ?_
  refine a_iload_n 2 36 rfl dX12_act_35 rfl rfl ?_
  refine a_iload_n 3 37 rfl dX12_act_36 rfl rfl ?_
  refine a_callV (as := [.int (nI j), .int (nI T.1), .int 1, .int y3]) (rest := []) (st2 := [.int (f_turns T.1 T.1 y3 (nI j))]) (u1 := 0) (v1 := 0) (u2 := 0) (v2 := 0) (w9) (⟨_, _, _, _, rfl, rfl⟩) oX12_runs q_1626 q_1628 q_117 rfl (by omega) (by decide) rfl (Nat.le_of_ble_eq_true rfl) 40 rfl dX12_act_37 rfl ?_
  exact a_ireturn .int rfl rfl (rfl) (rfl) dX12_act_40
theorem r_actM2 (hi : f_mis M j T) : g_Run G mX12_act 13 0 0 [.ref (g_ad G 38), .int (nI j), .int 2, .int y3] (g_hp G C (g_hm G M ++ ob)) (some (.int (f_act T.1 2 y3 (nI j) (nI T.2.1)))) (g_hp G C (g_hm G (f_acM M (l_act T.1 2)) ++ ob)) := by
  have hj : j < 8 := Nat.lt_of_lt_of_le hi.1 hi.2.1
  have w9 := r_rn2 (d := 8) (G := G) (C := C) (M := M) (ob := ob) (R := M.2.2.2.1 17) (m := 0) (x := y3) (k := T.1) (by omega) hj hi.2.2.1 hi.2.2.2.1 hi.2.2.2.2.2.1 (by omega) rfl hi.2.2.2.2.2.1
  rw [Nat.zero_add] at w9
  refine g_Run.of (lv := [(0, .ref (g_ad G 38)), (1, .int (nI j)), (2, .int 2), (3, .int y3)]) (by decide) (Nat.le_of_ble_eq_true rfl) rfl ?_
  refine a_aload_n 0 1 rfl dX12_act_0 rfl rfl ?_
  refine a_iload_n 1 2 rfl dX12_act_1 rfl rfl ?_
  refine a_callV (as := [.int (nI j)]) (rest := []) (st2 := [.int 1]) (u1 := 0) (v1 := 0) (u2 := 0) (v2 := 0) (r_isFam_in hi.2.1 hi.1) (⟨_, _, _, _, rfl, rfl⟩) oX12_isFamily q_1273 q_1275 q_87 rfl (by omega) (by decide) rfl (Nat.le_of_ble_eq_true rfl) 5 rfl dX12_act_2 rfl ?_
  refine a_if_eq 20 8 rfl dX12_act_5 (by decide) (fun hc => absurd hc ((by decide))) (fun _ => ?_)
  refine a_iload_n 2 9 rfl dX12_act_8 rfl rfl ?_
  refine a_i2l 10 rfl dX12_act_9 ?_
  refine a_lconst (x := 0) 11 rfl dX12_act_10 (by decide) ?_
  refine a_ldc2 q_1404 14 rfl dX12_act_11 ?_
  refine a_callS (as := [.long ((2 : Int32).toInt64), .long 0, .long 2]) (rest := []) (st2 := [.int (f_i (decide ((0 : Int32) ≤ (2 : Int32) ∧ (2 : Int32) ≤ 2)))]) (u1 := 0) (v1 := 0) (u2 := 0) (v2 := 0) (r_isInB (y := (2 : Int32)) (a := 0) (b := 2) rfl rfl) oX12_isIn q_1242 q_1243 rfl (by omega) (by decide) rfl (Nat.le_of_ble_eq_true rfl) 17 rfl dX12_act_14 rfl ?_
  refine a_if_ne 22 20 rfl dX12_act_17 (by decide) (fun _ => ?_) (fun hc => absurd hc (f_i_T (by decide)))
  refine a_aload_n 0 23 rfl dX12_act_22 rfl rfl ?_
  refine a_iconst (x := 0) 24 rfl dX12_act_23 (by decide) ?_
  refine a_put (fs' := [.int (nI (M.1 0)), .int (nI (M.1 1)), .int (nI (M.1 2)), .int (nI (M.1 3)), .ref (g_ad G 39), .ref (g_ad G 40), .ref (g_ad G 41), .ref (g_ad G 42), .ref (g_ad G 43), .ref (g_ad G 44), .int (M.2.1 0), .ref (g_ad G 45), .int (nI (M.1 4)), .int (nI (M.1 5)), .int (M.2.1 1), .int (M.2.1 2), .long (M.2.2.1 0), .ref (g_ad G 46), .ref (g_ad G 47), .ref (g_ad G 48), .int (nI (M.1 6)), .long (M.2.2.1 1), .int (nI (M.1 7)), .int (nI (M.1 8)), .ref (g_ad G 49), .ref (g_ad G 50), .int (nI (M.1 9)), .int (nI (M.1 10)), .int (nI (M.1 11)), .long (M.2.2.1 2), .ref (g_ad G 51), .ref (g_ad G 52), .ref (g_ad G 53), .ref (g_ad G 54), .ref (g_ad G 55), .ref (g_ad G 56), .ref (g_ad G 57), .ref (g_ad G 58), .ref (g_ad G 59), .ref (g_ad G 60), .ref (g_ad G 61), .ref (g_ad G 62), .int 0]) 42 cl_11 f_RX12_352_11 (by decide) (rfl) rfl rfl rfl (Nat.le_of_ble_eq_true rfl) rfl 27 rfl dX12_act_24 ?_
  refine a_eq (h2 := g_hp G C (g_hm G (f_mI (f_mn M 12 0) 17 (M.2.2.2.1 17)) ++ ob)) rfl rfl rfl (rfl) ?_
  refine a_eq (h2 := g_hp G C (g_hm G (f_mn (f_mI M 17 (M.2.2.2.1 17)) 12 0) ++ ob)) rfl rfl rfl (rfl) ?_
  refine a_aload_n 0 28 rfl dX12_act_27 rfl rfl ?_
  refine a_iload_n 1 29 rfl dX12_act_28 rfl rfl ?_
  refine a_aload_n 0 30 rfl dX12_act_29 rfl rfl ?_
  refine a_get 4 cl_11 f_RX12_15_11 (by decide) (rfl) rfl 33 rfl dX12_act_30 ?_
  refine a_iload_n 1 34 rfl dX12_act_33 rfl rfl ?_
  refine a_iald (rfl) (vp_in_nI (n := j) (by omega) (by omega)) 35 rfl dX12_act_34 ?_
  refine a_eq (st2 := [.int ((M.2.2.2.1 0) j), .int (nI j), .ref (g_ad G 38)]) rfl rfl (congrArg (fun z9 => Value.int z9 :: [.int (nI j), .ref (g_ad G 38)]) (congrArg (M.2.2.2.1 0) (g_cl (by omega)))) rfl ?_
  refine a_eq (st2 := [.int (nI T.1), .int (nI j), .ref (g_ad G 38)]) rfl rfl (congrArg (fun z9 => Value.int z9 :: [.int (nI j), .ref (g_ad G 38)]) (hi.2.2.1)) rfl ?_
  refine a_iload_n 2 36 rfl dX12_act_35 rfl rfl ?_
  refine a_iload_n 3 37 rfl dX12_act_36 rfl rfl ?_
  refine a_callV (as := [.int (nI j), .int (nI T.1), .int 2, .int y3]) (rest := []) (st2 := [.int (f_tells T.1 T.1 y3 (nI j) (nI T.2.1))]) (u1 := 0) (v1 := 0) (u2 := 0) (v2 := 0) (w9) (⟨_, _, _, _, rfl, rfl⟩) oX12_runs q_1626 q_1628 q_117 rfl (by omega) (by decide) rfl (Nat.le_of_ble_eq_true rfl) 40 rfl dX12_act_37 rfl ?_
  exact a_ireturn .int rfl rfl (rfl) (rfl) dX12_act_40
theorem r_trcM (hj : j < M.1 12) (hw : M.1 12 ≤ 24) : g_Run G mX12_trace 4 0 0 [.ref (g_ad G 38), .int (nI j)] (g_hp G C (g_hm G M ++ ob)) (some (.int (M.2.2.2.1 17 j))) (g_hp G C (g_hm G M ++ ob)) := by
  have w := r_isInI (G := G) (y := nI j) (a := 0) (b := nI (M.1 12) - 1) (h := g_hp G C (g_hm G M ++ ob)) (a9 := 0) rfl rfl
  rw [if_pos ((f_isF (by omega)).mpr (vp_in_nI hj (by omega)))] at w
  have hcl : (nI j).toNatClampNeg = j := g_cl (by omega)
  refine g_Run.of (lv := [(0, .ref (g_ad G 38)), (1, .int (nI j))]) (by decide) (Nat.le_of_ble_eq_true rfl) rfl ?_
  refine a_iload_n 1 1 rfl dX12_trace_0 rfl rfl ?_
  refine a_i2l 2 rfl dX12_trace_1 ?_
  refine a_lconst (x := 0) 3 rfl dX12_trace_2 (by decide) ?_
  refine a_aload_n 0 4 rfl dX12_trace_3 rfl rfl ?_
  refine a_get 42 cl_11 f_RX12_352_11 (by decide) (rfl) rfl 7 rfl dX12_trace_4 ?_
  refine a_iconst (x := 1) 8 rfl dX12_trace_7 (by decide) ?_
  refine a_isub 9 rfl dX12_trace_8 ?_
  refine a_i2l 10 rfl dX12_trace_9 ?_
  refine a_callS (as := [.long ((nI j).toInt64), .long 0, .long (((nI (M.1 12)) - 1).toInt64)]) (rest := []) (st2 := [.int 1]) (u1 := 0) (v1 := 0) (u2 := 0) (v2 := 0) (w) oX12_isIn q_1242 q_1243 rfl (by omega) (by decide) rfl (Nat.le_of_ble_eq_true rfl) 13 rfl dX12_trace_10 rfl ?_
  refine a_if_eq 25 16 rfl dX12_trace_13 (by decide) (fun hc => absurd hc ((by decide))) (fun _ => ?_)
  refine a_aload_n 0 17 rfl dX12_trace_16 rfl rfl ?_
  refine a_get 41 cl_11 f_RX12_92_11 (by decide) (rfl) rfl 20 rfl dX12_trace_17 ?_
  refine a_iload_n 1 21 rfl dX12_trace_20 rfl rfl ?_
  refine a_iald (rfl) (vp_in_nI (by omega) (by omega)) 22 rfl dX12_trace_21 ?_
  refine a_goto 27 dX12_trace_22 (by decide) ?_
  exact a_ireturn .int rfl rfl ((by rw [hcl])) (rfl) dX12_trace_27
theorem r_trcM_out (hj : ¬ vp_in y (M.1 12)) (hw : M.1 12 ≤ 24) : g_Run G mX12_trace 4 0 0 [.ref (g_ad G 38), .int y] (g_hp G C (g_hm G M ++ ob)) (some (.int (-2))) (g_hp G C (g_hm G M ++ ob)) := by
  have w := r_isInI (G := G) (y := y) (a := 0) (b := nI (M.1 12) - 1) (h := g_hp G C (g_hm G M ++ ob)) (a9 := 0) rfl rfl
  rw [if_neg (fun z => hj ((f_isF (by omega)).mp z))] at w
  refine g_Run.of (lv := [(0, .ref (g_ad G 38)), (1, .int y)]) (by decide) (Nat.le_of_ble_eq_true rfl) rfl ?_
  refine a_iload_n 1 1 rfl dX12_trace_0 rfl rfl ?_
  refine a_i2l 2 rfl dX12_trace_1 ?_
  refine a_lconst (x := 0) 3 rfl dX12_trace_2 (by decide) ?_
  refine a_aload_n 0 4 rfl dX12_trace_3 rfl rfl ?_
  refine a_get 42 cl_11 f_RX12_352_11 (by decide) (rfl) rfl 7 rfl dX12_trace_4 ?_
  refine a_iconst (x := 1) 8 rfl dX12_trace_7 (by decide) ?_
  refine a_isub 9 rfl dX12_trace_8 ?_
  refine a_i2l 10 rfl dX12_trace_9 ?_
  refine a_callS (as := [.long y.toInt64, .long 0, .long (((nI (M.1 12)) - 1).toInt64)]) (rest := []) (st2 := [.int 0]) (u1 := 0) (v1 := 0) (u2 := 0) (v2 := 0) (w) oX12_isIn q_1242 q_1243 rfl (by omega) (by decide) rfl (Nat.le_of_ble_eq_true rfl) 13 rfl dX12_trace_10 rfl ?_
  refine a_if_eq 25 16 rfl dX12_trace_13 (by decide) (fun _ => ?_) (fun hc => absurd (rfl) hc)
  refine a_bipush (x := (-2)) 27 rfl dX12_trace_25 (by decide) ?_
  exact a_ireturn .int rfl rfl (rfl) (rfl) dX12_trace_27
theorem r_takM_out (hm : M.1 1 ≤ 8) (hi : ¬ vp_in y (M.1 1)) : g_Run G mX12_taken 6 0 0 [.ref (g_ad G 38), .int y, .int y2] (g_hp G C (g_hm G M ++ ob)) (some (.int (-1))) (g_hp G C (g_hm G M ++ ob)) := by
  refine g_Run.of (lv := [(0, .ref (g_ad G 38)), (1, .int y), (2, .int y2)]) (by decide) (Nat.le_of_ble_eq_true rfl) rfl ?_
  refine a_aload_n 0 1 rfl dX12_taken_0 rfl rfl ?_
  refine a_iload_n 1 2 rfl dX12_taken_1 rfl rfl ?_
  refine a_callV (as := [.int y]) (rest := []) (st2 := [.int 0]) (u1 := 0) (v1 := 0) (u2 := 0) (v2 := 0) (r_isFam_out hm hi) (⟨_, _, _, _, rfl, rfl⟩) oX12_isFamily q_1273 q_1275 q_87 rfl (by omega) (by decide) rfl (Nat.le_of_ble_eq_true rfl) 5 rfl dX12_taken_2 rfl ?_
  refine a_if_eq 20 8 rfl dX12_taken_5 (by decide) (fun _ => ?_) (fun hc => absurd (rfl) hc)
  refine a_iconst (x := (-1)) 21 rfl dX12_taken_20 (by decide) ?_
  exact a_ireturn .int rfl rfl (rfl) (rfl) dX12_taken_21
theorem r_takM_bad (hm : M.1 1 ≤ 8) (hj : j < M.1 1) (hy : ¬ ((0 : Int32) ≤ y2 ∧ y2 ≤ 5)) : g_Run G mX12_taken 6 0 0 [.ref (g_ad G 38), .int (nI j), .int y2] (g_hp G C (g_hm G M ++ ob)) (some (.int (-1))) (g_hp G C (g_hm G M ++ ob)) := by
  refine g_Run.of (lv := [(0, .ref (g_ad G 38)), (1, .int (nI j)), (2, .int y2)]) (by decide) (Nat.le_of_ble_eq_true rfl) rfl ?_
  refine a_aload_n 0 1 rfl dX12_taken_0 rfl rfl ?_
  refine a_iload_n 1 2 rfl dX12_taken_1 rfl rfl ?_
  refine a_callV (as := [.int (nI j)]) (rest := []) (st2 := [.int 1]) (u1 := 0) (v1 := 0) (u2 := 0) (v2 := 0) (r_isFam_in hm hj) (⟨_, _, _, _, rfl, rfl⟩) oX12_isFamily q_1273 q_1275 q_87 rfl (by omega) (by decide) rfl (Nat.le_of_ble_eq_true rfl) 5 rfl dX12_taken_2 rfl ?_
  refine a_if_eq 20 8 rfl dX12_taken_5 (by decide) (fun hc => absurd hc ((by decide))) (fun _ => ?_)
  refine a_iload_n 2 9 rfl dX12_taken_8 rfl rfl ?_
  refine a_i2l 10 rfl dX12_taken_9 ?_
  refine a_lconst (x := 0) 11 rfl dX12_taken_10 (by decide) ?_
  refine a_ldc2 q_1277 14 rfl dX12_taken_11 ?_
  refine a_callS (as := [.long y2.toInt64, .long 0, .long 5]) (rest := []) (st2 := [.int (f_i (decide ((0 : Int32) ≤ y2 ∧ y2 ≤ 5)))]) (u1 := 0) (v1 := 0) (u2 := 0) (v2 := 0) (r_isInB (y := y2) (a := 0) (b := 5) rfl rfl) oX12_isIn q_1242 q_1243 rfl (by omega) (by decide) rfl (Nat.le_of_ble_eq_true rfl) 17 rfl dX12_taken_14 rfl ?_
  refine a_if_ne 22 20 rfl dX12_taken_17 (by decide) (fun hc => absurd (f_i_F (decide_eq_false hy)) hc) (fun _ => ?_)
  refine a_iconst (x := (-1)) 21 rfl dX12_taken_20 (by decide) ?_
  exact a_ireturn .int rfl rfl (rfl) (rfl) dX12_taken_21
def f_tkM (k q : Nat) (v f : Int32) : Int32 := if f_under k q = false then -5 else if q = 3 ∨ q = 4 then v else f
theorem r_takM0_0 (hm : M.1 1 ≤ 8) (hj : j < M.1 1) (hk : M.2.2.2.1 0 j = 0) (hv : M.2.2.2.1 1 j = y) : g_Run G mX12_taken 6 0 0 [.ref (g_ad G 38), .int (nI j), .int 0] (g_hp G C (g_hm G M ++ ob)) (some (.int (f_tkM 0 0 y (nI j)))) (g_hp G C (g_hm G M ++ ob)) := by
  have h8 : j < 8 := Nat.lt_of_lt_of_le hj hm
  refine g_Run.of (lv := [(0, .ref (g_ad G 38)), (1, .int (nI j)), (2, .int 0)]) (by decide) (Nat.le_of_ble_eq_true rfl) rfl ?_
  refine a_aload_n 0 1 rfl dX12_taken_0 rfl rfl ?_
  refine a_iload_n 1 2 rfl dX12_taken_1 rfl rfl ?_
  refine a_callV (as := [.int (nI j)]) (rest := []) (st2 := [.int 1]) (u1 := 0) (v1 := 0) (u2 := 0) (v2 := 0) (r_isFam_in hm hj) (⟨_, _, _, _, rfl, rfl⟩) oX12_isFamily q_1273 q_1275 q_87 rfl (by omega) (by decide) rfl (Nat.le_of_ble_eq_true rfl) 5 rfl dX12_taken_2 rfl ?_
  refine a_if_eq 20 8 rfl dX12_taken_5 (by decide) (fun hc => absurd hc ((by decide))) (fun _ => ?_)
  refine a_iload_n 2 9 rfl dX12_taken_8 rfl rfl ?_
  refine a_i2l 10 rfl dX12_taken_9 ?_
  refine a_lconst (x := 0) 11 rfl dX12_taken_10 (by decide) ?_
  refine a_ldc2 q_1277 14 rfl dX12_taken_11 ?_
  refine a_callS (as := [.long ((0 : Int32).toInt64), .long 0, .long 5]) (rest := []) (st2 := [.int (f_i (decide ((0 : Int32) ≤ (0 : Int32) ∧ (0 : Int32) ≤ 5)))]) (u1 := 0) (v1 := 0) (u2 := 0) (v2 := 0) (r_isInB (y := (0 : Int32)) (a := 0) (b := 5) rfl rfl) oX12_isIn q_1242 q_1243 rfl (by omega) (by decide) rfl (Nat.le_of_ble_eq_true rfl) 17 rfl dX12_taken_14 rfl ?_
  refine a_if_ne 22 20 rfl dX12_taken_17 (by decide) (fun _ => ?_) (fun hc => absurd hc (f_i_T (by decide)))
  refine a_aload_n 0 23 rfl dX12_taken_22 rfl rfl ?_
  refine a_get 4 cl_11 f_RX12_15_11 (by decide) (rfl) rfl 26 rfl dX12_taken_23 ?_
  refine a_iload_n 1 27 rfl dX12_taken_26 rfl rfl ?_
  refine a_iald (rfl) (vp_in_nI (n := j) (by omega) (by omega)) 28 rfl dX12_taken_27 ?_
  refine a_eq (st2 := [.int ((M.2.2.2.1 0) j)]) rfl rfl (congrArg (fun z9 => Value.int z9 :: []) (congrArg (M.2.2.2.1 0) (g_cl (by omega)))) rfl ?_
  refine a_eq (st2 := [.int 0]) rfl rfl (congrArg (fun z9 => Value.int z9 :: []) (hk)) rfl ?_
  refine a_istore_n (lv' := [(3, .int 0), (0, .ref (g_ad G 38)), (1, .int (nI j)), (2, .int 0)]) 29 rfl dX12_taken_28 rfl (by decide) rfl ?_
  refine a_iload_n 0 30 rfl dX12_taken_29 rfl rfl ?_
  refine a_iload_n 3 31 rfl dX12_taken_30 rfl rfl ?_
  refine a_icmp_eq 46 34 rfl dX12_taken_31 (by decide) (fun _ => ?_) (fun hc => absurd (rfl) hc)
  refine a_iload_n 0 47 rfl dX12_taken_46 rfl rfl ?_
  refine a_iload_n 3 48 rfl dX12_taken_47 rfl rfl ?_
  refine a_icmp_eq 56 51 rfl dX12_taken_48 (by decide) (fun _ => ?_) (fun hc => absurd (rfl) hc)
  refine a_iload_n 3 57 rfl dX12_taken_56 rfl rfl ?_
  refine a_iconst (x := 3) 58 rfl dX12_taken_57 (by decide) ?_
  refine a_icmp_eq 66 61 rfl dX12_taken_58 (by decide) (fun hc => absurd hc ((by decide))) (fun _ => ?_)
  refine a_iload_n 3 62 rfl dX12_taken_61 rfl rfl ?_
  refine a_iconst (x := 4) 63 rfl dX12_taken_62 (by decide) ?_
  refine a_icmp_ne 75 66 rfl dX12_taken_63 (by decide) (fun _ => ?_) (fun hc => absurd hc ((by decide)))
  refine a_iload_n 2 76 rfl dX12_taken_75 rfl rfl ?_
  exact a_ireturn .int rfl rfl (rfl) (rfl) dX12_taken_76
theorem r_takM0_1 (hm : M.1 1 ≤ 8) (hj : j < M.1 1) (hk : M.2.2.2.1 0 j = 0) (hv : M.2.2.2.1 1 j = y) : g_Run G mX12_taken 6 0 0 [.ref (g_ad G 38), .int (nI j), .int 1] (g_hp G C (g_hm G M ++ ob)) (some (.int (f_tkM 0 1 y (nI j)))) (g_hp G C (g_hm G M ++ ob)) := by
  have h8 : j < 8 := Nat.lt_of_lt_of_le hj hm
  refine g_Run.of (lv := [(0, .ref (g_ad G 38)), (1, .int (nI j)), (2, .int 1)]) (by decide) (Nat.le_of_ble_eq_true rfl) rfl ?_
  refine a_aload_n 0 1 rfl dX12_taken_0 rfl rfl ?_
  refine a_iload_n 1 2 rfl dX12_taken_1 rfl rfl ?_
  refine a_callV (as := [.int (nI j)]) (rest := []) (st2 := [.int 1]) (u1 := 0) (v1 := 0) (u2 := 0) (v2 := 0) (r_isFam_in hm hj) (⟨_, _, _, _, rfl, rfl⟩) oX12_isFamily q_1273 q_1275 q_87 rfl (by omega) (by decide) rfl (Nat.le_of_ble_eq_true rfl) 5 rfl dX12_taken_2 rfl ?_
  refine a_if_eq 20 8 rfl dX12_taken_5 (by decide) (fun hc => absurd hc ((by decide))) (fun _ => ?_)
  refine a_iload_n 2 9 rfl dX12_taken_8 rfl rfl ?_
  refine a_i2l 10 rfl dX12_taken_9 ?_
  refine a_lconst (x := 0) 11 rfl dX12_taken_10 (by decide) ?_
  refine a_ldc2 q_1277 14 rfl dX12_taken_11 ?_
  refine a_callS (as := [.long ((1 : Int32).toInt64), .long 0, .long 5]) (rest := []) (st2 := [.int (f_i (decide ((0 : Int32) ≤ (1 : Int32) ∧ (1 : Int32) ≤ 5)))]) (u1 := 0) (v1 := 0) (u2 := 0) (v2 := 0) (r_isInB (y := (1 : Int32)) (a := 0) (b := 5) rfl rfl) oX12_isIn q_1242 q_1243 rfl (by omega) (by decide) rfl (Nat.le_of_ble_eq_true rfl) 17 rfl dX12_taken_14 rfl ?_
  refine a_if_ne 22 20 rfl dX12_taken_17 (by decide) (fun _ => ?_) (fun hc => absurd hc (f_i_T (by decide)))
  refine a_aload_n 0 23 rfl dX12_taken_22 rfl rfl ?_
  refine a_get 4 cl_11 f_RX12_15_11 (by decide) (rfl) rfl 26 rfl dX12_taken_23 ?_
  refine a_iload_n 1 27 rfl dX12_taken_26 rfl rfl ?_
  refine a_iald (rfl) (vp_in_nI (n := j) (by omega) (by omega)) 28 rfl dX12_taken_27 ?_
  refine a_eq (st2 := [.int ((M.2.2.2.1 0) j)]) rfl rfl (congrArg (fun z9 => Value.int z9 :: []) (congrArg (M.2.2.2.1 0) (g_cl (by omega)))) rfl ?_
  refine a_eq (st2 := [.int 0]) rfl rfl (congrArg (fun z9 => Value.int z9 :: []) (hk)) rfl ?_
  refine a_istore_n (lv' := [(3, .int 0), (0, .ref (g_ad G 38)), (1, .int (nI j)), (2, .int 1)]) 29 rfl dX12_taken_28 rfl (by decide) rfl ?_
  refine a_iload_n 0 30 rfl dX12_taken_29 rfl rfl ?_
  refine a_iload_n 3 31 rfl dX12_taken_30 rfl rfl ?_
  refine a_icmp_eq 46 34 rfl dX12_taken_31 (by decide) (fun hc => absurd hc ((by decide))) (fun _ => ?_)
  refine a_iload_n 0 35 rfl dX12_taken_34 rfl rfl ?_
  refine a_if_le 46 38 rfl dX12_taken_35 (by decide) (fun _ => ?_) (fun hc => absurd ((by decide)) hc)
  refine a_iload_n 0 47 rfl dX12_taken_46 rfl rfl ?_
  refine a_iload_n 3 48 rfl dX12_taken_47 rfl rfl ?_
  refine a_icmp_eq 56 51 rfl dX12_taken_48 (by decide) (fun hc => absurd hc ((by decide))) (fun _ => ?_)
  refine a_bipush (x := (-5)) 53 rfl dX12_taken_51 (by decide) ?_
  refine a_goto 76 dX12_taken_53 (by decide) ?_
  exact a_ireturn .int rfl rfl (rfl) (rfl) dX12_taken_76
theorem r_takM0_2 (hm : M.1 1 ≤ 8) (hj : j < M.1 1) (hk : M.2.2.2.1 0 j = 0) (hv : M.2.2.2.1 1 j = y) : g_Run G mX12_taken 6 0 0 [.ref (g_ad G 38), .int (nI j), .int 2] (g_hp G C (g_hm G M ++ ob)) (some (.int (f_tkM 0 2 y (nI j)))) (g_hp G C (g_hm G M ++ ob)) := by
  have h8 : j < 8 := Nat.lt_of_lt_of_le hj hm
  refine g_Run.of (lv := [(0, .ref (g_ad G 38)), (1, .int (nI j)), (2, .int 2)]) (by decide) (Nat.le_of_ble_eq_true rfl) rfl ?_
  refine a_aload_n 0 1 rfl dX12_taken_0 rfl rfl ?_
  refine a_iload_n 1 2 rfl dX12_taken_1 rfl rfl ?_
  refine a_callV (as := [.int (nI j)]) (rest := []) (st2 := [.int 1]) (u1 := 0) (v1 := 0) (u2 := 0) (v2 := 0) (r_isFam_in hm hj) (⟨_, _, _, _, rfl, rfl⟩) oX12_isFamily q_1273 q_1275 q_87 rfl (by omega) (by decide) rfl (Nat.le_of_ble_eq_true rfl) 5 rfl dX12_taken_2 rfl ?_
  refine a_if_eq 20 8 rfl dX12_taken_5 (by decide) (fun hc => absurd hc ((by decide))) (fun _ => ?_)
  refine a_iload_n 2 9 rfl dX12_taken_8 rfl rfl ?_
  refine a_i2l 10 rfl dX12_taken_9 ?_
  refine a_lconst (x := 0) 11 rfl dX12_taken_10 (by decide) ?_
  refine a_ldc2 q_1277 14 rfl dX12_taken_11 ?_
  refine a_callS (as := [.long ((2 : Int32).toInt64), .long 0, .long 5]) (rest := []) (st2 := [.int (f_i (decide ((0 : Int32) ≤ (2 : Int32) ∧ (2 : Int32) ≤ 5)))]) (u1 := 0) (v1 := 0) (u2 := 0) (v2 := 0) (r_isInB (y := (2 : Int32)) (a := 0) (b := 5) rfl rfl) oX12_isIn q_1242 q_1243 rfl (by omega) (by decide) rfl (Nat.le_of_ble_eq_true rfl) 17 rfl dX12_taken_14 rfl ?_
  refine a_if_ne 22 20 rfl dX12_taken_17 (by decide) (fun _ => ?_) (fun hc => absurd hc (f_i_T (by decide)))
  refine a_aload_n 0 23 rfl dX12_taken_22 rfl rfl ?_
  refine a_get 4 cl_11 f_RX12_15_11 (by decide) (rfl) rfl 26 rfl dX12_taken_23 ?_
  refine a_iload_n 1 27 rfl dX12_taken_26 rfl rfl ?_
  refine a_iald (rfl) (vp_in_nI (n := j) (by omega) (by omega)) 28 rfl dX12_taken_27 ?_
  refine a_eq (st2 := [.int ((M.2.2.2.1 0) j)]) rfl rfl (congrArg (fun z9 => Value.int z9 :: []) (congrArg (M.2.2.2.1 0) (g_cl (by omega)))) rfl ?_
  refine a_eq (st2 := [.int 0]) rfl rfl (congrArg (fun z9 => Value.int z9 :: []) (hk)) rfl ?_
  refine a_istore_n (lv' := [(3, .int 0), (0, .ref (g_ad G 38)), (1, .int (nI j)), (2, .int 2)]) 29 rfl dX12_taken_28 rfl (by decide) rfl ?_
  refine a_iload_n 0 30 rfl dX12_taken_29 rfl rfl ?_
  refine a_iload_n 3 31 rfl dX12_taken_30 rfl rfl ?_
  refine a_icmp_eq 46 34 rfl dX12_taken_31 (by decide) (fun hc => absurd hc ((by decide))) (fun _ => ?_)
  refine a_iload_n 0 35 rfl dX12_taken_34 rfl rfl ?_
  refine a_if_le 46 38 rfl dX12_taken_35 (by decide) (fun _ => ?_) (fun hc => absurd ((by decide)) hc)
  refine a_iload_n 0 47 rfl dX12_taken_46 rfl rfl ?_
  refine a_iload_n 3 48 rfl dX12_taken_47 rfl rfl ?_
  refine a_icmp_eq 56 51 rfl dX12_taken_48 (by decide) (fun hc => absurd hc ((by decide))) (fun _ => ?_)
  refine a_bipush (x := (-5)) 53 rfl dX12_taken_51 (by decide) ?_
  refine a_goto 76 dX12_taken_53 (by decide) ?_
  exact a_ireturn .int rfl rfl (rfl) (rfl) dX12_taken_76
theorem r_takM0_3 (hm : M.1 1 ≤ 8) (hj : j < M.1 1) (hk : M.2.2.2.1 0 j = 0) (hv : M.2.2.2.1 1 j = y) : g_Run G mX12_taken 6 0 0 [.ref (g_ad G 38), .int (nI j), .int 3] (g_hp G C (g_hm G M ++ ob)) (some (.int (f_tkM 0 3 y (nI j)))) (g_hp G C (g_hm G M ++ ob)) := by
  have h8 : j < 8 := Nat.lt_of_lt_of_le hj hm
  refine g_Run.of (lv := [(0, .ref (g_ad G 38)), (1, .int (nI j)), (2, .int 3)]) (by decide) (Nat.le_of_ble_eq_true rfl) rfl ?_
  refine a_aload_n 0 1 rfl dX12_taken_0 rfl rfl ?_
  refine a_iload_n 1 2 rfl dX12_taken_1 rfl rfl ?_
  refine a_callV (as := [.int (nI j)]) (rest := []) (st2 := [.int 1]) (u1 := 0) (v1 := 0) (u2 := 0) (v2 := 0) (r_isFam_in hm hj) (⟨_, _, _, _, rfl, rfl⟩) oX12_isFamily q_1273 q_1275 q_87 rfl (by omega) (by decide) rfl (Nat.le_of_ble_eq_true rfl) 5 rfl dX12_taken_2 rfl ?_
  refine a_if_eq 20 8 rfl dX12_taken_5 (by decide) (fun hc => absurd hc ((by decide))) (fun _ => ?_)
  refine a_iload_n 2 9 rfl dX12_taken_8 rfl rfl ?_
  refine a_i2l 10 rfl dX12_taken_9 ?_
  refine a_lconst (x := 0) 11 rfl dX12_taken_10 (by decide) ?_
  refine a_ldc2 q_1277 14 rfl dX12_taken_11 ?_
  refine a_callS (as := [.long ((3 : Int32).toInt64), .long 0, .long 5]) (rest := []) (st2 := [.int (f_i (decide ((0 : Int32) ≤ (3 : Int32) ∧ (3 : Int32) ≤ 5)))]) (u1 := 0) (v1 := 0) (u2 := 0) (v2 := 0) (r_isInB (y := (3 : Int32)) (a := 0) (b := 5) rfl rfl) oX12_isIn q_1242 q_1243 rfl (by omega) (by decide) rfl (Nat.le_of_ble_eq_true rfl) 17 rfl dX12_taken_14 rfl ?_
  refine a_if_ne 22 20 rfl dX12_taken_17 (by decide) (fun _ => ?_) (fun hc => absurd hc (f_i_T (by decide)))
  refine a_aload_n 0 23 rfl dX12_taken_22 rfl rfl ?_
  refine a_get 4 cl_11 f_RX12_15_11 (by decide) (rfl) rfl 26 rfl dX12_taken_23 ?_
  refine a_iload_n 1 27 rfl dX12_taken_26 rfl rfl ?_
  refine a_iald (rfl) (vp_in_nI (n := j) (by omega) (by omega)) 28 rfl dX12_taken_27 ?_
  refine a_eq (st2 := [.int ((M.2.2.2.1 0) j)]) rfl rfl (congrArg (fun z9 => Value.int z9 :: []) (congrArg (M.2.2.2.1 0) (g_cl (by omega)))) rfl ?_
  refine a_eq (st2 := [.int 0]) rfl rfl (congrArg (fun z9 => Value.int z9 :: []) (hk)) rfl ?_
  refine a_istore_n (lv' := [(3, .int 0), (0, .ref (g_ad G 38)), (1, .int (nI j)), (2, .int 3)]) 29 rfl dX12_taken_28 rfl (by decide) rfl ?_
  refine a_iload_n 0 30 rfl dX12_taken_29 rfl rfl ?_
  refine a_iload_n 3 31 rfl dX12_taken_30 rfl rfl ?_
  refine a_icmp_eq 46 34 rfl dX12_taken_31 (by decide) (fun hc => absurd hc ((by decide))) (fun _ => ?_)
  refine a_iload_n 0 35 rfl dX12_taken_34 rfl rfl ?_
  refine a_if_le 46 38 rfl dX12_taken_35 (by decide) (fun _ => ?_) (fun hc => absurd ((by decide)) hc)
  refine a_iload_n 0 47 rfl dX12_taken_46 rfl rfl ?_
  refine a_iload_n 3 48 rfl dX12_taken_47 rfl rfl ?_
  refine a_icmp_eq 56 51 rfl dX12_taken_48 (by decide) (fun hc => absurd hc ((by decide))) (fun _ => ?_)
  refine a_bipush (x := (-5)) 53 rfl dX12_taken_51 (by decide) ?_
  refine a_goto 76 dX12_taken_53 (by decide) ?_
  exact a_ireturn .int rfl rfl (rfl) (rfl) dX12_taken_76
theorem r_takM0_4 (hm : M.1 1 ≤ 8) (hj : j < M.1 1) (hk : M.2.2.2.1 0 j = 0) (hv : M.2.2.2.1 1 j = y) : g_Run G mX12_taken 6 0 0 [.ref (g_ad G 38), .int (nI j), .int 4] (g_hp G C (g_hm G M ++ ob)) (some (.int (f_tkM 0 4 y (nI j)))) (g_hp G C (g_hm G M ++ ob)) := by
  have h8 : j < 8 := Nat.lt_of_lt_of_le hj hm
  refine g_Run.of (lv := [(0, .ref (g_ad G 38)), (1, .int (nI j)), (2, .int 4)]) (by decide) (Nat.le_of_ble_eq_true rfl) rfl ?_
  refine a_aload_n 0 1 rfl dX12_taken_0 rfl rfl ?_
  refine a_iload_n 1 2 rfl dX12_taken_1 rfl rfl ?_
  refine a_callV (as := [.int (nI j)]) (rest := []) (st2 := [.int 1]) (u1 := 0) (v1 := 0) (u2 := 0) (v2 := 0) (r_isFam_in hm hj) (⟨_, _, _, _, rfl, rfl⟩) oX12_isFamily q_1273 q_1275 q_87 rfl (by omega) (by decide) rfl (Nat.le_of_ble_eq_true rfl) 5 rfl dX12_taken_2 rfl ?_
  refine a_if_eq 20 8 rfl dX12_taken_5 (by decide) (fun hc => absurd hc ((by decide))) (fun _ => ?_)
  refine a_iload_n 2 9 rfl dX12_taken_8 rfl rfl ?_
  refine a_i2l 10 rfl dX12_taken_9 ?_
  refine a_lconst (x := 0) 11 rfl dX12_taken_10 (by decide) ?_
  refine a_ldc2 q_1277 14 rfl dX12_taken_11 ?_
  refine a_callS (as := [.long ((4 : Int32).toInt64), .long 0, .long 5]) (rest := []) (st2 := [.int (f_i (decide ((0 : Int32) ≤ (4 : Int32) ∧ (4 : Int32) ≤ 5)))]) (u1 := 0) (v1 := 0) (u2 := 0) (v2 := 0) (r_isInB (y := (4 : Int32)) (a := 0) (b := 5) rfl rfl) oX12_isIn q_1242 q_1243 rfl (by omega) (by decide) rfl (Nat.le_of_ble_eq_true rfl) 17 rfl dX12_taken_14 rfl ?_
  refine a_if_ne 22 20 rfl dX12_taken_17 (by decide) (fun _ => ?_) (fun hc => absurd hc (f_i_T (by decide)))
  refine a_aload_n 0 23 rfl dX12_taken_22 rfl rfl ?_
  refine a_get 4 cl_11 f_RX12_15_11 (by decide) (rfl) rfl 26 rfl dX12_taken_23 ?_
  refine a_iload_n 1 27 rfl dX12_taken_26 rfl rfl ?_
  refine a_iald (rfl) (vp_in_nI (n := j) (by omega) (by omega)) 28 rfl dX12_taken_27 ?_
  refine a_eq (st2 := [.int ((M.2.2.2.1 0) j)]) rfl rfl (congrArg (fun z9 => Value.int z9 :: []) (congrArg (M.2.2.2.1 0) (g_cl (by omega)))) rfl ?_
  refine a_eq (st2 := [.int 0]) rfl rfl (congrArg (fun z9 => Value.int z9 :: []) (hk)) rfl ?_
  refine a_istore_n (lv' := [(3, .int 0), (0, .ref (g_ad G 38)), (1, .int (nI j)), (2, .int 4)]) 29 rfl dX12_taken_28 rfl (by decide) rfl ?_
  refine a_iload_n 0 30 rfl dX12_taken_29 rfl rfl ?_
  refine a_iload_n 3 31 rfl dX12_taken_30 rfl rfl ?_
  refine a_icmp_eq 46 34 rfl dX12_taken_31 (by decide) (fun hc => absurd hc ((by decide))) (fun _ => ?_)
  refine a_iload_n 0 35 rfl dX12_taken_34 rfl rfl ?_
  refine a_if_le 46 38 rfl dX12_taken_35 (by decide) (fun _ => ?_) (fun hc => absurd ((by decide)) hc)
  refine a_iload_n 0 47 rfl dX12_taken_46 rfl rfl ?_
  refine a_iload_n 3 48 rfl dX12_taken_47 rfl rfl ?_
  refine a_icmp_eq 56 51 rfl dX12_taken_48 (by decide) (fun hc => absurd hc ((by decide))) (fun _ => ?_)
  refine a_bipush (x := (-5)) 53 rfl dX12_taken_51 (by decide) ?_
  refine a_goto 76 dX12_taken_53 (by decide) ?_
  exact a_ireturn .int rfl rfl (rfl) (rfl) dX12_taken_76
theorem r_takM0_5 (hm : M.1 1 ≤ 8) (hj : j < M.1 1) (hk : M.2.2.2.1 0 j = 0) (hv : M.2.2.2.1 1 j = y) : g_Run G mX12_taken 6 0 0 [.ref (g_ad G 38), .int (nI j), .int 5] (g_hp G C (g_hm G M ++ ob)) (some (.int (f_tkM 0 5 y (nI j)))) (g_hp G C (g_hm G M ++ ob)) := by
  have h8 : j < 8 := Nat.lt_of_lt_of_le hj hm
  refine g_Run.of (lv := [(0, .ref (g_ad G 38)), (1, .int (nI j)), (2, .int 5)]) (by decide) (Nat.le_of_ble_eq_true rfl) rfl ?_
  refine a_aload_n 0 1 rfl dX12_taken_0 rfl rfl ?_
  refine a_iload_n 1 2 rfl dX12_taken_1 rfl rfl ?_
  refine a_callV (as := [.int (nI j)]) (rest := []) (st2 := [.int 1]) (u1 := 0) (v1 := 0) (u2 := 0) (v2 := 0) (r_isFam_in hm hj) (⟨_, _, _, _, rfl, rfl⟩) oX12_isFamily q_1273 q_1275 q_87 rfl (by omega) (by decide) rfl (Nat.le_of_ble_eq_true rfl) 5 rfl dX12_taken_2 rfl ?_
  refine a_if_eq 20 8 rfl dX12_taken_5 (by decide) (fun hc => absurd hc ((by decide))) (fun _ => ?_)
  refine a_iload_n 2 9 rfl dX12_taken_8 rfl rfl ?_
  refine a_i2l 10 rfl dX12_taken_9 ?_
  refine a_lconst (x := 0) 11 rfl dX12_taken_10 (by decide) ?_
  refine a_ldc2 q_1277 14 rfl dX12_taken_11 ?_
  refine a_callS (as := [.long ((5 : Int32).toInt64), .long 0, .long 5]) (rest := []) (st2 := [.int (f_i (decide ((0 : Int32) ≤ (5 : Int32) ∧ (5 : Int32) ≤ 5)))]) (u1 := 0) (v1 := 0) (u2 := 0) (v2 := 0) (r_isInB (y := (5 : Int32)) (a := 0) (b := 5) rfl rfl) oX12_isIn q_1242 q_1243 rfl (by omega) (by decide) rfl (Nat.le_of_ble_eq_true rfl) 17 rfl dX12_taken_14 rfl ?_
  refine a_if_ne 22 20 rfl dX12_taken_17 (by decide) (fun _ => ?_) (fun hc => absurd hc (f_i_T (by decide)))
  refine a_aload_n 0 23 rfl dX12_taken_22 rfl rfl ?_
  refine a_get 4 cl_11 f_RX12_15_11 (by decide) (rfl) rfl 26 rfl dX12_taken_23 ?_
  refine a_iload_n 1 27 rfl dX12_taken_26 rfl rfl ?_
  refine a_iald (rfl) (vp_in_nI (n := j) (by omega) (by omega)) 28 rfl dX12_taken_27 ?_
  refine a_eq (st2 := [.int ((M.2.2.2.1 0) j)]) rfl rfl (congrArg (fun z9 => Value.int z9 :: []) (congrArg (M.2.2.2.1 0) (g_cl (by omega)))) rfl ?_
  refine a_eq (st2 := [.int 0]) rfl rfl (congrArg (fun z9 => Value.int z9 :: []) (hk)) rfl ?_
  refine a_istore_n (lv' := [(3, .int 0), (0, .ref (g_ad G 38)), (1, .int (nI j)), (2, .int 5)]) 29 rfl dX12_taken_28 rfl (by decide) rfl ?_
  refine a_iload_n 0 30 rfl dX12_taken_29 rfl rfl ?_
  refine a_iload_n 3 31 rfl dX12_taken_30 rfl rfl ?_
  refine a_icmp_eq 46 34 rfl dX12_taken_31 (by decide) (fun hc => absurd hc ((by decide))) (fun _ => ?_)
  refine a_iload_n 0 35 rfl dX12_taken_34 rfl rfl ?_
  refine a_if_le 46 38 rfl dX12_taken_35 (by decide) (fun _ => ?_) (fun hc => absurd ((by decide)) hc)
  refine a_iload_n 0 47 rfl dX12_taken_46 rfl rfl ?_
  refine a_iload_n 3 48 rfl dX12_taken_47 rfl rfl ?_
  refine a_icmp_eq 56 51 rfl dX12_taken_48 (by decide) (fun hc => absurd hc ((by decide))) (fun _ => ?_)
  refine a_bipush (x := (-5)) 53 rfl dX12_taken_51 (by decide) ?_
  refine a_goto 76 dX12_taken_53 (by decide) ?_
  exact a_ireturn .int rfl rfl (rfl) (rfl) dX12_taken_76
theorem r_takM1_0 (hm : M.1 1 ≤ 8) (hj : j < M.1 1) (hk : M.2.2.2.1 0 j = 1) (hv : M.2.2.2.1 1 j = y) : g_Run G mX12_taken 6 0 0 [.ref (g_ad G 38), .int (nI j), .int 0] (g_hp G C (g_hm G M ++ ob)) (some (.int (f_tkM 1 0 y (nI j)))) (g_hp G C (g_hm G M ++ ob)) := by
  have h8 : j < 8 := Nat.lt_of_lt_of_le hj hm
  refine g_Run.of (lv := [(0, .ref (g_ad G 38)), (1, .int (nI j)), (2, .int 0)]) (by decide) (Nat.le_of_ble_eq_true rfl) rfl ?_
  refine a_aload_n 0 1 rfl dX12_taken_0 rfl rfl ?_
  refine a_iload_n 1 2 rfl dX12_taken_1 rfl rfl ?_
  refine a_callV (as := [.int (nI j)]) (rest := []) (st2 := [.int 1]) (u1 := 0) (v1 := 0) (u2 := 0) (v2 := 0) (r_isFam_in hm hj) (⟨_, _, _, _, rfl, rfl⟩) oX12_isFamily q_1273 q_1275 q_87 rfl (by omega) (by decide) rfl (Nat.le_of_ble_eq_true rfl) 5 rfl dX12_taken_2 rfl ?_
  refine a_if_eq 20 8 rfl dX12_taken_5 (by decide) (fun hc => absurd hc ((by decide))) (fun _ => ?_)
  refine a_iload_n 2 9 rfl dX12_taken_8 rfl rfl ?_
  refine a_i2l 10 rfl dX12_taken_9 ?_
  refine a_lconst (x := 0) 11 rfl dX12_taken_10 (by decide) ?_
  refine a_ldc2 q_1277 14 rfl dX12_taken_11 ?_
  refine a_callS (as := [.long ((0 : Int32).toInt64), .long 0, .long 5]) (rest := []) (st2 := [.int (f_i (decide ((0 : Int32) ≤ (0 : Int32) ∧ (0 : Int32) ≤ 5)))]) (u1 := 0) (v1 := 0) (u2 := 0) (v2 := 0) (r_isInB (y := (0 : Int32)) (a := 0) (b := 5) rfl rfl) oX12_isIn q_1242 q_1243 rfl (by omega) (by decide) rfl (Nat.le_of_ble_eq_true rfl) 17 rfl dX12_taken_14 rfl ?_
  refine a_if_ne 22 20 rfl dX12_taken_17 (by decide) (fun _ => ?_) (fun hc => absurd hc (f_i_T (by decide)))
  refine a_aload_n 0 23 rfl dX12_taken_22 rfl rfl ?_
  refine a_get 4 cl_11 f_RX12_15_11 (by decide) (rfl) rfl 26 rfl dX12_taken_23 ?_
  refine a_iload_n 1 27 rfl dX12_taken_26 rfl rfl ?_
  refine a_iald (rfl) (vp_in_nI (n := j) (by omega) (by omega)) 28 rfl dX12_taken_27 ?_
  refine a_eq (st2 := [.int ((M.2.2.2.1 0) j)]) rfl rfl (congrArg (fun z9 => Value.int z9 :: []) (congrArg (M.2.2.2.1 0) (g_cl (by omega)))) rfl ?_
  refine a_eq (st2 := [.int 1]) rfl rfl (congrArg (fun z9 => Value.int z9 :: []) (hk)) rfl ?_
  refine a_istore_n (lv' := [(3, .int 1), (0, .ref (g_ad G 38)), (1, .int (nI j)), (2, .int 0)]) 29 rfl dX12_taken_28 rfl (by decide) rfl ?_
  refine a_iload_n 0 30 rfl dX12_taken_29 rfl rfl ?_
  refine a_iload_n 3 31 rfl dX12_taken_30 rfl rfl ?_
  refine a_icmp_eq 46 34 rfl dX12_taken_31 (by decide) (fun hc => absurd hc ((by decide))) (fun _ => ?_)
  refine a_iload_n 0 35 rfl dX12_taken_34 rfl rfl ?_
  refine a_if_le 46 38 rfl dX12_taken_35 (by decide) (fun hc => absurd hc ((by decide))) (fun _ => ?_)
  refine a_iload_n 0 39 rfl dX12_taken_38 rfl rfl ?_
  refine a_callS (as := [.int 1]) (rest := []) (st2 := [.int 0]) (u1 := 0) (v1 := 0) (u2 := 0) (v2 := 0) (r_above1) oX12_above q_1633 q_1634 rfl (by omega) (by decide) rfl (Nat.le_of_ble_eq_true rfl) 42 rfl dX12_taken_39 rfl ?_
  refine a_istore_n (lv' := [(3, .int 0), (0, .ref (g_ad G 38)), (1, .int (nI j)), (2, .int 0)]) 43 rfl dX12_taken_42 rfl (by decide) rfl ?_
  refine a_goto 29 dX12_taken_43 (by decide) ?_
  refine a_iload_n 0 30 rfl dX12_taken_29 rfl rfl ?_
  refine a_iload_n 3 31 rfl dX12_taken_30 rfl rfl ?_
  refine a_icmp_eq 46 34 rfl dX12_taken_31 (by decide) (fun _ => ?_) (fun hc => absurd (rfl) hc)
  refine a_iload_n 0 47 rfl dX12_taken_46 rfl rfl ?_
  refine a_iload_n 3 48 rfl dX12_taken_47 rfl rfl ?_
  refine a_icmp_eq 56 51 rfl dX12_taken_48 (by decide) (fun _ => ?_) (fun hc => absurd (rfl) hc)
  refine a_iload_n 3 57 rfl dX12_taken_56 rfl rfl ?_
  refine a_iconst (x := 3) 58 rfl dX12_taken_57 (by decide) ?_
  refine a_icmp_eq 66 61 rfl dX12_taken_58 (by decide) (fun hc => absurd hc ((by decide))) (fun _ => ?_)
  refine a_iload_n 3 62 rfl dX12_taken_61 rfl rfl ?_
  refine a_iconst (x := 4) 63 rfl dX12_taken_62 (by decide) ?_
  refine a_icmp_ne 75 66 rfl dX12_taken_63 (by decide) (fun _ => ?_) (fun hc => absurd hc ((by decide)))
  refine a_iload_n 2 76 rfl dX12_taken_75 rfl rfl ?_
  exact a_ireturn .int rfl rfl (rfl) (rfl) dX12_taken_76
theorem r_takM1_1 (hm : M.1 1 ≤ 8) (hj : j < M.1 1) (hk : M.2.2.2.1 0 j = 1) (hv : M.2.2.2.1 1 j = y) : g_Run G mX12_taken 6 0 0 [.ref (g_ad G 38), .int (nI j), .int 1] (g_hp G C (g_hm G M ++ ob)) (some (.int (f_tkM 1 1 y (nI j)))) (g_hp G C (g_hm G M ++ ob)) := by
  have h8 : j < 8 := Nat.lt_of_lt_of_le hj hm
  refine g_Run.of (lv := [(0, .ref (g_ad G 38)), (1, .int (nI j)), (2, .int 1)]) (by decide) (Nat.le_of_ble_eq_true rfl) rfl ?_
  refine a_aload_n 0 1 rfl dX12_taken_0 rfl rfl ?_
  refine a_iload_n 1 2 rfl dX12_taken_1 rfl rfl ?_
  refine a_callV (as := [.int (nI j)]) (rest := []) (st2 := [.int 1]) (u1 := 0) (v1 := 0) (u2 := 0) (v2 := 0) (r_isFam_in hm hj) (⟨_, _, _, _, rfl, rfl⟩) oX12_isFamily q_1273 q_1275 q_87 rfl (by omega) (by decide) rfl (Nat.le_of_ble_eq_true rfl) 5 rfl dX12_taken_2 rfl ?_
  refine a_if_eq 20 8 rfl dX12_taken_5 (by decide) (fun hc => absurd hc ((by decide))) (fun _ => ?_)
  refine a_iload_n 2 9 rfl dX12_taken_8 rfl rfl ?_
  refine a_i2l 10 rfl dX12_taken_9 ?_
  refine a_lconst (x := 0) 11 rfl dX12_taken_10 (by decide) ?_
  refine a_ldc2 q_1277 14 rfl dX12_taken_11 ?_
  refine a_callS (as := [.long ((1 : Int32).toInt64), .long 0, .long 5]) (rest := []) (st2 := [.int (f_i (decide ((0 : Int32) ≤ (1 : Int32) ∧ (1 : Int32) ≤ 5)))]) (u1 := 0) (v1 := 0) (u2 := 0) (v2 := 0) (r_isInB (y := (1 : Int32)) (a := 0) (b := 5) rfl rfl) oX12_isIn q_1242 q_1243 rfl (by omega) (by decide) rfl (Nat.le_of_ble_eq_true rfl) 17 rfl dX12_taken_14 rfl ?_
  refine a_if_ne 22 20 rfl dX12_taken_17 (by decide) (fun _ => ?_) (fun hc => absurd hc (f_i_T (by decide)))
  refine a_aload_n 0 23 rfl dX12_taken_22 rfl rfl ?_
  refine a_get 4 cl_11 f_RX12_15_11 (by decide) (rfl) rfl 26 rfl dX12_taken_23 ?_
  refine a_iload_n 1 27 rfl dX12_taken_26 rfl rfl ?_
  refine a_iald (rfl) (vp_in_nI (n := j) (by omega) (by omega)) 28 rfl dX12_taken_27 ?_
  refine a_eq (st2 := [.int ((M.2.2.2.1 0) j)]) rfl rfl (congrArg (fun z9 => Value.int z9 :: []) (congrArg (M.2.2.2.1 0) (g_cl (by omega)))) rfl ?_
  refine a_eq (st2 := [.int 1]) rfl rfl (congrArg (fun z9 => Value.int z9 :: []) (hk)) rfl ?_
  refine a_istore_n (lv' := [(3, .int 1), (0, .ref (g_ad G 38)), (1, .int (nI j)), (2, .int 1)]) 29 rfl dX12_taken_28 rfl (by decide) rfl ?_
  refine a_iload_n 0 30 rfl dX12_taken_29 rfl rfl ?_
  refine a_iload_n 3 31 rfl dX12_taken_30 rfl rfl ?_
  refine a_icmp_eq 46 34 rfl dX12_taken_31 (by decide) (fun _ => ?_) (fun hc => absurd (rfl) hc)
  refine a_iload_n 0 47 rfl dX12_taken_46 rfl rfl ?_
  refine a_iload_n 3 48 rfl dX12_taken_47 rfl rfl ?_
  refine a_icmp_eq 56 51 rfl dX12_taken_48 (by decide) (fun _ => ?_) (fun hc => absurd (rfl) hc)
  refine a_iload_n 3 57 rfl dX12_taken_56 rfl rfl ?_
  refine a_iconst (x := 3) 58 rfl dX12_taken_57 (by decide) ?_
  refine a_icmp_eq 66 61 rfl dX12_taken_58 (by decide) (fun hc => absurd hc ((by decide))) (fun _ => ?_)
  refine a_iload_n 3 62 rfl dX12_taken_61 rfl rfl ?_
  refine a_iconst (x := 4) 63 rfl dX12_taken_62 (by decide) ?_
  refine a_icmp_ne 75 66 rfl dX12_taken_63 (by decide) (fun _ => ?_) (fun hc => absurd hc ((by decide)))
  refine a_iload_n 2 76 rfl dX12_taken_75 rfl rfl ?_
  exact a_ireturn .int rfl rfl (rfl) (rfl) dX12_taken_76
theorem r_takM1_2 (hm : M.1 1 ≤ 8) (hj : j < M.1 1) (hk : M.2.2.2.1 0 j = 1) (hv : M.2.2.2.1 1 j = y) : g_Run G mX12_taken 6 0 0 [.ref (g_ad G 38), .int (nI j), .int 2] (g_hp G C (g_hm G M ++ ob)) (some (.int (f_tkM 1 2 y (nI j)))) (g_hp G C (g_hm G M ++ ob)) := by
  have h8 : j < 8 := Nat.lt_of_lt_of_le hj hm
  refine g_Run.of (lv := [(0, .ref (g_ad G 38)), (1, .int (nI j)), (2, .int 2)]) (by decide) (Nat.le_of_ble_eq_true rfl) rfl ?_
  refine a_aload_n 0 1 rfl dX12_taken_0 rfl rfl ?_
  refine a_iload_n 1 2 rfl dX12_taken_1 rfl rfl ?_
  refine a_callV (as := [.int (nI j)]) (rest := []) (st2 := [.int 1]) (u1 := 0) (v1 := 0) (u2 := 0) (v2 := 0) (r_isFam_in hm hj) (⟨_, _, _, _, rfl, rfl⟩) oX12_isFamily q_1273 q_1275 q_87 rfl (by omega) (by decide) rfl (Nat.le_of_ble_eq_true rfl) 5 rfl dX12_taken_2 rfl ?_
  refine a_if_eq 20 8 rfl dX12_taken_5 (by decide) (fun hc => absurd hc ((by decide))) (fun _ => ?_)
  refine a_iload_n 2 9 rfl dX12_taken_8 rfl rfl ?_
  refine a_i2l 10 rfl dX12_taken_9 ?_
  refine a_lconst (x := 0) 11 rfl dX12_taken_10 (by decide) ?_
  refine a_ldc2 q_1277 14 rfl dX12_taken_11 ?_
  refine a_callS (as := [.long ((2 : Int32).toInt64), .long 0, .long 5]) (rest := []) (st2 := [.int (f_i (decide ((0 : Int32) ≤ (2 : Int32) ∧ (2 : Int32) ≤ 5)))]) (u1 := 0) (v1 := 0) (u2 := 0) (v2 := 0) (r_isInB (y := (2 : Int32)) (a := 0) (b := 5) rfl rfl) oX12_isIn q_1242 q_1243 rfl (by omega) (by decide) rfl (Nat.le_of_ble_eq_true rfl) 17 rfl dX12_taken_14 rfl ?_
  refine a_if_ne 22 20 rfl dX12_taken_17 (by decide) (fun _ => ?_) (fun hc => absurd hc (f_i_T (by decide)))
  refine a_aload_n 0 23 rfl dX12_taken_22 rfl rfl ?_
  refine a_get 4 cl_11 f_RX12_15_11 (by decide) (rfl) rfl 26 rfl dX12_taken_23 ?_
  refine a_iload_n 1 27 rfl dX12_taken_26 rfl rfl ?_
  refine a_iald (rfl) (vp_in_nI (n := j) (by omega) (by omega)) 28 rfl dX12_taken_27 ?_
  refine a_eq (st2 := [.int ((M.2.2.2.1 0) j)]) rfl rfl (congrArg (fun z9 => Value.int z9 :: []) (congrArg (M.2.2.2.1 0) (g_cl (by omega)))) rfl ?_
  refine a_eq (st2 := [.int 1]) rfl rfl (congrArg (fun z9 => Value.int z9 :: []) (hk)) rfl ?_
  refine a_istore_n (lv' := [(3, .int 1), (0, .ref (g_ad G 38)), (1, .int (nI j)), (2, .int 2)]) 29 rfl dX12_taken_28 rfl (by decide) rfl ?_
  refine a_iload_n 0 30 rfl dX12_taken_29 rfl rfl ?_
  refine a_iload_n 3 31 rfl dX12_taken_30 rfl rfl ?_
  refine a_icmp_eq 46 34 rfl dX12_taken_31 (by decide) (fun hc => absurd hc ((by decide))) (fun _ => ?_)
  refine a_iload_n 0 35 rfl dX12_taken_34 rfl rfl ?_
  refine a_if_le 46 38 rfl dX12_taken_35 (by decide) (fun hc => absurd hc ((by decide))) (fun _ => ?_)
  refine a_iload_n 0 39 rfl dX12_taken_38 rfl rfl ?_
  refine a_callS (as := [.int 1]) (rest := []) (st2 := [.int 0]) (u1 := 0) (v1 := 0) (u2 := 0) (v2 := 0) (r_above1) oX12_above q_1633 q_1634 rfl (by omega) (by decide) rfl (Nat.le_of_ble_eq_true rfl) 42 rfl dX12_taken_39 rfl ?_
  refine a_istore_n (lv' := [(3, .int 0), (0, .ref (g_ad G 38)), (1, .int (nI j)), (2, .int 2)]) 43 rfl dX12_taken_42 rfl (by decide) rfl ?_
  refine a_goto 29 dX12_taken_43 (by decide) ?_
  refine a_iload_n 0 30 rfl dX12_taken_29 rfl rfl ?_
  refine a_iload_n 3 31 rfl dX12_taken_30 rfl rfl ?_
  refine a_icmp_eq 46 34 rfl dX12_taken_31 (by decide) (fun hc => absurd hc ((by decide))) (fun _ => ?_)
  refine a_iload_n 0 35 rfl dX12_taken_34 rfl rfl ?_
  refine a_if_le 46 38 rfl dX12_taken_35 (by decide) (fun _ => ?_) (fun hc => absurd ((by decide)) hc)
  refine a_iload_n 0 47 rfl dX12_taken_46 rfl rfl ?_
  refine a_iload_n 3 48 rfl dX12_taken_47 rfl rfl ?_
  refine a_icmp_eq 56 51 rfl dX12_taken_48 (by decide) (fun hc => absurd hc ((by decide))) (fun _ => ?_)
  refine a_bipush (x := (-5)) 53 rfl dX12_taken_51 (by decide) ?_
  refine a_goto 76 dX12_taken_53 (by decide) ?_
  exact a_ireturn .int rfl rfl (rfl) (rfl) dX12_taken_76
theorem r_takM1_3 (hm : M.1 1 ≤ 8) (hj : j < M.1 1) (hk : M.2.2.2.1 0 j = 1) (hv : M.2.2.2.1 1 j = y) : g_Run G mX12_taken 6 0 0 [.ref (g_ad G 38), .int (nI j), .int 3] (g_hp G C (g_hm G M ++ ob)) (some (.int (f_tkM 1 3 y (nI j)))) (g_hp G C (g_hm G M ++ ob)) := by
  have h8 : j < 8 := Nat.lt_of_lt_of_le hj hm
  refine g_Run.of (lv := [(0, .ref (g_ad G 38)), (1, .int (nI j)), (2, .int 3)]) (by decide) (Nat.le_of_ble_eq_true rfl) rfl ?_
  refine a_aload_n 0 1 rfl dX12_taken_0 rfl rfl ?_
  refine a_iload_n 1 2 rfl dX12_taken_1 rfl rfl ?_
  refine a_callV (as := [.int (nI j)]) (rest := []) (st2 := [.int 1]) (u1 := 0) (v1 := 0) (u2 := 0) (v2 := 0) (r_isFam_in hm hj) (⟨_, _, _, _, rfl, rfl⟩) oX12_isFamily q_1273 q_1275 q_87 rfl (by omega) (by decide) rfl (Nat.le_of_ble_eq_true rfl) 5 rfl dX12_taken_2 rfl ?_
  refine a_if_eq 20 8 rfl dX12_taken_5 (by decide) (fun hc => absurd hc ((by decide))) (fun _ => ?_)
  refine a_iload_n 2 9 rfl dX12_taken_8 rfl rfl ?_
  refine a_i2l 10 rfl dX12_taken_9 ?_
  refine a_lconst (x := 0) 11 rfl dX12_taken_10 (by decide) ?_
  refine a_ldc2 q_1277 14 rfl dX12_taken_11 ?_
  refine a_callS (as := [.long ((3 : Int32).toInt64), .long 0, .long 5]) (rest := []) (st2 := [.int (f_i (decide ((0 : Int32) ≤ (3 : Int32) ∧ (3 : Int32) ≤ 5)))]) (u1 := 0) (v1 := 0) (u2 := 0) (v2 := 0) (r_isInB (y := (3 : Int32)) (a := 0) (b := 5) rfl rfl) oX12_isIn q_1242 q_1243 rfl (by omega) (by decide) rfl (Nat.le_of_ble_eq_true rfl) 17 rfl dX12_taken_14 rfl ?_
  refine a_if_ne 22 20 rfl dX12_taken_17 (by decide) (fun _ => ?_) (fun hc => absurd hc (f_i_T (by decide)))
  refine a_aload_n 0 23 rfl dX12_taken_22 rfl rfl ?_
  refine a_get 4 cl_11 f_RX12_15_11 (by decide) (rfl) rfl 26 rfl dX12_taken_23 ?_
  refine a_iload_n 1 27 rfl dX12_taken_26 rfl rfl ?_
  refine a_iald (rfl) (vp_in_nI (n := j) (by omega) (by omega)) 28 rfl dX12_taken_27 ?_
  refine a_eq (st2 := [.int ((M.2.2.2.1 0) j)]) rfl rfl (congrArg (fun z9 => Value.int z9 :: []) (congrArg (M.2.2.2.1 0) (g_cl (by omega)))) rfl ?_
  refine a_eq (st2 := [.int 1]) rfl rfl (congrArg (fun z9 => Value.int z9 :: []) (hk)) rfl ?_
  refine a_istore_n (lv' := [(3, .int 1), (0, .ref (g_ad G 38)), (1, .int (nI j)), (2, .int 3)]) 29 rfl dX12_taken_28 rfl (by decide) rfl ?_
  refine a_iload_n 0 30 rfl dX12_taken_29 rfl rfl ?_
  refine a_iload_n 3 31 rfl dX12_taken_30 rfl rfl ?_
  refine a_icmp_eq 46 34 rfl dX12_taken_31 (by decide) (fun hc => absurd hc ((by decide))) (fun _ => ?_)
  refine a_iload_n 0 35 rfl dX12_taken_34 rfl rfl ?_
  refine a_if_le 46 38 rfl dX12_taken_35 (by decide) (fun hc => absurd hc ((by decide))) (fun _ => ?_)
  refine a_iload_n 0 39 rfl dX12_taken_38 rfl rfl ?_
  refine a_callS (as := [.int 1]) (rest := []) (st2 := [.int 0]) (u1 := 0) (v1 := 0) (u2 := 0) (v2 := 0) (r_above1) oX12_above q_1633 q_1634 rfl (by omega) (by decide) rfl (Nat.le_of_ble_eq_true rfl) 42 rfl dX12_taken_39 rfl ?_
  refine a_istore_n (lv' := [(3, .int 0), (0, .ref (g_ad G 38)), (1, .int (nI j)), (2, .int 3)]) 43 rfl dX12_taken_42 rfl (by decide) rfl ?_
  refine a_goto 29 dX12_taken_43 (by decide) ?_
  refine a_iload_n 0 30 rfl dX12_taken_29 rfl rfl ?_
  refine a_iload_n 3 31 rfl dX12_taken_30 rfl rfl ?_
  refine a_icmp_eq 46 34 rfl dX12_taken_31 (by decide) (fun hc => absurd hc ((by decide))) (fun _ => ?_)
  refine a_iload_n 0 35 rfl dX12_taken_34 rfl rfl ?_
  refine a_if_le 46 38 rfl dX12_taken_35 (by decide) (fun _ => ?_) (fun hc => absurd ((by decide)) hc)
  refine a_iload_n 0 47 rfl dX12_taken_46 rfl rfl ?_
  refine a_iload_n 3 48 rfl dX12_taken_47 rfl rfl ?_
  refine a_icmp_eq 56 51 rfl dX12_taken_48 (by decide) (fun hc => absurd hc ((by decide))) (fun _ => ?_)
  refine a_bipush (x := (-5)) 53 rfl dX12_taken_51 (by decide) ?_
  refine a_goto 76 dX12_taken_53 (by decide) ?_
  exact a_ireturn .int rfl rfl (rfl) (rfl) dX12_taken_76
theorem r_takM1_4 (hm : M.1 1 ≤ 8) (hj : j < M.1 1) (hk : M.2.2.2.1 0 j = 1) (hv : M.2.2.2.1 1 j = y) : g_Run G mX12_taken 6 0 0 [.ref (g_ad G 38), .int (nI j), .int 4] (g_hp G C (g_hm G M ++ ob)) (some (.int (f_tkM 1 4 y (nI j)))) (g_hp G C (g_hm G M ++ ob)) := by
  have h8 : j < 8 := Nat.lt_of_lt_of_le hj hm
  refine g_Run.of (lv := [(0, .ref (g_ad G 38)), (1, .int (nI j)), (2, .int 4)]) (by decide) (Nat.le_of_ble_eq_true rfl) rfl ?_
  refine a_aload_n 0 1 rfl dX12_taken_0 rfl rfl ?_
  refine a_iload_n 1 2 rfl dX12_taken_1 rfl rfl ?_
  refine a_callV (as := [.int (nI j)]) (rest := []) (st2 := [.int 1]) (u1 := 0) (v1 := 0) (u2 := 0) (v2 := 0) (r_isFam_in hm hj) (⟨_, _, _, _, rfl, rfl⟩) oX12_isFamily q_1273 q_1275 q_87 rfl (by omega) (by decide) rfl (Nat.le_of_ble_eq_true rfl) 5 rfl dX12_taken_2 rfl ?_
  refine a_if_eq 20 8 rfl dX12_taken_5 (by decide) (fun hc => absurd hc ((by decide))) (fun _ => ?_)
  refine a_iload_n 2 9 rfl dX12_taken_8 rfl rfl ?_
  refine a_i2l 10 rfl dX12_taken_9 ?_
  refine a_lconst (x := 0) 11 rfl dX12_taken_10 (by decide) ?_
  refine a_ldc2 q_1277 14 rfl dX12_taken_11 ?_
  refine a_callS (as := [.long ((4 : Int32).toInt64), .long 0, .long 5]) (rest := []) (st2 := [.int (f_i (decide ((0 : Int32) ≤ (4 : Int32) ∧ (4 : Int32) ≤ 5)))]) (u1 := 0) (v1 := 0) (u2 := 0) (v2 := 0) (r_isInB (y := (4 : Int32)) (a := 0) (b := 5) rfl rfl) oX12_isIn q_1242 q_1243 rfl (by omega) (by decide) rfl (Nat.le_of_ble_eq_true rfl) 17 rfl dX12_taken_14 rfl ?_
  refine a_if_ne 22 20 rfl dX12_taken_17 (by decide) (fun _ => ?_) (fun hc => absurd hc (f_i_T (by decide)))
  refine a_aload_n 0 23 rfl dX12_taken_22 rfl rfl ?_
  refine a_get 4 cl_11 f_RX12_15_11 (by decide) (rfl) rfl 26 rfl dX12_taken_23 ?_
  refine a_iload_n 1 27 rfl dX12_taken_26 rfl rfl ?_
  refine a_iald (rfl) (vp_in_nI (n := j) (by omega) (by omega)) 28 rfl dX12_taken_27 ?_
  refine a_eq (st2 := [.int ((M.2.2.2.1 0) j)]) rfl rfl (congrArg (fun z9 => Value.int z9 :: []) (congrArg (M.2.2.2.1 0) (g_cl (by omega)))) rfl ?_
  refine a_eq (st2 := [.int 1]) rfl rfl (congrArg (fun z9 => Value.int z9 :: []) (hk)) rfl ?_
  refine a_istore_n (lv' := [(3, .int 1), (0, .ref (g_ad G 38)), (1, .int (nI j)), (2, .int 4)]) 29 rfl dX12_taken_28 rfl (by decide) rfl ?_
  refine a_iload_n 0 30 rfl dX12_taken_29 rfl rfl ?_
  refine a_iload_n 3 31 rfl dX12_taken_30 rfl rfl ?_
  refine a_icmp_eq 46 34 rfl dX12_taken_31 (by decide) (fun hc => absurd hc ((by decide))) (fun _ => ?_)
  refine a_iload_n 0 35 rfl dX12_taken_34 rfl rfl ?_
  refine a_if_le 46 38 rfl dX12_taken_35 (by decide) (fun hc => absurd hc ((by decide))) (fun _ => ?_)
  refine a_iload_n 0 39 rfl dX12_taken_38 rfl rfl ?_
  refine a_callS (as := [.int 1]) (rest := []) (st2 := [.int 0]) (u1 := 0) (v1 := 0) (u2 := 0) (v2 := 0) (r_above1) oX12_above q_1633 q_1634 rfl (by omega) (by decide) rfl (Nat.le_of_ble_eq_true rfl) 42 rfl dX12_taken_39 rfl ?_
  refine a_istore_n (lv' := [(3, .int 0), (0, .ref (g_ad G 38)), (1, .int (nI j)), (2, .int 4)]) 43 rfl dX12_taken_42 rfl (by decide) rfl ?_
  refine a_goto 29 dX12_taken_43 (by decide) ?_
  refine a_iload_n 0 30 rfl dX12_taken_29 rfl rfl ?_
  refine a_iload_n 3 31 rfl dX12_taken_30 rfl rfl ?_
  refine a_icmp_eq 46 34 rfl dX12_taken_31 (by decide) (fun hc => absurd hc ((by decide))) (fun _ => ?_)
  refine a_iload_n 0 35 rfl dX12_taken_34 rfl rfl ?_
  refine a_if_le 46 38 rfl dX12_taken_35 (by decide) (fun _ => ?_) (fun hc => absurd ((by decide)) hc)
  refine a_iload_n 0 47 rfl dX12_taken_46 rfl rfl ?_
  refine a_iload_n 3 48 rfl dX12_taken_47 rfl rfl ?_
  refine a_icmp_eq 56 51 rfl dX12_taken_48 (by decide) (fun hc => absurd hc ((by decide))) (fun _ => ?_)
  refine a_bipush (x := (-5)) 53 rfl dX12_taken_51 (by decide) ?_
  refine a_goto 76 dX12_taken_53 (by decide) ?_
  exact a_ireturn .int rfl rfl (rfl) (rfl) dX12_taken_76
theorem r_takM1_5 (hm : M.1 1 ≤ 8) (hj : j < M.1 1) (hk : M.2.2.2.1 0 j = 1) (hv : M.2.2.2.1 1 j = y) : g_Run G mX12_taken 6 0 0 [.ref (g_ad G 38), .int (nI j), .int 5] (g_hp G C (g_hm G M ++ ob)) (some (.int (f_tkM 1 5 y (nI j)))) (g_hp G C (g_hm G M ++ ob)) := by
  have h8 : j < 8 := Nat.lt_of_lt_of_le hj hm
  refine g_Run.of (lv := [(0, .ref (g_ad G 38)), (1, .int (nI j)), (2, .int 5)]) (by decide) (Nat.le_of_ble_eq_true rfl) rfl ?_
  refine a_aload_n 0 1 rfl dX12_taken_0 rfl rfl ?_
  refine a_iload_n 1 2 rfl dX12_taken_1 rfl rfl ?_
  refine a_callV (as := [.int (nI j)]) (rest := []) (st2 := [.int 1]) (u1 := 0) (v1 := 0) (u2 := 0) (v2 := 0) (r_isFam_in hm hj) (⟨_, _, _, _, rfl, rfl⟩) oX12_isFamily q_1273 q_1275 q_87 rfl (by omega) (by decide) rfl (Nat.le_of_ble_eq_true rfl) 5 rfl dX12_taken_2 rfl ?_
  refine a_if_eq 20 8 rfl dX12_taken_5 (by decide) (fun hc => absurd hc ((by decide))) (fun _ => ?_)
  refine a_iload_n 2 9 rfl dX12_taken_8 rfl rfl ?_
  refine a_i2l 10 rfl dX12_taken_9 ?_
  refine a_lconst (x := 0) 11 rfl dX12_taken_10 (by decide) ?_
  refine a_ldc2 q_1277 14 rfl dX12_taken_11 ?_
  refine a_callS (as := [.long ((5 : Int32).toInt64), .long 0, .long 5]) (rest := []) (st2 := [.int (f_i (decide ((0 : Int32) ≤ (5 : Int32) ∧ (5 : Int32) ≤ 5)))]) (u1 := 0) (v1 := 0) (u2 := 0) (v2 := 0) (r_isInB (y := (5 : Int32)) (a := 0) (b := 5) rfl rfl) oX12_isIn q_1242 q_1243 rfl (by omega) (by decide) rfl (Nat.le_of_ble_eq_true rfl) 17 rfl dX12_taken_14 rfl ?_
  refine a_if_ne 22 20 rfl dX12_taken_17 (by decide) (fun _ => ?_) (fun hc => absurd hc (f_i_T (by decide)))
  refine a_aload_n 0 23 rfl dX12_taken_22 rfl rfl ?_
  refine a_get 4 cl_11 f_RX12_15_11 (by decide) (rfl) rfl 26 rfl dX12_taken_23 ?_
  refine a_iload_n 1 27 rfl dX12_taken_26 rfl rfl ?_
  refine a_iald (rfl) (vp_in_nI (n := j) (by omega) (by omega)) 28 rfl dX12_taken_27 ?_
  refine a_eq (st2 := [.int ((M.2.2.2.1 0) j)]) rfl rfl (congrArg (fun z9 => Value.int z9 :: []) (congrArg (M.2.2.2.1 0) (g_cl (by omega)))) rfl ?_
  refine a_eq (st2 := [.int 1]) rfl rfl (congrArg (fun z9 => Value.int z9 :: []) (hk)) rfl ?_
  refine a_istore_n (lv' := [(3, .int 1), (0, .ref (g_ad G 38)), (1, .int (nI j)), (2, .int 5)]) 29 rfl dX12_taken_28 rfl (by decide) rfl ?_
  refine a_iload_n 0 30 rfl dX12_taken_29 rfl rfl ?_
  refine a_iload_n 3 31 rfl dX12_taken_30 rfl rfl ?_
  refine a_icmp_eq 46 34 rfl dX12_taken_31 (by decide) (fun hc => absurd hc ((by decide))) (fun _ => ?_)
  refine a_iload_n 0 35 rfl dX12_taken_34 rfl rfl ?_
  refine a_if_le 46 38 rfl dX12_taken_35 (by decide) (fun hc => absurd hc ((by decide))) (fun _ => ?_)
  refine a_iload_n 0 39 rfl dX12_taken_38 rfl rfl ?_
  refine a_callS (as := [.int 1]) (rest := []) (st2 := [.int 0]) (u1 := 0) (v1 := 0) (u2 := 0) (v2 := 0) (r_above1) oX12_above q_1633 q_1634 rfl (by omega) (by decide) rfl (Nat.le_of_ble_eq_true rfl) 42 rfl dX12_taken_39 rfl ?_
  refine a_istore_n (lv' := [(3, .int 0), (0, .ref (g_ad G 38)), (1, .int (nI j)), (2, .int 5)]) 43 rfl dX12_taken_42 rfl (by decide) rfl ?_
  refine a_goto 29 dX12_taken_43 (by decide) ?_
  refine a_iload_n 0 30 rfl dX12_taken_29 rfl rfl ?_
  refine a_iload_n 3 31 rfl dX12_taken_30 rfl rfl ?_
  refine a_icmp_eq 46 34 rfl dX12_taken_31 (by decide) (fun hc => absurd hc ((by decide))) (fun _ => ?_)
  refine a_iload_n 0 35 rfl dX12_taken_34 rfl rfl ?_
  refine a_if_le 46 38 rfl dX12_taken_35 (by decide) (fun _ => ?_) (fun hc => absurd ((by decide)) hc)
  refine a_iload_n 0 47 rfl dX12_taken_46 rfl rfl ?_
  refine a_iload_n 3 48 rfl dX12_taken_47 rfl rfl ?_
  refine a_icmp_eq 56 51 rfl dX12_taken_48 (by decide) (fun hc => absurd hc ((by decide))) (fun _ => ?_)
  refine a_bipush (x := (-5)) 53 rfl dX12_taken_51 (by decide) ?_
  refine a_goto 76 dX12_taken_53 (by decide) ?_
  exact a_ireturn .int rfl rfl (rfl) (rfl) dX12_taken_76
theorem r_takM2_0 (hm : M.1 1 ≤ 8) (hj : j < M.1 1) (hk : M.2.2.2.1 0 j = 2) (hv : M.2.2.2.1 1 j = y) : g_Run G mX12_taken 6 0 0 [.ref (g_ad G 38), .int (nI j), .int 0] (g_hp G C (g_hm G M ++ ob)) (some (.int (f_tkM 2 0 y (nI j)))) (g_hp G C (g_hm G M ++ ob)) := by
  have h8 : j < 8 := Nat.lt_of_lt_of_le hj hm
  refine g_Run.of (lv := [(0, .ref (g_ad G 38)), (1, .int (nI j)), (2, .int 0)]) (by decide) (Nat.le_of_ble_eq_true rfl) rfl ?_
  refine a_aload_n 0 1 rfl dX12_taken_0 rfl rfl ?_
  refine a_iload_n 1 2 rfl dX12_taken_1 rfl rfl ?_
  refine a_callV (as := [.int (nI j)]) (rest := []) (st2 := [.int 1]) (u1 := 0) (v1 := 0) (u2 := 0) (v2 := 0) (r_isFam_in hm hj) (⟨_, _, _, _, rfl, rfl⟩) oX12_isFamily q_1273 q_1275 q_87 rfl (by omega) (by decide) rfl (Nat.le_of_ble_eq_true rfl) 5 rfl dX12_taken_2 rfl ?_
  refine a_if_eq 20 8 rfl dX12_taken_5 (by decide) (fun hc => absurd hc ((by decide))) (fun _ => ?_)
  refine a_iload_n 2 9 rfl dX12_taken_8 rfl rfl ?_
  refine a_i2l 10 rfl dX12_taken_9 ?_
  refine a_lconst (x := 0) 11 rfl dX12_taken_10 (by decide) ?_
  refine a_ldc2 q_1277 14 rfl dX12_taken_11 ?_
  refine a_callS (as := [.long ((0 : Int32).toInt64), .long 0, .long 5]) (rest := []) (st2 := [.int (f_i (decide ((0 : Int32) ≤ (0 : Int32) ∧ (0 : Int32) ≤ 5)))]) (u1 := 0) (v1 := 0) (u2 := 0) (v2 := 0) (r_isInB (y := (0 : Int32)) (a := 0) (b := 5) rfl rfl) oX12_isIn q_1242 q_1243 rfl (by omega) (by decide) rfl (Nat.le_of_ble_eq_true rfl) 17 rfl dX12_taken_14 rfl ?_
  refine a_if_ne 22 20 rfl dX12_taken_17 (by decide) (fun _ => ?_) (fun hc => absurd hc (f_i_T (by decide)))
  refine a_aload_n 0 23 rfl dX12_taken_22 rfl rfl ?_
  refine a_get 4 cl_11 f_RX12_15_11 (by decide) (rfl) rfl 26 rfl dX12_taken_23 ?_
  refine a_iload_n 1 27 rfl dX12_taken_26 rfl rfl ?_
  refine a_iald (rfl) (vp_in_nI (n := j) (by omega) (by omega)) 28 rfl dX12_taken_27 ?_
  refine a_eq (st2 := [.int ((M.2.2.2.1 0) j)]) rfl rfl (congrArg (fun z9 => Value.int z9 :: []) (congrArg (M.2.2.2.1 0) (g_cl (by omega)))) rfl ?_
  refine a_eq (st2 := [.int 2]) rfl rfl (congrArg (fun z9 => Value.int z9 :: []) (hk)) rfl ?_
  refine a_istore_n (lv' := [(3, .int 2), (0, .ref (g_ad G 38)), (1, .int (nI j)), (2, .int 0)]) 29 rfl dX12_taken_28 rfl (by decide) rfl ?_
  refine a_iload_n 0 30 rfl dX12_taken_29 rfl rfl ?_
  refine a_iload_n 3 31 rfl dX12_taken_30 rfl rfl ?_
  refine a_icmp_eq 46 34 rfl dX12_taken_31 (by decide) (fun hc => absurd hc ((by decide))) (fun _ => ?_)
  refine a_iload_n 0 35 rfl dX12_taken_34 rfl rfl ?_
  refine a_if_le 46 38 rfl dX12_taken_35 (by decide) (fun hc => absurd hc ((by decide))) (fun _ => ?_)
  refine a_iload_n 0 39 rfl dX12_taken_38 rfl rfl ?_
  refine a_callS (as := [.int 2]) (rest := []) (st2 := [.int 0]) (u1 := 0) (v1 := 0) (u2 := 0) (v2 := 0) (r_above2) oX12_above q_1633 q_1634 rfl (by omega) (by decide) rfl (Nat.le_of_ble_eq_true rfl) 42 rfl dX12_taken_39 rfl ?_
  refine a_istore_n (lv' := [(3, .int 0), (0, .ref (g_ad G 38)), (1, .int (nI j)), (2, .int 0)]) 43 rfl dX12_taken_42 rfl (by decide) rfl ?_
  refine a_goto 29 dX12_taken_43 (by decide) ?_
  refine a_iload_n 0 30 rfl dX12_taken_29 rfl rfl ?_
  refine a_iload_n 3 31 rfl dX12_taken_30 rfl rfl ?_
  refine a_icmp_eq 46 34 rfl dX12_taken_31 (by decide) (fun _ => ?_) (fun hc => absurd (rfl) hc)
  refine a_iload_n 0 47 rfl dX12_taken_46 rfl rfl ?_
  refine a_iload_n 3 48 rfl dX12_taken_47 rfl rfl ?_
  refine a_icmp_eq 56 51 rfl dX12_taken_48 (by decide) (fun _ => ?_) (fun hc => absurd (rfl) hc)
  refine a_iload_n 3 57 rfl dX12_taken_56 rfl rfl ?_
  refine a_iconst (x := 3) 58 rfl dX12_taken_57 (by decide) ?_
  refine a_icmp_eq 66 61 rfl dX12_taken_58 (by decide) (fun hc => absurd hc ((by decide))) (fun _ => ?_)
  refine a_iload_n 3 62 rfl dX12_taken_61 rfl rfl ?_
  refine a_iconst (x := 4) 63 rfl dX12_taken_62 (by decide) ?_
  refine a_icmp_ne 75 66 rfl dX12_taken_63 (by decide) (fun _ => ?_) (fun hc => absurd hc ((by decide)))
  refine a_iload_n 2 76 rfl dX12_taken_75 rfl rfl ?_
  exact a_ireturn .int rfl rfl (rfl) (rfl) dX12_taken_76
theorem r_takM2_1 (hm : M.1 1 ≤ 8) (hj : j < M.1 1) (hk : M.2.2.2.1 0 j = 2) (hv : M.2.2.2.1 1 j = y) : g_Run G mX12_taken 6 0 0 [.ref (g_ad G 38), .int (nI j), .int 1] (g_hp G C (g_hm G M ++ ob)) (some (.int (f_tkM 2 1 y (nI j)))) (g_hp G C (g_hm G M ++ ob)) := by
  have h8 : j < 8 := Nat.lt_of_lt_of_le hj hm
  refine g_Run.of (lv := [(0, .ref (g_ad G 38)), (1, .int (nI j)), (2, .int 1)]) (by decide) (Nat.le_of_ble_eq_true rfl) rfl ?_
  refine a_aload_n 0 1 rfl dX12_taken_0 rfl rfl ?_
  refine a_iload_n 1 2 rfl dX12_taken_1 rfl rfl ?_
  refine a_callV (as := [.int (nI j)]) (rest := []) (st2 := [.int 1]) (u1 := 0) (v1 := 0) (u2 := 0) (v2 := 0) (r_isFam_in hm hj) (⟨_, _, _, _, rfl, rfl⟩) oX12_isFamily q_1273 q_1275 q_87 rfl (by omega) (by decide) rfl (Nat.le_of_ble_eq_true rfl) 5 rfl dX12_taken_2 rfl ?_
  refine a_if_eq 20 8 rfl dX12_taken_5 (by decide) (fun hc => absurd hc ((by decide))) (fun _ => ?_)
  refine a_iload_n 2 9 rfl dX12_taken_8 rfl rfl ?_
  refine a_i2l 10 rfl dX12_taken_9 ?_
  refine a_lconst (x := 0) 11 rfl dX12_taken_10 (by decide) ?_
  refine a_ldc2 q_1277 14 rfl dX12_taken_11 ?_
  refine a_callS (as := [.long ((1 : Int32).toInt64), .long 0, .long 5]) (rest := []) (st2 := [.int (f_i (decide ((0 : Int32) ≤ (1 : Int32) ∧ (1 : Int32) ≤ 5)))]) (u1 := 0) (v1 := 0) (u2 := 0) (v2 := 0) (r_isInB (y := (1 : Int32)) (a := 0) (b := 5) rfl rfl) oX12_isIn q_1242 q_1243 rfl (by omega) (by decide) rfl (Nat.le_of_ble_eq_true rfl) 17 rfl dX12_taken_14 rfl ?_
  refine a_if_ne 22 20 rfl dX12_taken_17 (by decide) (fun _ => ?_) (fun hc => absurd hc (f_i_T (by decide)))
  refine a_aload_n 0 23 rfl dX12_taken_22 rfl rfl ?_
  refine a_get 4 cl_11 f_RX12_15_11 (by decide) (rfl) rfl 26 rfl dX12_taken_23 ?_
  refine a_iload_n 1 27 rfl dX12_taken_26 rfl rfl ?_
  refine a_iald (rfl) (vp_in_nI (n := j) (by omega) (by omega)) 28 rfl dX12_taken_27 ?_
  refine a_eq (st2 := [.int ((M.2.2.2.1 0) j)]) rfl rfl (congrArg (fun z9 => Value.int z9 :: []) (congrArg (M.2.2.2.1 0) (g_cl (by omega)))) rfl ?_
  refine a_eq (st2 := [.int 2]) rfl rfl (congrArg (fun z9 => Value.int z9 :: []) (hk)) rfl ?_
  refine a_istore_n (lv' := [(3, .int 2), (0, .ref (g_ad G 38)), (1, .int (nI j)), (2, .int 1)]) 29 rfl dX12_taken_28 rfl (by decide) rfl ?_
  refine a_iload_n 0 30 rfl dX12_taken_29 rfl rfl ?_
  refine a_iload_n 3 31 rfl dX12_taken_30 rfl rfl ?_
  refine a_icmp_eq 46 34 rfl dX12_taken_31 (by decide) (fun hc => absurd hc ((by decide))) (fun _ => ?_)
  refine a_iload_n 0 35 rfl dX12_taken_34 rfl rfl ?_
  refine a_if_le 46 38 rfl dX12_taken_35 (by decide) (fun hc => absurd hc ((by decide))) (fun _ => ?_)
  refine a_iload_n 0 39 rfl dX12_taken_38 rfl rfl ?_
  refine a_callS (as := [.int 2]) (rest := []) (st2 := [.int 0]) (u1 := 0) (v1 := 0) (u2 := 0) (v2 := 0) (r_above2) oX12_above q_1633 q_1634 rfl (by omega) (by decide) rfl (Nat.le_of_ble_eq_true rfl) 42 rfl dX12_taken_39 rfl ?_
  refine a_istore_n (lv' := [(3, .int 0), (0, .ref (g_ad G 38)), (1, .int (nI j)), (2, .int 1)]) 43 rfl dX12_taken_42 rfl (by decide) rfl ?_
  refine a_goto 29 dX12_taken_43 (by decide) ?_
  refine a_iload_n 0 30 rfl dX12_taken_29 rfl rfl ?_
  refine a_iload_n 3 31 rfl dX12_taken_30 rfl rfl ?_
  refine a_icmp_eq 46 34 rfl dX12_taken_31 (by decide) (fun hc => absurd hc ((by decide))) (fun _ => ?_)
  refine a_iload_n 0 35 rfl dX12_taken_34 rfl rfl ?_
  refine a_if_le 46 38 rfl dX12_taken_35 (by decide) (fun _ => ?_) (fun hc => absurd ((by decide)) hc)
  refine a_iload_n 0 47 rfl dX12_taken_46 rfl rfl ?_
  refine a_iload_n 3 48 rfl dX12_taken_47 rfl rfl ?_
  refine a_icmp_eq 56 51 rfl dX12_taken_48 (by decide) (fun hc => absurd hc ((by decide))) (fun _ => ?_)
  refine a_bipush (x := (-5)) 53 rfl dX12_taken_51 (by decide) ?_
  refine a_goto 76 dX12_taken_53 (by decide) ?_
  exact a_ireturn .int rfl rfl (rfl) (rfl) dX12_taken_76
theorem r_takM2_2 (hm : M.1 1 ≤ 8) (hj : j < M.1 1) (hk : M.2.2.2.1 0 j = 2) (hv : M.2.2.2.1 1 j = y) : g_Run G mX12_taken 6 0 0 [.ref (g_ad G 38), .int (nI j), .int 2] (g_hp G C (g_hm G M ++ ob)) (some (.int (f_tkM 2 2 y (nI j)))) (g_hp G C (g_hm G M ++ ob)) := by
  have h8 : j < 8 := Nat.lt_of_lt_of_le hj hm
  refine g_Run.of (lv := [(0, .ref (g_ad G 38)), (1, .int (nI j)), (2, .int 2)]) (by decide) (Nat.le_of_ble_eq_true rfl) rfl ?_
  refine a_aload_n 0 1 rfl dX12_taken_0 rfl rfl ?_
  refine a_iload_n 1 2 rfl dX12_taken_1 rfl rfl ?_
  refine a_callV (as := [.int (nI j)]) (rest := []) (st2 := [.int 1]) (u1 := 0) (v1 := 0) (u2 := 0) (v2 := 0) (r_isFam_in hm hj) (⟨_, _, _, _, rfl, rfl⟩) oX12_isFamily q_1273 q_1275 q_87 rfl (by omega) (by decide) rfl (Nat.le_of_ble_eq_true rfl) 5 rfl dX12_taken_2 rfl ?_
  refine a_if_eq 20 8 rfl dX12_taken_5 (by decide) (fun hc => absurd hc ((by decide))) (fun _ => ?_)
  refine a_iload_n 2 9 rfl dX12_taken_8 rfl rfl ?_
  refine a_i2l 10 rfl dX12_taken_9 ?_
  refine a_lconst (x := 0) 11 rfl dX12_taken_10 (by decide) ?_
  refine a_ldc2 q_1277 14 rfl dX12_taken_11 ?_
  refine a_callS (as := [.long ((2 : Int32).toInt64), .long 0, .long 5]) (rest := []) (st2 := [.int (f_i (decide ((0 : Int32) ≤ (2 : Int32) ∧ (2 : Int32) ≤ 5)))]) (u1 := 0) (v1 := 0) (u2 := 0) (v2 := 0) (r_isInB (y := (2 : Int32)) (a := 0) (b := 5) rfl rfl) oX12_isIn q_1242 q_1243 rfl (by omega) (by decide) rfl (Nat.le_of_ble_eq_true rfl) 17 rfl dX12_taken_14 rfl ?_
  refine a_if_ne 22 20 rfl dX12_taken_17 (by decide) (fun _ => ?_) (fun hc => absurd hc (f_i_T (by decide)))
  refine a_aload_n 0 23 rfl dX12_taken_22 rfl rfl ?_
  refine a_get 4 cl_11 f_RX12_15_11 (by decide) (rfl) rfl 26 rfl dX12_taken_23 ?_
  refine a_iload_n 1 27 rfl dX12_taken_26 rfl rfl ?_
  refine a_iald (rfl) (vp_in_nI (n := j) (by omega) (by omega)) 28 rfl dX12_taken_27 ?_
  refine a_eq (st2 := [.int ((M.2.2.2.1 0) j)]) rfl rfl (congrArg (fun z9 => Value.int z9 :: []) (congrArg (M.2.2.2.1 0) (g_cl (by omega)))) rfl ?_
  refine a_eq (st2 := [.int 2]) rfl rfl (congrArg (fun z9 => Value.int z9 :: []) (hk)) rfl ?_
  refine a_istore_n (lv' := [(3, .int 2), (0, .ref (g_ad G 38)), (1, .int (nI j)), (2, .int 2)]) 29 rfl dX12_taken_28 rfl (by decide) rfl ?_
  refine a_iload_n 0 30 rfl dX12_taken_29 rfl rfl ?_
  refine a_iload_n 3 31 rfl dX12_taken_30 rfl rfl ?_
  refine a_icmp_eq 46 34 rfl dX12_taken_31 (by decide) (fun _ => ?_) (fun hc => absurd (rfl) hc)
  refine a_iload_n 0 47 rfl dX12_taken_46 rfl rfl ?_
  refine a_iload_n 3 48 rfl dX12_taken_47 rfl rfl ?_
  refine a_icmp_eq 56 51 rfl dX12_taken_48 (by decide) (fun _ => ?_) (fun hc => absurd (rfl) hc)
  refine a_iload_n 3 57 rfl dX12_taken_56 rfl rfl ?_
  refine a_iconst (x := 3) 58 rfl dX12_taken_57 (by decide) ?_
  refine a_icmp_eq 66 61 rfl dX12_taken_58 (by decide) (fun hc => absurd hc ((by decide))) (fun _ => ?_)
  refine a_iload_n 3 62 rfl dX12_taken_61 rfl rfl ?_
  refine a_iconst (x := 4) 63 rfl dX12_taken_62 (by decide) ?_
  refine a_icmp_ne 75 66 rfl dX12_taken_63 (by decide) (fun _ => ?_) (fun hc => absurd hc ((by decide)))
  refine a_iload_n 2 76 rfl dX12_taken_75 rfl rfl ?_
  exact a_ireturn .int rfl rfl (rfl) (rfl) dX12_taken_76
theorem r_takM2_3 (hm : M.1 1 ≤ 8) (hj : j < M.1 1) (hk : M.2.2.2.1 0 j = 2) (hv : M.2.2.2.1 1 j = y) : g_Run G mX12_taken 6 0 0 [.ref (g_ad G 38), .int (nI j), .int 3] (g_hp G C (g_hm G M ++ ob)) (some (.int (f_tkM 2 3 y (nI j)))) (g_hp G C (g_hm G M ++ ob)) := by
  have h8 : j < 8 := Nat.lt_of_lt_of_le hj hm
  refine g_Run.of (lv := [(0, .ref (g_ad G 38)), (1, .int (nI j)), (2, .int 3)]) (by decide) (Nat.le_of_ble_eq_true rfl) rfl ?_
  refine a_aload_n 0 1 rfl dX12_taken_0 rfl rfl ?_
  refine a_iload_n 1 2 rfl dX12_taken_1 rfl rfl ?_
  refine a_callV (as := [.int (nI j)]) (rest := []) (st2 := [.int 1]) (u1 := 0) (v1 := 0) (u2 := 0) (v2 := 0) (r_isFam_in hm hj) (⟨_, _, _, _, rfl, rfl⟩) oX12_isFamily q_1273 q_1275 q_87 rfl (by omega) (by decide) rfl (Nat.le_of_ble_eq_true rfl) 5 rfl dX12_taken_2 rfl ?_
  refine a_if_eq 20 8 rfl dX12_taken_5 (by decide) (fun hc => absurd hc ((by decide))) (fun _ => ?_)
  refine a_iload_n 2 9 rfl dX12_taken_8 rfl rfl ?_
  refine a_i2l 10 rfl dX12_taken_9 ?_
  refine a_lconst (x := 0) 11 rfl dX12_taken_10 (by decide) ?_
  refine a_ldc2 q_1277 14 rfl dX12_taken_11 ?_
  refine a_callS (as := [.long ((3 : Int32).toInt64), .long 0, .long 5]) (rest := []) (st2 := [.int (f_i (decide ((0 : Int32) ≤ (3 : Int32) ∧ (3 : Int32) ≤ 5)))]) (u1 := 0) (v1 := 0) (u2 := 0) (v2 := 0) (r_isInB (y := (3 : Int32)) (a := 0) (b := 5) rfl rfl) oX12_isIn q_1242 q_1243 rfl (by omega) (by decide) rfl (Nat.le_of_ble_eq_true rfl) 17 rfl dX12_taken_14 rfl ?_
  refine a_if_ne 22 20 rfl dX12_taken_17 (by decide) (fun _ => ?_) (fun hc => absurd hc (f_i_T (by decide)))
  refine a_aload_n 0 23 rfl dX12_taken_22 rfl rfl ?_
  refine a_get 4 cl_11 f_RX12_15_11 (by decide) (rfl) rfl 26 rfl dX12_taken_23 ?_
  refine a_iload_n 1 27 rfl dX12_taken_26 rfl rfl ?_
  refine a_iald (rfl) (vp_in_nI (n := j) (by omega) (by omega)) 28 rfl dX12_taken_27 ?_
  refine a_eq (st2 := [.int ((M.2.2.2.1 0) j)]) rfl rfl (congrArg (fun z9 => Value.int z9 :: []) (congrArg (M.2.2.2.1 0) (g_cl (by omega)))) rfl ?_
  refine a_eq (st2 := [.int 2]) rfl rfl (congrArg (fun z9 => Value.int z9 :: []) (hk)) rfl ?_
  refine a_istore_n (lv' := [(3, .int 2), (0, .ref (g_ad G 38)), (1, .int (nI j)), (2, .int 3)]) 29 rfl dX12_taken_28 rfl (by decide) rfl ?_
  refine a_iload_n 0 30 rfl dX12_taken_29 rfl rfl ?_
  refine a_iload_n 3 31 rfl dX12_taken_30 rfl rfl ?_
  refine a_icmp_eq 46 34 rfl dX12_taken_31 (by decide) (fun hc => absurd hc ((by decide))) (fun _ => ?_)
  refine a_iload_n 0 35 rfl dX12_taken_34 rfl rfl ?_
  refine a_if_le 46 38 rfl dX12_taken_35 (by decide) (fun hc => absurd hc ((by decide))) (fun _ => ?_)
  refine a_iload_n 0 39 rfl dX12_taken_38 rfl rfl ?_
  refine a_callS (as := [.int 2]) (rest := []) (st2 := [.int 0]) (u1 := 0) (v1 := 0) (u2 := 0) (v2 := 0) (r_above2) oX12_above q_1633 q_1634 rfl (by omega) (by decide) rfl (Nat.le_of_ble_eq_true rfl) 42 rfl dX12_taken_39 rfl ?_
  refine a_istore_n (lv' := [(3, .int 0), (0, .ref (g_ad G 38)), (1, .int (nI j)), (2, .int 3)]) 43 rfl dX12_taken_42 rfl (by decide) rfl ?_
  refine a_goto 29 dX12_taken_43 (by decide) ?_
  refine a_iload_n 0 30 rfl dX12_taken_29 rfl rfl ?_
  refine a_iload_n 3 31 rfl dX12_taken_30 rfl rfl ?_
  refine a_icmp_eq 46 34 rfl dX12_taken_31 (by decide) (fun hc => absurd hc ((by decide))) (fun _ => ?_)
  refine a_iload_n 0 35 rfl dX12_taken_34 rfl rfl ?_
  refine a_if_le 46 38 rfl dX12_taken_35 (by decide) (fun _ => ?_) (fun hc => absurd ((by decide)) hc)
  refine a_iload_n 0 47 rfl dX12_taken_46 rfl rfl ?_
  refine a_iload_n 3 48 rfl dX12_taken_47 rfl rfl ?_
  refine a_icmp_eq 56 51 rfl dX12_taken_48 (by decide) (fun hc => absurd hc ((by decide))) (fun _ => ?_)
  refine a_bipush (x := (-5)) 53 rfl dX12_taken_51 (by decide) ?_
  refine a_goto 76 dX12_taken_53 (by decide) ?_
  exact a_ireturn .int rfl rfl (rfl) (rfl) dX12_taken_76
theorem r_takM2_4 (hm : M.1 1 ≤ 8) (hj : j < M.1 1) (hk : M.2.2.2.1 0 j = 2) (hv : M.2.2.2.1 1 j = y) : g_Run G mX12_taken 6 0 0 [.ref (g_ad G 38), .int (nI j), .int 4] (g_hp G C (g_hm G M ++ ob)) (some (.int (f_tkM 2 4 y (nI j)))) (g_hp G C (g_hm G M ++ ob)) := by
  have h8 : j < 8 := Nat.lt_of_lt_of_le hj hm
  refine g_Run.of (lv := [(0, .ref (g_ad G 38)), (1, .int (nI j)), (2, .int 4)]) (by decide) (Nat.le_of_ble_eq_true rfl) rfl ?_
  refine a_aload_n 0 1 rfl dX12_taken_0 rfl rfl ?_
  refine a_iload_n 1 2 rfl dX12_taken_1 rfl rfl ?_
  refine a_callV (as := [.int (nI j)]) (rest := []) (st2 := [.int 1]) (u1 := 0) (v1 := 0) (u2 := 0) (v2 := 0) (r_isFam_in hm hj) (⟨_, _, _, _, rfl, rfl⟩) oX12_isFamily q_1273 q_1275 q_87 rfl (by omega) (by decide) rfl (Nat.le_of_ble_eq_true rfl) 5 rfl dX12_taken_2 rfl ?_
  refine a_if_eq 20 8 rfl dX12_taken_5 (by decide) (fun hc => absurd hc ((by decide))) (fun _ => ?_)
  refine a_iload_n 2 9 rfl dX12_taken_8 rfl rfl ?_
  refine a_i2l 10 rfl dX12_taken_9 ?_
  refine a_lconst (x := 0) 11 rfl dX12_taken_10 (by decide) ?_
  refine a_ldc2 q_1277 14 rfl dX12_taken_11 ?_
  refine a_callS (as := [.long ((4 : Int32).toInt64), .long 0, .long 5]) (rest := []) (st2 := [.int (f_i (decide ((0 : Int32) ≤ (4 : Int32) ∧ (4 : Int32) ≤ 5)))]) (u1 := 0) (v1 := 0) (u2 := 0) (v2 := 0) (r_isInB (y := (4 : Int32)) (a := 0) (b := 5) rfl rfl) oX12_isIn q_1242 q_1243 rfl (by omega) (by decide) rfl (Nat.le_of_ble_eq_true rfl) 17 rfl dX12_taken_14 rfl ?_
  refine a_if_ne 22 20 rfl dX12_taken_17 (by decide) (fun _ => ?_) (fun hc => absurd hc (f_i_T (by decide)))
  refine a_aload_n 0 23 rfl dX12_taken_22 rfl rfl ?_
  refine a_get 4 cl_11 f_RX12_15_11 (by decide) (rfl) rfl 26 rfl dX12_taken_23 ?_
  refine a_iload_n 1 27 rfl dX12_taken_26 rfl rfl ?_
  refine a_iald (rfl) (vp_in_nI (n := j) (by omega) (by omega)) 28 rfl dX12_taken_27 ?_
  refine a_eq (st2 := [.int ((M.2.2.2.1 0) j)]) rfl rfl (congrArg (fun z9 => Value.int z9 :: []) (congrArg (M.2.2.2.1 0) (g_cl (by omega)))) rfl ?_
  refine a_eq (st2 := [.int 2]) rfl rfl (congrArg (fun z9 => Value.int z9 :: []) (hk)) rfl ?_
  refine a_istore_n (lv' := [(3, .int 2), (0, .ref (g_ad G 38)), (1, .int (nI j)), (2, .int 4)]) 29 rfl dX12_taken_28 rfl (by decide) rfl ?_
  refine a_iload_n 0 30 rfl dX12_taken_29 rfl rfl ?_
  refine a_iload_n 3 31 rfl dX12_taken_30 rfl rfl ?_
  refine a_icmp_eq 46 34 rfl dX12_taken_31 (by decide) (fun hc => absurd hc ((by decide))) (fun _ => ?_)
  refine a_iload_n 0 35 rfl dX12_taken_34 rfl rfl ?_
  refine a_if_le 46 38 rfl dX12_taken_35 (by decide) (fun hc => absurd hc ((by decide))) (fun _ => ?_)
  refine a_iload_n 0 39 rfl dX12_taken_38 rfl rfl ?_
  refine a_callS (as := [.int 2]) (rest := []) (st2 := [.int 0]) (u1 := 0) (v1 := 0) (u2 := 0) (v2 := 0) (r_above2) oX12_above q_1633 q_1634 rfl (by omega) (by decide) rfl (Nat.le_of_ble_eq_true rfl) 42 rfl dX12_taken_39 rfl ?_
  refine a_istore_n (lv' := [(3, .int 0), (0, .ref (g_ad G 38)), (1, .int (nI j)), (2, .int 4)]) 43 rfl dX12_taken_42 rfl (by decide) rfl ?_
  refine a_goto 29 dX12_taken_43 (by decide) ?_
  refine a_iload_n 0 30 rfl dX12_taken_29 rfl rfl ?_
  refine a_iload_n 3 31 rfl dX12_taken_30 rfl rfl ?_
  refine a_icmp_eq 46 34 rfl dX12_taken_31 (by decide) (fun hc => absurd hc ((by decide))) (fun _ => ?_)
  refine a_iload_n 0 35 rfl dX12_taken_34 rfl rfl ?_
  refine a_if_le 46 38 rfl dX12_taken_35 (by decide) (fun _ => ?_) (fun hc => absurd ((by decide)) hc)
  refine a_iload_n 0 47 rfl dX12_taken_46 rfl rfl ?_
  refine a_iload_n 3 48 rfl dX12_taken_47 rfl rfl ?_
  refine a_icmp_eq 56 51 rfl dX12_taken_48 (by decide) (fun hc => absurd hc ((by decide))) (fun _ => ?_)
  refine a_bipush (x := (-5)) 53 rfl dX12_taken_51 (by decide) ?_
  refine a_goto 76 dX12_taken_53 (by decide) ?_
  exact a_ireturn .int rfl rfl (rfl) (rfl) dX12_taken_76
theorem r_takM2_5 (hm : M.1 1 ≤ 8) (hj : j < M.1 1) (hk : M.2.2.2.1 0 j = 2) (hv : M.2.2.2.1 1 j = y) : g_Run G mX12_taken 6 0 0 [.ref (g_ad G 38), .int (nI j), .int 5] (g_hp G C (g_hm G M ++ ob)) (some (.int (f_tkM 2 5 y (nI j)))) (g_hp G C (g_hm G M ++ ob)) := by
  have h8 : j < 8 := Nat.lt_of_lt_of_le hj hm
  refine g_Run.of (lv := [(0, .ref (g_ad G 38)), (1, .int (nI j)), (2, .int 5)]) (by decide) (Nat.le_of_ble_eq_true rfl) rfl ?_
  refine a_aload_n 0 1 rfl dX12_taken_0 rfl rfl ?_
  refine a_iload_n 1 2 rfl dX12_taken_1 rfl rfl ?_
  refine a_callV (as := [.int (nI j)]) (rest := []) (st2 := [.int 1]) (u1 := 0) (v1 := 0) (u2 := 0) (v2 := 0) (r_isFam_in hm hj) (⟨_, _, _, _, rfl, rfl⟩) oX12_isFamily q_1273 q_1275 q_87 rfl (by omega) (by decide) rfl (Nat.le_of_ble_eq_true rfl) 5 rfl dX12_taken_2 rfl ?_
  refine a_if_eq 20 8 rfl dX12_taken_5 (by decide) (fun hc => absurd hc ((by decide))) (fun _ => ?_)
  refine a_iload_n 2 9 rfl dX12_taken_8 rfl rfl ?_
  refine a_i2l 10 rfl dX12_taken_9 ?_
  refine a_lconst (x := 0) 11 rfl dX12_taken_10 (by decide) ?_
  refine a_ldc2 q_1277 14 rfl dX12_taken_11 ?_
  refine a_callS (as := [.long ((5 : Int32).toInt64), .long 0, .long 5]) (rest := []) (st2 := [.int (f_i (decide ((0 : Int32) ≤ (5 : Int32) ∧ (5 : Int32) ≤ 5)))]) (u1 := 0) (v1 := 0) (u2 := 0) (v2 := 0) (r_isInB (y := (5 : Int32)) (a := 0) (b := 5) rfl rfl) oX12_isIn q_1242 q_1243 rfl (by omega) (by decide) rfl (Nat.le_of_ble_eq_true rfl) 17 rfl dX12_taken_14 rfl ?_
  refine a_if_ne 22 20 rfl dX12_taken_17 (by decide) (fun _ => ?_) (fun hc => absurd hc (f_i_T (by decide)))
  refine a_aload_n 0 23 rfl dX12_taken_22 rfl rfl ?_
  refine a_get 4 cl_11 f_RX12_15_11 (by decide) (rfl) rfl 26 rfl dX12_taken_23 ?_
  refine a_iload_n 1 27 rfl dX12_taken_26 rfl rfl ?_
  refine a_iald (rfl) (vp_in_nI (n := j) (by omega) (by omega)) 28 rfl dX12_taken_27 ?_
  refine a_eq (st2 := [.int ((M.2.2.2.1 0) j)]) rfl rfl (congrArg (fun z9 => Value.int z9 :: []) (congrArg (M.2.2.2.1 0) (g_cl (by omega)))) rfl ?_
  refine a_eq (st2 := [.int 2]) rfl rfl (congrArg (fun z9 => Value.int z9 :: []) (hk)) rfl ?_
  refine a_istore_n (lv' := [(3, .int 2), (0, .ref (g_ad G 38)), (1, .int (nI j)), (2, .int 5)]) 29 rfl dX12_taken_28 rfl (by decide) rfl ?_
  refine a_iload_n 0 30 rfl dX12_taken_29 rfl rfl ?_
  refine a_iload_n 3 31 rfl dX12_taken_30 rfl rfl ?_
  refine a_icmp_eq 46 34 rfl dX12_taken_31 (by decide) (fun hc => absurd hc ((by decide))) (fun _ => ?_)
  refine a_iload_n 0 35 rfl dX12_taken_34 rfl rfl ?_
  refine a_if_le 46 38 rfl dX12_taken_35 (by decide) (fun hc => absurd hc ((by decide))) (fun _ => ?_)
  refine a_iload_n 0 39 rfl dX12_taken_38 rfl rfl ?_
  refine a_callS (as := [.int 2]) (rest := []) (st2 := [.int 0]) (u1 := 0) (v1 := 0) (u2 := 0) (v2 := 0) (r_above2) oX12_above q_1633 q_1634 rfl (by omega) (by decide) rfl (Nat.le_of_ble_eq_true rfl) 42 rfl dX12_taken_39 rfl ?_
  refine a_istore_n (lv' := [(3, .int 0), (0, .ref (g_ad G 38)), (1, .int (nI j)), (2, .int 5)]) 43 rfl dX12_taken_42 rfl (by decide) rfl ?_
  refine a_goto 29 dX12_taken_43 (by decide) ?_
  refine a_iload_n 0 30 rfl dX12_taken_29 rfl rfl ?_
  refine a_iload_n 3 31 rfl dX12_taken_30 rfl rfl ?_
  refine a_icmp_eq 46 34 rfl dX12_taken_31 (by decide) (fun hc => absurd hc ((by decide))) (fun _ => ?_)
  refine a_iload_n 0 35 rfl dX12_taken_34 rfl rfl ?_
  refine a_if_le 46 38 rfl dX12_taken_35 (by decide) (fun _ => ?_) (fun hc => absurd ((by decide)) hc)
  refine a_iload_n 0 47 rfl dX12_taken_46 rfl rfl ?_
  refine a_iload_n 3 48 rfl dX12_taken_47 rfl rfl ?_
  refine a_icmp_eq 56 51 rfl dX12_taken_48 (by decide) (fun hc => absurd hc ((by decide))) (fun _ => ?_)
  refine a_bipush (x := (-5)) 53 rfl dX12_taken_51 (by decide) ?_
  refine a_goto 76 dX12_taken_53 (by decide) ?_
  exact a_ireturn .int rfl rfl (rfl) (rfl) dX12_taken_76
theorem r_takM3_0 (hm : M.1 1 ≤ 8) (hj : j < M.1 1) (hk : M.2.2.2.1 0 j = 3) (hv : M.2.2.2.1 1 j = y) : g_Run G mX12_taken 6 0 0 [.ref (g_ad G 38), .int (nI j), .int 0] (g_hp G C (g_hm G M ++ ob)) (some (.int (f_tkM 3 0 y (nI j)))) (g_hp G C (g_hm G M ++ ob)) := by
  have h8 : j < 8 := Nat.lt_of_lt_of_le hj hm
  refine g_Run.of (lv := [(0, .ref (g_ad G 38)), (1, .int (nI j)), (2, .int 0)]) (by decide) (Nat.le_of_ble_eq_true rfl) rfl ?_
  refine a_aload_n 0 1 rfl dX12_taken_0 rfl rfl ?_
  refine a_iload_n 1 2 rfl dX12_taken_1 rfl rfl ?_
  refine a_callV (as := [.int (nI j)]) (rest := []) (st2 := [.int 1]) (u1 := 0) (v1 := 0) (u2 := 0) (v2 := 0) (r_isFam_in hm hj) (⟨_, _, _, _, rfl, rfl⟩) oX12_isFamily q_1273 q_1275 q_87 rfl (by omega) (by decide) rfl (Nat.le_of_ble_eq_true rfl) 5 rfl dX12_taken_2 rfl ?_
  refine a_if_eq 20 8 rfl dX12_taken_5 (by decide) (fun hc => absurd hc ((by decide))) (fun _ => ?_)
  refine a_iload_n 2 9 rfl dX12_taken_8 rfl rfl ?_
  refine a_i2l 10 rfl dX12_taken_9 ?_
  refine a_lconst (x := 0) 11 rfl dX12_taken_10 (by decide) ?_
  refine a_ldc2 q_1277 14 rfl dX12_taken_11 ?_
  refine a_callS (as := [.long ((0 : Int32).toInt64), .long 0, .long 5]) (rest := []) (st2 := [.int (f_i (decide ((0 : Int32) ≤ (0 : Int32) ∧ (0 : Int32) ≤ 5)))]) (u1 := 0) (v1 := 0) (u2 := 0) (v2 := 0) (r_isInB (y := (0 : Int32)) (a := 0) (b := 5) rfl rfl) oX12_isIn q_1242 q_1243 rfl (by omega) (by decide) rfl (Nat.le_of_ble_eq_true rfl) 17 rfl dX12_taken_14 rfl ?_
  refine a_if_ne 22 20 rfl dX12_taken_17 (by decide) (fun _ => ?_) (fun hc => absurd hc (f_i_T (by decide)))
  refine a_aload_n 0 23 rfl dX12_taken_22 rfl rfl ?_
  refine a_get 4 cl_11 f_RX12_15_11 (by decide) (rfl) rfl 26 rfl dX12_taken_23 ?_
  refine a_iload_n 1 27 rfl dX12_taken_26 rfl rfl ?_
  refine a_iald (rfl) (vp_in_nI (n := j) (by omega) (by omega)) 28 rfl dX12_taken_27 ?_
  refine a_eq (st2 := [.int ((M.2.2.2.1 0) j)]) rfl rfl (congrArg (fun z9 => Value.int z9 :: []) (congrArg (M.2.2.2.1 0) (g_cl (by omega)))) rfl ?_
  refine a_eq (st2 := [.int 3]) rfl rfl (congrArg (fun z9 => Value.int z9 :: []) (hk)) rfl ?_
  refine a_istore_n (lv' := [(3, .int 3), (0, .ref (g_ad G 38)), (1, .int (nI j)), (2, .int 0)]) 29 rfl dX12_taken_28 rfl (by decide) rfl ?_
  refine a_iload_n 0 30 rfl dX12_taken_29 rfl rfl ?_
  refine a_iload_n 3 31 rfl dX12_taken_30 rfl rfl ?_
  refine a_icmp_eq 46 34 rfl dX12_taken_31 (by decide) (fun hc => absurd hc ((by decide))) (fun _ => ?_)
  refine a_iload_n 0 35 rfl dX12_taken_34 rfl rfl ?_
  refine a_if_le 46 38 rfl dX12_taken_35 (by decide) (fun hc => absurd hc ((by decide))) (fun _ => ?_)
  refine a_iload_n 0 39 rfl dX12_taken_38 rfl rfl ?_
  refine a_callS (as := [.int 3]) (rest := []) (st2 := [.int 0]) (u1 := 0) (v1 := 0) (u2 := 0) (v2 := 0) (r_above3) oX12_above q_1633 q_1634 rfl (by omega) (by decide) rfl (Nat.le_of_ble_eq_true rfl) 42 rfl dX12_taken_39 rfl ?_
  refine a_istore_n (lv' := [(3, .int 0), (0, .ref (g_ad G 38)), (1, .int (nI j)), (2, .int 0)]) 43 rfl dX12_taken_42 rfl (by decide) rfl ?_
  refine a_goto 29 dX12_taken_43 (by decide) ?_
  refine a_iload_n 0 30 rfl dX12_taken_29 rfl rfl ?_
  refine a_iload_n 3 31 rfl dX12_taken_30 rfl rfl ?_
  refine a_icmp_eq 46 34 rfl dX12_taken_31 (by decide) (fun _ => ?_) (fun hc => absurd (rfl) hc)
  refine a_iload_n 0 47 rfl dX12_taken_46 rfl rfl ?_
  refine a_iload_n 3 48 rfl dX12_taken_47 rfl rfl ?_
  refine a_icmp_eq 56 51 rfl dX12_taken_48 (by decide) (fun _ => ?_) (fun hc => absurd (rfl) hc)
  refine a_iload_n 3 57 rfl dX12_taken_56 rfl rfl ?_
  refine a_iconst (x := 3) 58 rfl dX12_taken_57 (by decide) ?_
  refine a_icmp_eq 66 61 rfl dX12_taken_58 (by decide) (fun hc => absurd hc ((by decide))) (fun _ => ?_)
  refine a_iload_n 3 62 rfl dX12_taken_61 rfl rfl ?_
  refine a_iconst (x := 4) 63 rfl dX12_taken_62 (by decide) ?_
  refine a_icmp_ne 75 66 rfl dX12_taken_63 (by decide) (fun _ => ?_) (fun hc => absurd hc ((by decide)))
  refine a_iload_n 2 76 rfl dX12_taken_75 rfl rfl ?_
  exact a_ireturn .int rfl rfl (rfl) (rfl) dX12_taken_76
theorem r_takM3_1 (hm : M.1 1 ≤ 8) (hj : j < M.1 1) (hk : M.2.2.2.1 0 j = 3) (hv : M.2.2.2.1 1 j = y) : g_Run G mX12_taken 6 0 0 [.ref (g_ad G 38), .int (nI j), .int 1] (g_hp G C (g_hm G M ++ ob)) (some (.int (f_tkM 3 1 y (nI j)))) (g_hp G C (g_hm G M ++ ob)) := by
  have h8 : j < 8 := Nat.lt_of_lt_of_le hj hm
  refine g_Run.of (lv := [(0, .ref (g_ad G 38)), (1, .int (nI j)), (2, .int 1)]) (by decide) (Nat.le_of_ble_eq_true rfl) rfl ?_
  refine a_aload_n 0 1 rfl dX12_taken_0 rfl rfl ?_
  refine a_iload_n 1 2 rfl dX12_taken_1 rfl rfl ?_
  refine a_callV (as := [.int (nI j)]) (rest := []) (st2 := [.int 1]) (u1 := 0) (v1 := 0) (u2 := 0) (v2 := 0) (r_isFam_in hm hj) (⟨_, _, _, _, rfl, rfl⟩) oX12_isFamily q_1273 q_1275 q_87 rfl (by omega) (by decide) rfl (Nat.le_of_ble_eq_true rfl) 5 rfl dX12_taken_2 rfl ?_
  refine a_if_eq 20 8 rfl dX12_taken_5 (by decide) (fun hc => absurd hc ((by decide))) (fun _ => ?_)
  refine a_iload_n 2 9 rfl dX12_taken_8 rfl rfl ?_
  refine a_i2l 10 rfl dX12_taken_9 ?_
  refine a_lconst (x := 0) 11 rfl dX12_taken_10 (by decide) ?_
  refine a_ldc2 q_1277 14 rfl dX12_taken_11 ?_
  refine a_callS (as := [.long ((1 : Int32).toInt64), .long 0, .long 5]) (rest := []) (st2 := [.int (f_i (decide ((0 : Int32) ≤ (1 : Int32) ∧ (1 : Int32) ≤ 5)))]) (u1 := 0) (v1 := 0) (u2 := 0) (v2 := 0) (r_isInB (y := (1 : Int32)) (a := 0) (b := 5) rfl rfl) oX12_isIn q_1242 q_1243 rfl (by omega) (by decide) rfl (Nat.le_of_ble_eq_true rfl) 17 rfl dX12_taken_14 rfl ?_
  refine a_if_ne 22 20 rfl dX12_taken_17 (by decide) (fun _ => ?_) (fun hc => absurd hc (f_i_T (by decide)))
  refine a_aload_n 0 23 rfl dX12_taken_22 rfl rfl ?_
  refine a_get 4 cl_11 f_RX12_15_11 (by decide) (rfl) rfl 26 rfl dX12_taken_23 ?_
  refine a_iload_n 1 27 rfl dX12_taken_26 rfl rfl ?_
  refine a_iald (rfl) (vp_in_nI (n := j) (by omega) (by omega)) 28 rfl dX12_taken_27 ?_
  refine a_eq (st2 := [.int ((M.2.2.2.1 0) j)]) rfl rfl (congrArg (fun z9 => Value.int z9 :: []) (congrArg (M.2.2.2.1 0) (g_cl (by omega)))) rfl ?_
  refine a_eq (st2 := [.int 3]) rfl rfl (congrArg (fun z9 => Value.int z9 :: []) (hk)) rfl ?_
  refine a_istore_n (lv' := [(3, .int 3), (0, .ref (g_ad G 38)), (1, .int (nI j)), (2, .int 1)]) 29 rfl dX12_taken_28 rfl (by decide) rfl ?_
  refine a_iload_n 0 30 rfl dX12_taken_29 rfl rfl ?_
  refine a_iload_n 3 31 rfl dX12_taken_30 rfl rfl ?_
  refine a_icmp_eq 46 34 rfl dX12_taken_31 (by decide) (fun hc => absurd hc ((by decide))) (fun _ => ?_)
  refine a_iload_n 0 35 rfl dX12_taken_34 rfl rfl ?_
  refine a_if_le 46 38 rfl dX12_taken_35 (by decide) (fun hc => absurd hc ((by decide))) (fun _ => ?_)
  refine a_iload_n 0 39 rfl dX12_taken_38 rfl rfl ?_
  refine a_callS (as := [.int 3]) (rest := []) (st2 := [.int 0]) (u1 := 0) (v1 := 0) (u2 := 0) (v2 := 0) (r_above3) oX12_above q_1633 q_1634 rfl (by omega) (by decide) rfl (Nat.le_of_ble_eq_true rfl) 42 rfl dX12_taken_39 rfl ?_
  refine a_istore_n (lv' := [(3, .int 0), (0, .ref (g_ad G 38)), (1, .int (nI j)), (2, .int 1)]) 43 rfl dX12_taken_42 rfl (by decide) rfl ?_
  refine a_goto 29 dX12_taken_43 (by decide) ?_
  refine a_iload_n 0 30 rfl dX12_taken_29 rfl rfl ?_
  refine a_iload_n 3 31 rfl dX12_taken_30 rfl rfl ?_
  refine a_icmp_eq 46 34 rfl dX12_taken_31 (by decide) (fun hc => absurd hc ((by decide))) (fun _ => ?_)
  refine a_iload_n 0 35 rfl dX12_taken_34 rfl rfl ?_
  refine a_if_le 46 38 rfl dX12_taken_35 (by decide) (fun _ => ?_) (fun hc => absurd ((by decide)) hc)
  refine a_iload_n 0 47 rfl dX12_taken_46 rfl rfl ?_
  refine a_iload_n 3 48 rfl dX12_taken_47 rfl rfl ?_
  refine a_icmp_eq 56 51 rfl dX12_taken_48 (by decide) (fun hc => absurd hc ((by decide))) (fun _ => ?_)
  refine a_bipush (x := (-5)) 53 rfl dX12_taken_51 (by decide) ?_
  refine a_goto 76 dX12_taken_53 (by decide) ?_
  exact a_ireturn .int rfl rfl (rfl) (rfl) dX12_taken_76
theorem r_takM3_2 (hm : M.1 1 ≤ 8) (hj : j < M.1 1) (hk : M.2.2.2.1 0 j = 3) (hv : M.2.2.2.1 1 j = y) : g_Run G mX12_taken 6 0 0 [.ref (g_ad G 38), .int (nI j), .int 2] (g_hp G C (g_hm G M ++ ob)) (some (.int (f_tkM 3 2 y (nI j)))) (g_hp G C (g_hm G M ++ ob)) := by
  have h8 : j < 8 := Nat.lt_of_lt_of_le hj hm
  refine g_Run.of (lv := [(0, .ref (g_ad G 38)), (1, .int (nI j)), (2, .int 2)]) (by decide) (Nat.le_of_ble_eq_true rfl) rfl ?_
  refine a_aload_n 0 1 rfl dX12_taken_0 rfl rfl ?_
  refine a_iload_n 1 2 rfl dX12_taken_1 rfl rfl ?_
  refine a_callV (as := [.int (nI j)]) (rest := []) (st2 := [.int 1]) (u1 := 0) (v1 := 0) (u2 := 0) (v2 := 0) (r_isFam_in hm hj) (⟨_, _, _, _, rfl, rfl⟩) oX12_isFamily q_1273 q_1275 q_87 rfl (by omega) (by decide) rfl (Nat.le_of_ble_eq_true rfl) 5 rfl dX12_taken_2 rfl ?_
  refine a_if_eq 20 8 rfl dX12_taken_5 (by decide) (fun hc => absurd hc ((by decide))) (fun _ => ?_)
  refine a_iload_n 2 9 rfl dX12_taken_8 rfl rfl ?_
  refine a_i2l 10 rfl dX12_taken_9 ?_
  refine a_lconst (x := 0) 11 rfl dX12_taken_10 (by decide) ?_
  refine a_ldc2 q_1277 14 rfl dX12_taken_11 ?_
  refine a_callS (as := [.long ((2 : Int32).toInt64), .long 0, .long 5]) (rest := []) (st2 := [.int (f_i (decide ((0 : Int32) ≤ (2 : Int32) ∧ (2 : Int32) ≤ 5)))]) (u1 := 0) (v1 := 0) (u2 := 0) (v2 := 0) (r_isInB (y := (2 : Int32)) (a := 0) (b := 5) rfl rfl) oX12_isIn q_1242 q_1243 rfl (by omega) (by decide) rfl (Nat.le_of_ble_eq_true rfl) 17 rfl dX12_taken_14 rfl ?_
  refine a_if_ne 22 20 rfl dX12_taken_17 (by decide) (fun _ => ?_) (fun hc => absurd hc (f_i_T (by decide)))
  refine a_aload_n 0 23 rfl dX12_taken_22 rfl rfl ?_
  refine a_get 4 cl_11 f_RX12_15_11 (by decide) (rfl) rfl 26 rfl dX12_taken_23 ?_
  refine a_iload_n 1 27 rfl dX12_taken_26 rfl rfl ?_
  refine a_iald (rfl) (vp_in_nI (n := j) (by omega) (by omega)) 28 rfl dX12_taken_27 ?_
  refine a_eq (st2 := [.int ((M.2.2.2.1 0) j)]) rfl rfl (congrArg (fun z9 => Value.int z9 :: []) (congrArg (M.2.2.2.1 0) (g_cl (by omega)))) rfl ?_
  refine a_eq (st2 := [.int 3]) rfl rfl (congrArg (fun z9 => Value.int z9 :: []) (hk)) rfl ?_
  refine a_istore_n (lv' := [(3, .int 3), (0, .ref (g_ad G 38)), (1, .int (nI j)), (2, .int 2)]) 29 rfl dX12_taken_28 rfl (by decide) rfl ?_
  refine a_iload_n 0 30 rfl dX12_taken_29 rfl rfl ?_
  refine a_iload_n 3 31 rfl dX12_taken_30 rfl rfl ?_
  refine a_icmp_eq 46 34 rfl dX12_taken_31 (by decide) (fun hc => absurd hc ((by decide))) (fun _ => ?_)
  refine a_iload_n 0 35 rfl dX12_taken_34 rfl rfl ?_
  refine a_if_le 46 38 rfl dX12_taken_35 (by decide) (fun hc => absurd hc ((by decide))) (fun _ => ?_)
  refine a_iload_n 0 39 rfl dX12_taken_38 rfl rfl ?_
  refine a_callS (as := [.int 3]) (rest := []) (st2 := [.int 0]) (u1 := 0) (v1 := 0) (u2 := 0) (v2 := 0) (r_above3) oX12_above q_1633 q_1634 rfl (by omega) (by decide) rfl (Nat.le_of_ble_eq_true rfl) 42 rfl dX12_taken_39 rfl ?_
  refine a_istore_n (lv' := [(3, .int 0), (0, .ref (g_ad G 38)), (1, .int (nI j)), (2, .int 2)]) 43 rfl dX12_taken_42 rfl (by decide) rfl ?_
  refine a_goto 29 dX12_taken_43 (by decide) ?_
  refine a_iload_n 0 30 rfl dX12_taken_29 rfl rfl ?_
  refine a_iload_n 3 31 rfl dX12_taken_30 rfl rfl ?_
  refine a_icmp_eq 46 34 rfl dX12_taken_31 (by decide) (fun hc => absurd hc ((by decide))) (fun _ => ?_)
  refine a_iload_n 0 35 rfl dX12_taken_34 rfl rfl ?_
  refine a_if_le 46 38 rfl dX12_taken_35 (by decide) (fun _ => ?_) (fun hc => absurd ((by decide)) hc)
  refine a_iload_n 0 47 rfl dX12_taken_46 rfl rfl ?_
  refine a_iload_n 3 48 rfl dX12_taken_47 rfl rfl ?_
  refine a_icmp_eq 56 51 rfl dX12_taken_48 (by decide) (fun hc => absurd hc ((by decide))) (fun _ => ?_)
  refine a_bipush (x := (-5)) 53 rfl dX12_taken_51 (by decide) ?_
  refine a_goto 76 dX12_taken_53 (by decide) ?_
  exact a_ireturn .int rfl rfl (rfl) (rfl) dX12_taken_76
theorem r_takM3_3 (hm : M.1 1 ≤ 8) (hj : j < M.1 1) (hk : M.2.2.2.1 0 j = 3) (hv : M.2.2.2.1 1 j = y) : g_Run G mX12_taken 6 0 0 [.ref (g_ad G 38), .int (nI j), .int 3] (g_hp G C (g_hm G M ++ ob)) (some (.int (f_tkM 3 3 y (nI j)))) (g_hp G C (g_hm G M ++ ob)) := by
  have h8 : j < 8 := Nat.lt_of_lt_of_le hj hm
  refine g_Run.of (lv := [(0, .ref (g_ad G 38)), (1, .int (nI j)), (2, .int 3)]) (by decide) (Nat.le_of_ble_eq_true rfl) rfl ?_
  refine a_aload_n 0 1 rfl dX12_taken_0 rfl rfl ?_
  refine a_iload_n 1 2 rfl dX12_taken_1 rfl rfl ?_
  refine a_callV (as := [.int (nI j)]) (rest := []) (st2 := [.int 1]) (u1 := 0) (v1 := 0) (u2 := 0) (v2 := 0) (r_isFam_in hm hj) (⟨_, _, _, _, rfl, rfl⟩) oX12_isFamily q_1273 q_1275 q_87 rfl (by omega) (by decide) rfl (Nat.le_of_ble_eq_true rfl) 5 rfl dX12_taken_2 rfl ?_
  refine a_if_eq 20 8 rfl dX12_taken_5 (by decide) (fun hc => absurd hc ((by decide))) (fun _ => ?_)
  refine a_iload_n 2 9 rfl dX12_taken_8 rfl rfl ?_
  refine a_i2l 10 rfl dX12_taken_9 ?_
  refine a_lconst (x := 0) 11 rfl dX12_taken_10 (by decide) ?_
  refine a_ldc2 q_1277 14 rfl dX12_taken_11 ?_
  refine a_callS (as := [.long ((3 : Int32).toInt64), .long 0, .long 5]) (rest := []) (st2 := [.int (f_i (decide ((0 : Int32) ≤ (3 : Int32) ∧ (3 : Int32) ≤ 5)))]) (u1 := 0) (v1 := 0) (u2 := 0) (v2 := 0) (r_isInB (y := (3 : Int32)) (a := 0) (b := 5) rfl rfl) oX12_isIn q_1242 q_1243 rfl (by omega) (by decide) rfl (Nat.le_of_ble_eq_true rfl) 17 rfl dX12_taken_14 rfl ?_
  refine a_if_ne 22 20 rfl dX12_taken_17 (by decide) (fun _ => ?_) (fun hc => absurd hc (f_i_T (by decide)))
  refine a_aload_n 0 23 rfl dX12_taken_22 rfl rfl ?_
  refine a_get 4 cl_11 f_RX12_15_11 (by decide) (rfl) rfl 26 rfl dX12_taken_23 ?_
  refine a_iload_n 1 27 rfl dX12_taken_26 rfl rfl ?_
  refine a_iald (rfl) (vp_in_nI (n := j) (by omega) (by omega)) 28 rfl dX12_taken_27 ?_
  refine a_eq (st2 := [.int ((M.2.2.2.1 0) j)]) rfl rfl (congrArg (fun z9 => Value.int z9 :: []) (congrArg (M.2.2.2.1 0) (g_cl (by omega)))) rfl ?_
  refine a_eq (st2 := [.int 3]) rfl rfl (congrArg (fun z9 => Value.int z9 :: []) (hk)) rfl ?_
  refine a_istore_n (lv' := [(3, .int 3), (0, .ref (g_ad G 38)), (1, .int (nI j)), (2, .int 3)]) 29 rfl dX12_taken_28 rfl (by decide) rfl ?_
  refine a_iload_n 0 30 rfl dX12_taken_29 rfl rfl ?_
  refine a_iload_n 3 31 rfl dX12_taken_30 rfl rfl ?_
  refine a_icmp_eq 46 34 rfl dX12_taken_31 (by decide) (fun _ => ?_) (fun hc => absurd (rfl) hc)
  refine a_iload_n 0 47 rfl dX12_taken_46 rfl rfl ?_
  refine a_iload_n 3 48 rfl dX12_taken_47 rfl rfl ?_
  refine a_icmp_eq 56 51 rfl dX12_taken_48 (by decide) (fun _ => ?_) (fun hc => absurd (rfl) hc)
  refine a_iload_n 3 57 rfl dX12_taken_56 rfl rfl ?_
  refine a_iconst (x := 3) 58 rfl dX12_taken_57 (by decide) ?_
  refine a_icmp_eq 66 61 rfl dX12_taken_58 (by decide) (fun _ => ?_) (fun hc => absurd (rfl) hc)
  refine a_aload_n 1 67 rfl dX12_taken_66 rfl rfl ?_
  refine a_get 5 cl_11 f_RX12_19_11 (by decide) (rfl) rfl 70 rfl dX12_taken_67 ?_
  refine a_iload_n 2 71 rfl dX12_taken_70 rfl rfl ?_
  refine a_iald (rfl) (vp_in_nI (n := j) (by omega) (by omega)) 72 rfl dX12_taken_71 ?_
  refine a_eq (st2 := [.int ((M.2.2.2.1 1) j)]) rfl rfl (congrArg (fun z9 => Value.int z9 :: []) (congrArg (M.2.2.2.1 1) (g_cl (by omega)))) rfl ?_
  refine a_eq (st2 := [.int y]) rfl rfl (congrArg (fun z9 => Value.int z9 :: []) (hv)) rfl ?_
  refine a_goto 76 dX12_taken_72 (by decide) ?_
  exact a_ireturn .int rfl rfl (rfl) (rfl) dX12_taken_76
theorem r_takM3_4 (hm : M.1 1 ≤ 8) (hj : j < M.1 1) (hk : M.2.2.2.1 0 j = 3) (hv : M.2.2.2.1 1 j = y) : g_Run G mX12_taken 6 0 0 [.ref (g_ad G 38), .int (nI j), .int 4] (g_hp G C (g_hm G M ++ ob)) (some (.int (f_tkM 3 4 y (nI j)))) (g_hp G C (g_hm G M ++ ob)) := by
  have h8 : j < 8 := Nat.lt_of_lt_of_le hj hm
  refine g_Run.of (lv := [(0, .ref (g_ad G 38)), (1, .int (nI j)), (2, .int 4)]) (by decide) (Nat.le_of_ble_eq_true rfl) rfl ?_
  refine a_aload_n 0 1 rfl dX12_taken_0 rfl rfl ?_
  refine a_iload_n 1 2 rfl dX12_taken_1 rfl rfl ?_
  refine a_callV (as := [.int (nI j)]) (rest := []) (st2 := [.int 1]) (u1 := 0) (v1 := 0) (u2 := 0) (v2 := 0) (r_isFam_in hm hj) (⟨_, _, _, _, rfl, rfl⟩) oX12_isFamily q_1273 q_1275 q_87 rfl (by omega) (by decide) rfl (Nat.le_of_ble_eq_true rfl) 5 rfl dX12_taken_2 rfl ?_
  refine a_if_eq 20 8 rfl dX12_taken_5 (by decide) (fun hc => absurd hc ((by decide))) (fun _ => ?_)
  refine a_iload_n 2 9 rfl dX12_taken_8 rfl rfl ?_
  refine a_i2l 10 rfl dX12_taken_9 ?_
  refine a_lconst (x := 0) 11 rfl dX12_taken_10 (by decide) ?_
  refine a_ldc2 q_1277 14 rfl dX12_taken_11 ?_
  refine a_callS (as := [.long ((4 : Int32).toInt64), .long 0, .long 5]) (rest := []) (st2 := [.int (f_i (decide ((0 : Int32) ≤ (4 : Int32) ∧ (4 : Int32) ≤ 5)))]) (u1 := 0) (v1 := 0) (u2 := 0) (v2 := 0) (r_isInB (y := (4 : Int32)) (a := 0) (b := 5) rfl rfl) oX12_isIn q_1242 q_1243 rfl (by omega) (by decide) rfl (Nat.le_of_ble_eq_true rfl) 17 rfl dX12_taken_14 rfl ?_
  refine a_if_ne 22 20 rfl dX12_taken_17 (by decide) (fun _ => ?_) (fun hc => absurd hc (f_i_T (by decide)))
  refine a_aload_n 0 23 rfl dX12_taken_22 rfl rfl ?_
  refine a_get 4 cl_11 f_RX12_15_11 (by decide) (rfl) rfl 26 rfl dX12_taken_23 ?_
  refine a_iload_n 1 27 rfl dX12_taken_26 rfl rfl ?_
  refine a_iald (rfl) (vp_in_nI (n := j) (by omega) (by omega)) 28 rfl dX12_taken_27 ?_
  refine a_eq (st2 := [.int ((M.2.2.2.1 0) j)]) rfl rfl (congrArg (fun z9 => Value.int z9 :: []) (congrArg (M.2.2.2.1 0) (g_cl (by omega)))) rfl ?_
  refine a_eq (st2 := [.int 3]) rfl rfl (congrArg (fun z9 => Value.int z9 :: []) (hk)) rfl ?_
  refine a_istore_n (lv' := [(3, .int 3), (0, .ref (g_ad G 38)), (1, .int (nI j)), (2, .int 4)]) 29 rfl dX12_taken_28 rfl (by decide) rfl ?_
  refine a_iload_n 0 30 rfl dX12_taken_29 rfl rfl ?_
  refine a_iload_n 3 31 rfl dX12_taken_30 rfl rfl ?_
  refine a_icmp_eq 46 34 rfl dX12_taken_31 (by decide) (fun hc => absurd hc ((by decide))) (fun _ => ?_)
  refine a_iload_n 0 35 rfl dX12_taken_34 rfl rfl ?_
  refine a_if_le 46 38 rfl dX12_taken_35 (by decide) (fun hc => absurd hc ((by decide))) (fun _ => ?_)
  refine a_iload_n 0 39 rfl dX12_taken_38 rfl rfl ?_
  refine a_callS (as := [.int 3]) (rest := []) (st2 := [.int 0]) (u1 := 0) (v1 := 0) (u2 := 0) (v2 := 0) (r_above3) oX12_above q_1633 q_1634 rfl (by omega) (by decide) rfl (Nat.le_of_ble_eq_true rfl) 42 rfl dX12_taken_39 rfl ?_
  refine a_istore_n (lv' := [(3, .int 0), (0, .ref (g_ad G 38)), (1, .int (nI j)), (2, .int 4)]) 43 rfl dX12_taken_42 rfl (by decide) rfl ?_
  refine a_goto 29 dX12_taken_43 (by decide) ?_
  refine a_iload_n 0 30 rfl dX12_taken_29 rfl rfl ?_
  refine a_iload_n 3 31 rfl dX12_taken_30 rfl rfl ?_
  refine a_icmp_eq 46 34 rfl dX12_taken_31 (by decide) (fun hc => absurd hc ((by decide))) (fun _ => ?_)
  refine a_iload_n 0 35 rfl dX12_taken_34 rfl rfl ?_
  refine a_if_le 46 38 rfl dX12_taken_35 (by decide) (fun _ => ?_) (fun hc => absurd ((by decide)) hc)
  refine a_iload_n 0 47 rfl dX12_taken_46 rfl rfl ?_
  refine a_iload_n 3 48 rfl dX12_taken_47 rfl rfl ?_
  refine a_icmp_eq 56 51 rfl dX12_taken_48 (by decide) (fun hc => absurd hc ((by decide))) (fun _ => ?_)
  refine a_bipush (x := (-5)) 53 rfl dX12_taken_51 (by decide) ?_
  refine a_goto 76 dX12_taken_53 (by decide) ?_
  exact a_ireturn .int rfl rfl (rfl) (rfl) dX12_taken_76
theorem r_takM3_5 (hm : M.1 1 ≤ 8) (hj : j < M.1 1) (hk : M.2.2.2.1 0 j = 3) (hv : M.2.2.2.1 1 j = y) : g_Run G mX12_taken 6 0 0 [.ref (g_ad G 38), .int (nI j), .int 5] (g_hp G C (g_hm G M ++ ob)) (some (.int (f_tkM 3 5 y (nI j)))) (g_hp G C (g_hm G M ++ ob)) := by
  have h8 : j < 8 := Nat.lt_of_lt_of_le hj hm
  refine g_Run.of (lv := [(0, .ref (g_ad G 38)), (1, .int (nI j)), (2, .int 5)]) (by decide) (Nat.le_of_ble_eq_true rfl) rfl ?_
  refine a_aload_n 0 1 rfl dX12_taken_0 rfl rfl ?_
  refine a_iload_n 1 2 rfl dX12_taken_1 rfl rfl ?_
  refine a_callV (as := [.int (nI j)]) (rest := []) (st2 := [.int 1]) (u1 := 0) (v1 := 0) (u2 := 0) (v2 := 0) (r_isFam_in hm hj) (⟨_, _, _, _, rfl, rfl⟩) oX12_isFamily q_1273 q_1275 q_87 rfl (by omega) (by decide) rfl (Nat.le_of_ble_eq_true rfl) 5 rfl dX12_taken_2 rfl ?_
  refine a_if_eq 20 8 rfl dX12_taken_5 (by decide) (fun hc => absurd hc ((by decide))) (fun _ => ?_)
  refine a_iload_n 2 9 rfl dX12_taken_8 rfl rfl ?_
  refine a_i2l 10 rfl dX12_taken_9 ?_
  refine a_lconst (x := 0) 11 rfl dX12_taken_10 (by decide) ?_
  refine a_ldc2 q_1277 14 rfl dX12_taken_11 ?_
  refine a_callS (as := [.long ((5 : Int32).toInt64), .long 0, .long 5]) (rest := []) (st2 := [.int (f_i (decide ((0 : Int32) ≤ (5 : Int32) ∧ (5 : Int32) ≤ 5)))]) (u1 := 0) (v1 := 0) (u2 := 0) (v2 := 0) (r_isInB (y := (5 : Int32)) (a := 0) (b := 5) rfl rfl) oX12_isIn q_1242 q_1243 rfl (by omega) (by decide) rfl (Nat.le_of_ble_eq_true rfl) 17 rfl dX12_taken_14 rfl ?_
  refine a_if_ne 22 20 rfl dX12_taken_17 (by decide) (fun _ => ?_) (fun hc => absurd hc (f_i_T (by decide)))
  refine a_aload_n 0 23 rfl dX12_taken_22 rfl rfl ?_
  refine a_get 4 cl_11 f_RX12_15_11 (by decide) (rfl) rfl 26 rfl dX12_taken_23 ?_
  refine a_iload_n 1 27 rfl dX12_taken_26 rfl rfl ?_
  refine a_iald (rfl) (vp_in_nI (n := j) (by omega) (by omega)) 28 rfl dX12_taken_27 ?_
  refine a_eq (st2 := [.int ((M.2.2.2.1 0) j)]) rfl rfl (congrArg (fun z9 => Value.int z9 :: []) (congrArg (M.2.2.2.1 0) (g_cl (by omega)))) rfl ?_
  refine a_eq (st2 := [.int 3]) rfl rfl (congrArg (fun z9 => Value.int z9 :: []) (hk)) rfl ?_
  refine a_istore_n (lv' := [(3, .int 3), (0, .ref (g_ad G 38)), (1, .int (nI j)), (2, .int 5)]) 29 rfl dX12_taken_28 rfl (by decide) rfl ?_
  refine a_iload_n 0 30 rfl dX12_taken_29 rfl rfl ?_
  refine a_iload_n 3 31 rfl dX12_taken_30 rfl rfl ?_
  refine a_icmp_eq 46 34 rfl dX12_taken_31 (by decide) (fun hc => absurd hc ((by decide))) (fun _ => ?_)
  refine a_iload_n 0 35 rfl dX12_taken_34 rfl rfl ?_
  refine a_if_le 46 38 rfl dX12_taken_35 (by decide) (fun hc => absurd hc ((by decide))) (fun _ => ?_)
  refine a_iload_n 0 39 rfl dX12_taken_38 rfl rfl ?_
  refine a_callS (as := [.int 3]) (rest := []) (st2 := [.int 0]) (u1 := 0) (v1 := 0) (u2 := 0) (v2 := 0) (r_above3) oX12_above q_1633 q_1634 rfl (by omega) (by decide) rfl (Nat.le_of_ble_eq_true rfl) 42 rfl dX12_taken_39 rfl ?_
  refine a_istore_n (lv' := [(3, .int 0), (0, .ref (g_ad G 38)), (1, .int (nI j)), (2, .int 5)]) 43 rfl dX12_taken_42 rfl (by decide) rfl ?_
  refine a_goto 29 dX12_taken_43 (by decide) ?_
  refine a_iload_n 0 30 rfl dX12_taken_29 rfl rfl ?_
  refine a_iload_n 3 31 rfl dX12_taken_30 rfl rfl ?_
  refine a_icmp_eq 46 34 rfl dX12_taken_31 (by decide) (fun hc => absurd hc ((by decide))) (fun _ => ?_)
  refine a_iload_n 0 35 rfl dX12_taken_34 rfl rfl ?_
  refine a_if_le 46 38 rfl dX12_taken_35 (by decide) (fun _ => ?_) (fun hc => absurd ((by decide)) hc)
  refine a_iload_n 0 47 rfl dX12_taken_46 rfl rfl ?_
  refine a_iload_n 3 48 rfl dX12_taken_47 rfl rfl ?_
  refine a_icmp_eq 56 51 rfl dX12_taken_48 (by decide) (fun hc => absurd hc ((by decide))) (fun _ => ?_)
  refine a_bipush (x := (-5)) 53 rfl dX12_taken_51 (by decide) ?_
  refine a_goto 76 dX12_taken_53 (by decide) ?_
  exact a_ireturn .int rfl rfl (rfl) (rfl) dX12_taken_76
theorem r_takM4_0 (hm : M.1 1 ≤ 8) (hj : j < M.1 1) (hk : M.2.2.2.1 0 j = 4) (hv : M.2.2.2.1 1 j = y) : g_Run G mX12_taken 6 0 0 [.ref (g_ad G 38), .int (nI j), .int 0] (g_hp G C (g_hm G M ++ ob)) (some (.int (f_tkM 4 0 y (nI j)))) (g_hp G C (g_hm G M ++ ob)) := by
  have h8 : j < 8 := Nat.lt_of_lt_of_le hj hm
  refine g_Run.of (lv := [(0, .ref (g_ad G 38)), (1, .int (nI j)), (2, .int 0)]) (by decide) (Nat.le_of_ble_eq_true rfl) rfl ?_
  refine a_aload_n 0 1 rfl dX12_taken_0 rfl rfl ?_
  refine a_iload_n 1 2 rfl dX12_taken_1 rfl rfl ?_
  refine a_callV (as := [.int (nI j)]) (rest := []) (st2 := [.int 1]) (u1 := 0) (v1 := 0) (u2 := 0) (v2 := 0) (r_isFam_in hm hj) (⟨_, _, _, _, rfl, rfl⟩) oX12_isFamily q_1273 q_1275 q_87 rfl (by omega) (by decide) rfl (Nat.le_of_ble_eq_true rfl) 5 rfl dX12_taken_2 rfl ?_
  refine a_if_eq 20 8 rfl dX12_taken_5 (by decide) (fun hc => absurd hc ((by decide))) (fun _ => ?_)
  refine a_iload_n 2 9 rfl dX12_taken_8 rfl rfl ?_
  refine a_i2l 10 rfl dX12_taken_9 ?_
  refine a_lconst (x := 0) 11 rfl dX12_taken_10 (by decide) ?_
  refine a_ldc2 q_1277 14 rfl dX12_taken_11 ?_
  refine a_callS (as := [.long ((0 : Int32).toInt64), .long 0, .long 5]) (rest := []) (st2 := [.int (f_i (decide ((0 : Int32) ≤ (0 : Int32) ∧ (0 : Int32) ≤ 5)))]) (u1 := 0) (v1 := 0) (u2 := 0) (v2 := 0) (r_isInB (y := (0 : Int32)) (a := 0) (b := 5) rfl rfl) oX12_isIn q_1242 q_1243 rfl (by omega) (by decide) rfl (Nat.le_of_ble_eq_true rfl) 17 rfl dX12_taken_14 rfl ?_
  refine a_if_ne 22 20 rfl dX12_taken_17 (by decide) (fun _ => ?_) (fun hc => absurd hc (f_i_T (by decide)))
  refine a_aload_n 0 23 rfl dX12_taken_22 rfl rfl ?_
  refine a_get 4 cl_11 f_RX12_15_11 (by decide) (rfl) rfl 26 rfl dX12_taken_23 ?_
  refine a_iload_n 1 27 rfl dX12_taken_26 rfl rfl ?_
  refine a_iald (rfl) (vp_in_nI (n := j) (by omega) (by omega)) 28 rfl dX12_taken_27 ?_
  refine a_eq (st2 := [.int ((M.2.2.2.1 0) j)]) rfl rfl (congrArg (fun z9 => Value.int z9 :: []) (congrArg (M.2.2.2.1 0) (g_cl (by omega)))) rfl ?_
  refine a_eq (st2 := [.int 4]) rfl rfl (congrArg (fun z9 => Value.int z9 :: []) (hk)) rfl ?_
  refine a_istore_n (lv' := [(3, .int 4), (0, .ref (g_ad G 38)), (1, .int (nI j)), (2, .int 0)]) 29 rfl dX12_taken_28 rfl (by decide) rfl ?_
  refine a_iload_n 0 30 rfl dX12_taken_29 rfl rfl ?_
  refine a_iload_n 3 31 rfl dX12_taken_30 rfl rfl ?_
  refine a_icmp_eq 46 34 rfl dX12_taken_31 (by decide) (fun hc => absurd hc ((by decide))) (fun _ => ?_)
  refine a_iload_n 0 35 rfl dX12_taken_34 rfl rfl ?_
  refine a_if_le 46 38 rfl dX12_taken_35 (by decide) (fun hc => absurd hc ((by decide))) (fun _ => ?_)
  refine a_iload_n 0 39 rfl dX12_taken_38 rfl rfl ?_
  refine a_callS (as := [.int 4]) (rest := []) (st2 := [.int 3]) (u1 := 0) (v1 := 0) (u2 := 0) (v2 := 0) (r_above4) oX12_above q_1633 q_1634 rfl (by omega) (by decide) rfl (Nat.le_of_ble_eq_true rfl) 42 rfl dX12_taken_39 rfl ?_
  refine a_istore_n (lv' := [(3, .int 3), (0, .ref (g_ad G 38)), (1, .int (nI j)), (2, .int 0)]) 43 rfl dX12_taken_42 rfl (by decide) rfl ?_
  refine a_goto 29 dX12_taken_43 (by decide) ?_
  refine a_iload_n 0 30 rfl dX12_taken_29 rfl rfl ?_
  refine a_iload_n 3 31 rfl dX12_taken_30 rfl rfl ?_
  refine a_icmp_eq 46 34 rfl dX12_taken_31 (by decide) (fun hc => absurd hc ((by decide))) (fun _ => ?_)
  refine a_iload_n 0 35 rfl dX12_taken_34 rfl rfl ?_
  refine a_if_le 46 38 rfl dX12_taken_35 (by decide) (fun hc => absurd hc ((by decide))) (fun _ => ?_)
  refine a_iload_n 0 39 rfl dX12_taken_38 rfl rfl ?_
  refine a_callS (as := [.int 3]) (rest := []) (st2 := [.int 0]) (u1 := 0) (v1 := 0) (u2 := 0) (v2 := 0) (r_above3) oX12_above q_1633 q_1634 rfl (by omega) (by decide) rfl (Nat.le_of_ble_eq_true rfl) 42 rfl dX12_taken_39 rfl ?_
  refine a_istore_n (lv' := [(3, .int 0), (0, .ref (g_ad G 38)), (1, .int (nI j)), (2, .int 0)]) 43 rfl dX12_taken_42 rfl (by decide) rfl ?_
  refine a_goto 29 dX12_taken_43 (by decide) ?_
  refine a_iload_n 0 30 rfl dX12_taken_29 rfl rfl ?_
  refine a_iload_n 3 31 rfl dX12_taken_30 rfl rfl ?_
  refine a_icmp_eq 46 34 rfl dX12_taken_31 (by decide) (fun _ => ?_) (fun hc => absurd (rfl) hc)
  refine a_iload_n 0 47 rfl dX12_taken_46 rfl rfl ?_
  refine a_iload_n 3 48 rfl dX12_taken_47 rfl rfl ?_
  refine a_icmp_eq 56 51 rfl dX12_taken_48 (by decide) (fun _ => ?_) (fun hc => absurd (rfl) hc)
  refine a_iload_n 3 57 rfl dX12_taken_56 rfl rfl ?_
  refine a_iconst (x := 3) 58 rfl dX12_taken_57 (by decide) ?_
  refine a_icmp_eq 66 61 rfl dX12_taken_58 (by decide) (fun hc => absurd hc ((by decide))) (fun _ => ?_)
  refine a_iload_n 3 62 rfl dX12_taken_61 rfl rfl ?_
  refine a_iconst (x := 4) 63 rfl dX12_taken_62 (by decide) ?_
  refine a_icmp_ne 75 66 rfl dX12_taken_63 (by decide) (fun _ => ?_) (fun hc => absurd hc ((by decide)))
  refine a_iload_n 2 76 rfl dX12_taken_75 rfl rfl ?_
  exact a_ireturn .int rfl rfl (rfl) (rfl) dX12_taken_76
theorem r_takM4_1 (hm : M.1 1 ≤ 8) (hj : j < M.1 1) (hk : M.2.2.2.1 0 j = 4) (hv : M.2.2.2.1 1 j = y) : g_Run G mX12_taken 6 0 0 [.ref (g_ad G 38), .int (nI j), .int 1] (g_hp G C (g_hm G M ++ ob)) (some (.int (f_tkM 4 1 y (nI j)))) (g_hp G C (g_hm G M ++ ob)) := by
  have h8 : j < 8 := Nat.lt_of_lt_of_le hj hm
  refine g_Run.of (lv := [(0, .ref (g_ad G 38)), (1, .int (nI j)), (2, .int 1)]) (by decide) (Nat.le_of_ble_eq_true rfl) rfl ?_
  refine a_aload_n 0 1 rfl dX12_taken_0 rfl rfl ?_
  refine a_iload_n 1 2 rfl dX12_taken_1 rfl rfl ?_
  refine a_callV (as := [.int (nI j)]) (rest := []) (st2 := [.int 1]) (u1 := 0) (v1 := 0) (u2 := 0) (v2 := 0) (r_isFam_in hm hj) (⟨_, _, _, _, rfl, rfl⟩) oX12_isFamily q_1273 q_1275 q_87 rfl (by omega) (by decide) rfl (Nat.le_of_ble_eq_true rfl) 5 rfl dX12_taken_2 rfl ?_
  refine a_if_eq 20 8 rfl dX12_taken_5 (by decide) (fun hc => absurd hc ((by decide))) (fun _ => ?_)
  refine a_iload_n 2 9 rfl dX12_taken_8 rfl rfl ?_
  refine a_i2l 10 rfl dX12_taken_9 ?_
  refine a_lconst (x := 0) 11 rfl dX12_taken_10 (by decide) ?_
  refine a_ldc2 q_1277 14 rfl dX12_taken_11 ?_
  refine a_callS (as := [.long ((1 : Int32).toInt64), .long 0, .long 5]) (rest := []) (st2 := [.int (f_i (decide ((0 : Int32) ≤ (1 : Int32) ∧ (1 : Int32) ≤ 5)))]) (u1 := 0) (v1 := 0) (u2 := 0) (v2 := 0) (r_isInB (y := (1 : Int32)) (a := 0) (b := 5) rfl rfl) oX12_isIn q_1242 q_1243 rfl (by omega) (by decide) rfl (Nat.le_of_ble_eq_true rfl) 17 rfl dX12_taken_14 rfl ?_
  refine a_if_ne 22 20 rfl dX12_taken_17 (by decide) (fun _ => ?_) (fun hc => absurd hc (f_i_T (by decide)))
  refine a_aload_n 0 23 rfl dX12_taken_22 rfl rfl ?_
  refine a_get 4 cl_11 f_RX12_15_11 (by decide) (rfl) rfl 26 rfl dX12_taken_23 ?_
  refine a_iload_n 1 27 rfl dX12_taken_26 rfl rfl ?_
  refine a_iald (rfl) (vp_in_nI (n := j) (by omega) (by omega)) 28 rfl dX12_taken_27 ?_
  refine a_eq (st2 := [.int ((M.2.2.2.1 0) j)]) rfl rfl (congrArg (fun z9 => Value.int z9 :: []) (congrArg (M.2.2.2.1 0) (g_cl (by omega)))) rfl ?_
  refine a_eq (st2 := [.int 4]) rfl rfl (congrArg (fun z9 => Value.int z9 :: []) (hk)) rfl ?_
  refine a_istore_n (lv' := [(3, .int 4), (0, .ref (g_ad G 38)), (1, .int (nI j)), (2, .int 1)]) 29 rfl dX12_taken_28 rfl (by decide) rfl ?_
  refine a_iload_n 0 30 rfl dX12_taken_29 rfl rfl ?_
  refine a_iload_n 3 31 rfl dX12_taken_30 rfl rfl ?_
  refine a_icmp_eq 46 34 rfl dX12_taken_31 (by decide) (fun hc => absurd hc ((by decide))) (fun _ => ?_)
  refine a_iload_n 0 35 rfl dX12_taken_34 rfl rfl ?_
  refine a_if_le 46 38 rfl dX12_taken_35 (by decide) (fun hc => absurd hc ((by decide))) (fun _ => ?_)
  refine a_iload_n 0 39 rfl dX12_taken_38 rfl rfl ?_
  refine a_callS (as := [.int 4]) (rest := []) (st2 := [.int 3]) (u1 := 0) (v1 := 0) (u2 := 0) (v2 := 0) (r_above4) oX12_above q_1633 q_1634 rfl (by omega) (by decide) rfl (Nat.le_of_ble_eq_true rfl) 42 rfl dX12_taken_39 rfl ?_
  refine a_istore_n (lv' := [(3, .int 3), (0, .ref (g_ad G 38)), (1, .int (nI j)), (2, .int 1)]) 43 rfl dX12_taken_42 rfl (by decide) rfl ?_
  refine a_goto 29 dX12_taken_43 (by decide) ?_
  refine a_iload_n 0 30 rfl dX12_taken_29 rfl rfl ?_
  refine a_iload_n 3 31 rfl dX12_taken_30 rfl rfl ?_
  refine a_icmp_eq 46 34 rfl dX12_taken_31 (by decide) (fun hc => absurd hc ((by decide))) (fun _ => ?_)
  refine a_iload_n 0 35 rfl dX12_taken_34 rfl rfl ?_
  refine a_if_le 46 38 rfl dX12_taken_35 (by decide) (fun hc => absurd hc ((by decide))) (fun _ => ?_)
  refine a_iload_n 0 39 rfl dX12_taken_38 rfl rfl ?_
  refine a_callS (as := [.int 3]) (rest := []) (st2 := [.int 0]) (u1 := 0) (v1 := 0) (u2 := 0) (v2 := 0) (r_above3) oX12_above q_1633 q_1634 rfl (by omega) (by decide) rfl (Nat.le_of_ble_eq_true rfl) 42 rfl dX12_taken_39 rfl ?_
  refine a_istore_n (lv' := [(3, .int 0), (0, .ref (g_ad G 38)), (1, .int (nI j)), (2, .int 1)]) 43 rfl dX12_taken_42 rfl (by decide) rfl ?_
  refine a_goto 29 dX12_taken_43 (by decide) ?_
  refine a_iload_n 0 30 rfl dX12_taken_29 rfl rfl ?_
  refine a_iload_n 3 31 rfl dX12_taken_30 rfl rfl ?_
  refine a_icmp_eq 46 34 rfl dX12_taken_31 (by decide) (fun hc => absurd hc ((by decide))) (fun _ => ?_)
  refine a_iload_n 0 35 rfl dX12_taken_34 rfl rfl ?_
  refine a_if_le 46 38 rfl dX12_taken_35 (by decide) (fun _ => ?_) (fun hc => absurd ((by decide)) hc)
  refine a_iload_n 0 47 rfl dX12_taken_46 rfl rfl ?_
  refine a_iload_n 3 48 rfl dX12_taken_47 rfl rfl ?_
  refine a_icmp_eq 56 51 rfl dX12_taken_48 (by decide) (fun hc => absurd hc ((by decide))) (fun _ => ?_)
  refine a_bipush (x := (-5)) 53 rfl dX12_taken_51 (by decide) ?_
  refine a_goto 76 dX12_taken_53 (by decide) ?_
  exact a_ireturn .int rfl rfl (rfl) (rfl) dX12_taken_76
theorem r_takM4_2 (hm : M.1 1 ≤ 8) (hj : j < M.1 1) (hk : M.2.2.2.1 0 j = 4) (hv : M.2.2.2.1 1 j = y) : g_Run G mX12_taken 6 0 0 [.ref (g_ad G 38), .int (nI j), .int 2] (g_hp G C (g_hm G M ++ ob)) (some (.int (f_tkM 4 2 y (nI j)))) (g_hp G C (g_hm G M ++ ob)) := by
  have h8 : j < 8 := Nat.lt_of_lt_of_le hj hm
  refine g_Run.of (lv := [(0, .ref (g_ad G 38)), (1, .int (nI j)), (2, .int 2)]) (by decide) (Nat.le_of_ble_eq_true rfl) rfl ?_
  refine a_aload_n 0 1 rfl dX12_taken_0 rfl rfl ?_
  refine a_iload_n 1 2 rfl dX12_taken_1 rfl rfl ?_
  refine a_callV (as := [.int (nI j)]) (rest := []) (st2 := [.int 1]) (u1 := 0) (v1 := 0) (u2 := 0) (v2 := 0) (r_isFam_in hm hj) (⟨_, _, _, _, rfl, rfl⟩) oX12_isFamily q_1273 q_1275 q_87 rfl (by omega) (by decide) rfl (Nat.le_of_ble_eq_true rfl) 5 rfl dX12_taken_2 rfl ?_
  refine a_if_eq 20 8 rfl dX12_taken_5 (by decide) (fun hc => absurd hc ((by decide))) (fun _ => ?_)
  refine a_iload_n 2 9 rfl dX12_taken_8 rfl rfl ?_
  refine a_i2l 10 rfl dX12_taken_9 ?_
  refine a_lconst (x := 0) 11 rfl dX12_taken_10 (by decide) ?_
  refine a_ldc2 q_1277 14 rfl dX12_taken_11 ?_
  refine a_callS (as := [.long ((2 : Int32).toInt64), .long 0, .long 5]) (rest := []) (st2 := [.int (f_i (decide ((0 : Int32) ≤ (2 : Int32) ∧ (2 : Int32) ≤ 5)))]) (u1 := 0) (v1 := 0) (u2 := 0) (v2 := 0) (r_isInB (y := (2 : Int32)) (a := 0) (b := 5) rfl rfl) oX12_isIn q_1242 q_1243 rfl (by omega) (by decide) rfl (Nat.le_of_ble_eq_true rfl) 17 rfl dX12_taken_14 rfl ?_
  refine a_if_ne 22 20 rfl dX12_taken_17 (by decide) (fun _ => ?_) (fun hc => absurd hc (f_i_T (by decide)))
  refine a_aload_n 0 23 rfl dX12_taken_22 rfl rfl ?_
  refine a_get 4 cl_11 f_RX12_15_11 (by decide) (rfl) rfl 26 rfl dX12_taken_23 ?_
  refine a_iload_n 1 27 rfl dX12_taken_26 rfl rfl ?_
  refine a_iald (rfl) (vp_in_nI (n := j) (by omega) (by omega)) 28 rfl dX12_taken_27 ?_
  refine a_eq (st2 := [.int ((M.2.2.2.1 0) j)]) rfl rfl (congrArg (fun z9 => Value.int z9 :: []) (congrArg (M.2.2.2.1 0) (g_cl (by omega)))) rfl ?_
  refine a_eq (st2 := [.int 4]) rfl rfl (congrArg (fun z9 => Value.int z9 :: []) (hk)) rfl ?_
  refine a_istore_n (lv' := [(3, .int 4), (0, .ref (g_ad G 38)), (1, .int (nI j)), (2, .int 2)]) 29 rfl dX12_taken_28 rfl (by decide) rfl ?_
  refine a_iload_n 0 30 rfl dX12_taken_29 rfl rfl ?_
  refine a_iload_n 3 31 rfl dX12_taken_30 rfl rfl ?_
  refine a_icmp_eq 46 34 rfl dX12_taken_31 (by decide) (fun hc => absurd hc ((by decide))) (fun _ => ?_)
  refine a_iload_n 0 35 rfl dX12_taken_34 rfl rfl ?_
  refine a_if_le 46 38 rfl dX12_taken_35 (by decide) (fun hc => absurd hc ((by decide))) (fun _ => ?_)
  refine a_iload_n 0 39 rfl dX12_taken_38 rfl rfl ?_
  refine a_callS (as := [.int 4]) (rest := []) (st2 := [.int 3]) (u1 := 0) (v1 := 0) (u2 := 0) (v2 := 0) (r_above4) oX12_above q_1633 q_1634 rfl (by omega) (by decide) rfl (Nat.le_of_ble_eq_true rfl) 42 rfl dX12_taken_39 rfl ?_
  refine a_istore_n (lv' := [(3, .int 3), (0, .ref (g_ad G 38)), (1, .int (nI j)), (2, .int 2)]) 43 rfl dX12_taken_42 rfl (by decide) rfl ?_
  refine a_goto 29 dX12_taken_43 (by decide) ?_
  refine a_iload_n 0 30 rfl dX12_taken_29 rfl rfl ?_
  refine a_iload_n 3 31 rfl dX12_taken_30 rfl rfl ?_
  refine a_icmp_eq 46 34 rfl dX12_taken_31 (by decide) (fun hc => absurd hc ((by decide))) (fun _ => ?_)
  refine a_iload_n 0 35 rfl dX12_taken_34 rfl rfl ?_
  refine a_if_le 46 38 rfl dX12_taken_35 (by decide) (fun hc => absurd hc ((by decide))) (fun _ => ?_)
  refine a_iload_n 0 39 rfl dX12_taken_38 rfl rfl ?_
  refine a_callS (as := [.int 3]) (rest := []) (st2 := [.int 0]) (u1 := 0) (v1 := 0) (u2 := 0) (v2 := 0) (r_above3) oX12_above q_1633 q_1634 rfl (by omega) (by decide) rfl (Nat.le_of_ble_eq_true rfl) 42 rfl dX12_taken_39 rfl ?_
  refine a_istore_n (lv' := [(3, .int 0), (0, .ref (g_ad G 38)), (1, .int (nI j)), (2, .int 2)]) 43 rfl dX12_taken_42 rfl (by decide) rfl ?_
  refine a_goto 29 dX12_taken_43 (by decide) ?_
  refine a_iload_n 0 30 rfl dX12_taken_29 rfl rfl ?_
  refine a_iload_n 3 31 rfl dX12_taken_30 rfl rfl ?_
  refine a_icmp_eq 46 34 rfl dX12_taken_31 (by decide) (fun hc => absurd hc ((by decide))) (fun _ => ?_)
  refine a_iload_n 0 35 rfl dX12_taken_34 rfl rfl ?_
  refine a_if_le 46 38 rfl dX12_taken_35 (by decide) (fun _ => ?_) (fun hc => absurd ((by decide)) hc)
  refine a_iload_n 0 47 rfl dX12_taken_46 rfl rfl ?_
  refine a_iload_n 3 48 rfl dX12_taken_47 rfl rfl ?_
  refine a_icmp_eq 56 51 rfl dX12_taken_48 (by decide) (fun hc => absurd hc ((by decide))) (fun _ => ?_)
  refine a_bipush (x := (-5)) 53 rfl dX12_taken_51 (by decide) ?_
  refine a_goto 76 dX12_taken_53 (by decide) ?_
  exact a_ireturn .int rfl rfl (rfl) (rfl) dX12_taken_76
theorem r_takM4_3 (hm : M.1 1 ≤ 8) (hj : j < M.1 1) (hk : M.2.2.2.1 0 j = 4) (hv : M.2.2.2.1 1 j = y) : g_Run G mX12_taken 6 0 0 [.ref (g_ad G 38), .int (nI j), .int 3] (g_hp G C (g_hm G M ++ ob)) (some (.int (f_tkM 4 3 y (nI j)))) (g_hp G C (g_hm G M ++ ob)) := by
  have h8 : j < 8 := Nat.lt_of_lt_of_le hj hm
  refine g_Run.of (lv := [(0, .ref (g_ad G 38)), (1, .int (nI j)), (2, .int 3)]) (by decide) (Nat.le_of_ble_eq_true rfl) rfl ?_
  refine a_aload_n 0 1 rfl dX12_taken_0 rfl rfl ?_
  refine a_iload_n 1 2 rfl dX12_taken_1 rfl rfl ?_
  refine a_callV (as := [.int (nI j)]) (rest := []) (st2 := [.int 1]) (u1 := 0) (v1 := 0) (u2 := 0) (v2 := 0) (r_isFam_in hm hj) (⟨_, _, _, _, rfl, rfl⟩) oX12_isFamily q_1273 q_1275 q_87 rfl (by omega) (by decide) rfl (Nat.le_of_ble_eq_true rfl) 5 rfl dX12_taken_2 rfl ?_
  refine a_if_eq 20 8 rfl dX12_taken_5 (by decide) (fun hc => absurd hc ((by decide))) (fun _ => ?_)
  refine a_iload_n 2 9 rfl dX12_taken_8 rfl rfl ?_
  refine a_i2l 10 rfl dX12_taken_9 ?_
  refine a_lconst (x := 0) 11 rfl dX12_taken_10 (by decide) ?_
  refine a_ldc2 q_1277 14 rfl dX12_taken_11 ?_
  refine a_callS (as := [.long ((3 : Int32).toInt64), .long 0, .long 5]) (rest := []) (st2 := [.int (f_i (decide ((0 : Int32) ≤ (3 : Int32) ∧ (3 : Int32) ≤ 5)))]) (u1 := 0) (v1 := 0) (u2 := 0) (v2 := 0) (r_isInB (y := (3 : Int32)) (a := 0) (b := 5) rfl rfl) oX12_isIn q_1242 q_1243 rfl (by omega) (by decide) rfl (Nat.le_of_ble_eq_true rfl) 17 rfl dX12_taken_14 rfl ?_
  refine a_if_ne 22 20 rfl dX12_taken_17 (by decide) (fun _ => ?_) (fun hc => absurd hc (f_i_T (by decide)))
  refine a_aload_n 0 23 rfl dX12_taken_22 rfl rfl ?_
  refine a_get 4 cl_11 f_RX12_15_11 (by decide) (rfl) rfl 26 rfl dX12_taken_23 ?_
  refine a_iload_n 1 27 rfl dX12_taken_26 rfl rfl ?_
  refine a_iald (rfl) (vp_in_nI (n := j) (by omega) (by omega)) 28 rfl dX12_taken_27 ?_
  refine a_eq (st2 := [.int ((M.2.2.2.1 0) j)]) rfl rfl (congrArg (fun z9 => Value.int z9 :: []) (congrArg (M.2.2.2.1 0) (g_cl (by omega)))) rfl ?_
  refine a_eq (st2 := [.int 4]) rfl rfl (congrArg (fun z9 => Value.int z9 :: []) (hk)) rfl ?_
  refine a_istore_n (lv' := [(3, .int 4), (0, .ref (g_ad G 38)), (1, .int (nI j)), (2, .int 3)]) 29 rfl dX12_taken_28 rfl (by decide) rfl ?_
  refine a_iload_n 0 30 rfl dX12_taken_29 rfl rfl ?_
  refine a_iload_n 3 31 rfl dX12_taken_30 rfl rfl ?_
  refine a_icmp_eq 46 34 rfl dX12_taken_31 (by decide) (fun hc => absurd hc ((by decide))) (fun _ => ?_)
  refine a_iload_n 0 35 rfl dX12_taken_34 rfl rfl ?_
  refine a_if_le 46 38 rfl dX12_taken_35 (by decide) (fun hc => absurd hc ((by decide))) (fun _ => ?_)
  refine a_iload_n 0 39 rfl dX12_taken_38 rfl rfl ?_
  refine a_callS (as := [.int 4]) (rest := []) (st2 := [.int 3]) (u1 := 0) (v1 := 0) (u2 := 0) (v2 := 0) (r_above4) oX12_above q_1633 q_1634 rfl (by omega) (by decide) rfl (Nat.le_of_ble_eq_true rfl) 42 rfl dX12_taken_39 rfl ?_
  refine a_istore_n (lv' := [(3, .int 3), (0, .ref (g_ad G 38)), (1, .int (nI j)), (2, .int 3)]) 43 rfl dX12_taken_42 rfl (by decide) rfl ?_
  refine a_goto 29 dX12_taken_43 (by decide) ?_
  refine a_iload_n 0 30 rfl dX12_taken_29 rfl rfl ?_
  refine a_iload_n 3 31 rfl dX12_taken_30 rfl rfl ?_
  refine a_icmp_eq 46 34 rfl dX12_taken_31 (by decide) (fun _ => ?_) (fun hc => absurd (rfl) hc)
  refine a_iload_n 0 47 rfl dX12_taken_46 rfl rfl ?_
  refine a_iload_n 3 48 rfl dX12_taken_47 rfl rfl ?_
  refine a_icmp_eq 56 51 rfl dX12_taken_48 (by decide) (fun _ => ?_) (fun hc => absurd (rfl) hc)
  refine a_iload_n 3 57 rfl dX12_taken_56 rfl rfl ?_
  refine a_iconst (x := 3) 58 rfl dX12_taken_57 (by decide) ?_
  refine a_icmp_eq 66 61 rfl dX12_taken_58 (by decide) (fun _ => ?_) (fun hc => absurd (rfl) hc)
  refine a_aload_n 1 67 rfl dX12_taken_66 rfl rfl ?_
  refine a_get 5 cl_11 f_RX12_19_11 (by decide) (rfl) rfl 70 rfl dX12_taken_67 ?_
  refine a_iload_n 2 71 rfl dX12_taken_70 rfl rfl ?_
  refine a_iald (rfl) (vp_in_nI (n := j) (by omega) (by omega)) 72 rfl dX12_taken_71 ?_
  refine a_eq (st2 := [.int ((M.2.2.2.1 1) j)]) rfl rfl (congrArg (fun z9 => Value.int z9 :: []) (congrArg (M.2.2.2.1 1) (g_cl (by omega)))) rfl ?_
  refine a_eq (st2 := [.int y]) rfl rfl (congrArg (fun z9 => Value.int z9 :: []) (hv)) rfl ?_
  refine a_goto 76 dX12_taken_72 (by decide) ?_
  exact a_ireturn .int rfl rfl (rfl) (rfl) dX12_taken_76
theorem r_takM4_4 (hm : M.1 1 ≤ 8) (hj : j < M.1 1) (hk : M.2.2.2.1 0 j = 4) (hv : M.2.2.2.1 1 j = y) : g_Run G mX12_taken 6 0 0 [.ref (g_ad G 38), .int (nI j), .int 4] (g_hp G C (g_hm G M ++ ob)) (some (.int (f_tkM 4 4 y (nI j)))) (g_hp G C (g_hm G M ++ ob)) := by
  have h8 : j < 8 := Nat.lt_of_lt_of_le hj hm
  refine g_Run.of (lv := [(0, .ref (g_ad G 38)), (1, .int (nI j)), (2, .int 4)]) (by decide) (Nat.le_of_ble_eq_true rfl) rfl ?_
  refine a_aload_n 0 1 rfl dX12_taken_0 rfl rfl ?_
  refine a_iload_n 1 2 rfl dX12_taken_1 rfl rfl ?_
  refine a_callV (as := [.int (nI j)]) (rest := []) (st2 := [.int 1]) (u1 := 0) (v1 := 0) (u2 := 0) (v2 := 0) (r_isFam_in hm hj) (⟨_, _, _, _, rfl, rfl⟩) oX12_isFamily q_1273 q_1275 q_87 rfl (by omega) (by decide) rfl (Nat.le_of_ble_eq_true rfl) 5 rfl dX12_taken_2 rfl ?_
  refine a_if_eq 20 8 rfl dX12_taken_5 (by decide) (fun hc => absurd hc ((by decide))) (fun _ => ?_)
  refine a_iload_n 2 9 rfl dX12_taken_8 rfl rfl ?_
  refine a_i2l 10 rfl dX12_taken_9 ?_
  refine a_lconst (x := 0) 11 rfl dX12_taken_10 (by decide) ?_
  refine a_ldc2 q_1277 14 rfl dX12_taken_11 ?_
  refine a_callS (as := [.long ((4 : Int32).toInt64), .long 0, .long 5]) (rest := []) (st2 := [.int (f_i (decide ((0 : Int32) ≤ (4 : Int32) ∧ (4 : Int32) ≤ 5)))]) (u1 := 0) (v1 := 0) (u2 := 0) (v2 := 0) (r_isInB (y := (4 : Int32)) (a := 0) (b := 5) rfl rfl) oX12_isIn q_1242 q_1243 rfl (by omega) (by decide) rfl (Nat.le_of_ble_eq_true rfl) 17 rfl dX12_taken_14 rfl ?_
  refine a_if_ne 22 20 rfl dX12_taken_17 (by decide) (fun _ => ?_) (fun hc => absurd hc (f_i_T (by decide)))
  refine a_aload_n 0 23 rfl dX12_taken_22 rfl rfl ?_
  refine a_get 4 cl_11 f_RX12_15_11 (by decide) (rfl) rfl 26 rfl dX12_taken_23 ?_
  refine a_iload_n 1 27 rfl dX12_taken_26 rfl rfl ?_
  refine a_iald (rfl) (vp_in_nI (n := j) (by omega) (by omega)) 28 rfl dX12_taken_27 ?_
  refine a_eq (st2 := [.int ((M.2.2.2.1 0) j)]) rfl rfl (congrArg (fun z9 => Value.int z9 :: []) (congrArg (M.2.2.2.1 0) (g_cl (by omega)))) rfl ?_
  refine a_eq (st2 := [.int 4]) rfl rfl (congrArg (fun z9 => Value.int z9 :: []) (hk)) rfl ?_
  refine a_istore_n (lv' := [(3, .int 4), (0, .ref (g_ad G 38)), (1, .int (nI j)), (2, .int 4)]) 29 rfl dX12_taken_28 rfl (by decide) rfl ?_
  refine a_iload_n 0 30 rfl dX12_taken_29 rfl rfl ?_
  refine a_iload_n 3 31 rfl dX12_taken_30 rfl rfl ?_
  refine a_icmp_eq 46 34 rfl dX12_taken_31 (by decide) (fun _ => ?_) (fun hc => absurd (rfl) hc)
  refine a_iload_n 0 47 rfl dX12_taken_46 rfl rfl ?_
  refine a_iload_n 3 48 rfl dX12_taken_47 rfl rfl ?_
  refine a_icmp_eq 56 51 rfl dX12_taken_48 (by decide) (fun _ => ?_) (fun hc => absurd (rfl) hc)
  refine a_iload_n 3 57 rfl dX12_taken_56 rfl rfl ?_
  refine a_iconst (x := 3) 58 rfl dX12_taken_57 (by decide) ?_
  refine a_icmp_eq 66 61 rfl dX12_taken_58 (by decide) (fun hc => absurd hc ((by decide))) (fun _ => ?_)
  refine a_iload_n 3 62 rfl dX12_taken_61 rfl rfl ?_
  refine a_iconst (x := 4) 63 rfl dX12_taken_62 (by decide) ?_
  refine a_icmp_ne 75 66 rfl dX12_taken_63 (by decide) (fun hc => absurd (rfl) hc) (fun _ => ?_)
  refine a_aload_n 1 67 rfl dX12_taken_66 rfl rfl ?_
  refine a_get 5 cl_11 f_RX12_19_11 (by decide) (rfl) rfl 70 rfl dX12_taken_67 ?_
  refine a_iload_n 2 71 rfl dX12_taken_70 rfl rfl ?_
  refine a_iald (rfl) (vp_in_nI (n := j) (by omega) (by omega)) 72 rfl dX12_taken_71 ?_
  refine a_eq (st2 := [.int ((M.2.2.2.1 1) j)]) rfl rfl (congrArg (fun z9 => Value.int z9 :: []) (congrArg (M.2.2.2.1 1) (g_cl (by omega)))) rfl ?_
  refine a_eq (st2 := [.int y]) rfl rfl (congrArg (fun z9 => Value.int z9 :: []) (hv)) rfl ?_
  refine a_goto 76 dX12_taken_72 (by decide) ?_
  exact a_ireturn .int rfl rfl (rfl) (rfl) dX12_taken_76
theorem r_takM4_5 (hm : M.1 1 ≤ 8) (hj : j < M.1 1) (hk : M.2.2.2.1 0 j = 4) (hv : M.2.2.2.1 1 j = y) : g_Run G mX12_taken 6 0 0 [.ref (g_ad G 38), .int (nI j), .int 5] (g_hp G C (g_hm G M ++ ob)) (some (.int (f_tkM 4 5 y (nI j)))) (g_hp G C (g_hm G M ++ ob)) := by
  have h8 : j < 8 := Nat.lt_of_lt_of_le hj hm
  refine g_Run.of (lv := [(0, .ref (g_ad G 38)), (1, .int (nI j)), (2, .int 5)]) (by decide) (Nat.le_of_ble_eq_true rfl) rfl ?_
  refine a_aload_n 0 1 rfl dX12_taken_0 rfl rfl ?_
  refine a_iload_n 1 2 rfl dX12_taken_1 rfl rfl ?_
  refine a_callV (as := [.int (nI j)]) (rest := []) (st2 := [.int 1]) (u1 := 0) (v1 := 0) (u2 := 0) (v2 := 0) (r_isFam_in hm hj) (⟨_, _, _, _, rfl, rfl⟩) oX12_isFamily q_1273 q_1275 q_87 rfl (by omega) (by decide) rfl (Nat.le_of_ble_eq_true rfl) 5 rfl dX12_taken_2 rfl ?_
  refine a_if_eq 20 8 rfl dX12_taken_5 (by decide) (fun hc => absurd hc ((by decide))) (fun _ => ?_)
  refine a_iload_n 2 9 rfl dX12_taken_8 rfl rfl ?_
  refine a_i2l 10 rfl dX12_taken_9 ?_
  refine a_lconst (x := 0) 11 rfl dX12_taken_10 (by decide) ?_
  refine a_ldc2 q_1277 14 rfl dX12_taken_11 ?_
  refine a_callS (as := [.long ((5 : Int32).toInt64), .long 0, .long 5]) (rest := []) (st2 := [.int (f_i (decide ((0 : Int32) ≤ (5 : Int32) ∧ (5 : Int32) ≤ 5)))]) (u1 := 0) (v1 := 0) (u2 := 0) (v2 := 0) (r_isInB (y := (5 : Int32)) (a := 0) (b := 5) rfl rfl) oX12_isIn q_1242 q_1243 rfl (by omega) (by decide) rfl (Nat.le_of_ble_eq_true rfl) 17 rfl dX12_taken_14 rfl ?_
  refine a_if_ne 22 20 rfl dX12_taken_17 (by decide) (fun _ => ?_) (fun hc => absurd hc (f_i_T (by decide)))
  refine a_aload_n 0 23 rfl dX12_taken_22 rfl rfl ?_
  refine a_get 4 cl_11 f_RX12_15_11 (by decide) (rfl) rfl 26 rfl dX12_taken_23 ?_
  refine a_iload_n 1 27 rfl dX12_taken_26 rfl rfl ?_
  refine a_iald (rfl) (vp_in_nI (n := j) (by omega) (by omega)) 28 rfl dX12_taken_27 ?_
  refine a_eq (st2 := [.int ((M.2.2.2.1 0) j)]) rfl rfl (congrArg (fun z9 => Value.int z9 :: []) (congrArg (M.2.2.2.1 0) (g_cl (by omega)))) rfl ?_
  refine a_eq (st2 := [.int 4]) rfl rfl (congrArg (fun z9 => Value.int z9 :: []) (hk)) rfl ?_
  refine a_istore_n (lv' := [(3, .int 4), (0, .ref (g_ad G 38)), (1, .int (nI j)), (2, .int 5)]) 29 rfl dX12_taken_28 rfl (by decide) rfl ?_
  refine a_iload_n 0 30 rfl dX12_taken_29 rfl rfl ?_
  refine a_iload_n 3 31 rfl dX12_taken_30 rfl rfl ?_
  refine a_icmp_eq 46 34 rfl dX12_taken_31 (by decide) (fun hc => absurd hc ((by decide))) (fun _ => ?_)
  refine a_iload_n 0 35 rfl dX12_taken_34 rfl rfl ?_
  refine a_if_le 46 38 rfl dX12_taken_35 (by decide) (fun hc => absurd hc ((by decide))) (fun _ => ?_)
  refine a_iload_n 0 39 rfl dX12_taken_38 rfl rfl ?_
  refine a_callS (as := [.int 4]) (rest := []) (st2 := [.int 3]) (u1 := 0) (v1 := 0) (u2 := 0) (v2 := 0) (r_above4) oX12_above q_1633 q_1634 rfl (by omega) (by decide) rfl (Nat.le_of_ble_eq_true rfl) 42 rfl dX12_taken_39 rfl ?_
  refine a_istore_n (lv' := [(3, .int 3), (0, .ref (g_ad G 38)), (1, .int (nI j)), (2, .int 5)]) 43 rfl dX12_taken_42 rfl (by decide) rfl ?_
  refine a_goto 29 dX12_taken_43 (by decide) ?_
  refine a_iload_n 0 30 rfl dX12_taken_29 rfl rfl ?_
  refine a_iload_n 3 31 rfl dX12_taken_30 rfl rfl ?_
  refine a_icmp_eq 46 34 rfl dX12_taken_31 (by decide) (fun hc => absurd hc ((by decide))) (fun _ => ?_)
  refine a_iload_n 0 35 rfl dX12_taken_34 rfl rfl ?_
  refine a_if_le 46 38 rfl dX12_taken_35 (by decide) (fun hc => absurd hc ((by decide))) (fun _ => ?_)
  refine a_iload_n 0 39 rfl dX12_taken_38 rfl rfl ?_
  refine a_callS (as := [.int 3]) (rest := []) (st2 := [.int 0]) (u1 := 0) (v1 := 0) (u2 := 0) (v2 := 0) (r_above3) oX12_above q_1633 q_1634 rfl (by omega) (by decide) rfl (Nat.le_of_ble_eq_true rfl) 42 rfl dX12_taken_39 rfl ?_
  refine a_istore_n (lv' := [(3, .int 0), (0, .ref (g_ad G 38)), (1, .int (nI j)), (2, .int 5)]) 43 rfl dX12_taken_42 rfl (by decide) rfl ?_
  refine a_goto 29 dX12_taken_43 (by decide) ?_
  refine a_iload_n 0 30 rfl dX12_taken_29 rfl rfl ?_
  refine a_iload_n 3 31 rfl dX12_taken_30 rfl rfl ?_
  refine a_icmp_eq 46 34 rfl dX12_taken_31 (by decide) (fun hc => absurd hc ((by decide))) (fun _ => ?_)
  refine a_iload_n 0 35 rfl dX12_taken_34 rfl rfl ?_
  refine a_if_le 46 38 rfl dX12_taken_35 (by decide) (fun _ => ?_) (fun hc => absurd ((by decide)) hc)
  refine a_iload_n 0 47 rfl dX12_taken_46 rfl rfl ?_
  refine a_iload_n 3 48 rfl dX12_taken_47 rfl rfl ?_
  refine a_icmp_eq 56 51 rfl dX12_taken_48 (by decide) (fun hc => absurd hc ((by decide))) (fun _ => ?_)
  refine a_bipush (x := (-5)) 53 rfl dX12_taken_51 (by decide) ?_
  refine a_goto 76 dX12_taken_53 (by decide) ?_
  exact a_ireturn .int rfl rfl (rfl) (rfl) dX12_taken_76
theorem r_takM5_0 (hm : M.1 1 ≤ 8) (hj : j < M.1 1) (hk : M.2.2.2.1 0 j = 5) (hv : M.2.2.2.1 1 j = y) : g_Run G mX12_taken 6 0 0 [.ref (g_ad G 38), .int (nI j), .int 0] (g_hp G C (g_hm G M ++ ob)) (some (.int (f_tkM 5 0 y (nI j)))) (g_hp G C (g_hm G M ++ ob)) := by
  have h8 : j < 8 := Nat.lt_of_lt_of_le hj hm
  refine g_Run.of (lv := [(0, .ref (g_ad G 38)), (1, .int (nI j)), (2, .int 0)]) (by decide) (Nat.le_of_ble_eq_true rfl) rfl ?_
  refine a_aload_n 0 1 rfl dX12_taken_0 rfl rfl ?_
  refine a_iload_n 1 2 rfl dX12_taken_1 rfl rfl ?_
  refine a_callV (as := [.int (nI j)]) (rest := []) (st2 := [.int 1]) (u1 := 0) (v1 := 0) (u2 := 0) (v2 := 0) (r_isFam_in hm hj) (⟨_, _, _, _, rfl, rfl⟩) oX12_isFamily q_1273 q_1275 q_87 rfl (by omega) (by decide) rfl (Nat.le_of_ble_eq_true rfl) 5 rfl dX12_taken_2 rfl ?_
  refine a_if_eq 20 8 rfl dX12_taken_5 (by decide) (fun hc => absurd hc ((by decide))) (fun _ => ?_)
  refine a_iload_n 2 9 rfl dX12_taken_8 rfl rfl ?_
  refine a_i2l 10 rfl dX12_taken_9 ?_
  refine a_lconst (x := 0) 11 rfl dX12_taken_10 (by decide) ?_
  refine a_ldc2 q_1277 14 rfl dX12_taken_11 ?_
  refine a_callS (as := [.long ((0 : Int32).toInt64), .long 0, .long 5]) (rest := []) (st2 := [.int (f_i (decide ((0 : Int32) ≤ (0 : Int32) ∧ (0 : Int32) ≤ 5)))]) (u1 := 0) (v1 := 0) (u2 := 0) (v2 := 0) (r_isInB (y := (0 : Int32)) (a := 0) (b := 5) rfl rfl) oX12_isIn q_1242 q_1243 rfl (by omega) (by decide) rfl (Nat.le_of_ble_eq_true rfl) 17 rfl dX12_taken_14 rfl ?_
  refine a_if_ne 22 20 rfl dX12_taken_17 (by decide) (fun _ => ?_) (fun hc => absurd hc (f_i_T (by decide)))
  refine a_aload_n 0 23 rfl dX12_taken_22 rfl rfl ?_
  refine a_get 4 cl_11 f_RX12_15_11 (by decide) (rfl) rfl 26 rfl dX12_taken_23 ?_
  refine a_iload_n 1 27 rfl dX12_taken_26 rfl rfl ?_
  refine a_iald (rfl) (vp_in_nI (n := j) (by omega) (by omega)) 28 rfl dX12_taken_27 ?_
  refine a_eq (st2 := [.int ((M.2.2.2.1 0) j)]) rfl rfl (congrArg (fun z9 => Value.int z9 :: []) (congrArg (M.2.2.2.1 0) (g_cl (by omega)))) rfl ?_
  refine a_eq (st2 := [.int 5]) rfl rfl (congrArg (fun z9 => Value.int z9 :: []) (hk)) rfl ?_
  refine a_istore_n (lv' := [(3, .int 5), (0, .ref (g_ad G 38)), (1, .int (nI j)), (2, .int 0)]) 29 rfl dX12_taken_28 rfl (by decide) rfl ?_
  refine a_iload_n 0 30 rfl dX12_taken_29 rfl rfl ?_
  refine a_iload_n 3 31 rfl dX12_taken_30 rfl rfl ?_
  refine a_icmp_eq 46 34 rfl dX12_taken_31 (by decide) (fun hc => absurd hc ((by decide))) (fun _ => ?_)
  refine a_iload_n 0 35 rfl dX12_taken_34 rfl rfl ?_
  refine a_if_le 46 38 rfl dX12_taken_35 (by decide) (fun hc => absurd hc ((by decide))) (fun _ => ?_)
  refine a_iload_n 0 39 rfl dX12_taken_38 rfl rfl ?_
  refine a_callS (as := [.int 5]) (rest := []) (st2 := [.int 2]) (u1 := 0) (v1 := 0) (u2 := 0) (v2 := 0) (r_above5) oX12_above q_1633 q_1634 rfl (by omega) (by decide) rfl (Nat.le_of_ble_eq_true rfl) 42 rfl dX12_taken_39 rfl ?_
  refine a_istore_n (lv' := [(3, .int 2), (0, .ref (g_ad G 38)), (1, .int (nI j)), (2, .int 0)]) 43 rfl dX12_taken_42 rfl (by decide) rfl ?_
  refine a_goto 29 dX12_taken_43 (by decide) ?_
  refine a_iload_n 0 30 rfl dX12_taken_29 rfl rfl ?_
  refine a_iload_n 3 31 rfl dX12_taken_30 rfl rfl ?_
  refine a_icmp_eq 46 34 rfl dX12_taken_31 (by decide) (fun hc => absurd hc ((by decide))) (fun _ => ?_)
  refine a_iload_n 0 35 rfl dX12_taken_34 rfl rfl ?_
  refine a_if_le 46 38 rfl dX12_taken_35 (by decide) (fun hc => absurd hc ((by decide))) (fun _ => ?_)
  refine a_iload_n 0 39 rfl dX12_taken_38 rfl rfl ?_
  refine a_callS (as := [.int 2]) (rest := []) (st2 := [.int 0]) (u1 := 0) (v1 := 0) (u2 := 0) (v2 := 0) (r_above2) oX12_above q_1633 q_1634 rfl (by omega) (by decide) rfl (Nat.le_of_ble_eq_true rfl) 42 rfl dX12_taken_39 rfl ?_
  refine a_istore_n (lv' := [(3, .int 0), (0, .ref (g_ad G 38)), (1, .int (nI j)), (2, .int 0)]) 43 rfl dX12_taken_42 rfl (by decide) rfl ?_
  refine a_goto 29 dX12_taken_43 (by decide) ?_
  refine a_iload_n 0 30 rfl dX12_taken_29 rfl rfl ?_
  refine a_iload_n 3 31 rfl dX12_taken_30 rfl rfl ?_
  refine a_icmp_eq 46 34 rfl dX12_taken_31 (by decide) (fun _ => ?_) (fun hc => absurd (rfl) hc)
  refine a_iload_n 0 47 rfl dX12_taken_46 rfl rfl ?_
  refine a_iload_n 3 48 rfl dX12_taken_47 rfl rfl ?_
  refine a_icmp_eq 56 51 rfl dX12_taken_48 (by decide) (fun _ => ?_) (fun hc => absurd (rfl) hc)
  refine a_iload_n 3 57 rfl dX12_taken_56 rfl rfl ?_
  refine a_iconst (x := 3) 58 rfl dX12_taken_57 (by decide) ?_
  refine a_icmp_eq 66 61 rfl dX12_taken_58 (by decide) (fun hc => absurd hc ((by decide))) (fun _ => ?_)
  refine a_iload_n 3 62 rfl dX12_taken_61 rfl rfl ?_
  refine a_iconst (x := 4) 63 rfl dX12_taken_62 (by decide) ?_
  refine a_icmp_ne 75 66 rfl dX12_taken_63 (by decide) (fun _ => ?_) (fun hc => absurd hc ((by decide)))
  refine a_iload_n 2 76 rfl dX12_taken_75 rfl rfl ?_
  exact a_ireturn .int rfl rfl (rfl) (rfl) dX12_taken_76
theorem r_takM5_1 (hm : M.1 1 ≤ 8) (hj : j < M.1 1) (hk : M.2.2.2.1 0 j = 5) (hv : M.2.2.2.1 1 j = y) : g_Run G mX12_taken 6 0 0 [.ref (g_ad G 38), .int (nI j), .int 1] (g_hp G C (g_hm G M ++ ob)) (some (.int (f_tkM 5 1 y (nI j)))) (g_hp G C (g_hm G M ++ ob)) := by
  have h8 : j < 8 := Nat.lt_of_lt_of_le hj hm
  refine g_Run.of (lv := [(0, .ref (g_ad G 38)), (1, .int (nI j)), (2, .int 1)]) (by decide) (Nat.le_of_ble_eq_true rfl) rfl ?_
  refine a_aload_n 0 1 rfl dX12_taken_0 rfl rfl ?_
  refine a_iload_n 1 2 rfl dX12_taken_1 rfl rfl ?_
  refine a_callV (as := [.int (nI j)]) (rest := []) (st2 := [.int 1]) (u1 := 0) (v1 := 0) (u2 := 0) (v2 := 0) (r_isFam_in hm hj) (⟨_, _, _, _, rfl, rfl⟩) oX12_isFamily q_1273 q_1275 q_87 rfl (by omega) (by decide) rfl (Nat.le_of_ble_eq_true rfl) 5 rfl dX12_taken_2 rfl ?_
  refine a_if_eq 20 8 rfl dX12_taken_5 (by decide) (fun hc => absurd hc ((by decide))) (fun _ => ?_)
  refine a_iload_n 2 9 rfl dX12_taken_8 rfl rfl ?_
  refine a_i2l 10 rfl dX12_taken_9 ?_
  refine a_lconst (x := 0) 11 rfl dX12_taken_10 (by decide) ?_
  refine a_ldc2 q_1277 14 rfl dX12_taken_11 ?_
  refine a_callS (as := [.long ((1 : Int32).toInt64), .long 0, .long 5]) (rest := []) (st2 := [.int (f_i (decide ((0 : Int32) ≤ (1 : Int32) ∧ (1 : Int32) ≤ 5)))]) (u1 := 0) (v1 := 0) (u2 := 0) (v2 := 0) (r_isInB (y := (1 : Int32)) (a := 0) (b := 5) rfl rfl) oX12_isIn q_1242 q_1243 rfl (by omega) (by decide) rfl (Nat.le_of_ble_eq_true rfl) 17 rfl dX12_taken_14 rfl ?_
  refine a_if_ne 22 20 rfl dX12_taken_17 (by decide) (fun _ => ?_) (fun hc => absurd hc (f_i_T (by decide)))
  refine a_aload_n 0 23 rfl dX12_taken_22 rfl rfl ?_
  refine a_get 4 cl_11 f_RX12_15_11 (by decide) (rfl) rfl 26 rfl dX12_taken_23 ?_
  refine a_iload_n 1 27 rfl dX12_taken_26 rfl rfl ?_
  refine a_iald (rfl) (vp_in_nI (n := j) (by omega) (by omega)) 28 rfl dX12_taken_27 ?_
  refine a_eq (st2 := [.int ((M.2.2.2.1 0) j)]) rfl rfl (congrArg (fun z9 => Value.int z9 :: []) (congrArg (M.2.2.2.1 0) (g_cl (by omega)))) rfl ?_
  refine a_eq (st2 := [.int 5]) rfl rfl (congrArg (fun z9 => Value.int z9 :: []) (hk)) rfl ?_
  refine a_istore_n (lv' := [(3, .int 5), (0, .ref (g_ad G 38)), (1, .int (nI j)), (2, .int 1)]) 29 rfl dX12_taken_28 rfl (by decide) rfl ?_
  refine a_iload_n 0 30 rfl dX12_taken_29 rfl rfl ?_
  refine a_iload_n 3 31 rfl dX12_taken_30 rfl rfl ?_
  refine a_icmp_eq 46 34 rfl dX12_taken_31 (by decide) (fun hc => absurd hc ((by decide))) (fun _ => ?_)
  refine a_iload_n 0 35 rfl dX12_taken_34 rfl rfl ?_
  refine a_if_le 46 38 rfl dX12_taken_35 (by decide) (fun hc => absurd hc ((by decide))) (fun _ => ?_)
  refine a_iload_n 0 39 rfl dX12_taken_38 rfl rfl ?_
  refine a_callS (as := [.int 5]) (rest := []) (st2 := [.int 2]) (u1 := 0) (v1 := 0) (u2 := 0) (v2 := 0) (r_above5) oX12_above q_1633 q_1634 rfl (by omega) (by decide) rfl (Nat.le_of_ble_eq_true rfl) 42 rfl dX12_taken_39 rfl ?_
  refine a_istore_n (lv' := [(3, .int 2), (0, .ref (g_ad G 38)), (1, .int (nI j)), (2, .int 1)]) 43 rfl dX12_taken_42 rfl (by decide) rfl ?_
  refine a_goto 29 dX12_taken_43 (by decide) ?_
  refine a_iload_n 0 30 rfl dX12_taken_29 rfl rfl ?_
  refine a_iload_n 3 31 rfl dX12_taken_30 rfl rfl ?_
  refine a_icmp_eq 46 34 rfl dX12_taken_31 (by decide) (fun hc => absurd hc ((by decide))) (fun _ => ?_)
  refine a_iload_n 0 35 rfl dX12_taken_34 rfl rfl ?_
  refine a_if_le 46 38 rfl dX12_taken_35 (by decide) (fun hc => absurd hc ((by decide))) (fun _ => ?_)
  refine a_iload_n 0 39 rfl dX12_taken_38 rfl rfl ?_
  refine a_callS (as := [.int 2]) (rest := []) (st2 := [.int 0]) (u1 := 0) (v1 := 0) (u2 := 0) (v2 := 0) (r_above2) oX12_above q_1633 q_1634 rfl (by omega) (by decide) rfl (Nat.le_of_ble_eq_true rfl) 42 rfl dX12_taken_39 rfl ?_
  refine a_istore_n (lv' := [(3, .int 0), (0, .ref (g_ad G 38)), (1, .int (nI j)), (2, .int 1)]) 43 rfl dX12_taken_42 rfl (by decide) rfl ?_
  refine a_goto 29 dX12_taken_43 (by decide) ?_
  refine a_iload_n 0 30 rfl dX12_taken_29 rfl rfl ?_
  refine a_iload_n 3 31 rfl dX12_taken_30 rfl rfl ?_
  refine a_icmp_eq 46 34 rfl dX12_taken_31 (by decide) (fun hc => absurd hc ((by decide))) (fun _ => ?_)
  refine a_iload_n 0 35 rfl dX12_taken_34 rfl rfl ?_
  refine a_if_le 46 38 rfl dX12_taken_35 (by decide) (fun _ => ?_) (fun hc => absurd ((by decide)) hc)
  refine a_iload_n 0 47 rfl dX12_taken_46 rfl rfl ?_
  refine a_iload_n 3 48 rfl dX12_taken_47 rfl rfl ?_
  refine a_icmp_eq 56 51 rfl dX12_taken_48 (by decide) (fun hc => absurd hc ((by decide))) (fun _ => ?_)
  refine a_bipush (x := (-5)) 53 rfl dX12_taken_51 (by decide) ?_
  refine a_goto 76 dX12_taken_53 (by decide) ?_
  exact a_ireturn .int rfl rfl (rfl) (rfl) dX12_taken_76
theorem r_takM5_2 (hm : M.1 1 ≤ 8) (hj : j < M.1 1) (hk : M.2.2.2.1 0 j = 5) (hv : M.2.2.2.1 1 j = y) : g_Run G mX12_taken 6 0 0 [.ref (g_ad G 38), .int (nI j), .int 2] (g_hp G C (g_hm G M ++ ob)) (some (.int (f_tkM 5 2 y (nI j)))) (g_hp G C (g_hm G M ++ ob)) := by
  have h8 : j < 8 := Nat.lt_of_lt_of_le hj hm
  refine g_Run.of (lv := [(0, .ref (g_ad G 38)), (1, .int (nI j)), (2, .int 2)]) (by decide) (Nat.le_of_ble_eq_true rfl) rfl ?_
  refine a_aload_n 0 1 rfl dX12_taken_0 rfl rfl ?_
  refine a_iload_n 1 2 rfl dX12_taken_1 rfl rfl ?_
  refine a_callV (as := [.int (nI j)]) (rest := []) (st2 := [.int 1]) (u1 := 0) (v1 := 0) (u2 := 0) (v2 := 0) (r_isFam_in hm hj) (⟨_, _, _, _, rfl, rfl⟩) oX12_isFamily q_1273 q_1275 q_87 rfl (by omega) (by decide) rfl (Nat.le_of_ble_eq_true rfl) 5 rfl dX12_taken_2 rfl ?_
  refine a_if_eq 20 8 rfl dX12_taken_5 (by decide) (fun hc => absurd hc ((by decide))) (fun _ => ?_)
  refine a_iload_n 2 9 rfl dX12_taken_8 rfl rfl ?_
  refine a_i2l 10 rfl dX12_taken_9 ?_
  refine a_lconst (x := 0) 11 rfl dX12_taken_10 (by decide) ?_
  refine a_ldc2 q_1277 14 rfl dX12_taken_11 ?_
  refine a_callS (as := [.long ((2 : Int32).toInt64), .long 0, .long 5]) (rest := []) (st2 := [.int (f_i (decide ((0 : Int32) ≤ (2 : Int32) ∧ (2 : Int32) ≤ 5)))]) (u1 := 0) (v1 := 0) (u2 := 0) (v2 := 0) (r_isInB (y := (2 : Int32)) (a := 0) (b := 5) rfl rfl) oX12_isIn q_1242 q_1243 rfl (by omega) (by decide) rfl (Nat.le_of_ble_eq_true rfl) 17 rfl dX12_taken_14 rfl ?_
  refine a_if_ne 22 20 rfl dX12_taken_17 (by decide) (fun _ => ?_) (fun hc => absurd hc (f_i_T (by decide)))
  refine a_aload_n 0 23 rfl dX12_taken_22 rfl rfl ?_
  refine a_get 4 cl_11 f_RX12_15_11 (by decide) (rfl) rfl 26 rfl dX12_taken_23 ?_
  refine a_iload_n 1 27 rfl dX12_taken_26 rfl rfl ?_
  refine a_iald (rfl) (vp_in_nI (n := j) (by omega) (by omega)) 28 rfl dX12_taken_27 ?_
  refine a_eq (st2 := [.int ((M.2.2.2.1 0) j)]) rfl rfl (congrArg (fun z9 => Value.int z9 :: []) (congrArg (M.2.2.2.1 0) (g_cl (by omega)))) rfl ?_
  refine a_eq (st2 := [.int 5]) rfl rfl (congrArg (fun z9 => Value.int z9 :: []) (hk)) rfl ?_
  refine a_istore_n (lv' := [(3, .int 5), (0, .ref (g_ad G 38)), (1, .int (nI j)), (2, .int 2)]) 29 rfl dX12_taken_28 rfl (by decide) rfl ?_
  refine a_iload_n 0 30 rfl dX12_taken_29 rfl rfl ?_
  refine a_iload_n 3 31 rfl dX12_taken_30 rfl rfl ?_
  refine a_icmp_eq 46 34 rfl dX12_taken_31 (by decide) (fun hc => absurd hc ((by decide))) (fun _ => ?_)
  refine a_iload_n 0 35 rfl dX12_taken_34 rfl rfl ?_
  refine a_if_le 46 38 rfl dX12_taken_35 (by decide) (fun hc => absurd hc ((by decide))) (fun _ => ?_)
  refine a_iload_n 0 39 rfl dX12_taken_38 rfl rfl ?_
  refine a_callS (as := [.int 5]) (rest := []) (st2 := [.int 2]) (u1 := 0) (v1 := 0) (u2 := 0) (v2 := 0) (r_above5) oX12_above q_1633 q_1634 rfl (by omega) (by decide) rfl (Nat.le_of_ble_eq_true rfl) 42 rfl dX12_taken_39 rfl ?_
  refine a_istore_n (lv' := [(3, .int 2), (0, .ref (g_ad G 38)), (1, .int (nI j)), (2, .int 2)]) 43 rfl dX12_taken_42 rfl (by decide) rfl ?_
  refine a_goto 29 dX12_taken_43 (by decide) ?_
  refine a_iload_n 0 30 rfl dX12_taken_29 rfl rfl ?_
  refine a_iload_n 3 31 rfl dX12_taken_30 rfl rfl ?_
  refine a_icmp_eq 46 34 rfl dX12_taken_31 (by decide) (fun _ => ?_) (fun hc => absurd (rfl) hc)
  refine a_iload_n 0 47 rfl dX12_taken_46 rfl rfl ?_
  refine a_iload_n 3 48 rfl dX12_taken_47 rfl rfl ?_
  refine a_icmp_eq 56 51 rfl dX12_taken_48 (by decide) (fun _ => ?_) (fun hc => absurd (rfl) hc)
  refine a_iload_n 3 57 rfl dX12_taken_56 rfl rfl ?_
  refine a_iconst (x := 3) 58 rfl dX12_taken_57 (by decide) ?_
  refine a_icmp_eq 66 61 rfl dX12_taken_58 (by decide) (fun hc => absurd hc ((by decide))) (fun _ => ?_)
  refine a_iload_n 3 62 rfl dX12_taken_61 rfl rfl ?_
  refine a_iconst (x := 4) 63 rfl dX12_taken_62 (by decide) ?_
  refine a_icmp_ne 75 66 rfl dX12_taken_63 (by decide) (fun _ => ?_) (fun hc => absurd hc ((by decide)))
  refine a_iload_n 2 76 rfl dX12_taken_75 rfl rfl ?_
  exact a_ireturn .int rfl rfl (rfl) (rfl) dX12_taken_76
theorem r_takM5_3 (hm : M.1 1 ≤ 8) (hj : j < M.1 1) (hk : M.2.2.2.1 0 j = 5) (hv : M.2.2.2.1 1 j = y) : g_Run G mX12_taken 6 0 0 [.ref (g_ad G 38), .int (nI j), .int 3] (g_hp G C (g_hm G M ++ ob)) (some (.int (f_tkM 5 3 y (nI j)))) (g_hp G C (g_hm G M ++ ob)) := by
  have h8 : j < 8 := Nat.lt_of_lt_of_le hj hm
  refine g_Run.of (lv := [(0, .ref (g_ad G 38)), (1, .int (nI j)), (2, .int 3)]) (by decide) (Nat.le_of_ble_eq_true rfl) rfl ?_
  refine a_aload_n 0 1 rfl dX12_taken_0 rfl rfl ?_
  refine a_iload_n 1 2 rfl dX12_taken_1 rfl rfl ?_
  refine a_callV (as := [.int (nI j)]) (rest := []) (st2 := [.int 1]) (u1 := 0) (v1 := 0) (u2 := 0) (v2 := 0) (r_isFam_in hm hj) (⟨_, _, _, _, rfl, rfl⟩) oX12_isFamily q_1273 q_1275 q_87 rfl (by omega) (by decide) rfl (Nat.le_of_ble_eq_true rfl) 5 rfl dX12_taken_2 rfl ?_
  refine a_if_eq 20 8 rfl dX12_taken_5 (by decide) (fun hc => absurd hc ((by decide))) (fun _ => ?_)
  refine a_iload_n 2 9 rfl dX12_taken_8 rfl rfl ?_
  refine a_i2l 10 rfl dX12_taken_9 ?_
  refine a_lconst (x := 0) 11 rfl dX12_taken_10 (by decide) ?_
  refine a_ldc2 q_1277 14 rfl dX12_taken_11 ?_
  refine a_callS (as := [.long ((3 : Int32).toInt64), .long 0, .long 5]) (rest := []) (st2 := [.int (f_i (decide ((0 : Int32) ≤ (3 : Int32) ∧ (3 : Int32) ≤ 5)))]) (u1 := 0) (v1 := 0) (u2 := 0) (v2 := 0) (r_isInB (y := (3 : Int32)) (a := 0) (b := 5) rfl rfl) oX12_isIn q_1242 q_1243 rfl (by omega) (by decide) rfl (Nat.le_of_ble_eq_true rfl) 17 rfl dX12_taken_14 rfl ?_
  refine a_if_ne 22 20 rfl dX12_taken_17 (by decide) (fun _ => ?_) (fun hc => absurd hc (f_i_T (by decide)))
  refine a_aload_n 0 23 rfl dX12_taken_22 rfl rfl ?_
  refine a_get 4 cl_11 f_RX12_15_11 (by decide) (rfl) rfl 26 rfl dX12_taken_23 ?_
  refine a_iload_n 1 27 rfl dX12_taken_26 rfl rfl ?_
  refine a_iald (rfl) (vp_in_nI (n := j) (by omega) (by omega)) 28 rfl dX12_taken_27 ?_
  refine a_eq (st2 := [.int ((M.2.2.2.1 0) j)]) rfl rfl (congrArg (fun z9 => Value.int z9 :: []) (congrArg (M.2.2.2.1 0) (g_cl (by omega)))) rfl ?_
  refine a_eq (st2 := [.int 5]) rfl rfl (congrArg (fun z9 => Value.int z9 :: []) (hk)) rfl ?_
  refine a_istore_n (lv' := [(3, .int 5), (0, .ref (g_ad G 38)), (1, .int (nI j)), (2, .int 3)]) 29 rfl dX12_taken_28 rfl (by decide) rfl ?_
  refine a_iload_n 0 30 rfl dX12_taken_29 rfl rfl ?_
  refine a_iload_n 3 31 rfl dX12_taken_30 rfl rfl ?_
  refine a_icmp_eq 46 34 rfl dX12_taken_31 (by decide) (fun hc => absurd hc ((by decide))) (fun _ => ?_)
  refine a_iload_n 0 35 rfl dX12_taken_34 rfl rfl ?_
  refine a_if_le 46 38 rfl dX12_taken_35 (by decide) (fun hc => absurd hc ((by decide))) (fun _ => ?_)
  refine a_iload_n 0 39 rfl dX12_taken_38 rfl rfl ?_
  refine a_callS (as := [.int 5]) (rest := []) (st2 := [.int 2]) (u1 := 0) (v1 := 0) (u2 := 0) (v2 := 0) (r_above5) oX12_above q_1633 q_1634 rfl (by omega) (by decide) rfl (Nat.le_of_ble_eq_true rfl) 42 rfl dX12_taken_39 rfl ?_
  refine a_istore_n (lv' := [(3, .int 2), (0, .ref (g_ad G 38)), (1, .int (nI j)), (2, .int 3)]) 43 rfl dX12_taken_42 rfl (by decide) rfl ?_
  refine a_goto 29 dX12_taken_43 (by decide) ?_
  refine a_iload_n 0 30 rfl dX12_taken_29 rfl rfl ?_
  refine a_iload_n 3 31 rfl dX12_taken_30 rfl rfl ?_
  refine a_icmp_eq 46 34 rfl dX12_taken_31 (by decide) (fun hc => absurd hc ((by decide))) (fun _ => ?_)
  refine a_iload_n 0 35 rfl dX12_taken_34 rfl rfl ?_
  refine a_if_le 46 38 rfl dX12_taken_35 (by decide) (fun hc => absurd hc ((by decide))) (fun _ => ?_)
  refine a_iload_n 0 39 rfl dX12_taken_38 rfl rfl ?_
  refine a_callS (as := [.int 2]) (rest := []) (st2 := [.int 0]) (u1 := 0) (v1 := 0) (u2 := 0) (v2 := 0) (r_above2) oX12_above q_1633 q_1634 rfl (by omega) (by decide) rfl (Nat.le_of_ble_eq_true rfl) 42 rfl dX12_taken_39 rfl ?_
  refine a_istore_n (lv' := [(3, .int 0), (0, .ref (g_ad G 38)), (1, .int (nI j)), (2, .int 3)]) 43 rfl dX12_taken_42 rfl (by decide) rfl ?_
  refine a_goto 29 dX12_taken_43 (by decide) ?_
  refine a_iload_n 0 30 rfl dX12_taken_29 rfl rfl ?_
  refine a_iload_n 3 31 rfl dX12_taken_30 rfl rfl ?_
  refine a_icmp_eq 46 34 rfl dX12_taken_31 (by decide) (fun hc => absurd hc ((by decide))) (fun _ => ?_)
  refine a_iload_n 0 35 rfl dX12_taken_34 rfl rfl ?_
  refine a_if_le 46 38 rfl dX12_taken_35 (by decide) (fun _ => ?_) (fun hc => absurd ((by decide)) hc)
  refine a_iload_n 0 47 rfl dX12_taken_46 rfl rfl ?_
  refine a_iload_n 3 48 rfl dX12_taken_47 rfl rfl ?_
  refine a_icmp_eq 56 51 rfl dX12_taken_48 (by decide) (fun hc => absurd hc ((by decide))) (fun _ => ?_)
  refine a_bipush (x := (-5)) 53 rfl dX12_taken_51 (by decide) ?_
  refine a_goto 76 dX12_taken_53 (by decide) ?_
  exact a_ireturn .int rfl rfl (rfl) (rfl) dX12_taken_76
theorem r_takM5_4 (hm : M.1 1 ≤ 8) (hj : j < M.1 1) (hk : M.2.2.2.1 0 j = 5) (hv : M.2.2.2.1 1 j = y) : g_Run G mX12_taken 6 0 0 [.ref (g_ad G 38), .int (nI j), .int 4] (g_hp G C (g_hm G M ++ ob)) (some (.int (f_tkM 5 4 y (nI j)))) (g_hp G C (g_hm G M ++ ob)) := by
  have h8 : j < 8 := Nat.lt_of_lt_of_le hj hm
  refine g_Run.of (lv := [(0, .ref (g_ad G 38)), (1, .int (nI j)), (2, .int 4)]) (by decide) (Nat.le_of_ble_eq_true rfl) rfl ?_
  refine a_aload_n 0 1 rfl dX12_taken_0 rfl rfl ?_
  refine a_iload_n 1 2 rfl dX12_taken_1 rfl rfl ?_
  refine a_callV (as := [.int (nI j)]) (rest := []) (st2 := [.int 1]) (u1 := 0) (v1 := 0) (u2 := 0) (v2 := 0) (r_isFam_in hm hj) (⟨_, _, _, _, rfl, rfl⟩) oX12_isFamily q_1273 q_1275 q_87 rfl (by omega) (by decide) rfl (Nat.le_of_ble_eq_true rfl) 5 rfl dX12_taken_2 rfl ?_
  refine a_if_eq 20 8 rfl dX12_taken_5 (by decide) (fun hc => absurd hc ((by decide))) (fun _ => ?_)
  refine a_iload_n 2 9 rfl dX12_taken_8 rfl rfl ?_
  refine a_i2l 10 rfl dX12_taken_9 ?_
  refine a_lconst (x := 0) 11 rfl dX12_taken_10 (by decide) ?_
  refine a_ldc2 q_1277 14 rfl dX12_taken_11 ?_
  refine a_callS (as := [.long ((4 : Int32).toInt64), .long 0, .long 5]) (rest := []) (st2 := [.int (f_i (decide ((0 : Int32) ≤ (4 : Int32) ∧ (4 : Int32) ≤ 5)))]) (u1 := 0) (v1 := 0) (u2 := 0) (v2 := 0) (r_isInB (y := (4 : Int32)) (a := 0) (b := 5) rfl rfl) oX12_isIn q_1242 q_1243 rfl (by omega) (by decide) rfl (Nat.le_of_ble_eq_true rfl) 17 rfl dX12_taken_14 rfl ?_
  refine a_if_ne 22 20 rfl dX12_taken_17 (by decide) (fun _ => ?_) (fun hc => absurd hc (f_i_T (by decide)))
  refine a_aload_n 0 23 rfl dX12_taken_22 rfl rfl ?_
  refine a_get 4 cl_11 f_RX12_15_11 (by decide) (rfl) rfl 26 rfl dX12_taken_23 ?_
  refine a_iload_n 1 27 rfl dX12_taken_26 rfl rfl ?_
  refine a_iald (rfl) (vp_in_nI (n := j) (by omega) (by omega)) 28 rfl dX12_taken_27 ?_
  refine a_eq (st2 := [.int ((M.2.2.2.1 0) j)]) rfl rfl (congrArg (fun z9 => Value.int z9 :: []) (congrArg (M.2.2.2.1 0) (g_cl (by omega)))) rfl ?_
  refine a_eq (st2 := [.int 5]) rfl rfl (congrArg (fun z9 => Value.int z9 :: []) (hk)) rfl ?_
  refine a_istore_n (lv' := [(3, .int 5), (0, .ref (g_ad G 38)), (1, .int (nI j)), (2, .int 4)]) 29 rfl dX12_taken_28 rfl (by decide) rfl ?_
  refine a_iload_n 0 30 rfl dX12_taken_29 rfl rfl ?_
  refine a_iload_n 3 31 rfl dX12_taken_30 rfl rfl ?_
  refine a_icmp_eq 46 34 rfl dX12_taken_31 (by decide) (fun hc => absurd hc ((by decide))) (fun _ => ?_)
  refine a_iload_n 0 35 rfl dX12_taken_34 rfl rfl ?_
  refine a_if_le 46 38 rfl dX12_taken_35 (by decide) (fun hc => absurd hc ((by decide))) (fun _ => ?_)
  refine a_iload_n 0 39 rfl dX12_taken_38 rfl rfl ?_
  refine a_callS (as := [.int 5]) (rest := []) (st2 := [.int 2]) (u1 := 0) (v1 := 0) (u2 := 0) (v2 := 0) (r_above5) oX12_above q_1633 q_1634 rfl (by omega) (by decide) rfl (Nat.le_of_ble_eq_true rfl) 42 rfl dX12_taken_39 rfl ?_
  refine a_istore_n (lv' := [(3, .int 2), (0, .ref (g_ad G 38)), (1, .int (nI j)), (2, .int 4)]) 43 rfl dX12_taken_42 rfl (by decide) rfl ?_
  refine a_goto 29 dX12_taken_43 (by decide) ?_
  refine a_iload_n 0 30 rfl dX12_taken_29 rfl rfl ?_
  refine a_iload_n 3 31 rfl dX12_taken_30 rfl rfl ?_
  refine a_icmp_eq 46 34 rfl dX12_taken_31 (by decide) (fun hc => absurd hc ((by decide))) (fun _ => ?_)
  refine a_iload_n 0 35 rfl dX12_taken_34 rfl rfl ?_
  refine a_if_le 46 38 rfl dX12_taken_35 (by decide) (fun hc => absurd hc ((by decide))) (fun _ => ?_)
  refine a_iload_n 0 39 rfl dX12_taken_38 rfl rfl ?_
  refine a_callS (as := [.int 2]) (rest := []) (st2 := [.int 0]) (u1 := 0) (v1 := 0) (u2 := 0) (v2 := 0) (r_above2) oX12_above q_1633 q_1634 rfl (by omega) (by decide) rfl (Nat.le_of_ble_eq_true rfl) 42 rfl dX12_taken_39 rfl ?_
  refine a_istore_n (lv' := [(3, .int 0), (0, .ref (g_ad G 38)), (1, .int (nI j)), (2, .int 4)]) 43 rfl dX12_taken_42 rfl (by decide) rfl ?_
  refine a_goto 29 dX12_taken_43 (by decide) ?_
  refine a_iload_n 0 30 rfl dX12_taken_29 rfl rfl ?_
  refine a_iload_n 3 31 rfl dX12_taken_30 rfl rfl ?_
  refine a_icmp_eq 46 34 rfl dX12_taken_31 (by decide) (fun hc => absurd hc ((by decide))) (fun _ => ?_)
  refine a_iload_n 0 35 rfl dX12_taken_34 rfl rfl ?_
  refine a_if_le 46 38 rfl dX12_taken_35 (by decide) (fun _ => ?_) (fun hc => absurd ((by decide)) hc)
  refine a_iload_n 0 47 rfl dX12_taken_46 rfl rfl ?_
  refine a_iload_n 3 48 rfl dX12_taken_47 rfl rfl ?_
  refine a_icmp_eq 56 51 rfl dX12_taken_48 (by decide) (fun hc => absurd hc ((by decide))) (fun _ => ?_)
  refine a_bipush (x := (-5)) 53 rfl dX12_taken_51 (by decide) ?_
  refine a_goto 76 dX12_taken_53 (by decide) ?_
  exact a_ireturn .int rfl rfl (rfl) (rfl) dX12_taken_76
theorem r_takM5_5 (hm : M.1 1 ≤ 8) (hj : j < M.1 1) (hk : M.2.2.2.1 0 j = 5) (hv : M.2.2.2.1 1 j = y) : g_Run G mX12_taken 6 0 0 [.ref (g_ad G 38), .int (nI j), .int 5] (g_hp G C (g_hm G M ++ ob)) (some (.int (f_tkM 5 5 y (nI j)))) (g_hp G C (g_hm G M ++ ob)) := by
  have h8 : j < 8 := Nat.lt_of_lt_of_le hj hm
  refine g_Run.of (lv := [(0, .ref (g_ad G 38)), (1, .int (nI j)), (2, .int 5)]) (by decide) (Nat.le_of_ble_eq_true rfl) rfl ?_
  refine a_aload_n 0 1 rfl dX12_taken_0 rfl rfl ?_
  refine a_iload_n 1 2 rfl dX12_taken_1 rfl rfl ?_
  refine a_callV (as := [.int (nI j)]) (rest := []) (st2 := [.int 1]) (u1 := 0) (v1 := 0) (u2 := 0) (v2 := 0) (r_isFam_in hm hj) (⟨_, _, _, _, rfl, rfl⟩) oX12_isFamily q_1273 q_1275 q_87 rfl (by omega) (by decide) rfl (Nat.le_of_ble_eq_true rfl) 5 rfl dX12_taken_2 rfl ?_
  refine a_if_eq 20 8 rfl dX12_taken_5 (by decide) (fun hc => absurd hc ((by decide))) (fun _ => ?_)
  refine a_iload_n 2 9 rfl dX12_taken_8 rfl rfl ?_
  refine a_i2l 10 rfl dX12_taken_9 ?_
  refine a_lconst (x := 0) 11 rfl dX12_taken_10 (by decide) ?_
  refine a_ldc2 q_1277 14 rfl dX12_taken_11 ?_
  refine a_callS (as := [.long ((5 : Int32).toInt64), .long 0, .long 5]) (rest := []) (st2 := [.int (f_i (decide ((0 : Int32) ≤ (5 : Int32) ∧ (5 : Int32) ≤ 5)))]) (u1 := 0) (v1 := 0) (u2 := 0) (v2 := 0) (r_isInB (y := (5 : Int32)) (a := 0) (b := 5) rfl rfl) oX12_isIn q_1242 q_1243 rfl (by omega) (by decide) rfl (Nat.le_of_ble_eq_true rfl) 17 rfl dX12_taken_14 rfl ?_
  refine a_if_ne 22 20 rfl dX12_taken_17 (by decide) (fun _ => ?_) (fun hc => absurd hc (f_i_T (by decide)))
  refine a_aload_n 0 23 rfl dX12_taken_22 rfl rfl ?_
  refine a_get 4 cl_11 f_RX12_15_11 (by decide) (rfl) rfl 26 rfl dX12_taken_23 ?_
  refine a_iload_n 1 27 rfl dX12_taken_26 rfl rfl ?_
  refine a_iald (rfl) (vp_in_nI (n := j) (by omega) (by omega)) 28 rfl dX12_taken_27 ?_
  refine a_eq (st2 := [.int ((M.2.2.2.1 0) j)]) rfl rfl (congrArg (fun z9 => Value.int z9 :: []) (congrArg (M.2.2.2.1 0) (g_cl (by omega)))) rfl ?_
  refine a_eq (st2 := [.int 5]) rfl rfl (congrArg (fun z9 => Value.int z9 :: []) (hk)) rfl ?_
  refine a_istore_n (lv' := [(3, .int 5), (0, .ref (g_ad G 38)), (1, .int (nI j)), (2, .int 5)]) 29 rfl dX12_taken_28 rfl (by decide) rfl ?_
  refine a_iload_n 0 30 rfl dX12_taken_29 rfl rfl ?_
  refine a_iload_n 3 31 rfl dX12_taken_30 rfl rfl ?_
  refine a_icmp_eq 46 34 rfl dX12_taken_31 (by decide) (fun _ => ?_) (fun hc => absurd (rfl) hc)
  refine a_iload_n 0 47 rfl dX12_taken_46 rfl rfl ?_
  refine a_iload_n 3 48 rfl dX12_taken_47 rfl rfl ?_
  refine a_icmp_eq 56 51 rfl dX12_taken_48 (by decide) (fun _ => ?_) (fun hc => absurd (rfl) hc)
  refine a_iload_n 3 57 rfl dX12_taken_56 rfl rfl ?_
  refine a_iconst (x := 3) 58 rfl dX12_taken_57 (by decide) ?_
  refine a_icmp_eq 66 61 rfl dX12_taken_58 (by decide) (fun hc => absurd hc ((by decide))) (fun _ => ?_)
  refine a_iload_n 3 62 rfl dX12_taken_61 rfl rfl ?_
  refine a_iconst (x := 4) 63 rfl dX12_taken_62 (by decide) ?_
  refine a_icmp_ne 75 66 rfl dX12_taken_63 (by decide) (fun _ => ?_) (fun hc => absurd hc ((by decide)))
  refine a_iload_n 2 76 rfl dX12_taken_75 rfl rfl ?_
  exact a_ireturn .int rfl rfl (rfl) (rfl) dX12_taken_76
theorem r_takM {q : Nat} (hi : f_mis M j T) (hq : q < 6) : g_Run G mX12_taken 6 0 0 [.ref (g_ad G 38), .int (nI j), .int (nI q)] (g_hp G C (g_hm G M ++ ob)) (some (.int (f_tkM T.1 q (nI T.2.1) (nI j)))) (g_hp G C (g_hm G M ++ ob)) := by
  have hk := hi.2.2.1
  have h6 := hi.2.2.2.2.2.1
  have hv := hi.2.2.2.1
  obtain ⟨k, ek⟩ : ∃ k, k = T.1 := ⟨_, rfl⟩
  rw [← ek] at hk h6 ⊢
  match k, h6, q, hq with
  | 0, _, 0, _ => exact r_takM0_0 hi.2.1 hi.1 hk hv
  | 0, _, 1, _ => exact r_takM0_1 hi.2.1 hi.1 hk hv
  | 0, _, 2, _ => exact r_takM0_2 hi.2.1 hi.1 hk hv
  | 0, _, 3, _ => exact r_takM0_3 hi.2.1 hi.1 hk hv
  | 0, _, 4, _ => exact r_takM0_4 hi.2.1 hi.1 hk hv
  | 0, _, 5, _ => exact r_takM0_5 hi.2.1 hi.1 hk hv
  | 1, _, 0, _ => exact r_takM1_0 hi.2.1 hi.1 hk hv
  | 1, _, 1, _ => exact r_takM1_1 hi.2.1 hi.1 hk hv
  | 1, _, 2, _ => exact r_takM1_2 hi.2.1 hi.1 hk hv
  | 1, _, 3, _ => exact r_takM1_3 hi.2.1 hi.1 hk hv
  | 1, _, 4, _ => exact r_takM1_4 hi.2.1 hi.1 hk hv
  | 1, _, 5, _ => exact r_takM1_5 hi.2.1 hi.1 hk hv
  | 2, _, 0, _ => exact r_takM2_0 hi.2.1 hi.1 hk hv
  | 2, _, 1, _ => exact r_takM2_1 hi.2.1 hi.1 hk hv
  | 2, _, 2, _ => exact r_takM2_2 hi.2.1 hi.1 hk hv
  | 2, _, 3, _ => exact r_takM2_3 hi.2.1 hi.1 hk hv
  | 2, _, 4, _ => exact r_takM2_4 hi.2.1 hi.1 hk hv
  | 2, _, 5, _ => exact r_takM2_5 hi.2.1 hi.1 hk hv
  | 3, _, 0, _ => exact r_takM3_0 hi.2.1 hi.1 hk hv
  | 3, _, 1, _ => exact r_takM3_1 hi.2.1 hi.1 hk hv
  | 3, _, 2, _ => exact r_takM3_2 hi.2.1 hi.1 hk hv
  | 3, _, 3, _ => exact r_takM3_3 hi.2.1 hi.1 hk hv
  | 3, _, 4, _ => exact r_takM3_4 hi.2.1 hi.1 hk hv
  | 3, _, 5, _ => exact r_takM3_5 hi.2.1 hi.1 hk hv
  | 4, _, 0, _ => exact r_takM4_0 hi.2.1 hi.1 hk hv
  | 4, _, 1, _ => exact r_takM4_1 hi.2.1 hi.1 hk hv
  | 4, _, 2, _ => exact r_takM4_2 hi.2.1 hi.1 hk hv
  | 4, _, 3, _ => exact r_takM4_3 hi.2.1 hi.1 hk hv
  | 4, _, 4, _ => exact r_takM4_4 hi.2.1 hi.1 hk hv
  | 4, _, 5, _ => exact r_takM4_5 hi.2.1 hi.1 hk hv
  | 5, _, 0, _ => exact r_takM5_0 hi.2.1 hi.1 hk hv
  | 5, _, 1, _ => exact r_takM5_1 hi.2.1 hi.1 hk hv
  | 5, _, 2, _ => exact r_takM5_2 hi.2.1 hi.1 hk hv
  | 5, _, 3, _ => exact r_takM5_3 hi.2.1 hi.1 hk hv
  | 5, _, 4, _ => exact r_takM5_4 hi.2.1 hi.1 hk hv
  | 5, _, 5, _ => exact r_takM5_5 hi.2.1 hi.1 hk hv
end MX1
