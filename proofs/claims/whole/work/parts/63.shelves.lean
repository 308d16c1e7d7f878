/-! The model's shelves and lists -/
def f_clR (R : Nat → Int32) (o : Nat) : Nat → Nat → Int32
  | 0 => R
  | t + 1 => upd (f_clR R o t) (o + t) (-1)
def f_clL (R : Nat → Int64) (o : Nat) : Nat → Nat → Int64
  | 0 => R
  | t + 1 => vp_updL (f_clL R o t) (o + t) 0
def f_tkI (A B : Nat → Int32) (o : Nat) : Nat → Nat → Int32
  | 0 => A
  | t + 1 => upd (f_tkI A B o t) t (B (o + t))
def f_tkL (A B : Nat → Int64) (o : Nat) : Nat → Nat → Int64
  | 0 => A
  | t + 1 => vp_updL (f_tkL A B o t) t (B (o + t))
def f_mvI (A B : Nat → Int32) (o : Nat) : Nat → Nat → Int32
  | 0 => A
  | t + 1 => upd (f_mvI A B o t) (o + t) (B t)
def f_mvL (A B : Nat → Int64) (o : Nat) : Nat → Nat → Int64
  | 0 => A
  | t + 1 => vp_updL (f_mvL A B o t) (o + t) (B t)
def f_slM (M : f_M) (s : Nat) (so : Int32) (m : Nat) : f_M := f_mI (f_mI (f_mI M 9 (upd (M.2.2.2.1 9) s so)) 10 (upd (M.2.2.2.1 10) s (nI m))) 11 (f_clR (M.2.2.2.1 11) (6 * s) 6)
def f_lsM (M : f_M) (s : Nat) (so : Int32) (m : Nat) : f_M := f_mL (f_mI (f_mI M 15 (upd (M.2.2.2.1 15) s so)) 16 (upd (M.2.2.2.1 16) s (nI m))) 5 (f_clL (M.2.2.2.2 5) (20 * s) 20)
def f_kpM (M : f_M) (s i j : Nat) : f_M := f_mL (f_mI (f_mI M 11 (upd (M.2.2.2.1 11) (6 * s + i) (M.2.2.2.1 0 j))) 12 (upd (M.2.2.2.1 12) (6 * s + i) (M.2.2.2.1 1 j))) 3 (vp_updL (M.2.2.2.2 3) (6 * s + i) (M.2.2.2.2 0 j))
def f_tkM3 (M : f_M) (o m : Nat) : f_M := f_mL (f_mI (f_mI M 13 (f_tkI (M.2.2.2.1 13) (M.2.2.2.1 11) o m)) 14 (f_tkI (M.2.2.2.1 14) (M.2.2.2.1 12) o m)) 4 (f_tkL (M.2.2.2.2 4) (M.2.2.2.2 3) o m)
def f_mvM3 (M : f_M) (o m : Nat) : f_M := f_mL (f_mI (f_mI M 11 (f_mvI (M.2.2.2.1 11) (M.2.2.2.1 13) o m)) 12 (f_mvI (M.2.2.2.1 12) (M.2.2.2.1 14) o m)) 3 (f_mvL (M.2.2.2.2 3) (M.2.2.2.2 4) o m)
section MS2
variable {G : g_G} {C : f_C} {M M2 : f_M} {ob h h2 : List va_E} {x : Int64} {y y2 y3 y4 y5 r9 fg : Int32} {i j m k w s o so : Nat} {R : Nat → Int32} {T : f_T}
theorem r_isShM : g_Run G mX12_isShelf 2 0 0 [.int y] h (some (.int (f_i (decide ((0 : Int32) ≤ y ∧ y ≤ 2))))) h := by
  refine g_Run.of (lv := [(0, .int y)]) (by decide) (Nat.le_of_ble_eq_true rfl) rfl ?_
  refine a_iload_n 0 1 rfl dX12_isShelf_0 rfl rfl ?_
  refine a_i2l 2 rfl dX12_isShelf_1 ?_
  refine a_lconst (x := 0) 3 rfl dX12_isShelf_2 (by decide) ?_
  refine a_ldc2 q_1404 6 rfl dX12_isShelf_3 ?_
  refine a_callS (as := [.long y.toInt64, .long 0, .long 2]) (rest := []) (st2 := [.int (f_i (decide ((0 : Int32) ≤ y ∧ y ≤ 2)))]) (u1 := 0) (v1 := 0) (u2 := 0) (v2 := 0) (r_isInB (y := y) (a := 0) (b := 2) rfl rfl) oX12_isIn q_1242 q_1243 rfl (by omega) (by decide) rfl (Nat.le_of_ble_eq_true rfl) 9 rfl dX12_isShelf_6 rfl ?_
  exact a_ireturn .boolean rfl (f_i_nar _) (rfl) (rfl) dX12_isShelf_9
theorem r_isLiM : g_Run G mX12_isList 2 0 0 [.int y] h (some (.int (f_i (decide ((0 : Int32) ≤ y ∧ y ≤ 2))))) h := by
  refine g_Run.of (lv := [(0, .int y)]) (by decide) (Nat.le_of_ble_eq_true rfl) rfl ?_
  refine a_iload_n 0 1 rfl dX12_isList_0 rfl rfl ?_
  refine a_i2l 2 rfl dX12_isList_1 ?_
  refine a_lconst (x := 0) 3 rfl dX12_isList_2 (by decide) ?_
  refine a_ldc2 q_1404 6 rfl dX12_isList_3 ?_
  refine a_callS (as := [.long y.toInt64, .long 0, .long 2]) (rest := []) (st2 := [.int (f_i (decide ((0 : Int32) ≤ y ∧ y ≤ 2)))]) (u1 := 0) (v1 := 0) (u2 := 0) (v2 := 0) (r_isInB (y := y) (a := 0) (b := 2) rfl rfl) oX12_isIn q_1242 q_1243 rfl (by omega) (by decide) rfl (Nat.le_of_ble_eq_true rfl) 9 rfl dX12_isList_6 rfl ?_
  exact a_ireturn .boolean rfl (f_i_nar _) (rfl) (rfl) dX12_isList_9
theorem r_mayM0_0 : g_Run G mX12_mayBe 1 0 0 [.int 0, .int 0] h (some (.int (f_i (f_may 0 0)))) h := by
  refine g_Run.of (lv := [(0, .int 0), (1, .int 0)]) (by decide) (Nat.le_of_ble_eq_true rfl) rfl ?_
  refine a_iload_n 0 1 rfl dX12_mayBe_0 rfl rfl ?_
  refine a_if_eq 32 4 rfl dX12_mayBe_1 (by decide) (fun _ => ?_) (fun hc => absurd (rfl) hc)
  refine a_iconst (x := 1) 33 rfl dX12_mayBe_32 (by decide) ?_
  refine a_goto 37 dX12_mayBe_33 (by decide) ?_
  exact a_ireturn .boolean rfl rfl (rfl) (rfl) dX12_mayBe_37

theorem r_mayM0_1 : g_Run G mX12_mayBe 1 0 0 [.int 0, .int 1] h (some (.int (f_i (f_may 0 1)))) h := by
  refine g_Run.of (lv := [(0, .int 0), (1, .int 1)]) (by decide) (Nat.le_of_ble_eq_true rfl) rfl ?_
  refine a_iload_n 0 1 rfl dX12_mayBe_0 rfl rfl ?_
  refine a_if_eq 32 4 rfl dX12_mayBe_1 (by decide) (fun _ => ?_) (fun hc => absurd (rfl) hc)
  refine a_iconst (x := 1) 33 rfl dX12_mayBe_32 (by decide) ?_
  refine a_goto 37 dX12_mayBe_33 (by decide) ?_
  exact a_ireturn .boolean rfl rfl (rfl) (rfl) dX12_mayBe_37

theorem r_mayM0_2 : g_Run G mX12_mayBe 1 0 0 [.int 0, .int 2] h (some (.int (f_i (f_may 0 2)))) h := by
  refine g_Run.of (lv := [(0, .int 0), (1, .int 2)]) (by decide) (Nat.le_of_ble_eq_true rfl) rfl ?_
  refine a_iload_n 0 1 rfl dX12_mayBe_0 rfl rfl ?_
  refine a_if_eq 32 4 rfl dX12_mayBe_1 (by decide) (fun _ => ?_) (fun hc => absurd (rfl) hc)
  refine a_iconst (x := 1) 33 rfl dX12_mayBe_32 (by decide) ?_
  refine a_goto 37 dX12_mayBe_33 (by decide) ?_
  exact a_ireturn .boolean rfl rfl (rfl) (rfl) dX12_mayBe_37

theorem r_mayM0_3 : g_Run G mX12_mayBe 1 0 0 [.int 0, .int 3] h (some (.int (f_i (f_may 0 3)))) h := by
  refine g_Run.of (lv := [(0, .int 0), (1, .int 3)]) (by decide) (Nat.le_of_ble_eq_true rfl) rfl ?_
  refine a_iload_n 0 1 rfl dX12_mayBe_0 rfl rfl ?_
  refine a_if_eq 32 4 rfl dX12_mayBe_1 (by decide) (fun _ => ?_) (fun hc => absurd (rfl) hc)
  refine a_iconst (x := 1) 33 rfl dX12_mayBe_32 (by decide) ?_
  refine a_goto 37 dX12_mayBe_33 (by decide) ?_
  exact a_ireturn .boolean rfl rfl (rfl) (rfl) dX12_mayBe_37

theorem r_mayM0_4 : g_Run G mX12_mayBe 1 0 0 [.int 0, .int 4] h (some (.int (f_i (f_may 0 4)))) h := by
  refine g_Run.of (lv := [(0, .int 0), (1, .int 4)]) (by decide) (Nat.le_of_ble_eq_true rfl) rfl ?_
  refine a_iload_n 0 1 rfl dX12_mayBe_0 rfl rfl ?_
  refine a_if_eq 32 4 rfl dX12_mayBe_1 (by decide) (fun _ => ?_) (fun hc => absurd (rfl) hc)
  refine a_iconst (x := 1) 33 rfl dX12_mayBe_32 (by decide) ?_
  refine a_goto 37 dX12_mayBe_33 (by decide) ?_
  exact a_ireturn .boolean rfl rfl (rfl) (rfl) dX12_mayBe_37

theorem r_mayM0_5 : g_Run G mX12_mayBe 1 0 0 [.int 0, .int 5] h (some (.int (f_i (f_may 0 5)))) h := by
  refine g_Run.of (lv := [(0, .int 0), (1, .int 5)]) (by decide) (Nat.le_of_ble_eq_true rfl) rfl ?_
  refine a_iload_n 0 1 rfl dX12_mayBe_0 rfl rfl ?_
  refine a_if_eq 32 4 rfl dX12_mayBe_1 (by decide) (fun _ => ?_) (fun hc => absurd (rfl) hc)
  refine a_iconst (x := 1) 33 rfl dX12_mayBe_32 (by decide) ?_
  refine a_goto 37 dX12_mayBe_33 (by decide) ?_
  exact a_ireturn .boolean rfl rfl (rfl) (rfl) dX12_mayBe_37

theorem r_mayM1_0 : g_Run G mX12_mayBe 1 0 0 [.int 1, .int 0] h (some (.int (f_i (f_may 1 0)))) h := by
  refine g_Run.of (lv := [(0, .int 1), (1, .int 0)]) (by decide) (Nat.le_of_ble_eq_true rfl) rfl ?_
  refine a_iload_n 0 1 rfl dX12_mayBe_0 rfl rfl ?_
  refine a_if_eq 32 4 rfl dX12_mayBe_1 (by decide) (fun hc => absurd hc ((by decide))) (fun _ => ?_)
  refine a_iload_n 0 5 rfl dX12_mayBe_4 rfl rfl ?_
  refine a_iconst (x := 1) 6 rfl dX12_mayBe_5 (by decide) ?_
  refine a_icmp_ne 22 9 rfl dX12_mayBe_6 (by decide) (fun hc => absurd (rfl) hc) (fun _ => ?_)
  refine a_iload_n 1 10 rfl dX12_mayBe_9 rfl rfl ?_
  refine a_iconst (x := 3) 11 rfl dX12_mayBe_10 (by decide) ?_
  refine a_icmp_eq 32 14 rfl dX12_mayBe_11 (by decide) (fun hc => absurd hc ((by decide))) (fun _ => ?_)
  refine a_iload_n 1 15 rfl dX12_mayBe_14 rfl rfl ?_
  refine a_iconst (x := 4) 16 rfl dX12_mayBe_15 (by decide) ?_
  refine a_icmp_ne 36 19 rfl dX12_mayBe_16 (by decide) (fun _ => ?_) (fun hc => absurd hc ((by decide)))
  refine a_iconst (x := 0) 37 rfl dX12_mayBe_36 (by decide) ?_
  exact a_ireturn .boolean rfl rfl (rfl) (rfl) dX12_mayBe_37

theorem r_mayM1_1 : g_Run G mX12_mayBe 1 0 0 [.int 1, .int 1] h (some (.int (f_i (f_may 1 1)))) h := by
  refine g_Run.of (lv := [(0, .int 1), (1, .int 1)]) (by decide) (Nat.le_of_ble_eq_true rfl) rfl ?_
  refine a_iload_n 0 1 rfl dX12_mayBe_0 rfl rfl ?_
  refine a_if_eq 32 4 rfl dX12_mayBe_1 (by decide) (fun hc => absurd hc ((by decide))) (fun _ => ?_)
  refine a_iload_n 0 5 rfl dX12_mayBe_4 rfl rfl ?_
  refine a_iconst (x := 1) 6 rfl dX12_mayBe_5 (by decide) ?_
  refine a_icmp_ne 22 9 rfl dX12_mayBe_6 (by decide) (fun hc => absurd (rfl) hc) (fun _ => ?_)
  refine a_iload_n 1 10 rfl dX12_mayBe_9 rfl rfl ?_
  refine a_iconst (x := 3) 11 rfl dX12_mayBe_10 (by decide) ?_
  refine a_icmp_eq 32 14 rfl dX12_mayBe_11 (by decide) (fun hc => absurd hc ((by decide))) (fun _ => ?_)
  refine a_iload_n 1 15 rfl dX12_mayBe_14 rfl rfl ?_
  refine a_iconst (x := 4) 16 rfl dX12_mayBe_15 (by decide) ?_
  refine a_icmp_ne 36 19 rfl dX12_mayBe_16 (by decide) (fun _ => ?_) (fun hc => absurd hc ((by decide)))
  refine a_iconst (x := 0) 37 rfl dX12_mayBe_36 (by decide) ?_
  exact a_ireturn .boolean rfl rfl (rfl) (rfl) dX12_mayBe_37

theorem r_mayM1_2 : g_Run G mX12_mayBe 1 0 0 [.int 1, .int 2] h (some (.int (f_i (f_may 1 2)))) h := by
  refine g_Run.of (lv := [(0, .int 1), (1, .int 2)]) (by decide) (Nat.le_of_ble_eq_true rfl) rfl ?_
  refine a_iload_n 0 1 rfl dX12_mayBe_0 rfl rfl ?_
  refine a_if_eq 32 4 rfl dX12_mayBe_1 (by decide) (fun hc => absurd hc ((by decide))) (fun _ => ?_)
  refine a_iload_n 0 5 rfl dX12_mayBe_4 rfl rfl ?_
  refine a_iconst (x := 1) 6 rfl dX12_mayBe_5 (by decide) ?_
  refine a_icmp_ne 22 9 rfl dX12_mayBe_6 (by decide) (fun hc => absurd (rfl) hc) (fun _ => ?_)
  refine a_iload_n 1 10 rfl dX12_mayBe_9 rfl rfl ?_
  refine a_iconst (x := 3) 11 rfl dX12_mayBe_10 (by decide) ?_
  refine a_icmp_eq 32 14 rfl dX12_mayBe_11 (by decide) (fun hc => absurd hc ((by decide))) (fun _ => ?_)
  refine a_iload_n 1 15 rfl dX12_mayBe_14 rfl rfl ?_
  refine a_iconst (x := 4) 16 rfl dX12_mayBe_15 (by decide) ?_
  refine a_icmp_ne 36 19 rfl dX12_mayBe_16 (by decide) (fun _ => ?_) (fun hc => absurd hc ((by decide)))
  refine a_iconst (x := 0) 37 rfl dX12_mayBe_36 (by decide) ?_
  exact a_ireturn .boolean rfl rfl (rfl) (rfl) dX12_mayBe_37

theorem r_mayM1_3 : g_Run G mX12_mayBe 1 0 0 [.int 1, .int 3] h (some (.int (f_i (f_may 1 3)))) h := by
  refine g_Run.of (lv := [(0, .int 1), (1, .int 3)]) (by decide) (Nat.le_of_ble_eq_true rfl) rfl ?_
  refine a_iload_n 0 1 rfl dX12_mayBe_0 rfl rfl ?_
  refine a_if_eq 32 4 rfl dX12_mayBe_1 (by decide) (fun hc => absurd hc ((by decide))) (fun _ => ?_)
  refine a_iload_n 0 5 rfl dX12_mayBe_4 rfl rfl ?_
  refine a_iconst (x := 1) 6 rfl dX12_mayBe_5 (by decide) ?_
  refine a_icmp_ne 22 9 rfl dX12_mayBe_6 (by decide) (fun hc => absurd (rfl) hc) (fun _ => ?_)
  refine a_iload_n 1 10 rfl dX12_mayBe_9 rfl rfl ?_
  refine a_iconst (x := 3) 11 rfl dX12_mayBe_10 (by decide) ?_
  refine a_icmp_eq 32 14 rfl dX12_mayBe_11 (by decide) (fun _ => ?_) (fun hc => absurd (rfl) hc)
  refine a_iconst (x := 1) 33 rfl dX12_mayBe_32 (by decide) ?_
  refine a_goto 37 dX12_mayBe_33 (by decide) ?_
  exact a_ireturn .boolean rfl rfl (rfl) (rfl) dX12_mayBe_37

theorem r_mayM1_4 : g_Run G mX12_mayBe 1 0 0 [.int 1, .int 4] h (some (.int (f_i (f_may 1 4)))) h := by
  refine g_Run.of (lv := [(0, .int 1), (1, .int 4)]) (by decide) (Nat.le_of_ble_eq_true rfl) rfl ?_
  refine a_iload_n 0 1 rfl dX12_mayBe_0 rfl rfl ?_
  refine a_if_eq 32 4 rfl dX12_mayBe_1 (by decide) (fun hc => absurd hc ((by decide))) (fun _ => ?_)
  refine a_iload_n 0 5 rfl dX12_mayBe_4 rfl rfl ?_
  refine a_iconst (x := 1) 6 rfl dX12_mayBe_5 (by decide) ?_
  refine a_icmp_ne 22 9 rfl dX12_mayBe_6 (by decide) (fun hc => absurd (rfl) hc) (fun _ => ?_)
  refine a_iload_n 1 10 rfl dX12_mayBe_9 rfl rfl ?_
  refine a_iconst (x := 3) 11 rfl dX12_mayBe_10 (by decide) ?_
  refine a_icmp_eq 32 14 rfl dX12_mayBe_11 (by decide) (fun hc => absurd hc ((by decide))) (fun _ => ?_)
  refine a_iload_n 1 15 rfl dX12_mayBe_14 rfl rfl ?_
  refine a_iconst (x := 4) 16 rfl dX12_mayBe_15 (by decide) ?_
  refine a_icmp_ne 36 19 rfl dX12_mayBe_16 (by decide) (fun hc => absurd (rfl) hc) (fun _ => ?_)
  refine a_goto 32 dX12_mayBe_19 (by decide) ?_
  refine a_iconst (x := 1) 33 rfl dX12_mayBe_32 (by decide) ?_
  refine a_goto 37 dX12_mayBe_33 (by decide) ?_
  exact a_ireturn .boolean rfl rfl (rfl) (rfl) dX12_mayBe_37

theorem r_mayM1_5 : g_Run G mX12_mayBe 1 0 0 [.int 1, .int 5] h (some (.int (f_i (f_may 1 5)))) h := by
  refine g_Run.of (lv := [(0, .int 1), (1, .int 5)]) (by decide) (Nat.le_of_ble_eq_true rfl) rfl ?_
  refine a_iload_n 0 1 rfl dX12_mayBe_0 rfl rfl ?_
  refine a_if_eq 32 4 rfl dX12_mayBe_1 (by decide) (fun hc => absurd hc ((by decide))) (fun _ => ?_)
  refine a_iload_n 0 5 rfl dX12_mayBe_4 rfl rfl ?_
  refine a_iconst (x := 1) 6 rfl dX12_mayBe_5 (by decide) ?_
  refine a_icmp_ne 22 9 rfl dX12_mayBe_6 (by decide) (fun hc => absurd (rfl) hc) (fun _ => ?_)
  refine a_iload_n 1 10 rfl dX12_mayBe_9 rfl rfl ?_
  refine a_iconst (x := 3) 11 rfl dX12_mayBe_10 (by decide) ?_
  refine a_icmp_eq 32 14 rfl dX12_mayBe_11 (by decide) (fun hc => absurd hc ((by decide))) (fun _ => ?_)
  refine a_iload_n 1 15 rfl dX12_mayBe_14 rfl rfl ?_
  refine a_iconst (x := 4) 16 rfl dX12_mayBe_15 (by decide) ?_
  refine a_icmp_ne 36 19 rfl dX12_mayBe_16 (by decide) (fun _ => ?_) (fun hc => absurd hc ((by decide)))
  refine a_iconst (x := 0) 37 rfl dX12_mayBe_36 (by decide) ?_
  exact a_ireturn .boolean rfl rfl (rfl) (rfl) dX12_mayBe_37

theorem r_mayM2_0 : g_Run G mX12_mayBe 1 0 0 [.int 2, .int 0] h (some (.int (f_i (f_may 2 0)))) h := by
  refine g_Run.of (lv := [(0, .int 2), (1, .int 0)]) (by decide) (Nat.le_of_ble_eq_true rfl) rfl ?_
  refine a_iload_n 0 1 rfl dX12_mayBe_0 rfl rfl ?_
  refine a_if_eq 32 4 rfl dX12_mayBe_1 (by decide) (fun hc => absurd hc ((by decide))) (fun _ => ?_)
  refine a_iload_n 0 5 rfl dX12_mayBe_4 rfl rfl ?_
  refine a_iconst (x := 1) 6 rfl dX12_mayBe_5 (by decide) ?_
  refine a_icmp_ne 22 9 rfl dX12_mayBe_6 (by decide) (fun _ => ?_) (fun hc => absurd hc ((by decide)))
  refine a_iload_n 1 23 rfl dX12_mayBe_22 rfl rfl ?_
  refine a_iconst (x := 2) 24 rfl dX12_mayBe_23 (by decide) ?_
  refine a_icmp_eq 32 27 rfl dX12_mayBe_24 (by decide) (fun hc => absurd hc ((by decide))) (fun _ => ?_)
  refine a_iload_n 1 28 rfl dX12_mayBe_27 rfl rfl ?_
  refine a_iconst (x := 5) 29 rfl dX12_mayBe_28 (by decide) ?_
  refine a_icmp_ne 36 32 rfl dX12_mayBe_29 (by decide) (fun _ => ?_) (fun hc => absurd hc ((by decide)))
  refine a_iconst (x := 0) 37 rfl dX12_mayBe_36 (by decide) ?_
  exact a_ireturn .boolean rfl rfl (rfl) (rfl) dX12_mayBe_37

theorem r_mayM2_1 : g_Run G mX12_mayBe 1 0 0 [.int 2, .int 1] h (some (.int (f_i (f_may 2 1)))) h := by
  refine g_Run.of (lv := [(0, .int 2), (1, .int 1)]) (by decide) (Nat.le_of_ble_eq_true rfl) rfl ?_
  refine a_iload_n 0 1 rfl dX12_mayBe_0 rfl rfl ?_
  refine a_if_eq 32 4 rfl dX12_mayBe_1 (by decide) (fun hc => absurd hc ((by decide))) (fun _ => ?_)
  refine a_iload_n 0 5 rfl dX12_mayBe_4 rfl rfl ?_
  refine a_iconst (x := 1) 6 rfl dX12_mayBe_5 (by decide) ?_
  refine a_icmp_ne 22 9 rfl dX12_mayBe_6 (by decide) (fun _ => ?_) (fun hc => absurd hc ((by decide)))
  refine a_iload_n 1 23 rfl dX12_mayBe_22 rfl rfl ?_
  refine a_iconst (x := 2) 24 rfl dX12_mayBe_23 (by decide) ?_
  refine a_icmp_eq 32 27 rfl dX12_mayBe_24 (by decide) (fun hc => absurd hc ((by decide))) (fun _ => ?_)
  refine a_iload_n 1 28 rfl dX12_mayBe_27 rfl rfl ?_
  refine a_iconst (x := 5) 29 rfl dX12_mayBe_28 (by decide) ?_
  refine a_icmp_ne 36 32 rfl dX12_mayBe_29 (by decide) (fun _ => ?_) (fun hc => absurd hc ((by decide)))
  refine a_iconst (x := 0) 37 rfl dX12_mayBe_36 (by decide) ?_
  exact a_ireturn .boolean rfl rfl (rfl) (rfl) dX12_mayBe_37

theorem r_mayM2_3 : g_Run G mX12_mayBe 1 0 0 [.int 2, .int 3] h (some (.int (f_i (f_may 2 3)))) h := by
  refine g_Run.of (lv := [(0, .int 2), (1, .int 3)]) (by decide) (Nat.le_of_ble_eq_true rfl) rfl ?_
  refine a_iload_n 0 1 rfl dX12_mayBe_0 rfl rfl ?_
  refine a_if_eq 32 4 rfl dX12_mayBe_1 (by decide) (fun hc => absurd hc ((by decide))) (fun _ => ?_)
  refine a_iload_n 0 5 rfl dX12_mayBe_4 rfl rfl ?_
  refine a_iconst (x := 1) 6 rfl dX12_mayBe_5 (by decide) ?_
  refine a_icmp_ne 22 9 rfl dX12_mayBe_6 (by decide) (fun _ => ?_) (fun hc => absurd hc ((by decide)))
  refine a_iload_n 1 23 rfl dX12_mayBe_22 rfl rfl ?_
  refine a_iconst (x := 2) 24 rfl dX12_mayBe_23 (by decide) ?_
  refine a_icmp_eq 32 27 rfl dX12_mayBe_24 (by decide) (fun hc => absurd hc ((by decide))) (fun _ => ?_)
  refine a_iload_n 1 28 rfl dX12_mayBe_27 rfl rfl ?_
  refine a_iconst (x := 5) 29 rfl dX12_mayBe_28 (by decide) ?_
  refine a_icmp_ne 36 32 rfl dX12_mayBe_29 (by decide) (fun _ => ?_) (fun hc => absurd hc ((by decide)))
  refine a_iconst (x := 0) 37 rfl dX12_mayBe_36 (by decide) ?_
  exact a_ireturn .boolean rfl rfl (rfl) (rfl) dX12_mayBe_37

theorem r_mayM2_2 : g_Run G mX12_mayBe 1 0 0 [.int 2, .int 2] h (some (.int (f_i (f_may 2 2)))) h := by
  refine g_Run.of (lv := [(0, .int 2), (1, .int 2)]) (by decide) (Nat.le_of_ble_eq_true rfl) rfl ?_
  refine a_iload_n 0 1 rfl dX12_mayBe_0 rfl rfl ?_
  refine a_if_eq 32 4 rfl dX12_mayBe_1 (by decide) (fun hc => absurd hc ((by decide))) (fun _ => ?_)
  refine a_iload_n 0 5 rfl dX12_mayBe_4 rfl rfl ?_
  refine a_iconst (x := 1) 6 rfl dX12_mayBe_5 (by decide) ?_
  refine a_icmp_ne 22 9 rfl dX12_mayBe_6 (by decide) (fun _ => ?_) (fun hc => absurd hc ((by decide)))
  refine a_iload_n 1 23 rfl dX12_mayBe_22 rfl rfl ?_
  refine a_iconst (x := 2) 24 rfl dX12_mayBe_23 (by decide) ?_
  refine a_icmp_eq 32 27 rfl dX12_mayBe_24 (by decide) (fun _ => ?_) (fun hc => absurd (rfl) hc)
  refine a_iconst (x := 1) 33 rfl dX12_mayBe_32 (by decide) ?_
  refine a_goto 37 dX12_mayBe_33 (by decide) ?_
  exact a_ireturn .boolean rfl rfl (rfl) (rfl) dX12_mayBe_37

theorem r_mayM2_5 : g_Run G mX12_mayBe 1 0 0 [.int 2, .int 5] h (some (.int (f_i (f_may 2 5)))) h := by
  refine g_Run.of (lv := [(0, .int 2), (1, .int 5)]) (by decide) (Nat.le_of_ble_eq_true rfl) rfl ?_
  refine a_iload_n 0 1 rfl dX12_mayBe_0 rfl rfl ?_
  refine a_if_eq 32 4 rfl dX12_mayBe_1 (by decide) (fun hc => absurd hc ((by decide))) (fun _ => ?_)
  refine a_iload_n 0 5 rfl dX12_mayBe_4 rfl rfl ?_
  refine a_iconst (x := 1) 6 rfl dX12_mayBe_5 (by decide) ?_
  refine a_icmp_ne 22 9 rfl dX12_mayBe_6 (by decide) (fun _ => ?_) (fun hc => absurd hc ((by decide)))
  refine a_iload_n 1 23 rfl dX12_mayBe_22 rfl rfl ?_
  refine a_iconst (x := 2) 24 rfl dX12_mayBe_23 (by decide) ?_
  refine a_icmp_eq 32 27 rfl dX12_mayBe_24 (by decide) (fun hc => absurd hc ((by decide))) (fun _ => ?_)
  refine a_iload_n 1 28 rfl dX12_mayBe_27 rfl rfl ?_
  refine a_iconst (x := 5) 29 rfl dX12_mayBe_28 (by decide) ?_
  refine a_icmp_ne 36 32 rfl dX12_mayBe_29 (by decide) (fun hc => absurd (rfl) hc) (fun _ => ?_)
  refine a_iconst (x := 1) 33 rfl dX12_mayBe_32 (by decide) ?_
  refine a_goto 37 dX12_mayBe_33 (by decide) ?_
  exact a_ireturn .boolean rfl rfl (rfl) (rfl) dX12_mayBe_37

theorem r_mayM2_4 : g_Run G mX12_mayBe 1 0 0 [.int 2, .int 4] h (some (.int (f_i (f_may 2 4)))) h := by
  refine g_Run.of (lv := [(0, .int 2), (1, .int 4)]) (by decide) (Nat.le_of_ble_eq_true rfl) rfl ?_
  refine a_iload_n 0 1 rfl dX12_mayBe_0 rfl rfl ?_
  refine a_if_eq 32 4 rfl dX12_mayBe_1 (by decide) (fun hc => absurd hc ((by decide))) (fun _ => ?_)
  refine a_iload_n 0 5 rfl dX12_mayBe_4 rfl rfl ?_
  refine a_iconst (x := 1) 6 rfl dX12_mayBe_5 (by decide) ?_
  refine a_icmp_ne 22 9 rfl dX12_mayBe_6 (by decide) (fun _ => ?_) (fun hc => absurd hc ((by decide)))
  refine a_iload_n 1 23 rfl dX12_mayBe_22 rfl rfl ?_
  refine a_iconst (x := 2) 24 rfl dX12_mayBe_23 (by decide) ?_
  refine a_icmp_eq 32 27 rfl dX12_mayBe_24 (by decide) (fun hc => absurd hc ((by decide))) (fun _ => ?_)
  refine a_iload_n 1 28 rfl dX12_mayBe_27 rfl rfl ?_
  refine a_iconst (x := 5) 29 rfl dX12_mayBe_28 (by decide) ?_
  refine a_icmp_ne 36 32 rfl dX12_mayBe_29 (by decide) (fun _ => ?_) (fun hc => absurd hc ((by decide)))
  refine a_iconst (x := 0) 37 rfl dX12_mayBe_36 (by decide) ?_
  exact a_ireturn .boolean rfl rfl (rfl) (rfl) dX12_mayBe_37

theorem r_mayM {q8 q9 : Int32} (h8 : q8 = nI so) (h9 : q9 = nI k) (hs : so < 3) (hk : k < 6) : g_Run G mX12_mayBe 1 0 0 [.int q8, .int q9] h (some (.int (f_i (f_may so k)))) h := by
  subst h8
  subst h9
  match so, hs, k, hk with
  | 0, _, 0, _ => exact r_mayM0_0
  | 0, _, 1, _ => exact r_mayM0_1
  | 0, _, 2, _ => exact r_mayM0_2
  | 0, _, 3, _ => exact r_mayM0_3
  | 0, _, 4, _ => exact r_mayM0_4
  | 0, _, 5, _ => exact r_mayM0_5
  | 1, _, 0, _ => exact r_mayM1_0
  | 1, _, 1, _ => exact r_mayM1_1
  | 1, _, 2, _ => exact r_mayM1_2
  | 1, _, 3, _ => exact r_mayM1_3
  | 1, _, 4, _ => exact r_mayM1_4
  | 1, _, 5, _ => exact r_mayM1_5
  | 2, _, 0, _ => exact r_mayM2_0
  | 2, _, 1, _ => exact r_mayM2_1
  | 2, _, 2, _ => exact r_mayM2_2
  | 2, _, 3, _ => exact r_mayM2_3
  | 2, _, 4, _ => exact r_mayM2_4
  | 2, _, 5, _ => exact r_mayM2_5
theorem r_shM_b0 (hy : ¬ ((0 : Int32) ≤ y ∧ y ≤ 2)) : g_Run G mX12_shelf 6 0 0 [.ref (g_ad G 38), .int y, .int y2, .int y3] (g_hp G C (g_hm G M ++ ob)) (some (.int (-1))) (g_hp G C (g_hm G M ++ ob)) := by
  refine g_Run.of (lv := [(0, .ref (g_ad G 38)), (1, .int y), (2, .int y2), (3, .int y3)]) (by decide) (Nat.le_of_ble_eq_true rfl) rfl ?_
  refine a_iload_n 1 1 rfl dX12_shelf_0 rfl rfl ?_
  refine a_callS (as := [.int y]) (rest := []) (st2 := [.int (f_i (decide ((0:Int32) ≤ y ∧ y ≤ 2)))]) (u1 := 0) (v1 := 0) (u2 := 0) (v2 := 0) (r_isShM) oX12_isShelf q_1580 q_1581 rfl (by omega) (by decide) rfl (Nat.le_of_ble_eq_true rfl) 4 rfl dX12_shelf_1 rfl ?_
  refine a_if_eq 31 7 rfl dX12_shelf_4 (by decide) (fun _ => ?_) (fun hc => absurd (f_i_F (decide_eq_false hy)) hc)
  refine a_iconst (x := (-1)) 32 rfl dX12_shelf_31 (by decide) ?_
  exact a_ireturn .int rfl rfl (rfl) (rfl) dX12_shelf_32
theorem r_shM_b1 (hs : s < 3) (hy : ¬ ((-1 : Int32) ≤ y2 ∧ y2 ≤ 2)) : g_Run G mX12_shelf 6 0 0 [.ref (g_ad G 38), .int (nI s), .int y2, .int y3] (g_hp G C (g_hm G M ++ ob)) (some (.int (-1))) (g_hp G C (g_hm G M ++ ob)) := by
  refine g_Run.of (lv := [(0, .ref (g_ad G 38)), (1, .int (nI s)), (2, .int y2), (3, .int y3)]) (by decide) (Nat.le_of_ble_eq_true rfl) rfl ?_
  refine a_iload_n 1 1 rfl dX12_shelf_0 rfl rfl ?_
  refine a_callS (as := [.int (nI s)]) (rest := []) (st2 := [.int (f_i (decide ((0:Int32) ≤ nI s ∧ nI s ≤ 2)))]) (u1 := 0) (v1 := 0) (u2 := 0) (v2 := 0) (r_isShM) oX12_isShelf q_1580 q_1581 rfl (by omega) (by decide) rfl (Nat.le_of_ble_eq_true rfl) 4 rfl dX12_shelf_1 rfl ?_
  refine a_if_eq 31 7 rfl dX12_shelf_4 (by decide) (fun hc => absurd hc (f_i_T (f_or2 hs))) (fun _ => ?_)
  refine a_iload_n 2 8 rfl dX12_shelf_7 rfl rfl ?_
  refine a_i2l 9 rfl dX12_shelf_8 ?_
  refine a_ldc2 q_1260 12 rfl dX12_shelf_9 ?_
  refine a_ldc2 q_1404 15 rfl dX12_shelf_12 ?_
  refine a_callS (as := [.long y2.toInt64, .long ((-1)), .long 2]) (rest := []) (st2 := [.int (f_i (decide ((-1) ≤ y2 ∧ y2 ≤ 2)))]) (u1 := 0) (v1 := 0) (u2 := 0) (v2 := 0) (r_isInB (y := y2) (a := (-1)) (b := 2) rfl rfl) oX12_isIn q_1242 q_1243 rfl (by omega) (by decide) rfl (Nat.le_of_ble_eq_true rfl) 18 rfl dX12_shelf_15 rfl ?_
  refine a_if_eq 31 21 rfl dX12_shelf_18 (by decide) (fun _ => ?_) (fun hc => absurd (f_i_F (decide_eq_false hy)) hc)
  refine a_iconst (x := (-1)) 32 rfl dX12_shelf_31 (by decide) ?_
  exact a_ireturn .int rfl rfl (rfl) (rfl) dX12_shelf_32
theorem r_shM_b2 (hs : s < 3) (hy : (-1 : Int32) ≤ y2 ∧ y2 ≤ 2) (h0 : ¬ y2 < 0) (h6 : ¬ y3 ≤ 6) : g_Run G mX12_shelf 6 0 0 [.ref (g_ad G 38), .int (nI s), .int y2, .int y3] (g_hp G C (g_hm G M ++ ob)) (some (.int (-1))) (g_hp G C (g_hm G M ++ ob)) := by
  refine g_Run.of (lv := [(0, .ref (g_ad G 38)), (1, .int (nI s)), (2, .int y2), (3, .int y3)]) (by decide) (Nat.le_of_ble_eq_true rfl) rfl ?_
  refine a_iload_n 1 1 rfl dX12_shelf_0 rfl rfl ?_
  refine a_callS (as := [.int (nI s)]) (rest := []) (st2 := [.int (f_i (decide ((0:Int32) ≤ nI s ∧ nI s ≤ 2)))]) (u1 := 0) (v1 := 0) (u2 := 0) (v2 := 0) (r_isShM) oX12_isShelf q_1580 q_1581 rfl (by omega) (by decide) rfl (Nat.le_of_ble_eq_true rfl) 4 rfl dX12_shelf_1 rfl ?_
  refine a_if_eq 31 7 rfl dX12_shelf_4 (by decide) (fun hc => absurd hc (f_i_T (f_or2 hs))) (fun _ => ?_)
  refine a_iload_n 2 8 rfl dX12_shelf_7 rfl rfl ?_
  refine a_i2l 9 rfl dX12_shelf_8 ?_
  refine a_ldc2 q_1260 12 rfl dX12_shelf_9 ?_
  refine a_ldc2 q_1404 15 rfl dX12_shelf_12 ?_
  refine a_callS (as := [.long y2.toInt64, .long ((-1)), .long 2]) (rest := []) (st2 := [.int (f_i (decide ((-1) ≤ y2 ∧ y2 ≤ 2)))]) (u1 := 0) (v1 := 0) (u2 := 0) (v2 := 0) (r_isInB (y := y2) (a := (-1)) (b := 2) rfl rfl) oX12_isIn q_1242 q_1243 rfl (by omega) (by decide) rfl (Nat.le_of_ble_eq_true rfl) 18 rfl dX12_shelf_15 rfl ?_
  refine a_if_eq 31 21 rfl dX12_shelf_18 (by decide) (fun hc => absurd hc (f_i_T (decide_eq_true hy))) (fun _ => ?_)
  refine a_iload_n 2 22 rfl dX12_shelf_21 rfl rfl ?_
  refine a_if_lt 33 25 rfl dX12_shelf_22 (by decide) (fun hc => absurd hc (h0)) (fun _ => ?_)
  refine a_iload_n 3 26 rfl dX12_shelf_25 rfl rfl ?_
  refine a_bipush (x := 6) 28 rfl dX12_shelf_26 (by decide) ?_
  refine a_icmp_le 33 31 rfl dX12_shelf_28 (by decide) (fun hc => absurd hc (h6)) (fun _ => ?_)
  refine a_iconst (x := (-1)) 32 rfl dX12_shelf_31 (by decide) ?_
  exact a_ireturn .int rfl rfl (rfl) (rfl) dX12_shelf_32
theorem r_shM_neg (hs : s < 3) (hy : (-1 : Int32) ≤ y2 ∧ y2 ≤ 2) (h0 : ¬ y2 < 0) (h6 : y3 ≤ 6) (h7 : ¬ 0 ≤ y3) : g_Run G mX12_shelf 6 0 0 [.ref (g_ad G 38), .int (nI s), .int y2, .int y3] (g_hp G C (g_hm G M ++ ob)) (some (.int (-14))) (g_hp G C (g_hm G M ++ ob)) := by
  refine g_Run.of (lv := [(0, .ref (g_ad G 38)), (1, .int (nI s)), (2, .int y2), (3, .int y3)]) (by decide) (Nat.le_of_ble_eq_true rfl) rfl ?_
  refine a_iload_n 1 1 rfl dX12_shelf_0 rfl rfl ?_
  refine a_callS (as := [.int (nI s)]) (rest := []) (st2 := [.int (f_i (decide ((0:Int32) ≤ nI s ∧ nI s ≤ 2)))]) (u1 := 0) (v1 := 0) (u2 := 0) (v2 := 0) (r_isShM) oX12_isShelf q_1580 q_1581 rfl (by omega) (by decide) rfl (Nat.le_of_ble_eq_true rfl) 4 rfl dX12_shelf_1 rfl ?_
  refine a_if_eq 31 7 rfl dX12_shelf_4 (by decide) (fun hc => absurd hc (f_i_T (f_or2 hs))) (fun _ => ?_)
  refine a_iload_n 2 8 rfl dX12_shelf_7 rfl rfl ?_
  refine a_i2l 9 rfl dX12_shelf_8 ?_
  refine a_ldc2 q_1260 12 rfl dX12_shelf_9 ?_
  refine a_ldc2 q_1404 15 rfl dX12_shelf_12 ?_
  refine a_callS (as := [.long y2.toInt64, .long ((-1)), .long 2]) (rest := []) (st2 := [.int (f_i (decide ((-1) ≤ y2 ∧ y2 ≤ 2)))]) (u1 := 0) (v1 := 0) (u2 := 0) (v2 := 0) (r_isInB (y := y2) (a := (-1)) (b := 2) rfl rfl) oX12_isIn q_1242 q_1243 rfl (by omega) (by decide) rfl (Nat.le_of_ble_eq_true rfl) 18 rfl dX12_shelf_15 rfl ?_
  refine a_if_eq 31 21 rfl dX12_shelf_18 (by decide) (fun hc => absurd hc (f_i_T (decide_eq_true hy))) (fun _ => ?_)
  refine a_iload_n 2 22 rfl dX12_shelf_21 rfl rfl ?_
  refine a_if_lt 33 25 rfl dX12_shelf_22 (by decide) (fun hc => absurd hc (h0)) (fun _ => ?_)
  refine a_iload_n 3 26 rfl dX12_shelf_25 rfl rfl ?_
  refine a_bipush (x := 6) 28 rfl dX12_shelf_26 (by decide) ?_
  refine a_icmp_le 33 31 rfl dX12_shelf_28 (by decide) (fun _ => ?_) (fun hc => absurd (h6) hc)
  refine a_iload_n 2 34 rfl dX12_shelf_33 rfl rfl ?_
  refine a_if_lt 44 37 rfl dX12_shelf_34 (by decide) (fun hc => absurd hc (h0)) (fun _ => ?_)
  refine a_iload_n 3 38 rfl dX12_shelf_37 rfl rfl ?_
  refine a_if_ge 44 41 rfl dX12_shelf_38 (by decide) (fun hc => absurd hc (h7)) (fun _ => ?_)
  refine a_bipush (x := (-14)) 43 rfl dX12_shelf_41 (by decide) ?_
  exact a_ireturn .int rfl rfl (rfl) (rfl) dX12_shelf_43

theorem r_liM_b0 (hy : ¬ ((0 : Int32) ≤ y ∧ y ≤ 2)) : g_Run G mX12_list 6 0 0 [.ref (g_ad G 38), .int y, .int y2, .int y3] (g_hp G C (g_hm G M ++ ob)) (some (.int (-1))) (g_hp G C (g_hm G M ++ ob)) := by
  refine g_Run.of (lv := [(0, .ref (g_ad G 38)), (1, .int y), (2, .int y2), (3, .int y3)]) (by decide) (Nat.le_of_ble_eq_true rfl) rfl ?_
  refine a_iload_n 1 1 rfl dX12_list_0 rfl rfl ?_
  refine a_callS (as := [.int y]) (rest := []) (st2 := [.int (f_i (decide ((0:Int32) ≤ y ∧ y ≤ 2)))]) (u1 := 0) (v1 := 0) (u2 := 0) (v2 := 0) (r_isLiM) oX12_isList q_1530 q_1531 rfl (by omega) (by decide) rfl (Nat.le_of_ble_eq_true rfl) 4 rfl dX12_list_1 rfl ?_
  refine a_if_eq 29 7 rfl dX12_list_4 (by decide) (fun _ => ?_) (fun hc => absurd (f_i_F (decide_eq_false hy)) hc)
  refine a_iconst (x := (-1)) 30 rfl dX12_list_29 (by decide) ?_
  exact a_ireturn .int rfl rfl (rfl) (rfl) dX12_list_30
theorem r_liM_b1 (hs : s < 3) (hy : ¬ ((-1 : Int32) ≤ y2 ∧ y2 ≤ 1)) : g_Run G mX12_list 6 0 0 [.ref (g_ad G 38), .int (nI s), .int y2, .int y3] (g_hp G C (g_hm G M ++ ob)) (some (.int (-1))) (g_hp G C (g_hm G M ++ ob)) := by
  refine g_Run.of (lv := [(0, .ref (g_ad G 38)), (1, .int (nI s)), (2, .int y2), (3, .int y3)]) (by decide) (Nat.le_of_ble_eq_true rfl) rfl ?_
  refine a_iload_n 1 1 rfl dX12_list_0 rfl rfl ?_
  refine a_callS (as := [.int (nI s)]) (rest := []) (st2 := [.int (f_i (decide ((0:Int32) ≤ nI s ∧ nI s ≤ 2)))]) (u1 := 0) (v1 := 0) (u2 := 0) (v2 := 0) (r_isLiM) oX12_isList q_1530 q_1531 rfl (by omega) (by decide) rfl (Nat.le_of_ble_eq_true rfl) 4 rfl dX12_list_1 rfl ?_
  refine a_if_eq 29 7 rfl dX12_list_4 (by decide) (fun hc => absurd hc (f_i_T (f_or2 hs))) (fun _ => ?_)
  refine a_iload_n 2 8 rfl dX12_list_7 rfl rfl ?_
  refine a_i2l 9 rfl dX12_list_8 ?_
  refine a_ldc2 q_1260 12 rfl dX12_list_9 ?_
  refine a_lconst (x := 1) 13 rfl dX12_list_12 (by decide) ?_
  refine a_callS (as := [.long y2.toInt64, .long ((-1)), .long 1]) (rest := []) (st2 := [.int (f_i (decide ((-1) ≤ y2 ∧ y2 ≤ 1)))]) (u1 := 0) (v1 := 0) (u2 := 0) (v2 := 0) (r_isInB (y := y2) (a := (-1)) (b := 1) rfl rfl) oX12_isIn q_1242 q_1243 rfl (by omega) (by decide) rfl (Nat.le_of_ble_eq_true rfl) 16 rfl dX12_list_13 rfl ?_
  refine a_if_eq 29 19 rfl dX12_list_16 (by decide) (fun _ => ?_) (fun hc => absurd (f_i_F (decide_eq_false hy)) hc)
  refine a_iconst (x := (-1)) 30 rfl dX12_list_29 (by decide) ?_
  exact a_ireturn .int rfl rfl (rfl) (rfl) dX12_list_30
theorem r_liM_b2 (hs : s < 3) (hy : (-1 : Int32) ≤ y2 ∧ y2 ≤ 1) (h0 : ¬ y2 < 0) (h6 : ¬ y3 ≤ 20) : g_Run G mX12_list 6 0 0 [.ref (g_ad G 38), .int (nI s), .int y2, .int y3] (g_hp G C (g_hm G M ++ ob)) (some (.int (-1))) (g_hp G C (g_hm G M ++ ob)) := by
  refine g_Run.of (lv := [(0, .ref (g_ad G 38)), (1, .int (nI s)), (2, .int y2), (3, .int y3)]) (by decide) (Nat.le_of_ble_eq_true rfl) rfl ?_
  refine a_iload_n 1 1 rfl dX12_list_0 rfl rfl ?_
  refine a_callS (as := [.int (nI s)]) (rest := []) (st2 := [.int (f_i (decide ((0:Int32) ≤ nI s ∧ nI s ≤ 2)))]) (u1 := 0) (v1 := 0) (u2 := 0) (v2 := 0) (r_isLiM) oX12_isList q_1530 q_1531 rfl (by omega) (by decide) rfl (Nat.le_of_ble_eq_true rfl) 4 rfl dX12_list_1 rfl ?_
  refine a_if_eq 29 7 rfl dX12_list_4 (by decide) (fun hc => absurd hc (f_i_T (f_or2 hs))) (fun _ => ?_)
  refine a_iload_n 2 8 rfl dX12_list_7 rfl rfl ?_
  refine a_i2l 9 rfl dX12_list_8 ?_
  refine a_ldc2 q_1260 12 rfl dX12_list_9 ?_
  refine a_lconst (x := 1) 13 rfl dX12_list_12 (by decide) ?_
  refine a_callS (as := [.long y2.toInt64, .long ((-1)), .long 1]) (rest := []) (st2 := [.int (f_i (decide ((-1) ≤ y2 ∧ y2 ≤ 1)))]) (u1 := 0) (v1 := 0) (u2 := 0) (v2 := 0) (r_isInB (y := y2) (a := (-1)) (b := 1) rfl rfl) oX12_isIn q_1242 q_1243 rfl (by omega) (by decide) rfl (Nat.le_of_ble_eq_true rfl) 16 rfl dX12_list_13 rfl ?_
  refine a_if_eq 29 19 rfl dX12_list_16 (by decide) (fun hc => absurd hc (f_i_T (decide_eq_true hy))) (fun _ => ?_)
  refine a_iload_n 2 20 rfl dX12_list_19 rfl rfl ?_
  refine a_if_lt 31 23 rfl dX12_list_20 (by decide) (fun hc => absurd hc (h0)) (fun _ => ?_)
  refine a_iload_n 3 24 rfl dX12_list_23 rfl rfl ?_
  refine a_bipush (x := 20) 26 rfl dX12_list_24 (by decide) ?_
  refine a_icmp_le 31 29 rfl dX12_list_26 (by decide) (fun hc => absurd hc (h6)) (fun _ => ?_)
  refine a_iconst (x := (-1)) 30 rfl dX12_list_29 (by decide) ?_
  exact a_ireturn .int rfl rfl (rfl) (rfl) dX12_list_30
theorem r_liM_neg (hs : s < 3) (hy : (-1 : Int32) ≤ y2 ∧ y2 ≤ 1) (h0 : ¬ y2 < 0) (h6 : y3 ≤ 20) (h7 : ¬ 0 ≤ y3) : g_Run G mX12_list 6 0 0 [.ref (g_ad G 38), .int (nI s), .int y2, .int y3] (g_hp G C (g_hm G M ++ ob)) (some (.int (-14))) (g_hp G C (g_hm G M ++ ob)) := by
  refine g_Run.of (lv := [(0, .ref (g_ad G 38)), (1, .int (nI s)), (2, .int y2), (3, .int y3)]) (by decide) (Nat.le_of_ble_eq_true rfl) rfl ?_
  refine a_iload_n 1 1 rfl dX12_list_0 rfl rfl ?_
  refine a_callS (as := [.int (nI s)]) (rest := []) (st2 := [.int (f_i (decide ((0:Int32) ≤ nI s ∧ nI s ≤ 2)))]) (u1 := 0) (v1 := 0) (u2 := 0) (v2 := 0) (r_isLiM) oX12_isList q_1530 q_1531 rfl (by omega) (by decide) rfl (Nat.le_of_ble_eq_true rfl) 4 rfl dX12_list_1 rfl ?_
  refine a_if_eq 29 7 rfl dX12_list_4 (by decide) (fun hc => absurd hc (f_i_T (f_or2 hs))) (fun _ => ?_)
  refine a_iload_n 2 8 rfl dX12_list_7 rfl rfl ?_
  refine a_i2l 9 rfl dX12_list_8 ?_
  refine a_ldc2 q_1260 12 rfl dX12_list_9 ?_
  refine a_lconst (x := 1) 13 rfl dX12_list_12 (by decide) ?_
  refine a_callS (as := [.long y2.toInt64, .long ((-1)), .long 1]) (rest := []) (st2 := [.int (f_i (decide ((-1) ≤ y2 ∧ y2 ≤ 1)))]) (u1 := 0) (v1 := 0) (u2 := 0) (v2 := 0) (r_isInB (y := y2) (a := (-1)) (b := 1) rfl rfl) oX12_isIn q_1242 q_1243 rfl (by omega) (by decide) rfl (Nat.le_of_ble_eq_true rfl) 16 rfl dX12_list_13 rfl ?_
  refine a_if_eq 29 19 rfl dX12_list_16 (by decide) (fun hc => absurd hc (f_i_T (decide_eq_true hy))) (fun _ => ?_)
  refine a_iload_n 2 20 rfl dX12_list_19 rfl rfl ?_
  refine a_if_lt 31 23 rfl dX12_list_20 (by decide) (fun hc => absurd hc (h0)) (fun _ => ?_)
  refine a_iload_n 3 24 rfl dX12_list_23 rfl rfl ?_
  refine a_bipush (x := 20) 26 rfl dX12_list_24 (by decide) ?_
  refine a_icmp_le 31 29 rfl dX12_list_26 (by decide) (fun _ => ?_) (fun hc => absurd (h6) hc)
  refine a_iload_n 2 32 rfl dX12_list_31 rfl rfl ?_
  refine a_if_lt 42 35 rfl dX12_list_32 (by decide) (fun hc => absurd hc (h0)) (fun _ => ?_)
  refine a_iload_n 3 36 rfl dX12_list_35 rfl rfl ?_
  refine a_if_ge 42 39 rfl dX12_list_36 (by decide) (fun hc => absurd hc (h7)) (fun _ => ?_)
  refine a_bipush (x := (-14)) 41 rfl dX12_list_39 (by decide) ?_
  exact a_ireturn .int rfl rfl (rfl) (rfl) dX12_list_41

theorem r_shM_rm (hs : s < 3) (y9 : Int32) : g_Run G mX12_shelf 6 0 0 [.ref (g_ad G 38), .int (nI s), .int ((-1)), .int (y9)] (g_hp G C (g_hm G M ++ ob)) (some (.int 1)) (g_hp G C (g_hm G (f_slM M s ((-1)) (0)) ++ ob)) := by
  have hcl : (nI s).toNatClampNeg = s := g_cl (by omega)
  refine g_Run.of (lv := [(0, .ref (g_ad G 38)), (1, .int (nI s)), (2, .int ((-1))), (3, .int y9)]) (by decide) (Nat.le_of_ble_eq_true rfl) rfl ?_
  refine a_iload_n 1 1 rfl dX12_shelf_0 rfl rfl ?_
  refine a_callS (as := [.int (nI s)]) (rest := []) (st2 := [.int (f_i (decide ((0:Int32) ≤ nI s ∧ nI s ≤ 2)))]) (u1 := 0) (v1 := 0) (u2 := 0) (v2 := 0) (r_isShM) oX12_isShelf q_1580 q_1581 rfl (by omega) (by decide) rfl (Nat.le_of_ble_eq_true rfl) 4 rfl dX12_shelf_1 rfl ?_
  refine a_if_eq 31 7 rfl dX12_shelf_4 (by decide) (fun hc => absurd hc (f_i_T (f_or2 hs))) (fun _ => ?_)
  refine a_iload_n 2 8 rfl dX12_shelf_7 rfl rfl ?_
  refine a_i2l 9 rfl dX12_shelf_8 ?_
  refine a_ldc2 q_1260 12 rfl dX12_shelf_9 ?_
  refine a_ldc2 q_1404 15 rfl dX12_shelf_12 ?_
  refine a_callS (as := [.long ((-1 : Int32).toInt64), .long ((-1)), .long 2]) (rest := []) (st2 := [.int (f_i (decide ((-1) ≤ (-1 : Int32) ∧ (-1 : Int32) ≤ 2)))]) (u1 := 0) (v1 := 0) (u2 := 0) (v2 := 0) (r_isInB (y := (-1 : Int32)) (a := (-1)) (b := 2) rfl rfl) oX12_isIn q_1242 q_1243 rfl (by omega) (by decide) rfl (Nat.le_of_ble_eq_true rfl) 18 rfl dX12_shelf_15 rfl ?_
  refine a_if_eq 31 21 rfl dX12_shelf_18 (by decide) (fun hc => absurd hc (f_i_T (decide_eq_true ⟨by decide, by decide⟩))) (fun _ => ?_)
  refine a_iload_n 2 22 rfl dX12_shelf_21 rfl rfl ?_
  refine a_if_lt 33 25 rfl dX12_shelf_22 (by decide) (fun _ => ?_) (fun hc => absurd ((by decide)) hc)
  refine a_iload_n 2 34 rfl dX12_shelf_33 rfl rfl ?_
  refine a_if_lt 44 37 rfl dX12_shelf_34 (by decide) (fun _ => ?_) (fun hc => absurd ((by decide)) hc)
  refine a_aload_n 0 45 rfl dX12_shelf_44 rfl rfl ?_
  refine a_get 30 cl_11 f_RX12_59_11 (by decide) (rfl) rfl 48 rfl dX12_shelf_45 ?_
  refine a_iload_n 1 49 rfl dX12_shelf_48 rfl rfl ?_
  refine a_iload_n 2 50 rfl dX12_shelf_49 rfl rfl ?_
  refine a_iast (rfl) (vp_in_nI (n := s) (by omega) (by omega)) 51 rfl dX12_shelf_50 ?_
  refine a_eq (h2 := g_hp G C (g_hm G (f_mI M 9 (upd (M.2.2.2.1 9) s ((-1)))) ++ ob)) rfl rfl rfl (by show (((g_hp G C (g_hm G M ++ ob)).set 51 (c_I G 3 (upd (M.2.2.2.1 9) (nI s).toNatClampNeg (-1)))) : List va_E) = _; rw [hcl]; rfl) ?_
  refine a_aload_n 0 52 rfl dX12_shelf_51 rfl rfl ?_
  refine a_get 31 cl_11 f_RX12_62_11 (by decide) (rfl) rfl 55 rfl dX12_shelf_52 ?_
  refine a_iload_n 1 56 rfl dX12_shelf_55 rfl rfl ?_
  refine a_iload_n 2 57 rfl dX12_shelf_56 rfl rfl ?_
  refine a_if_ge 64 60 rfl dX12_shelf_57 (by decide) (fun hc => absurd hc ((by decide))) (fun _ => ?_)
  refine a_iconst (x := 0) 61 rfl dX12_shelf_60 (by decide) ?_
  refine a_goto 65 dX12_shelf_61 (by decide) ?_
  refine a_iast (rfl) (vp_in_nI (n := s) (by omega) (by omega)) 66 rfl dX12_shelf_65 ?_
  refine a_eq (h2 := g_hp G C (g_hm G (f_mI (f_mI M 9 (upd (M.2.2.2.1 9) s ((-1)))) 10 (upd (M.2.2.2.1 10) s (nI (0)))) ++ ob)) rfl rfl rfl (by show (((g_hp G C (g_hm G (f_mI M 9 (upd (M.2.2.2.1 9) s ((-1)))) ++ ob)).set 52 (c_I G 3 (upd (M.2.2.2.1 10) (nI s).toNatClampNeg 0))) : List va_E) = _; rw [hcl]; rfl) ?_
  refine a_iconst (x := 0) 67 rfl dX12_shelf_66 (by decide) ?_
  refine a_istore (lv' := [(4, .int 0), (0, .ref (g_ad G 38)), (1, .int (nI s)), (2, .int ((-1))), (3, .int y9)]) 69 rfl dX12_shelf_67 (by decide) rfl ?_
  refine a_eq (h2 := g_hp G C (g_hm G (f_mI (f_mI (f_mI M 9 (upd (M.2.2.2.1 9) s ((-1)))) 10 (upd (M.2.2.2.1 10) s (nI (0)))) 11 (f_clR (M.2.2.2.1 11) (6 * s) 0)) ++ ob)) rfl rfl rfl (rfl) ?_
  refine a_sub (lv' := [(4, .int (nI 0)), (0, .ref (g_ad G 38)), (1, .int (nI s)), (2, .int ((-1))), (3, .int y9)]) [0, 1, 2, 3, 4] rfl ?_
  refine g_for (P := fun t9 => True) 6 (fun t9 => [(4, .int (nI t9)), (0, .ref (g_ad G 38)), (1, .int (nI s)), (2, .int ((-1))), (3, .int y9)]) (fun t9 => g_hp G C (g_hm G (f_mI (f_mI (f_mI M 9 (upd (M.2.2.2.1 9) s ((-1)))) 10 (upd (M.2.2.2.1 10) s (nI (0)))) 11 (f_clR (M.2.2.2.1 11) (6 * s) t9)) ++ ob)) (trivial) (fun t9 h_t9 p_t9 k_t9 => ?_) (fun p_t9 => ?_)
  · have hc2 : (nI (6 * s + t9)).toNatClampNeg = 6 * s + t9 := g_cl (by omega)
    refine a_iload 0 71 rfl dX12_shelf_69 rfl ?_
    refine a_bipush (x := 6) 73 rfl dX12_shelf_71 (by decide) ?_
    refine a_icmp_ge 95 76 rfl dX12_shelf_73 (by decide) (fun hc => absurd hc (nI_ge (a := t9) (b := 6) (by omega) (by omega))) (fun _ => ?_)
    refine a_aload_n 1 77 rfl dX12_shelf_76 rfl rfl ?_
    refine a_get 32 cl_11 f_RX12_65_11 (by decide) (rfl) rfl 80 rfl dX12_shelf_77 ?_
    refine a_bipush (x := 6) 82 rfl dX12_shelf_80 (by decide) ?_
    refine a_iload_n 2 83 rfl dX12_shelf_82 rfl rfl ?_
    refine a_imul 84 rfl dX12_shelf_83 ?_
    refine a_eq (st2 := [.int (nI (6 * s)), .ref (g_ad G 53)]) rfl rfl (congrArg (fun z9 => Value.int z9 :: [.ref (g_ad G 53)]) (pk_mul 6 s)) rfl ?_
    refine a_iload 0 86 rfl dX12_shelf_84 rfl ?_
    refine a_iadd 87 rfl dX12_shelf_86 ?_
    refine a_eq (st2 := [.int (nI ((6 * s) + t9)), .ref (g_ad G 53)]) rfl rfl (congrArg (fun z9 => Value.int z9 :: [.ref (g_ad G 53)]) (nI_add (6 * s) t9)) rfl ?_
    refine a_iconst (x := (-1)) 88 rfl dX12_shelf_87 (by decide) ?_
    refine a_iast (rfl) (vp_in_nI (n := ((6 * s) + t9)) (by omega) (by omega)) 89 rfl dX12_shelf_88 ?_
    refine a_eq (h2 := g_hp G C (g_hm G (f_mI (f_mI (f_mI M 9 (upd (M.2.2.2.1 9) s ((-1)))) 10 (upd (M.2.2.2.1 10) s (nI (0)))) 11 (f_clR (M.2.2.2.1 11) (6 * s) (t9 + 1))) ++ ob)) rfl rfl rfl (by show (((g_hp G C (g_hm G (f_mI (f_mI (f_mI M 9 (upd (M.2.2.2.1 9) s ((-1)))) 10 (upd (M.2.2.2.1 10) s (nI (0)))) 11 (f_clR (M.2.2.2.1 11) (6 * s) t9)) ++ ob)).set 53 (c_I G 18 (upd (f_clR (M.2.2.2.1 11) (6 * s) t9) (nI ((6 * s) + t9)).toNatClampNeg (-1)))) : List va_E) = _; rw [hc2]; rfl) ?_
    refine a_iinc (y := nI (t9 + 1)) (lv' := [(4, .int (nI (t9 + 1))), (0, .ref (g_ad G 38)), (1, .int (nI s)), (2, .int ((-1))), (3, .int y9)]) 0 92 rfl dX12_shelf_89 rfl (nI_1 t9) (by decide) rfl ?_
    refine a_goto 69 dX12_shelf_92 (by decide) ?_
    refine a_sub (lv' := [(4, .int (nI (t9 + 1))), (0, .ref (g_ad G 38)), (1, .int (nI s)), (2, .int ((-1))), (3, .int y9)]) [0, 1, 2, 3, 4] rfl ?_
    exact k_t9 trivial
  · skip
    refine a_iload 0 71 rfl dX12_shelf_69 rfl ?_
    refine a_bipush (x := 6) 73 rfl dX12_shelf_71 (by decide) ?_
    refine a_icmp_ge 95 76 rfl dX12_shelf_73 (by decide) (fun _ => ?_) (fun hc => absurd (nI_le (a := 6) (b := 6) (by omega) (by omega)) hc)
    refine a_iconst (x := 1) 96 rfl dX12_shelf_95 (by decide) ?_
    exact a_ireturn .int rfl rfl (rfl) (rfl) dX12_shelf_96

theorem r_shM_ok (hs : s < 3) (hso : so < 3) (hm : m ≤ 6) : g_Run G mX12_shelf 6 0 0 [.ref (g_ad G 38), .int (nI s), .int (nI so), .int (nI m)] (g_hp G C (g_hm G M ++ ob)) (some (.int 1)) (g_hp G C (g_hm G (f_slM M s (nI so) (m)) ++ ob)) := by
  have hcl : (nI s).toNatClampNeg = s := g_cl (by omega)
  refine g_Run.of (lv := [(0, .ref (g_ad G 38)), (1, .int (nI s)), (2, .int (nI so)), (3, .int (nI m))]) (by decide) (Nat.le_of_ble_eq_true rfl) rfl ?_
  refine a_iload_n 1 1 rfl dX12_shelf_0 rfl rfl ?_
  refine a_callS (as := [.int (nI s)]) (rest := []) (st2 := [.int (f_i (decide ((0:Int32) ≤ nI s ∧ nI s ≤ 2)))]) (u1 := 0) (v1 := 0) (u2 := 0) (v2 := 0) (r_isShM) oX12_isShelf q_1580 q_1581 rfl (by omega) (by decide) rfl (Nat.le_of_ble_eq_true rfl) 4 rfl dX12_shelf_1 rfl ?_
  refine a_if_eq 31 7 rfl dX12_shelf_4 (by decide) (fun hc => absurd hc (f_i_T (f_or2 hs))) (fun _ => ?_)
  refine a_iload_n 2 8 rfl dX12_shelf_7 rfl rfl ?_
  refine a_i2l 9 rfl dX12_shelf_8 ?_
  refine a_ldc2 q_1260 12 rfl dX12_shelf_9 ?_
  refine a_ldc2 q_1404 15 rfl dX12_shelf_12 ?_
  refine a_callS (as := [.long ((nI so).toInt64), .long ((-1)), .long 2]) (rest := []) (st2 := [.int (f_i (decide ((-1) ≤ (nI so) ∧ (nI so) ≤ 2)))]) (u1 := 0) (v1 := 0) (u2 := 0) (v2 := 0) (r_isInB (y := (nI so)) (a := (-1)) (b := 2) rfl rfl) oX12_isIn q_1242 q_1243 rfl (by omega) (by decide) rfl (Nat.le_of_ble_eq_true rfl) 18 rfl dX12_shelf_15 rfl ?_
  refine a_if_eq 31 21 rfl dX12_shelf_18 (by decide) (fun hc => absurd hc (f_i_T (decide_eq_true ⟨Int32.le_trans (by decide) (nI_pos' (by omega)), nI_le (b := 2) (by omega) (by omega)⟩))) (fun _ => ?_)
  refine a_iload_n 2 22 rfl dX12_shelf_21 rfl rfl ?_
  refine a_if_lt 33 25 rfl dX12_shelf_22 (by decide) (fun hc => absurd hc (nI_pos (by omega))) (fun _ => ?_)
  refine a_iload_n 3 26 rfl dX12_shelf_25 rfl rfl ?_
  refine a_bipush (x := 6) 28 rfl dX12_shelf_26 (by decide) ?_
  refine a_icmp_le 33 31 rfl dX12_shelf_28 (by decide) (fun _ => ?_) (fun hc => absurd (nI_le (b := 6) hm (by omega)) hc)
  refine a_iload_n 2 34 rfl dX12_shelf_33 rfl rfl ?_
  refine a_if_lt 44 37 rfl dX12_shelf_34 (by decide) (fun hc => absurd hc (nI_pos (by omega))) (fun _ => ?_)
  refine a_iload_n 3 38 rfl dX12_shelf_37 rfl rfl ?_
  refine a_if_ge 44 41 rfl dX12_shelf_38 (by decide) (fun _ => ?_) (fun hc => absurd (nI_pos' (by omega)) hc)
  refine a_aload_n 0 45 rfl dX12_shelf_44 rfl rfl ?_
  refine a_get 30 cl_11 f_RX12_59_11 (by decide) (rfl) rfl 48 rfl dX12_shelf_45 ?_
  refine a_iload_n 1 49 rfl dX12_shelf_48 rfl rfl ?_
  refine a_iload_n 2 50 rfl dX12_shelf_49 rfl rfl ?_
  refine a_iast (rfl) (vp_in_nI (n := s) (by omega) (by omega)) 51 rfl dX12_shelf_50 ?_
  refine a_eq (h2 := g_hp G C (g_hm G (f_mI M 9 (upd (M.2.2.2.1 9) s (nI so))) ++ ob)) rfl rfl rfl (by show (((g_hp G C (g_hm G M ++ ob)).set 51 (c_I G 3 (upd (M.2.2.2.1 9) (nI s).toNatClampNeg (nI so)))) : List va_E) = _; rw [hcl]; rfl) ?_
  refine a_aload_n 0 52 rfl dX12_shelf_51 rfl rfl ?_
  refine a_get 31 cl_11 f_RX12_62_11 (by decide) (rfl) rfl 55 rfl dX12_shelf_52 ?_
  refine a_iload_n 1 56 rfl dX12_shelf_55 rfl rfl ?_
  refine a_iload_n 2 57 rfl dX12_shelf_56 rfl rfl ?_
  refine a_if_ge 64 60 rfl dX12_shelf_57 (by decide) (fun _ => ?_) (fun hc => absurd (nI_pos' (by omega)) hc)
  refine a_iload_n 3 65 rfl dX12_shelf_64 rfl rfl ?_
  refine a_iast (rfl) (vp_in_nI (n := s) (by omega) (by omega)) 66 rfl dX12_shelf_65 ?_
  refine a_eq (h2 := g_hp G C (g_hm G (f_mI (f_mI M 9 (upd (M.2.2.2.1 9) s (nI so))) 10 (upd (M.2.2.2.1 10) s (nI (m)))) ++ ob)) rfl rfl rfl (by show (((g_hp G C (g_hm G (f_mI M 9 (upd (M.2.2.2.1 9) s (nI so))) ++ ob)).set 52 (c_I G 3 (upd (M.2.2.2.1 10) (nI s).toNatClampNeg (nI m)))) : List va_E) = _; rw [hcl]; rfl) ?_
  refine a_iconst (x := 0) 67 rfl dX12_shelf_66 (by decide) ?_
  refine a_istore (lv' := [(4, .int 0), (0, .ref (g_ad G 38)), (1, .int (nI s)), (2, .int (nI so)), (3, .int (nI m))]) 69 rfl dX12_shelf_67 (by decide) rfl ?_
  refine a_eq (h2 := g_hp G C (g_hm G (f_mI (f_mI (f_mI M 9 (upd (M.2.2.2.1 9) s (nI so))) 10 (upd (M.2.2.2.1 10) s (nI (m)))) 11 (f_clR (M.2.2.2.1 11) (6 * s) 0)) ++ ob)) rfl rfl rfl (rfl) ?_
  refine a_sub (lv' := [(4, .int (nI 0)), (0, .ref (g_ad G 38)), (1, .int (nI s)), (2, .int (nI so)), (3, .int (nI m))]) [0, 1, 2, 3, 4] rfl ?_
  refine g_for (P := fun t9 => True) 6 (fun t9 => [(4, .int (nI t9)), (0, .ref (g_ad G 38)), (1, .int (nI s)), (2, .int (nI so)), (3, .int (nI m))]) (fun t9 => g_hp G C (g_hm G (f_mI (f_mI (f_mI M 9 (upd (M.2.2.2.1 9) s (nI so))) 10 (upd (M.2.2.2.1 10) s (nI (m)))) 11 (f_clR (M.2.2.2.1 11) (6 * s) t9)) ++ ob)) (trivial) (fun t9 h_t9 p_t9 k_t9 => ?_) (fun p_t9 => ?_)
  · have hc2 : (nI (6 * s + t9)).toNatClampNeg = 6 * s + t9 := g_cl (by omega)
    refine a_iload 0 71 rfl dX12_shelf_69 rfl ?_
    refine a_bipush (x := 6) 73 rfl dX12_shelf_71 (by decide) ?_
    refine a_icmp_ge 95 76 rfl dX12_shelf_73 (by decide) (fun hc => absurd hc (nI_ge (a := t9) (b := 6) (by omega) (by omega))) (fun _ => ?_)
    refine a_aload_n 1 77 rfl dX12_shelf_76 rfl rfl ?_
    refine a_get 32 cl_11 f_RX12_65_11 (by decide) (rfl) rfl 80 rfl dX12_shelf_77 ?_
    refine a_bipush (x := 6) 82 rfl dX12_shelf_80 (by decide) ?_
    refine a_iload_n 2 83 rfl dX12_shelf_82 rfl rfl ?_
    refine a_imul 84 rfl dX12_shelf_83 ?_
    refine a_eq (st2 := [.int (nI (6 * s)), .ref (g_ad G 53)]) rfl rfl (congrArg (fun z9 => Value.int z9 :: [.ref (g_ad G 53)]) (pk_mul 6 s)) rfl ?_
    refine a_iload 0 86 rfl dX12_shelf_84 rfl ?_
    refine a_iadd 87 rfl dX12_shelf_86 ?_
    refine a_eq (st2 := [.int (nI ((6 * s) + t9)), .ref (g_ad G 53)]) rfl rfl (congrArg (fun z9 => Value.int z9 :: [.ref (g_ad G 53)]) (nI_add (6 * s) t9)) rfl ?_
    refine a_iconst (x := (-1)) 88 rfl dX12_shelf_87 (by decide) ?_
    refine a_iast (rfl) (vp_in_nI (n := ((6 * s) + t9)) (by omega) (by omega)) 89 rfl dX12_shelf_88 ?_
    refine a_eq (h2 := g_hp G C (g_hm G (f_mI (f_mI (f_mI M 9 (upd (M.2.2.2.1 9) s (nI so))) 10 (upd (M.2.2.2.1 10) s (nI (m)))) 11 (f_clR (M.2.2.2.1 11) (6 * s) (t9 + 1))) ++ ob)) rfl rfl rfl (by show (((g_hp G C (g_hm G (f_mI (f_mI (f_mI M 9 (upd (M.2.2.2.1 9) s (nI so))) 10 (upd (M.2.2.2.1 10) s (nI (m)))) 11 (f_clR (M.2.2.2.1 11) (6 * s) t9)) ++ ob)).set 53 (c_I G 18 (upd (f_clR (M.2.2.2.1 11) (6 * s) t9) (nI ((6 * s) + t9)).toNatClampNeg (-1)))) : List va_E) = _; rw [hc2]; rfl) ?_
    refine a_iinc (y := nI (t9 + 1)) (lv' := [(4, .int (nI (t9 + 1))), (0, .ref (g_ad G 38)), (1, .int (nI s)), (2, .int (nI so)), (3, .int (nI m))]) 0 92 rfl dX12_shelf_89 rfl (nI_1 t9) (by decide) rfl ?_
    refine a_goto 69 dX12_shelf_92 (by decide) ?_
    refine a_sub (lv' := [(4, .int (nI (t9 + 1))), (0, .ref (g_ad G 38)), (1, .int (nI s)), (2, .int (nI so)), (3, .int (nI m))]) [0, 1, 2, 3, 4] rfl ?_
    exact k_t9 trivial
  · skip
    refine a_iload 0 71 rfl dX12_shelf_69 rfl ?_
    refine a_bipush (x := 6) 73 rfl dX12_shelf_71 (by decide) ?_
    refine a_icmp_ge 95 76 rfl dX12_shelf_73 (by decide) (fun _ => ?_) (fun hc => absurd (nI_le (a := 6) (b := 6) (by omega) (by omega)) hc)
    refine a_iconst (x := 1) 96 rfl dX12_shelf_95 (by decide) ?_
    exact a_ireturn .int rfl rfl (rfl) (rfl) dX12_shelf_96

theorem r_liM_rm (hs : s < 3) (y9 : Int32) : g_Run G mX12_list 6 0 0 [.ref (g_ad G 38), .int (nI s), .int ((-1)), .int (y9)] (g_hp G C (g_hm G M ++ ob)) (some (.int 1)) (g_hp G C (g_hm G (f_lsM M s ((-1)) (0)) ++ ob)) := by
  have hcl : (nI s).toNatClampNeg = s := g_cl (by omega)
  refine g_Run.of (lv := [(0, .ref (g_ad G 38)), (1, .int (nI s)), (2, .int ((-1))), (3, .int y9)]) (by decide) (Nat.le_of_ble_eq_true rfl) rfl ?_
  refine a_iload_n 1 1 rfl dX12_list_0 rfl rfl ?_
  refine a_callS (as := [.int (nI s)]) (rest := []) (st2 := [.int (f_i (decide ((0:Int32) ≤ nI s ∧ nI s ≤ 2)))]) (u1 := 0) (v1 := 0) (u2 := 0) (v2 := 0) (r_isLiM) oX12_isList q_1530 q_1531 rfl (by omega) (by decide) rfl (Nat.le_of_ble_eq_true rfl) 4 rfl dX12_list_1 rfl ?_
  refine a_if_eq 29 7 rfl dX12_list_4 (by decide) (fun hc => absurd hc (f_i_T (f_or2 hs))) (fun _ => ?_)
  refine a_iload_n 2 8 rfl dX12_list_7 rfl rfl ?_
  refine a_i2l 9 rfl dX12_list_8 ?_
  refine a_ldc2 q_1260 12 rfl dX12_list_9 ?_
  refine a_lconst (x := 1) 13 rfl dX12_list_12 (by decide) ?_
  refine a_callS (as := [.long ((-1 : Int32).toInt64), .long ((-1)), .long 1]) (rest := []) (st2 := [.int (f_i (decide ((-1) ≤ (-1 : Int32) ∧ (-1 : Int32) ≤ 1)))]) (u1 := 0) (v1 := 0) (u2 := 0) (v2 := 0) (r_isInB (y := (-1 : Int32)) (a := (-1)) (b := 1) rfl rfl) oX12_isIn q_1242 q_1243 rfl (by omega) (by decide) rfl (Nat.le_of_ble_eq_true rfl) 16 rfl dX12_list_13 rfl ?_
  refine a_if_eq 29 19 rfl dX12_list_16 (by decide) (fun hc => absurd hc (f_i_T (decide_eq_true ⟨by decide, by decide⟩))) (fun _ => ?_)
  refine a_iload_n 2 20 rfl dX12_list_19 rfl rfl ?_
  refine a_if_lt 31 23 rfl dX12_list_20 (by decide) (fun _ => ?_) (fun hc => absurd ((by decide)) hc)
  refine a_iload_n 2 32 rfl dX12_list_31 rfl rfl ?_
  refine a_if_lt 42 35 rfl dX12_list_32 (by decide) (fun _ => ?_) (fun hc => absurd ((by decide)) hc)
  refine a_aload_n 0 43 rfl dX12_list_42 rfl rfl ?_
  refine a_get 38 cl_11 f_RX12_83_11 (by decide) (rfl) rfl 46 rfl dX12_list_43 ?_
  refine a_iload_n 1 47 rfl dX12_list_46 rfl rfl ?_
  refine a_iload_n 2 48 rfl dX12_list_47 rfl rfl ?_
  refine a_iast (rfl) (vp_in_nI (n := s) (by omega) (by omega)) 49 rfl dX12_list_48 ?_
  refine a_eq (h2 := g_hp G C (g_hm G (f_mI M 15 (upd (M.2.2.2.1 15) s ((-1)))) ++ ob)) rfl rfl rfl (by show (((g_hp G C (g_hm G M ++ ob)).set 59 (c_I G 3 (upd (M.2.2.2.1 15) (nI s).toNatClampNeg (-1)))) : List va_E) = _; rw [hcl]; rfl) ?_
  refine a_aload_n 0 50 rfl dX12_list_49 rfl rfl ?_
  refine a_get 39 cl_11 f_RX12_86_11 (by decide) (rfl) rfl 53 rfl dX12_list_50 ?_
  refine a_iload_n 1 54 rfl dX12_list_53 rfl rfl ?_
  refine a_iload_n 2 55 rfl dX12_list_54 rfl rfl ?_
  refine a_if_ge 62 58 rfl dX12_list_55 (by decide) (fun hc => absurd hc ((by decide))) (fun _ => ?_)
  refine a_iconst (x := 0) 59 rfl dX12_list_58 (by decide) ?_
  refine a_goto 63 dX12_list_59 (by decide) ?_
  refine a_iast (rfl) (vp_in_nI (n := s) (by omega) (by omega)) 64 rfl dX12_list_63 ?_
  refine a_eq (h2 := g_hp G C (g_hm G (f_mI (f_mI M 15 (upd (M.2.2.2.1 15) s ((-1)))) 16 (upd (M.2.2.2.1 16) s (nI (0)))) ++ ob)) rfl rfl rfl (by show (((g_hp G C (g_hm G (f_mI M 15 (upd (M.2.2.2.1 15) s ((-1)))) ++ ob)).set 60 (c_I G 3 (upd (M.2.2.2.1 16) (nI s).toNatClampNeg 0))) : List va_E) = _; rw [hcl]; rfl) ?_
  refine a_iconst (x := 0) 65 rfl dX12_list_64 (by decide) ?_
  refine a_istore (lv' := [(4, .int 0), (0, .ref (g_ad G 38)), (1, .int (nI s)), (2, .int ((-1))), (3, .int y9)]) 67 rfl dX12_list_65 (by decide) rfl ?_
  refine a_eq (h2 := g_hp G C (g_hm G (f_mL (f_mI (f_mI M 15 (upd (M.2.2.2.1 15) s ((-1)))) 16 (upd (M.2.2.2.1 16) s (nI (0)))) 5 (f_clL (M.2.2.2.2 5) (20 * s) 0)) ++ ob)) rfl rfl rfl (rfl) ?_
  refine a_sub (lv' := [(4, .int (nI 0)), (0, .ref (g_ad G 38)), (1, .int (nI s)), (2, .int ((-1))), (3, .int y9)]) [0, 1, 2, 3, 4] rfl ?_
  refine g_for (P := fun t9 => True) 20 (fun t9 => [(4, .int (nI t9)), (0, .ref (g_ad G 38)), (1, .int (nI s)), (2, .int ((-1))), (3, .int y9)]) (fun t9 => g_hp G C (g_hm G (f_mL (f_mI (f_mI M 15 (upd (M.2.2.2.1 15) s ((-1)))) 16 (upd (M.2.2.2.1 16) s (nI (0)))) 5 (f_clL (M.2.2.2.2 5) (20 * s) t9)) ++ ob)) (trivial) (fun t9 h_t9 p_t9 k_t9 => ?_) (fun p_t9 => ?_)
  · have hc2 : (nI (20 * s + t9)).toNatClampNeg = 20 * s + t9 := g_cl (by omega)
    refine a_iload 0 69 rfl dX12_list_67 rfl ?_
    refine a_bipush (x := 20) 71 rfl dX12_list_69 (by decide) ?_
    refine a_icmp_ge 93 74 rfl dX12_list_71 (by decide) (fun hc => absurd hc (nI_ge (a := t9) (b := 20) (by omega) (by omega))) (fun _ => ?_)
    refine a_aload_n 1 75 rfl dX12_list_74 rfl rfl ?_
    refine a_get 40 cl_11 f_RX12_89_11 (by decide) (rfl) rfl 78 rfl dX12_list_75 ?_
    refine a_bipush (x := 20) 80 rfl dX12_list_78 (by decide) ?_
    refine a_iload_n 2 81 rfl dX12_list_80 rfl rfl ?_
    refine a_imul 82 rfl dX12_list_81 ?_
    refine a_eq (st2 := [.int (nI (20 * s)), .ref (g_ad G 61)]) rfl rfl (congrArg (fun z9 => Value.int z9 :: [.ref (g_ad G 61)]) (pk_mul 20 s)) rfl ?_
    refine a_iload 0 84 rfl dX12_list_82 rfl ?_
    refine a_iadd 85 rfl dX12_list_84 ?_
    refine a_eq (st2 := [.int (nI ((20 * s) + t9)), .ref (g_ad G 61)]) rfl rfl (congrArg (fun z9 => Value.int z9 :: [.ref (g_ad G 61)]) (nI_add (20 * s) t9)) rfl ?_
    refine a_lconst (x := 0) 86 rfl dX12_list_85 (by decide) ?_
    refine a_last (rfl) (vp_in_nI (n := ((20 * s) + t9)) (by omega) (by omega)) 87 rfl dX12_list_86 ?_
    refine a_eq (h2 := g_hp G C (g_hm G (f_mL (f_mI (f_mI M 15 (upd (M.2.2.2.1 15) s ((-1)))) 16 (upd (M.2.2.2.1 16) s (nI (0)))) 5 (f_clL (M.2.2.2.2 5) (20 * s) (t9 + 1))) ++ ob)) rfl rfl rfl (by show (((g_hp G C (g_hm G (f_mL (f_mI (f_mI M 15 (upd (M.2.2.2.1 15) s ((-1)))) 16 (upd (M.2.2.2.1 16) s (nI (0)))) 5 (f_clL (M.2.2.2.2 5) (20 * s) t9)) ++ ob)).set 61 (c_L G 60 (vp_updL (f_clL (M.2.2.2.2 5) (20 * s) t9) (nI ((20 * s) + t9)).toNatClampNeg 0))) : List va_E) = _; rw [hc2]; rfl) ?_
    refine a_iinc (y := nI (t9 + 1)) (lv' := [(4, .int (nI (t9 + 1))), (0, .ref (g_ad G 38)), (1, .int (nI s)), (2, .int ((-1))), (3, .int y9)]) 0 90 rfl dX12_list_87 rfl (nI_1 t9) (by decide) rfl ?_
    refine a_goto 67 dX12_list_90 (by decide) ?_
    refine a_sub (lv' := [(4, .int (nI (t9 + 1))), (0, .ref (g_ad G 38)), (1, .int (nI s)), (2, .int ((-1))), (3, .int y9)]) [0, 1, 2, 3, 4] rfl ?_
    exact k_t9 trivial
  · skip
    refine a_iload 0 69 rfl dX12_list_67 rfl ?_
    refine a_bipush (x := 20) 71 rfl dX12_list_69 (by decide) ?_
    refine a_icmp_ge 93 74 rfl dX12_list_71 (by decide) (fun _ => ?_) (fun hc => absurd (nI_le (a := 20) (b := 20) (by omega) (by omega)) hc)
    refine a_iconst (x := 1) 94 rfl dX12_list_93 (by decide) ?_
    exact a_ireturn .int rfl rfl (rfl) (rfl) dX12_list_94

theorem r_liM_ok (hs : s < 3) (hso : so < 2) (hm : m ≤ 20) : g_Run G mX12_list 6 0 0 [.ref (g_ad G 38), .int (nI s), .int (nI so), .int (nI m)] (g_hp G C (g_hm G M ++ ob)) (some (.int 1)) (g_hp G C (g_hm G (f_lsM M s (nI so) (m)) ++ ob)) := by
  have hcl : (nI s).toNatClampNeg = s := g_cl (by omega)
  refine g_Run.of (lv := [(0, .ref (g_ad G 38)), (1, .int (nI s)), (2, .int (nI so)), (3, .int (nI m))]) (by decide) (Nat.le_of_ble_eq_true rfl) rfl ?_
  refine a_iload_n 1 1 rfl dX12_list_0 rfl rfl ?_
  refine a_callS (as := [.int (nI s)]) (rest := []) (st2 := [.int (f_i (decide ((0:Int32) ≤ nI s ∧ nI s ≤ 2)))]) (u1 := 0) (v1 := 0) (u2 := 0) (v2 := 0) (r_isLiM) oX12_isList q_1530 q_1531 rfl (by omega) (by decide) rfl (Nat.le_of_ble_eq_true rfl) 4 rfl dX12_list_1 rfl ?_
  refine a_if_eq 29 7 rfl dX12_list_4 (by decide) (fun hc => absurd hc (f_i_T (f_or2 hs))) (fun _ => ?_)
  refine a_iload_n 2 8 rfl dX12_list_7 rfl rfl ?_
  refine a_i2l 9 rfl dX12_list_8 ?_
  refine a_ldc2 q_1260 12 rfl dX12_list_9 ?_
  refine a_lconst (x := 1) 13 rfl dX12_list_12 (by decide) ?_
  refine a_callS (as := [.long ((nI so).toInt64), .long ((-1)), .long 1]) (rest := []) (st2 := [.int (f_i (decide ((-1) ≤ (nI so) ∧ (nI so) ≤ 1)))]) (u1 := 0) (v1 := 0) (u2 := 0) (v2 := 0) (r_isInB (y := (nI so)) (a := (-1)) (b := 1) rfl rfl) oX12_isIn q_1242 q_1243 rfl (by omega) (by decide) rfl (Nat.le_of_ble_eq_true rfl) 16 rfl dX12_list_13 rfl ?_
  refine a_if_eq 29 19 rfl dX12_list_16 (by decide) (fun hc => absurd hc (f_i_T (decide_eq_true ⟨Int32.le_trans (by decide) (nI_pos' (by omega)), nI_le (b := 1) (by omega) (by omega)⟩))) (fun _ => ?_)
  refine a_iload_n 2 20 rfl dX12_list_19 rfl rfl ?_
  refine a_if_lt 31 23 rfl dX12_list_20 (by decide) (fun hc => absurd hc (nI_pos (by omega))) (fun _ => ?_)
  refine a_iload_n 3 24 rfl dX12_list_23 rfl rfl ?_
  refine a_bipush (x := 20) 26 rfl dX12_list_24 (by decide) ?_
  refine a_icmp_le 31 29 rfl dX12_list_26 (by decide) (fun _ => ?_) (fun hc => absurd (nI_le (b := 20) hm (by omega)) hc)
  refine a_iload_n 2 32 rfl dX12_list_31 rfl rfl ?_
  refine a_if_lt 42 35 rfl dX12_list_32 (by decide) (fun hc => absurd hc (nI_pos (by omega))) (fun _ => ?_)
  refine a_iload_n 3 36 rfl dX12_list_35 rfl rfl ?_
  refine a_if_ge 42 39 rfl dX12_list_36 (by decide) (fun _ => ?_) (fun hc => absurd (nI_pos' (by omega)) hc)
  refine a_aload_n 0 43 rfl dX12_list_42 rfl rfl ?_
  refine a_get 38 cl_11 f_RX12_83_11 (by decide) (rfl) rfl 46 rfl dX12_list_43 ?_
  refine a_iload_n 1 47 rfl dX12_list_46 rfl rfl ?_
  refine a_iload_n 2 48 rfl dX12_list_47 rfl rfl ?_
  refine a_iast (rfl) (vp_in_nI (n := s) (by omega) (by omega)) 49 rfl dX12_list_48 ?_
  refine a_eq (h2 := g_hp G C (g_hm G (f_mI M 15 (upd (M.2.2.2.1 15) s (nI so))) ++ ob)) rfl rfl rfl (by show (((g_hp G C (g_hm G M ++ ob)).set 59 (c_I G 3 (upd (M.2.2.2.1 15) (nI s).toNatClampNeg (nI so)))) : List va_E) = _; rw [hcl]; rfl) ?_
  refine a_aload_n 0 50 rfl dX12_list_49 rfl rfl ?_
  refine a_get 39 cl_11 f_RX12_86_11 (by decide) (rfl) rfl 53 rfl dX12_list_50 ?_
  refine a_iload_n 1 54 rfl dX12_list_53 rfl rfl ?_
  refine a_iload_n 2 55 rfl dX12_list_54 rfl rfl ?_
  refine a_if_ge 62 58 rfl dX12_list_55 (by decide) (fun _ => ?_) (fun hc => absurd (nI_pos' (by omega)) hc)
  refine a_iload_n 3 63 rfl dX12_list_62 rfl rfl ?_
  refine a_iast (rfl) (vp_in_nI (n := s) (by omega) (by omega)) 64 rfl dX12_list_63 ?_
  refine a_eq (h2 := g_hp G C (g_hm G (f_mI (f_mI M 15 (upd (M.2.2.2.1 15) s (nI so))) 16 (upd (M.2.2.2.1 16) s (nI (m)))) ++ ob)) rfl rfl rfl (by show (((g_hp G C (g_hm G (f_mI M 15 (upd (M.2.2.2.1 15) s (nI so))) ++ ob)).set 60 (c_I G 3 (upd (M.2.2.2.1 16) (nI s).toNatClampNeg (nI m)))) : List va_E) = _; rw [hcl]; rfl) ?_
  refine a_iconst (x := 0) 65 rfl dX12_list_64 (by decide) ?_
  refine a_istore (lv' := [(4, .int 0), (0, .ref (g_ad G 38)), (1, .int (nI s)), (2, .int (nI so)), (3, .int (nI m))]) 67 rfl dX12_list_65 (by decide) rfl ?_
  refine a_eq (h2 := g_hp G C (g_hm G (f_mL (f_mI (f_mI M 15 (upd (M.2.2.2.1 15) s (nI so))) 16 (upd (M.2.2.2.1 16) s (nI (m)))) 5 (f_clL (M.2.2.2.2 5) (20 * s) 0)) ++ ob)) rfl rfl rfl (rfl) ?_
  refine a_sub (lv' := [(4, .int (nI 0)), (0, .ref (g_ad G 38)), (1, .int (nI s)), (2, .int (nI so)), (3, .int (nI m))]) [0, 1, 2, 3, 4] rfl ?_
  refine g_for (P := fun t9 => True) 20 (fun t9 => [(4, .int (nI t9)), (0, .ref (g_ad G 38)), (1, .int (nI s)), (2, .int (nI so)), (3, .int (nI m))]) (fun t9 => g_hp G C (g_hm G (f_mL (f_mI (f_mI M 15 (upd (M.2.2.2.1 15) s (nI so))) 16 (upd (M.2.2.2.1 16) s (nI (m)))) 5 (f_clL (M.2.2.2.2 5) (20 * s) t9)) ++ ob)) (trivial) (fun t9 h_t9 p_t9 k_t9 => ?_) (fun p_t9 => ?_)
  · have hc2 : (nI (20 * s + t9)).toNatClampNeg = 20 * s + t9 := g_cl (by omega)
    refine a_iload 0 69 rfl dX12_list_67 rfl ?_
    refine a_bipush (x := 20) 71 rfl dX12_list_69 (by decide) ?_
    refine a_icmp_ge 93 74 rfl dX12_list_71 (by decide) (fun hc => absurd hc (nI_ge (a := t9) (b := 20) (by omega) (by omega))) (fun _ => ?_)
    refine a_aload_n 1 75 rfl dX12_list_74 rfl rfl ?_
    refine a_get 40 cl_11 f_RX12_89_11 (by decide) (rfl) rfl 78 rfl dX12_list_75 ?_
    refine a_bipush (x := 20) 80 rfl dX12_list_78 (by decide) ?_
    refine a_iload_n 2 81 rfl dX12_list_80 rfl rfl ?_
    refine a_imul 82 rfl dX12_list_81 ?_
    refine a_eq (st2 := [.int (nI (20 * s)), .ref (g_ad G 61)]) rfl rfl (congrArg (fun z9 => Value.int z9 :: [.ref (g_ad G 61)]) (pk_mul 20 s)) rfl ?_
    refine a_iload 0 84 rfl dX12_list_82 rfl ?_
    refine a_iadd 85 rfl dX12_list_84 ?_
    refine a_eq (st2 := [.int (nI ((20 * s) + t9)), .ref (g_ad G 61)]) rfl rfl (congrArg (fun z9 => Value.int z9 :: [.ref (g_ad G 61)]) (nI_add (20 * s) t9)) rfl ?_
    refine a_lconst (x := 0) 86 rfl dX12_list_85 (by decide) ?_
    refine a_last (rfl) (vp_in_nI (n := ((20 * s) + t9)) (by omega) (by omega)) 87 rfl dX12_list_86 ?_
    refine a_eq (h2 := g_hp G C (g_hm G (f_mL (f_mI (f_mI M 15 (upd (M.2.2.2.1 15) s (nI so))) 16 (upd (M.2.2.2.1 16) s (nI (m)))) 5 (f_clL (M.2.2.2.2 5) (20 * s) (t9 + 1))) ++ ob)) rfl rfl rfl (by show (((g_hp G C (g_hm G (f_mL (f_mI (f_mI M 15 (upd (M.2.2.2.1 15) s (nI so))) 16 (upd (M.2.2.2.1 16) s (nI (m)))) 5 (f_clL (M.2.2.2.2 5) (20 * s) t9)) ++ ob)).set 61 (c_L G 60 (vp_updL (f_clL (M.2.2.2.2 5) (20 * s) t9) (nI ((20 * s) + t9)).toNatClampNeg 0))) : List va_E) = _; rw [hc2]; rfl) ?_
    refine a_iinc (y := nI (t9 + 1)) (lv' := [(4, .int (nI (t9 + 1))), (0, .ref (g_ad G 38)), (1, .int (nI s)), (2, .int (nI so)), (3, .int (nI m))]) 0 90 rfl dX12_list_87 rfl (nI_1 t9) (by decide) rfl ?_
    refine a_goto 67 dX12_list_90 (by decide) ?_
    refine a_sub (lv' := [(4, .int (nI (t9 + 1))), (0, .ref (g_ad G 38)), (1, .int (nI s)), (2, .int (nI so)), (3, .int (nI m))]) [0, 1, 2, 3, 4] rfl ?_
    exact k_t9 trivial
  · skip
    refine a_iload 0 69 rfl dX12_list_67 rfl ?_
    refine a_bipush (x := 20) 71 rfl dX12_list_69 (by decide) ?_
    refine a_icmp_ge 93 74 rfl dX12_list_71 (by decide) (fun _ => ?_) (fun hc => absurd (nI_le (a := 20) (b := 20) (by omega) (by omega)) hc)
    refine a_iconst (x := 1) 94 rfl dX12_list_93 (by decide) ?_
    exact a_ireturn .int rfl rfl (rfl) (rfl) dX12_list_94

theorem r_keM_b0 (hy : ¬ ((0 : Int32) ≤ y ∧ y ≤ 2)) : g_Run G mX12_keep 6 0 0 [.ref (g_ad G 38), .int y, .int y2, .int y3] (g_hp G C (g_hm G M ++ ob)) (some (.int (-1))) (g_hp G C (g_hm G M ++ ob)) := by
  refine g_Run.of (lv := [(0, .ref (g_ad G 38)), (1, .int y), (2, .int y2), (3, .int y3)]) (by decide) (Nat.le_of_ble_eq_true rfl) rfl ?_
  refine a_iload_n 1 1 rfl dX12_keep_0 rfl rfl ?_
  refine a_callS (as := [.int y]) (rest := []) (st2 := [.int (f_i (decide ((0:Int32) ≤ y ∧ y ≤ 2)))]) (u1 := 0) (v1 := 0) (u2 := 0) (v2 := 0) (r_isShM) oX12_isShelf q_1580 q_1581 rfl (by omega) (by decide) rfl (Nat.le_of_ble_eq_true rfl) 4 rfl dX12_keep_1 rfl ?_
  refine a_if_eq 15 7 rfl dX12_keep_4 (by decide) (fun _ => ?_) (fun hc => absurd (f_i_F (decide_eq_false hy)) hc)
  refine a_iconst (x := (-1)) 16 rfl dX12_keep_15 (by decide) ?_
  exact a_ireturn .int rfl rfl (rfl) (rfl) dX12_keep_16
theorem r_keM_b1 (hs : s < 3) (hm : M.1 1 ≤ 8) (hi : ¬ vp_in y3 (M.1 1)) : g_Run G mX12_keep 6 0 0 [.ref (g_ad G 38), .int (nI s), .int y2, .int y3] (g_hp G C (g_hm G M ++ ob)) (some (.int (-1))) (g_hp G C (g_hm G M ++ ob)) := by
  refine g_Run.of (lv := [(0, .ref (g_ad G 38)), (1, .int (nI s)), (2, .int y2), (3, .int y3)]) (by decide) (Nat.le_of_ble_eq_true rfl) rfl ?_
  refine a_iload_n 1 1 rfl dX12_keep_0 rfl rfl ?_
  refine a_callS (as := [.int (nI s)]) (rest := []) (st2 := [.int (f_i (decide ((0:Int32) ≤ nI s ∧ nI s ≤ 2)))]) (u1 := 0) (v1 := 0) (u2 := 0) (v2 := 0) (r_isShM) oX12_isShelf q_1580 q_1581 rfl (by omega) (by decide) rfl (Nat.le_of_ble_eq_true rfl) 4 rfl dX12_keep_1 rfl ?_
  refine a_if_eq 15 7 rfl dX12_keep_4 (by decide) (fun hc => absurd hc (f_i_T (f_or2 hs))) (fun _ => ?_)
  refine a_aload_n 0 8 rfl dX12_keep_7 rfl rfl ?_
  refine a_iload_n 3 9 rfl dX12_keep_8 rfl rfl ?_
  refine a_callV (as := [.int y3]) (rest := []) (st2 := [.int 0]) (u1 := 0) (v1 := 0) (u2 := 0) (v2 := 0) (r_isFam_out hm hi) (⟨_, _, _, _, rfl, rfl⟩) oX12_isFamily q_1273 q_1275 q_87 rfl (by omega) (by decide) rfl (Nat.le_of_ble_eq_true rfl) 12 rfl dX12_keep_9 rfl ?_
  refine a_if_ne 17 15 rfl dX12_keep_12 (by decide) (fun hc => absurd (rfl) hc) (fun _ => ?_)
  refine a_iconst (x := (-1)) 16 rfl dX12_keep_15 (by decide) ?_
  exact a_ireturn .int rfl rfl (rfl) (rfl) dX12_keep_16
theorem r_keM_miss (hs : s < 3) (hm : M.1 1 ≤ 8) (hj : j < M.1 1) (h0 : ¬ 0 ≤ M.2.2.2.1 9 s) : g_Run G mX12_keep 6 0 0 [.ref (g_ad G 38), .int (nI s), .int y2, .int (nI j)] (g_hp G C (g_hm G M ++ ob)) (some (.int (-11))) (g_hp G C (g_hm G M ++ ob)) := by
  refine g_Run.of (lv := [(0, .ref (g_ad G 38)), (1, .int (nI s)), (2, .int y2), (3, .int (nI j))]) (by decide) (Nat.le_of_ble_eq_true rfl) rfl ?_
  refine a_iload_n 1 1 rfl dX12_keep_0 rfl rfl ?_
  refine a_callS (as := [.int (nI s)]) (rest := []) (st2 := [.int (f_i (decide ((0:Int32) ≤ nI s ∧ nI s ≤ 2)))]) (u1 := 0) (v1 := 0) (u2 := 0) (v2 := 0) (r_isShM) oX12_isShelf q_1580 q_1581 rfl (by omega) (by decide) rfl (Nat.le_of_ble_eq_true rfl) 4 rfl dX12_keep_1 rfl ?_
  refine a_if_eq 15 7 rfl dX12_keep_4 (by decide) (fun hc => absurd hc (f_i_T (f_or2 hs))) (fun _ => ?_)
  refine a_aload_n 0 8 rfl dX12_keep_7 rfl rfl ?_
  refine a_iload_n 3 9 rfl dX12_keep_8 rfl rfl ?_
  refine a_callV (as := [.int (nI j)]) (rest := []) (st2 := [.int 1]) (u1 := 0) (v1 := 0) (u2 := 0) (v2 := 0) (r_isFam_in hm hj) (⟨_, _, _, _, rfl, rfl⟩) oX12_isFamily q_1273 q_1275 q_87 rfl (by omega) (by decide) rfl (Nat.le_of_ble_eq_true rfl) 12 rfl dX12_keep_9 rfl ?_
  refine a_if_ne 17 15 rfl dX12_keep_12 (by decide) (fun _ => ?_) (fun hc => absurd hc ((by decide)))
  refine a_aload_n 0 18 rfl dX12_keep_17 rfl rfl ?_
  refine a_get 30 cl_11 f_RX12_59_11 (by decide) (rfl) rfl 21 rfl dX12_keep_18 ?_
  refine a_iload_n 1 22 rfl dX12_keep_21 rfl rfl ?_
  refine a_iald (rfl) (vp_in_nI (n := s) (by omega) (by omega)) 23 rfl dX12_keep_22 ?_
  refine a_eq (st2 := [.int ((M.2.2.2.1 9) s)]) rfl rfl (congrArg (fun z9 => Value.int z9 :: []) (congrArg (M.2.2.2.1 9) (g_cl (by omega)))) rfl ?_
  refine a_if_ge 29 26 rfl dX12_keep_23 (by decide) (fun hc => absurd hc (h0)) (fun _ => ?_)
  refine a_bipush (x := (-11)) 28 rfl dX12_keep_26 (by decide) ?_
  exact a_ireturn .int rfl rfl (rfl) (rfl) dX12_keep_28
theorem r_keM_out (hs : s < 3) (hm : M.1 1 ≤ 8) (hj : j < M.1 1) (h0 : 0 ≤ M.2.2.2.1 9 s) (hy : ¬ ((0 : Int32) ≤ y2 ∧ y2 ≤ M.2.2.2.1 10 s - 1)) : g_Run G mX12_keep 6 0 0 [.ref (g_ad G 38), .int (nI s), .int y2, .int (nI j)] (g_hp G C (g_hm G M ++ ob)) (some (.int (-13))) (g_hp G C (g_hm G M ++ ob)) := by
  refine g_Run.of (lv := [(0, .ref (g_ad G 38)), (1, .int (nI s)), (2, .int y2), (3, .int (nI j))]) (by decide) (Nat.le_of_ble_eq_true rfl) rfl ?_
  refine a_iload_n 1 1 rfl dX12_keep_0 rfl rfl ?_
  refine a_callS (as := [.int (nI s)]) (rest := []) (st2 := [.int (f_i (decide ((0:Int32) ≤ nI s ∧ nI s ≤ 2)))]) (u1 := 0) (v1 := 0) (u2 := 0) (v2 := 0) (r_isShM) oX12_isShelf q_1580 q_1581 rfl (by omega) (by decide) rfl (Nat.le_of_ble_eq_true rfl) 4 rfl dX12_keep_1 rfl ?_
  refine a_if_eq 15 7 rfl dX12_keep_4 (by decide) (fun hc => absurd hc (f_i_T (f_or2 hs))) (fun _ => ?_)
  refine a_aload_n 0 8 rfl dX12_keep_7 rfl rfl ?_
  refine a_iload_n 3 9 rfl dX12_keep_8 rfl rfl ?_
  refine a_callV (as := [.int (nI j)]) (rest := []) (st2 := [.int 1]) (u1 := 0) (v1 := 0) (u2 := 0) (v2 := 0) (r_isFam_in hm hj) (⟨_, _, _, _, rfl, rfl⟩) oX12_isFamily q_1273 q_1275 q_87 rfl (by omega) (by decide) rfl (Nat.le_of_ble_eq_true rfl) 12 rfl dX12_keep_9 rfl ?_
  refine a_if_ne 17 15 rfl dX12_keep_12 (by decide) (fun _ => ?_) (fun hc => absurd hc ((by decide)))
  refine a_aload_n 0 18 rfl dX12_keep_17 rfl rfl ?_
  refine a_get 30 cl_11 f_RX12_59_11 (by decide) (rfl) rfl 21 rfl dX12_keep_18 ?_
  refine a_iload_n 1 22 rfl dX12_keep_21 rfl rfl ?_
  refine a_iald (rfl) (vp_in_nI (n := s) (by omega) (by omega)) 23 rfl dX12_keep_22 ?_
  refine a_eq (st2 := [.int ((M.2.2.2.1 9) s)]) rfl rfl (congrArg (fun z9 => Value.int z9 :: []) (congrArg (M.2.2.2.1 9) (g_cl (by omega)))) rfl ?_
  refine a_if_ge 29 26 rfl dX12_keep_23 (by decide) (fun _ => ?_) (fun hc => absurd (h0) hc)
  refine a_iload_n 2 30 rfl dX12_keep_29 rfl rfl ?_
  refine a_i2l 31 rfl dX12_keep_30 ?_
  refine a_lconst (x := 0) 32 rfl dX12_keep_31 (by decide) ?_
  refine a_aload_n 0 33 rfl dX12_keep_32 rfl rfl ?_
  refine a_get 31 cl_11 f_RX12_62_11 (by decide) (rfl) rfl 36 rfl dX12_keep_33 ?_
  refine a_iload_n 1 37 rfl dX12_keep_36 rfl rfl ?_
  refine a_iald (rfl) (vp_in_nI (n := s) (by omega) (by omega)) 38 rfl dX12_keep_37 ?_
  refine a_eq (st2 := [.int ((M.2.2.2.1 10) s), .long 0, .long y2.toInt64]) rfl rfl (congrArg (fun z9 => Value.int z9 :: [.long 0, .long y2.toInt64]) (congrArg (M.2.2.2.1 10) (g_cl (by omega)))) rfl ?_
  refine a_iconst (x := 1) 39 rfl dX12_keep_38 (by decide) ?_
  refine a_isub 40 rfl dX12_keep_39 ?_
  refine a_i2l 41 rfl dX12_keep_40 ?_
  refine a_callS (as := [.long y2.toInt64, .long 0, .long ((((M.2.2.2.1 10) s) - 1).toInt64)]) (rest := []) (st2 := [.int (f_i (decide ((0 : Int32) ≤ y2 ∧ y2 ≤ (((M.2.2.2.1 10) s) - 1))))]) (u1 := 0) (v1 := 0) (u2 := 0) (v2 := 0) (r_isInB (y := y2) (a := 0) (b := (((M.2.2.2.1 10) s) - 1)) rfl rfl) oX12_isIn q_1242 q_1243 rfl (by omega) (by decide) rfl (Nat.le_of_ble_eq_true rfl) 44 rfl dX12_keep_41 rfl ?_
  refine a_if_ne 50 47 rfl dX12_keep_44 (by decide) (fun hc => absurd (f_i_F (decide_eq_false hy)) hc) (fun _ => ?_)
  refine a_bipush (x := (-13)) 49 rfl dX12_keep_47 (by decide) ?_
  exact a_ireturn .int rfl rfl (rfl) (rfl) dX12_keep_49
theorem r_keM_oth (hs : s < 3) (hm : M.1 1 ≤ 8) (hj : j < M.1 1) (hi6 : i < 6) (h0 : M.2.2.2.1 9 s = nI so) (hso : so < 3) (hy : (0 : Int32) ≤ nI i ∧ nI i ≤ M.2.2.2.1 10 s - 1) (hk : M.2.2.2.1 0 j = nI k) (hk6 : k < 6) (hb : f_may so k = false) : g_Run G mX12_keep 6 0 0 [.ref (g_ad G 38), .int (nI s), .int (nI i), .int (nI j)] (g_hp G C (g_hm G M ++ ob)) (some (.int (-12))) (g_hp G C (g_hm G M ++ ob)) := by
  have hcl : (nI (6 * s + i)).toNatClampNeg = 6 * s + i := g_cl (by omega)
  refine g_Run.of (lv := [(0, .ref (g_ad G 38)), (1, .int (nI s)), (2, .int (nI i)), (3, .int (nI j))]) (by decide) (Nat.le_of_ble_eq_true rfl) rfl ?_
  refine a_iload_n 1 1 rfl dX12_keep_0 rfl rfl ?_
  refine a_callS (as := [.int (nI s)]) (rest := []) (st2 := [.int (f_i (decide ((0:Int32) ≤ nI s ∧ nI s ≤ 2)))]) (u1 := 0) (v1 := 0) (u2 := 0) (v2 := 0) (r_isShM) oX12_isShelf q_1580 q_1581 rfl (by omega) (by decide) rfl (Nat.le_of_ble_eq_true rfl) 4 rfl dX12_keep_1 rfl ?_
  refine a_if_eq 15 7 rfl dX12_keep_4 (by decide) (fun hc => absurd hc (f_i_T (f_or2 hs))) (fun _ => ?_)
  refine a_aload_n 0 8 rfl dX12_keep_7 rfl rfl ?_
  refine a_iload_n 3 9 rfl dX12_keep_8 rfl rfl ?_
  refine a_callV (as := [.int (nI j)]) (rest := []) (st2 := [.int 1]) (u1 := 0) (v1 := 0) (u2 := 0) (v2 := 0) (r_isFam_in hm hj) (⟨_, _, _, _, rfl, rfl⟩) oX12_isFamily q_1273 q_1275 q_87 rfl (by omega) (by decide) rfl (Nat.le_of_ble_eq_true rfl) 12 rfl dX12_keep_9 rfl ?_
  refine a_if_ne 17 15 rfl dX12_keep_12 (by decide) (fun _ => ?_) (fun hc => absurd hc ((by decide)))
  refine a_aload_n 0 18 rfl dX12_keep_17 rfl rfl ?_
  refine a_get 30 cl_11 f_RX12_59_11 (by decide) (rfl) rfl 21 rfl dX12_keep_18 ?_
  refine a_iload_n 1 22 rfl dX12_keep_21 rfl rfl ?_
  refine a_iald (rfl) (vp_in_nI (n := s) (by omega) (by omega)) 23 rfl dX12_keep_22 ?_
  refine a_eq (st2 := [.int ((M.2.2.2.1 9) s)]) rfl rfl (congrArg (fun z9 => Value.int z9 :: []) (congrArg (M.2.2.2.1 9) (g_cl (by omega)))) rfl ?_
  refine a_if_ge 29 26 rfl dX12_keep_23 (by decide) (fun _ => ?_) (fun hc => absurd ((by rw [h0]; exact nI_pos' (by omega))) hc)
  refine a_iload_n 2 30 rfl dX12_keep_29 rfl rfl ?_
  refine a_i2l 31 rfl dX12_keep_30 ?_
  refine a_lconst (x := 0) 32 rfl dX12_keep_31 (by decide) ?_
  refine a_aload_n 0 33 rfl dX12_keep_32 rfl rfl ?_
  refine a_get 31 cl_11 f_RX12_62_11 (by decide) (rfl) rfl 36 rfl dX12_keep_33 ?_
  refine a_iload_n 1 37 rfl dX12_keep_36 rfl rfl ?_
  refine a_iald (rfl) (vp_in_nI (n := s) (by omega) (by omega)) 38 rfl dX12_keep_37 ?_
  refine a_eq (st2 := [.int ((M.2.2.2.1 10) s), .long 0, .long ((nI i).toInt64)]) rfl rfl (congrArg (fun z9 => Value.int z9 :: [.long 0, .long ((nI i).toInt64)]) (congrArg (M.2.2.2.1 10) (g_cl (by omega)))) rfl ?_
  refine a_iconst (x := 1) 39 rfl dX12_keep_38 (by decide) ?_
  refine a_isub 40 rfl dX12_keep_39 ?_
  refine a_i2l 41 rfl dX12_keep_40 ?_
  refine a_callS (as := [.long ((nI i).toInt64), .long 0, .long ((((M.2.2.2.1 10) s) - 1).toInt64)]) (rest := []) (st2 := [.int (f_i (decide ((0 : Int32) ≤ (nI i) ∧ (nI i) ≤ (((M.2.2.2.1 10) s) - 1))))]) (u1 := 0) (v1 := 0) (u2 := 0) (v2 := 0) (r_isInB (y := (nI i)) (a := 0) (b := (((M.2.2.2.1 10) s) - 1)) rfl rfl) oX12_isIn q_1242 q_1243 rfl (by omega) (by decide) rfl (Nat.le_of_ble_eq_true rfl) 44 rfl dX12_keep_41 rfl ?_
  refine a_if_ne 50 47 rfl dX12_keep_44 (by decide) (fun _ => ?_) (fun hc => absurd hc (f_i_T (decide_eq_true hy)))
  refine a_aload_n 0 51 rfl dX12_keep_50 rfl rfl ?_
  refine a_get 30 cl_11 f_RX12_59_11 (by decide) (rfl) rfl 54 rfl dX12_keep_51 ?_
  refine a_iload_n 1 55 rfl dX12_keep_54 rfl rfl ?_
  refine a_iald (rfl) (vp_in_nI (n := s) (by omega) (by omega)) 56 rfl dX12_keep_55 ?_
  refine a_eq (st2 := [.int ((M.2.2.2.1 9) s)]) rfl rfl (congrArg (fun z9 => Value.int z9 :: []) (congrArg (M.2.2.2.1 9) (g_cl (by omega)))) rfl ?_
  refine a_aload_n 0 57 rfl dX12_keep_56 rfl rfl ?_
  refine a_get 4 cl_11 f_RX12_15_11 (by decide) (rfl) rfl 60 rfl dX12_keep_57 ?_
  refine a_iload_n 3 61 rfl dX12_keep_60 rfl rfl ?_
  refine a_iald (rfl) (vp_in_nI (n := j) (by omega) (by omega)) 62 rfl dX12_keep_61 ?_
  refine a_eq (st2 := [.int ((M.2.2.2.1 0) j), .int ((M.2.2.2.1 9) s)]) rfl rfl (congrArg (fun z9 => Value.int z9 :: [.int ((M.2.2.2.1 9) s)]) (congrArg (M.2.2.2.1 0) (g_cl (by omega)))) rfl ?_
  refine a_callS (as := [.int ((M.2.2.2.1 9) s), .int ((M.2.2.2.1 0) j)]) (rest := []) (st2 := [.int (f_i (f_may so k))]) (u1 := 0) (v1 := 0) (u2 := 0) (v2 := 0) (r_mayM h0 hk hso hk6) oX12_mayBe q_1587 q_1588 rfl (by omega) (by decide) rfl (Nat.le_of_ble_eq_true rfl) 65 rfl dX12_keep_62 rfl ?_
  refine a_if_ne 71 68 rfl dX12_keep_65 (by decide) (fun hc => absurd (f_i_F hb) hc) (fun _ => ?_)
  refine a_bipush (x := (-12)) 70 rfl dX12_keep_68 (by decide) ?_
  exact a_ireturn .int rfl rfl (rfl) (rfl) dX12_keep_70
theorem r_keM_ok (hs : s < 3) (hm : M.1 1 ≤ 8) (hj : j < M.1 1) (hi6 : i < 6) (h0 : M.2.2.2.1 9 s = nI so) (hso : so < 3) (hy : (0 : Int32) ≤ nI i ∧ nI i ≤ M.2.2.2.1 10 s - 1) (hk : M.2.2.2.1 0 j = nI k) (hk6 : k < 6) (hb : f_may so k = true) : g_Run G mX12_keep 6 0 0 [.ref (g_ad G 38), .int (nI s), .int (nI i), .int (nI j)] (g_hp G C (g_hm G M ++ ob)) (some (.int 1)) (g_hp G C (g_hm G (f_kpM M s i j) ++ ob)) := by
  have hcl : (nI (6 * s + i)).toNatClampNeg = 6 * s + i := g_cl (by omega)
  refine g_Run.of (lv := [(0, .ref (g_ad G 38)), (1, .int (nI s)), (2, .int (nI i)), (3, .int (nI j))]) (by decide) (Nat.le_of_ble_eq_true rfl) rfl ?_
  refine a_iload_n 1 1 rfl dX12_keep_0 rfl rfl ?_
  refine a_callS (as := [.int (nI s)]) (rest := []) (st2 := [.int (f_i (decide ((0:Int32) ≤ nI s ∧ nI s ≤ 2)))]) (u1 := 0) (v1 := 0) (u2 := 0) (v2 := 0) (r_isShM) oX12_isShelf q_1580 q_1581 rfl (by omega) (by decide) rfl (Nat.le_of_ble_eq_true rfl) 4 rfl dX12_keep_1 rfl ?_
  refine a_if_eq 15 7 rfl dX12_keep_4 (by decide) (fun hc => absurd hc (f_i_T (f_or2 hs))) (fun _ => ?_)
  refine a_aload_n 0 8 rfl dX12_keep_7 rfl rfl ?_
  refine a_iload_n 3 9 rfl dX12_keep_8 rfl rfl ?_
  refine a_callV (as := [.int (nI j)]) (rest := []) (st2 := [.int 1]) (u1 := 0) (v1 := 0) (u2 := 0) (v2 := 0) (r_isFam_in hm hj) (⟨_, _, _, _, rfl, rfl⟩) oX12_isFamily q_1273 q_1275 q_87 rfl (by omega) (by decide) rfl (Nat.le_of_ble_eq_true rfl) 12 rfl dX12_keep_9 rfl ?_
  refine a_if_ne 17 15 rfl dX12_keep_12 (by decide) (fun _ => ?_) (fun hc => absurd hc ((by decide)))
  refine a_aload_n 0 18 rfl dX12_keep_17 rfl rfl ?_
  refine a_get 30 cl_11 f_RX12_59_11 (by decide) (rfl) rfl 21 rfl dX12_keep_18 ?_
  refine a_iload_n 1 22 rfl dX12_keep_21 rfl rfl ?_
  refine a_iald (rfl) (vp_in_nI (n := s) (by omega) (by omega)) 23 rfl dX12_keep_22 ?_
  refine a_eq (st2 := [.int ((M.2.2.2.1 9) s)]) rfl rfl (congrArg (fun z9 => Value.int z9 :: []) (congrArg (M.2.2.2.1 9) (g_cl (by omega)))) rfl ?_
  refine a_if_ge 29 26 rfl dX12_keep_23 (by decide) (fun _ => ?_) (fun hc => absurd ((by rw [h0]; exact nI_pos' (by omega))) hc)
  refine a_iload_n 2 30 rfl dX12_keep_29 rfl rfl ?_
  refine a_i2l 31 rfl dX12_keep_30 ?_
  refine a_lconst (x := 0) 32 rfl dX12_keep_31 (by decide) ?_
  refine a_aload_n 0 33 rfl dX12_keep_32 rfl rfl ?_
  refine a_get 31 cl_11 f_RX12_62_11 (by decide) (rfl) rfl 36 rfl dX12_keep_33 ?_
  refine a_iload_n 1 37 rfl dX12_keep_36 rfl rfl ?_
  refine a_iald (rfl) (vp_in_nI (n := s) (by omega) (by omega)) 38 rfl dX12_keep_37 ?_
  refine a_eq (st2 := [.int ((M.2.2.2.1 10) s), .long 0, .long ((nI i).toInt64)]) rfl rfl (congrArg (fun z9 => Value.int z9 :: [.long 0, .long ((nI i).toInt64)]) (congrArg (M.2.2.2.1 10) (g_cl (by omega)))) rfl ?_
  refine a_iconst (x := 1) 39 rfl dX12_keep_38 (by decide) ?_
  refine a_isub 40 rfl dX12_keep_39 ?_
  refine a_i2l 41 rfl dX12_keep_40 ?_
  refine a_callS (as := [.long ((nI i).toInt64), .long 0, .long ((((M.2.2.2.1 10) s) - 1).toInt64)]) (rest := []) (st2 := [.int (f_i (decide ((0 : Int32) ≤ (nI i) ∧ (nI i) ≤ (((M.2.2.2.1 10) s) - 1))))]) (u1 := 0) (v1 := 0) (u2 := 0) (v2 := 0) (r_isInB (y := (nI i)) (a := 0) (b := (((M.2.2.2.1 10) s) - 1)) rfl rfl) oX12_isIn q_1242 q_1243 rfl (by omega) (by decide) rfl (Nat.le_of_ble_eq_true rfl) 44 rfl dX12_keep_41 rfl ?_
  refine a_if_ne 50 47 rfl dX12_keep_44 (by decide) (fun _ => ?_) (fun hc => absurd hc (f_i_T (decide_eq_true hy)))
  refine a_aload_n 0 51 rfl dX12_keep_50 rfl rfl ?_
  refine a_get 30 cl_11 f_RX12_59_11 (by decide) (rfl) rfl 54 rfl dX12_keep_51 ?_
  refine a_iload_n 1 55 rfl dX12_keep_54 rfl rfl ?_
  refine a_iald (rfl) (vp_in_nI (n := s) (by omega) (by omega)) 56 rfl dX12_keep_55 ?_
  refine a_eq (st2 := [.int ((M.2.2.2.1 9) s)]) rfl rfl (congrArg (fun z9 => Value.int z9 :: []) (congrArg (M.2.2.2.1 9) (g_cl (by omega)))) rfl ?_
  refine a_aload_n 0 57 rfl dX12_keep_56 rfl rfl ?_
  refine a_get 4 cl_11 f_RX12_15_11 (by decide) (rfl) rfl 60 rfl dX12_keep_57 ?_
  refine a_iload_n 3 61 rfl dX12_keep_60 rfl rfl ?_
  refine a_iald (rfl) (vp_in_nI (n := j) (by omega) (by omega)) 62 rfl dX12_keep_61 ?_
  refine a_eq (st2 := [.int ((M.2.2.2.1 0) j), .int ((M.2.2.2.1 9) s)]) rfl rfl (congrArg (fun z9 => Value.int z9 :: [.int ((M.2.2.2.1 9) s)]) (congrArg (M.2.2.2.1 0) (g_cl (by omega)))) rfl ?_
  refine a_callS (as := [.int ((M.2.2.2.1 9) s), .int ((M.2.2.2.1 0) j)]) (rest := []) (st2 := [.int (f_i (f_may so k))]) (u1 := 0) (v1 := 0) (u2 := 0) (v2 := 0) (r_mayM h0 hk hso hk6) oX12_mayBe q_1587 q_1588 rfl (by omega) (by decide) rfl (Nat.le_of_ble_eq_true rfl) 65 rfl dX12_keep_62 rfl ?_
  refine a_if_ne 71 68 rfl dX12_keep_65 (by decide) (fun _ => ?_) (fun hc => absurd hc (f_i_T hb))
  refine a_aload_n 0 72 rfl dX12_keep_71 rfl rfl ?_
  refine a_get 32 cl_11 f_RX12_65_11 (by decide) (rfl) rfl 75 rfl dX12_keep_72 ?_
  refine a_bipush (x := 6) 77 rfl dX12_keep_75 (by decide) ?_
  refine a_iload_n 1 78 rfl dX12_keep_77 rfl rfl ?_
  refine a_imul 79 rfl dX12_keep_78 ?_
  refine a_eq (st2 := [.int (nI (6 * s)), .ref (g_ad G 53)]) rfl rfl (congrArg (fun z9 => Value.int z9 :: [.ref (g_ad G 53)]) (pk_mul 6 s)) rfl ?_
  refine a_iload_n 2 80 rfl dX12_keep_79 rfl rfl ?_
  refine a_iadd 81 rfl dX12_keep_80 ?_
  refine a_eq (st2 := [.int (nI ((6 * s) + i)), .ref (g_ad G 53)]) rfl rfl (congrArg (fun z9 => Value.int z9 :: [.ref (g_ad G 53)]) (nI_add (6 * s) i)) rfl ?_
  refine a_aload_n 0 82 rfl dX12_keep_81 rfl rfl ?_
  refine a_get 4 cl_11 f_RX12_15_11 (by decide) (rfl) rfl 85 rfl dX12_keep_82 ?_
  refine a_iload_n 3 86 rfl dX12_keep_85 rfl rfl ?_
  refine a_iald (rfl) (vp_in_nI (n := j) (by omega) (by omega)) 87 rfl dX12_keep_86 ?_
  refine a_eq (st2 := [.int ((M.2.2.2.1 0) j), .int (nI ((6 * s) + i)), .ref (g_ad G 53)]) rfl rfl (congrArg (fun z9 => Value.int z9 :: [.int (nI ((6 * s) + i)), .ref (g_ad G 53)]) (congrArg (M.2.2.2.1 0) (g_cl (by omega)))) rfl ?_
  refine a_iast (rfl) (vp_in_nI (n := ((6 * s) + i)) (by omega) (by omega)) 88 rfl dX12_keep_87 ?_
  refine a_eq (h2 := g_hp G C (g_hm G (f_mI M 11 (upd (M.2.2.2.1 11) (6 * s + i) (M.2.2.2.1 0 j))) ++ ob)) rfl rfl rfl (by show (((g_hp G C (g_hm G M ++ ob)).set 53 (c_I G 18 (upd (M.2.2.2.1 11) (nI ((6 * s) + i)).toNatClampNeg ((M.2.2.2.1 0) j)))) : List va_E) = _; rw [hcl]; rfl) ?_
  refine a_aload_n 0 89 rfl dX12_keep_88 rfl rfl ?_
  refine a_get 33 cl_11 f_RX12_68_11 (by decide) (rfl) rfl 92 rfl dX12_keep_89 ?_
  refine a_bipush (x := 6) 94 rfl dX12_keep_92 (by decide) ?_
  refine a_iload_n 1 95 rfl dX12_keep_94 rfl rfl ?_
  refine a_imul 96 rfl dX12_keep_95 ?_
  refine a_eq (st2 := [.int (nI (6 * s)), .ref (g_ad G 54)]) rfl rfl (congrArg (fun z9 => Value.int z9 :: [.ref (g_ad G 54)]) (pk_mul 6 s)) rfl ?_
  refine a_iload_n 2 97 rfl dX12_keep_96 rfl rfl ?_
  refine a_iadd 98 rfl dX12_keep_97 ?_
  refine a_eq (st2 := [.int (nI ((6 * s) + i)), .ref (g_ad G 54)]) rfl rfl (congrArg (fun z9 => Value.int z9 :: [.ref (g_ad G 54)]) (nI_add (6 * s) i)) rfl ?_
  refine a_aload_n 0 99 rfl dX12_keep_98 rfl rfl ?_
  refine a_get 5 cl_11 f_RX12_19_11 (by decide) (rfl) rfl 102 rfl dX12_keep_99 ?_
  refine a_iload_n 3 103 rfl dX12_keep_102 rfl rfl ?_
  refine a_iald (rfl) (vp_in_nI (n := j) (by omega) (by omega)) 104 rfl dX12_keep_103 ?_
  refine a_eq (st2 := [.int ((M.2.2.2.1 1) j), .int (nI ((6 * s) + i)), .ref (g_ad G 54)]) rfl rfl (congrArg (fun z9 => Value.int z9 :: [.int (nI ((6 * s) + i)), .ref (g_ad G 54)]) (congrArg (M.2.2.2.1 1) (g_cl (by omega)))) rfl ?_
  refine a_iast (rfl) (vp_in_nI (n := ((6 * s) + i)) (by omega) (by omega)) 105 rfl dX12_keep_104 ?_
  refine a_eq (h2 := g_hp G C (g_hm G (f_mI (f_mI M 11 (upd (M.2.2.2.1 11) (6 * s + i) (M.2.2.2.1 0 j))) 12 (upd (M.2.2.2.1 12) (6 * s + i) (M.2.2.2.1 1 j))) ++ ob)) rfl rfl rfl (by show (((g_hp G C (g_hm G (f_mI M 11 (upd (M.2.2.2.1 11) (6 * s + i) (M.2.2.2.1 0 j))) ++ ob)).set 54 (c_I G 18 (upd (M.2.2.2.1 12) (nI ((6 * s) + i)).toNatClampNeg ((M.2.2.2.1 1) j)))) : List va_E) = _; rw [hcl]; rfl) ?_
  refine a_aload_n 0 106 rfl dX12_keep_105 rfl rfl ?_
  refine a_get 36 cl_11 f_RX12_77_11 (by decide) (rfl) rfl 109 rfl dX12_keep_106 ?_
  refine a_bipush (x := 6) 111 rfl dX12_keep_109 (by decide) ?_
  refine a_iload_n 1 112 rfl dX12_keep_111 rfl rfl ?_
  refine a_imul 113 rfl dX12_keep_112 ?_
  refine a_eq (st2 := [.int (nI (6 * s)), .ref (g_ad G 57)]) rfl rfl (congrArg (fun z9 => Value.int z9 :: [.ref (g_ad G 57)]) (pk_mul 6 s)) rfl ?_
  refine a_iload_n 2 114 rfl dX12_keep_113 rfl rfl ?_
  refine a_iadd 115 rfl dX12_keep_114 ?_
  refine a_eq (st2 := [.int (nI ((6 * s) + i)), .ref (g_ad G 57)]) rfl rfl (congrArg (fun z9 => Value.int z9 :: [.ref (g_ad G 57)]) (nI_add (6 * s) i)) rfl ?_
  refine a_aload_n 0 116 rfl dX12_keep_115 rfl rfl ?_
  refine a_get 8 cl_11 f_RX12_28_11 (by decide) (rfl) rfl 119 rfl dX12_keep_116 ?_
  refine a_iload_n 3 120 rfl dX12_keep_119 rfl rfl ?_
  refine a_lald (rfl) (vp_in_nI (n := j) (by omega) (by omega)) 121 rfl dX12_keep_120 ?_
  refine a_eq (st2 := [.long ((M.2.2.2.2 0) j), .int (nI ((6 * s) + i)), .ref (g_ad G 57)]) rfl rfl (congrArg (fun z9 => Value.long z9 :: [.int (nI ((6 * s) + i)), .ref (g_ad G 57)]) (congrArg (M.2.2.2.2 0) (g_cl (by omega)))) rfl ?_
  refine a_last (rfl) (vp_in_nI (n := ((6 * s) + i)) (by omega) (by omega)) 122 rfl dX12_keep_121 ?_
  refine a_eq (h2 := g_hp G C (g_hm G (f_mL (f_mI (f_mI M 11 (upd (M.2.2.2.1 11) (6 * s + i) (M.2.2.2.1 0 j))) 12 (upd (M.2.2.2.1 12) (6 * s + i) (M.2.2.2.1 1 j))) 3 (vp_updL (M.2.2.2.2 3) (6 * s + i) (M.2.2.2.2 0 j))) ++ ob)) rfl rfl rfl (by show (((g_hp G C (g_hm G (f_mI (f_mI M 11 (upd (M.2.2.2.1 11) (6 * s + i) (M.2.2.2.1 0 j))) 12 (upd (M.2.2.2.1 12) (6 * s + i) (M.2.2.2.1 1 j))) ++ ob)).set 57 (c_L G 18 (vp_updL (M.2.2.2.2 3) (nI ((6 * s) + i)).toNatClampNeg ((M.2.2.2.2 0) j)))) : List va_E) = _; rw [hcl]; rfl) ?_
  refine a_iconst (x := 1) 123 rfl dX12_keep_122 (by decide) ?_
  exact a_ireturn .int rfl rfl (rfl) (rfl) dX12_keep_123
theorem r_ktM_b0 (hy : ¬ ((0 : Int32) ≤ y ∧ y ≤ 2)) : g_Run G mX12_kept 6 0 0 [.ref (g_ad G 38), .int y, .int y2] (g_hp G C (g_hm G M ++ ob)) (some (.long (-9223372036854775808))) (g_hp G C (g_hm G M ++ ob)) := by
  refine g_Run.of (lv := [(0, .ref (g_ad G 38)), (1, .int y), (2, .int y2)]) (by decide) (Nat.le_of_ble_eq_true rfl) rfl ?_
  refine a_iload_n 1 1 rfl dX12_kept_0 rfl rfl ?_
  refine a_callS (as := [.int y]) (rest := []) (st2 := [.int (f_i (decide ((0:Int32) ≤ y ∧ y ≤ 2)))]) (u1 := 0) (v1 := 0) (u2 := 0) (v2 := 0) (r_isShM) oX12_isShelf q_1580 q_1581 rfl (by omega) (by decide) rfl (Nat.le_of_ble_eq_true rfl) 4 rfl dX12_kept_1 rfl ?_
  refine a_if_eq 39 7 rfl dX12_kept_4 (by decide) (fun _ => ?_) (fun hc => absurd (f_i_F (decide_eq_false hy)) hc)
  refine a_ldc2 q_1295 42 rfl dX12_kept_39 ?_
  exact a_lreturn rfl (rfl) (rfl) dX12_kept_42
theorem r_ktM_b1 (hs : s < 3) (hy : ¬ ((0 : Int32) ≤ y2 ∧ y2 ≤ M.2.2.2.1 10 s - 1)) : g_Run G mX12_kept 6 0 0 [.ref (g_ad G 38), .int (nI s), .int y2] (g_hp G C (g_hm G M ++ ob)) (some (.long (-9223372036854775808))) (g_hp G C (g_hm G M ++ ob)) := by
  refine g_Run.of (lv := [(0, .ref (g_ad G 38)), (1, .int (nI s)), (2, .int y2)]) (by decide) (Nat.le_of_ble_eq_true rfl) rfl ?_
  refine a_iload_n 1 1 rfl dX12_kept_0 rfl rfl ?_
  refine a_callS (as := [.int (nI s)]) (rest := []) (st2 := [.int (f_i (decide ((0:Int32) ≤ nI s ∧ nI s ≤ 2)))]) (u1 := 0) (v1 := 0) (u2 := 0) (v2 := 0) (r_isShM) oX12_isShelf q_1580 q_1581 rfl (by omega) (by decide) rfl (Nat.le_of_ble_eq_true rfl) 4 rfl dX12_kept_1 rfl ?_
  refine a_if_eq 39 7 rfl dX12_kept_4 (by decide) (fun hc => absurd hc (f_i_T (f_or2 hs))) (fun _ => ?_)
  refine a_iload_n 2 8 rfl dX12_kept_7 rfl rfl ?_
  refine a_i2l 9 rfl dX12_kept_8 ?_
  refine a_lconst (x := 0) 10 rfl dX12_kept_9 (by decide) ?_
  refine a_aload_n 0 11 rfl dX12_kept_10 rfl rfl ?_
  refine a_get 31 cl_11 f_RX12_62_11 (by decide) (rfl) rfl 14 rfl dX12_kept_11 ?_
  refine a_iload_n 1 15 rfl dX12_kept_14 rfl rfl ?_
  refine a_iald (rfl) (vp_in_nI (n := s) (by omega) (by omega)) 16 rfl dX12_kept_15 ?_
  refine a_eq (st2 := [.int ((M.2.2.2.1 10) s), .long 0, .long y2.toInt64]) rfl rfl (congrArg (fun z9 => Value.int z9 :: [.long 0, .long y2.toInt64]) (congrArg (M.2.2.2.1 10) (g_cl (by omega)))) rfl ?_
  refine a_iconst (x := 1) 17 rfl dX12_kept_16 (by decide) ?_
  refine a_isub 18 rfl dX12_kept_17 ?_
  refine a_i2l 19 rfl dX12_kept_18 ?_
  refine a_callS (as := [.long y2.toInt64, .long 0, .long ((((M.2.2.2.1 10) s) - 1).toInt64)]) (rest := []) (st2 := [.int (f_i (decide ((0 : Int32) ≤ y2 ∧ y2 ≤ (((M.2.2.2.1 10) s) - 1))))]) (u1 := 0) (v1 := 0) (u2 := 0) (v2 := 0) (r_isInB (y := y2) (a := 0) (b := (((M.2.2.2.1 10) s) - 1)) rfl rfl) oX12_isIn q_1242 q_1243 rfl (by omega) (by decide) rfl (Nat.le_of_ble_eq_true rfl) 22 rfl dX12_kept_19 rfl ?_
  refine a_if_eq 39 25 rfl dX12_kept_22 (by decide) (fun _ => ?_) (fun hc => absurd (f_i_F (decide_eq_false hy)) hc)
  refine a_ldc2 q_1295 42 rfl dX12_kept_39 ?_
  exact a_lreturn rfl (rfl) (rfl) dX12_kept_42
theorem r_ktM_none (hs : s < 3) (hi6 : i < 6) (hy : (0 : Int32) ≤ nI i ∧ nI i ≤ M.2.2.2.1 10 s - 1) (hk : ¬ 0 ≤ M.2.2.2.1 11 (6 * s + i)) : g_Run G mX12_kept 6 0 0 [.ref (g_ad G 38), .int (nI s), .int (nI i)] (g_hp G C (g_hm G M ++ ob)) (some (.long (-9223372036854775808))) (g_hp G C (g_hm G M ++ ob)) := by
  refine g_Run.of (lv := [(0, .ref (g_ad G 38)), (1, .int (nI s)), (2, .int (nI i))]) (by decide) (Nat.le_of_ble_eq_true rfl) rfl ?_
  refine a_iload_n 1 1 rfl dX12_kept_0 rfl rfl ?_
  refine a_callS (as := [.int (nI s)]) (rest := []) (st2 := [.int (f_i (decide ((0:Int32) ≤ nI s ∧ nI s ≤ 2)))]) (u1 := 0) (v1 := 0) (u2 := 0) (v2 := 0) (r_isShM) oX12_isShelf q_1580 q_1581 rfl (by omega) (by decide) rfl (Nat.le_of_ble_eq_true rfl) 4 rfl dX12_kept_1 rfl ?_
  refine a_if_eq 39 7 rfl dX12_kept_4 (by decide) (fun hc => absurd hc (f_i_T (f_or2 hs))) (fun _ => ?_)
  refine a_iload_n 2 8 rfl dX12_kept_7 rfl rfl ?_
  refine a_i2l 9 rfl dX12_kept_8 ?_
  refine a_lconst (x := 0) 10 rfl dX12_kept_9 (by decide) ?_
  refine a_aload_n 0 11 rfl dX12_kept_10 rfl rfl ?_
  refine a_get 31 cl_11 f_RX12_62_11 (by decide) (rfl) rfl 14 rfl dX12_kept_11 ?_
  refine a_iload_n 1 15 rfl dX12_kept_14 rfl rfl ?_
  refine a_iald (rfl) (vp_in_nI (n := s) (by omega) (by omega)) 16 rfl dX12_kept_15 ?_
  refine a_eq (st2 := [.int ((M.2.2.2.1 10) s), .long 0, .long ((nI i).toInt64)]) rfl rfl (congrArg (fun z9 => Value.int z9 :: [.long 0, .long ((nI i).toInt64)]) (congrArg (M.2.2.2.1 10) (g_cl (by omega)))) rfl ?_
  refine a_iconst (x := 1) 17 rfl dX12_kept_16 (by decide) ?_
  refine a_isub 18 rfl dX12_kept_17 ?_
  refine a_i2l 19 rfl dX12_kept_18 ?_
  refine a_callS (as := [.long ((nI i).toInt64), .long 0, .long ((((M.2.2.2.1 10) s) - 1).toInt64)]) (rest := []) (st2 := [.int (f_i (decide ((0 : Int32) ≤ (nI i) ∧ (nI i) ≤ (((M.2.2.2.1 10) s) - 1))))]) (u1 := 0) (v1 := 0) (u2 := 0) (v2 := 0) (r_isInB (y := (nI i)) (a := 0) (b := (((M.2.2.2.1 10) s) - 1)) rfl rfl) oX12_isIn q_1242 q_1243 rfl (by omega) (by decide) rfl (Nat.le_of_ble_eq_true rfl) 22 rfl dX12_kept_19 rfl ?_
  refine a_if_eq 39 25 rfl dX12_kept_22 (by decide) (fun hc => absurd hc (f_i_T (decide_eq_true hy))) (fun _ => ?_)
  refine a_aload_n 0 26 rfl dX12_kept_25 rfl rfl ?_
  refine a_get 32 cl_11 f_RX12_65_11 (by decide) (rfl) rfl 29 rfl dX12_kept_26 ?_
  refine a_bipush (x := 6) 31 rfl dX12_kept_29 (by decide) ?_
  refine a_iload_n 1 32 rfl dX12_kept_31 rfl rfl ?_
  refine a_imul 33 rfl dX12_kept_32 ?_
  refine a_eq (st2 := [.int (nI (6 * s)), .ref (g_ad G 53)]) rfl rfl (congrArg (fun z9 => Value.int z9 :: [.ref (g_ad G 53)]) (pk_mul 6 s)) rfl ?_
  refine a_iload_n 2 34 rfl dX12_kept_33 rfl rfl ?_
  refine a_iadd 35 rfl dX12_kept_34 ?_
  refine a_eq (st2 := [.int (nI ((6 * s) + i)), .ref (g_ad G 53)]) rfl rfl (congrArg (fun z9 => Value.int z9 :: [.ref (g_ad G 53)]) (nI_add (6 * s) i)) rfl ?_
  refine a_iald (rfl) (vp_in_nI (n := ((6 * s) + i)) (by omega) (by omega)) 36 rfl dX12_kept_35 ?_
  refine a_eq (st2 := [.int ((M.2.2.2.1 11) ((6 * s) + i))]) rfl rfl (congrArg (fun z9 => Value.int z9 :: []) (congrArg (M.2.2.2.1 11) (g_cl (by omega)))) rfl ?_
  refine a_if_ge 43 39 rfl dX12_kept_36 (by decide) (fun hc => absurd hc (hk)) (fun _ => ?_)
  refine a_ldc2 q_1295 42 rfl dX12_kept_39 ?_
  exact a_lreturn rfl (rfl) (rfl) dX12_kept_42
theorem r_ktM {g : Nat} {t : Int64} (hs : s < 3) (hi6 : i < 6) (hn : M.1 0 ≤ 6) (hy : (0 : Int32) ≤ nI i ∧ nI i ≤ M.2.2.2.1 10 s - 1) (hk : M.2.2.2.1 11 (6 * s + i) = nI k) (hk6 : k < 6) (hg : M.2.2.2.1 12 (6 * s + i) = nI g) (hg9 : g < 10) (ht : M.2.2.2.2 3 (6 * s + i) = t) : g_Run G mX12_kept 6 0 0 [.ref (g_ad G 38), .int (nI s), .int (nI i)] (g_hp G C (g_hm G M ++ ob)) (some (.long (f_sB k (M.1 0) g t))) (g_hp G C (g_hm G M ++ ob)) := by
  have w : g_Run G mX12_setsBy 3 0 0 [.ref (g_ad G 38), .int (nI k), .int (nI g), .long t] (g_hp G C (g_hm G M ++ ob)) (some (.long (f_sB k (M.1 0) g t))) (g_hp G C (g_hm G M ++ ob)) := by
    match k, hk6 with
    | 0, _ => exact r_setsBy0 hn hg9
    | 1, _ => exact r_setsBy1 hn hg9
    | 2, _ => exact r_setsBy2 hn hg9
    | 3, _ => exact r_setsBy3 hn hg9
    | 4, _ => exact r_setsBy4 hn hg9
    | 5, _ => exact r_setsBy5 hn hg9
  refine g_Run.of (lv := [(0, .ref (g_ad G 38)), (1, .int (nI s)), (2, .int (nI i))]) (by decide) (Nat.le_of_ble_eq_true rfl) rfl ?_
  refine a_iload_n 1 1 rfl dX12_kept_0 rfl rfl ?_
  refine a_callS (as := [.int (nI s)]) (rest := []) (st2 := [.int (f_i (decide ((0:Int32) ≤ nI s ∧ nI s ≤ 2)))]) (u1 := 0) (v1 := 0) (u2 := 0) (v2 := 0) (r_isShM) oX12_isShelf q_1580 q_1581 rfl (by omega) (by decide) rfl (Nat.le_of_ble_eq_true rfl) 4 rfl dX12_kept_1 rfl ?_
  refine a_if_eq 39 7 rfl dX12_kept_4 (by decide) (fun hc => absurd hc (f_i_T (f_or2 hs))) (fun _ => ?_)
  refine a_iload_n 2 8 rfl dX12_kept_7 rfl rfl ?_
  refine a_i2l 9 rfl dX12_kept_8 ?_
  refine a_lconst (x := 0) 10 rfl dX12_kept_9 (by decide) ?_
  refine a_aload_n 0 11 rfl dX12_kept_10 rfl rfl ?_
  refine a_get 31 cl_11 f_RX12_62_11 (by decide) (rfl) rfl 14 rfl dX12_kept_11 ?_
  refine a_iload_n 1 15 rfl dX12_kept_14 rfl rfl ?_
  refine a_iald (rfl) (vp_in_nI (n := s) (by omega) (by omega)) 16 rfl dX12_kept_15 ?_
  refine a_eq (st2 := [.int ((M.2.2.2.1 10) s), .long 0, .long ((nI i).toInt64)]) rfl rfl (congrArg (fun z9 => Value.int z9 :: [.long 0, .long ((nI i).toInt64)]) (congrArg (M.2.2.2.1 10) (g_cl (by omega)))) rfl ?_
  refine a_iconst (x := 1) 17 rfl dX12_kept_16 (by decide) ?_
  refine a_isub 18 rfl dX12_kept_17 ?_
  refine a_i2l 19 rfl dX12_kept_18 ?_
  refine a_callS (as := [.long ((nI i).toInt64), .long 0, .long ((((M.2.2.2.1 10) s) - 1).toInt64)]) (rest := []) (st2 := [.int (f_i (decide ((0 : Int32) ≤ (nI i) ∧ (nI i) ≤ (((M.2.2.2.1 10) s) - 1))))]) (u1 := 0) (v1 := 0) (u2 := 0) (v2 := 0) (r_isInB (y := (nI i)) (a := 0) (b := (((M.2.2.2.1 10) s) - 1)) rfl rfl) oX12_isIn q_1242 q_1243 rfl (by omega) (by decide) rfl (Nat.le_of_ble_eq_true rfl) 22 rfl dX12_kept_19 rfl ?_
  refine a_if_eq 39 25 rfl dX12_kept_22 (by decide) (fun hc => absurd hc (f_i_T (decide_eq_true hy))) (fun _ => ?_)
  refine a_aload_n 0 26 rfl dX12_kept_25 rfl rfl ?_
  refine a_get 32 cl_11 f_RX12_65_11 (by decide) (rfl) rfl 29 rfl dX12_kept_26 ?_
  refine a_bipush (x := 6) 31 rfl dX12_kept_29 (by decide) ?_
  refine a_iload_n 1 32 rfl dX12_kept_31 rfl rfl ?_
  refine a_imul 33 rfl dX12_kept_32 ?_
  refine a_eq (st2 := [.int (nI (6 * s)), .ref (g_ad G 53)]) rfl rfl (congrArg (fun z9 => Value.int z9 :: [.ref (g_ad G 53)]) (pk_mul 6 s)) rfl ?_
  refine a_iload_n 2 34 rfl dX12_kept_33 rfl rfl ?_
  refine a_iadd 35 rfl dX12_kept_34 ?_
  refine a_eq (st2 := [.int (nI ((6 * s) + i)), .ref (g_ad G 53)]) rfl rfl (congrArg (fun z9 => Value.int z9 :: [.ref (g_ad G 53)]) (nI_add (6 * s) i)) rfl ?_
  refine a_iald (rfl) (vp_in_nI (n := ((6 * s) + i)) (by omega) (by omega)) 36 rfl dX12_kept_35 ?_
  refine a_eq (st2 := [.int ((M.2.2.2.1 11) ((6 * s) + i))]) rfl rfl (congrArg (fun z9 => Value.int z9 :: []) (congrArg (M.2.2.2.1 11) (g_cl (by omega)))) rfl ?_
  refine a_if_ge 43 39 rfl dX12_kept_36 (by decide) (fun _ => ?_) (fun hc => absurd ((by rw [hk]; exact nI_pos' (by omega))) hc)
  refine a_bipush (x := 6) 45 rfl dX12_kept_43 (by decide) ?_
  refine a_iload_n 1 46 rfl dX12_kept_45 rfl rfl ?_
  refine a_imul 47 rfl dX12_kept_46 ?_
  refine a_eq (st2 := [.int (nI (6 * s))]) rfl rfl (congrArg (fun z9 => Value.int z9 :: []) (pk_mul 6 s)) rfl ?_
  refine a_iload_n 2 48 rfl dX12_kept_47 rfl rfl ?_
  refine a_iadd 49 rfl dX12_kept_48 ?_
  refine a_eq (st2 := [.int (nI ((6 * s) + i))]) rfl rfl (congrArg (fun z9 => Value.int z9 :: []) (nI_add (6 * s) i)) rfl ?_
  refine a_istore_n (lv' := [(3, .int (nI ((6 * s) + i))), (0, .ref (g_ad G 38)), (1, .int (nI s)), (2, .int (nI i))]) 50 rfl dX12_kept_49 rfl (by decide) rfl ?_
  refine a_aload_n 1 51 rfl dX12_kept_50 rfl rfl ?_
  refine a_aload_n 1 52 rfl dX12_kept_51 rfl rfl ?_
  refine a_get 32 cl_11 f_RX12_65_11 (by decide) (rfl) rfl 55 rfl dX12_kept_52 ?_
  refine a_iload_n 0 56 rfl dX12_kept_55 rfl rfl ?_
  refine a_iald (rfl) (vp_in_nI (n := ((6 * s) + i)) (by omega) (by omega)) 57 rfl dX12_kept_56 ?_
  refine a_eq (st2 := [.int ((M.2.2.2.1 11) ((6 * s) + i)), .ref (g_ad G 38)]) rfl rfl (congrArg (fun z9 => Value.int z9 :: [.ref (g_ad G 38)]) (congrArg (M.2.2.2.1 11) (g_cl (by omega)))) rfl ?_
  refine a_eq (st2 := [.int (nI k), .ref (g_ad G 38)]) rfl rfl (congrArg (fun z9 => Value.int z9 :: [.ref (g_ad G 38)]) (hk)) rfl ?_
  refine a_aload_n 1 58 rfl dX12_kept_57 rfl rfl ?_
  refine a_get 33 cl_11 f_RX12_68_11 (by decide) (rfl) rfl 61 rfl dX12_kept_58 ?_
  refine a_iload_n 0 62 rfl dX12_kept_61 rfl rfl ?_
  refine a_iald (rfl) (vp_in_nI (n := ((6 * s) + i)) (by omega) (by omega)) 63 rfl dX12_kept_62 ?_
  refine a_eq (st2 := [.int ((M.2.2.2.1 12) ((6 * s) + i)), .int (nI k), .ref (g_ad G 38)]) rfl rfl (congrArg (fun z9 => Value.int z9 :: [.int (nI k), .ref (g_ad G 38)]) (congrArg (M.2.2.2.1 12) (g_cl (by omega)))) rfl ?_
  refine a_eq (st2 := [.int (nI g), .int (nI k), .ref (g_ad G 38)]) rfl rfl (congrArg (fun z9 => Value.int z9 :: [.int (nI k), .ref (g_ad G 38)]) (hg)) rfl ?_
  refine a_aload_n 1 64 rfl dX12_kept_63 rfl rfl ?_
  refine a_get 36 cl_11 f_RX12_77_11 (by decide) (rfl) rfl 67 rfl dX12_kept_64 ?_
  refine a_iload_n 0 68 rfl dX12_kept_67 rfl rfl ?_
  refine a_lald (rfl) (vp_in_nI (n := ((6 * s) + i)) (by omega) (by omega)) 69 rfl dX12_kept_68 ?_
  refine a_eq (st2 := [.long ((M.2.2.2.2 3) ((6 * s) + i)), .int (nI g), .int (nI k), .ref (g_ad G 38)]) rfl rfl (congrArg (fun z9 => Value.long z9 :: [.int (nI g), .int (nI k), .ref (g_ad G 38)]) (congrArg (M.2.2.2.2 3) (g_cl (by omega)))) rfl ?_
  refine a_eq (st2 := [.long t, .int (nI g), .int (nI k), .ref (g_ad G 38)]) rfl rfl (congrArg (fun z9 => Value.long z9 :: [.int (nI g), .int (nI k), .ref (g_ad G 38)]) (ht)) rfl ?_
  refine a_callV (as := [.int (nI k), .int (nI g), .long t]) (rest := []) (st2 := [.long (f_sB k (M.1 0) g t)]) (u1 := 0) (v1 := 0) (u2 := 0) (v2 := 0) (w) (⟨_, _, _, _, rfl, rfl⟩) oX12_setsBy q_1300 q_1302 q_90 rfl (by omega) (by decide) rfl (Nat.le_of_ble_eq_true rfl) 72 rfl dX12_kept_69 rfl ?_
  exact a_lreturn rfl (rfl) (rfl) dX12_kept_72
theorem r_mvM (hi : i < 6) (hj : j < 18) : g_Run G mX12_moves 2 0 0 [.ref (g_ad G 38), .int (nI i), .int (nI j)] (g_hp G C (g_hm G M ++ ob)) none (g_hp G C (g_hm G (f_mL (f_mI (f_mI M 11 (upd (M.2.2.2.1 11) j (M.2.2.2.1 13 i))) 12 (upd (M.2.2.2.1 12) j (M.2.2.2.1 14 i))) 3 (vp_updL (M.2.2.2.2 3) j (M.2.2.2.2 4 i))) ++ ob)) := by
  have hcl : (nI j).toNatClampNeg = j := g_cl (by omega)
  refine g_Run.of (lv := [(0, .ref (g_ad G 38)), (1, .int (nI i)), (2, .int (nI j))]) (by decide) (Nat.le_of_ble_eq_true rfl) rfl ?_
  refine a_aload_n 0 1 rfl dX12_moves_0 rfl rfl ?_
  refine a_get 32 cl_11 f_RX12_65_11 (by decide) (rfl) rfl 4 rfl dX12_moves_1 ?_
  refine a_iload_n 2 5 rfl dX12_moves_4 rfl rfl ?_
  refine a_aload_n 0 6 rfl dX12_moves_5 rfl rfl ?_
  refine a_get 34 cl_11 f_RX12_71_11 (by decide) (rfl) rfl 9 rfl dX12_moves_6 ?_
  refine a_iload_n 1 10 rfl dX12_moves_9 rfl rfl ?_
  refine a_iald (rfl) (vp_in_nI (n := i) (by omega) (by omega)) 11 rfl dX12_moves_10 ?_
  refine a_eq (st2 := [.int ((M.2.2.2.1 13) i), .int (nI j), .ref (g_ad G 53)]) rfl rfl (congrArg (fun z9 => Value.int z9 :: [.int (nI j), .ref (g_ad G 53)]) (congrArg (M.2.2.2.1 13) (g_cl (by omega)))) rfl ?_
  refine a_iast (rfl) (vp_in_nI (n := j) (by omega) (by omega)) 12 rfl dX12_moves_11 ?_
  refine a_eq (h2 := g_hp G C (g_hm G (f_mI M 11 (upd (M.2.2.2.1 11) j (M.2.2.2.1 13 i))) ++ ob)) rfl rfl rfl (by show (((g_hp G C (g_hm G M ++ ob)).set 53 (c_I G 18 (upd (M.2.2.2.1 11) (nI j).toNatClampNeg ((M.2.2.2.1 13) i)))) : List va_E) = _; rw [hcl]; rfl) ?_
  refine a_aload_n 0 13 rfl dX12_moves_12 rfl rfl ?_
  refine a_get 33 cl_11 f_RX12_68_11 (by decide) (rfl) rfl 16 rfl dX12_moves_13 ?_
  refine a_iload_n 2 17 rfl dX12_moves_16 rfl rfl ?_
  refine a_aload_n 0 18 rfl dX12_moves_17 rfl rfl ?_
  refine a_get 35 cl_11 f_RX12_74_11 (by decide) (rfl) rfl 21 rfl dX12_moves_18 ?_
  refine a_iload_n 1 22 rfl dX12_moves_21 rfl rfl ?_
  refine a_iald (rfl) (vp_in_nI (n := i) (by omega) (by omega)) 23 rfl dX12_moves_22 ?_
  refine a_eq (st2 := [.int ((M.2.2.2.1 14) i), .int (nI j), .ref (g_ad G 54)]) rfl rfl (congrArg (fun z9 => Value.int z9 :: [.int (nI j), .ref (g_ad G 54)]) (congrArg (M.2.2.2.1 14) (g_cl (by omega)))) rfl ?_
  refine a_iast (rfl) (vp_in_nI (n := j) (by omega) (by omega)) 24 rfl dX12_moves_23 ?_
  refine a_eq (h2 := g_hp G C (g_hm G (f_mI (f_mI M 11 (upd (M.2.2.2.1 11) j (M.2.2.2.1 13 i))) 12 (upd (M.2.2.2.1 12) j (M.2.2.2.1 14 i))) ++ ob)) rfl rfl rfl (by show (((g_hp G C (g_hm G (f_mI M 11 (upd (M.2.2.2.1 11) j (M.2.2.2.1 13 i))) ++ ob)).set 54 (c_I G 18 (upd (M.2.2.2.1 12) (nI j).toNatClampNeg ((M.2.2.2.1 14) i)))) : List va_E) = _; rw [hcl]; rfl) ?_
  refine a_aload_n 0 25 rfl dX12_moves_24 rfl rfl ?_
  refine a_get 36 cl_11 f_RX12_77_11 (by decide) (rfl) rfl 28 rfl dX12_moves_25 ?_
  refine a_iload_n 2 29 rfl dX12_moves_28 rfl rfl ?_
  refine a_aload_n 0 30 rfl dX12_moves_29 rfl rfl ?_
  refine a_get 37 cl_11 f_RX12_80_11 (by decide) (rfl) rfl 33 rfl dX12_moves_30 ?_
  refine a_iload_n 1 34 rfl dX12_moves_33 rfl rfl ?_
  refine a_lald (rfl) (vp_in_nI (n := i) (by omega) (by omega)) 35 rfl dX12_moves_34 ?_
  refine a_eq (st2 := [.long ((M.2.2.2.2 4) i), .int (nI j), .ref (g_ad G 57)]) rfl rfl (congrArg (fun z9 => Value.long z9 :: [.int (nI j), .ref (g_ad G 57)]) (congrArg (M.2.2.2.2 4) (g_cl (by omega)))) rfl ?_
  refine a_last (rfl) (vp_in_nI (n := j) (by omega) (by omega)) 36 rfl dX12_moves_35 ?_
  refine a_eq (h2 := g_hp G C (g_hm G (f_mL (f_mI (f_mI M 11 (upd (M.2.2.2.1 11) j (M.2.2.2.1 13 i))) 12 (upd (M.2.2.2.1 12) j (M.2.2.2.1 14 i))) 3 (vp_updL (M.2.2.2.2 3) j (M.2.2.2.2 4 i))) ++ ob)) rfl rfl rfl (by show (((g_hp G C (g_hm G (f_mI (f_mI M 11 (upd (M.2.2.2.1 11) j (M.2.2.2.1 13 i))) 12 (upd (M.2.2.2.1 12) j (M.2.2.2.1 14 i))) ++ ob)).set 57 (c_L G 18 (vp_updL (M.2.2.2.2 3) (nI j).toNatClampNeg ((M.2.2.2.2 4) i)))) : List va_E) = _; rw [hcl]; rfl) ?_
  exact a_return rfl (rfl) (rfl) dX12_moves_36
theorem r_tkM3 (hs : s < 3) (hm : i + m ≤ 6) : g_Run G mX12_takes 2 0 0 [.ref (g_ad G 38), .int (nI s), .int (nI i), .int (nI m)] (g_hp G C (g_hm G M ++ ob)) none (g_hp G C (g_hm G (f_tkM3 M (6 * s + i) m) ++ ob)) := by
  refine g_Run.of (lv := [(0, .ref (g_ad G 38)), (1, .int (nI s)), (2, .int (nI i)), (3, .int (nI m))]) (by decide) (Nat.le_of_ble_eq_true rfl) rfl ?_
  refine a_iconst (x := 0) 1 rfl dX12_takes_0 (by decide) ?_
  refine a_istore (lv' := [(4, .int 0), (0, .ref (g_ad G 38)), (1, .int (nI s)), (2, .int (nI i)), (3, .int (nI m))]) 3 rfl dX12_takes_1 (by decide) rfl ?_
  refine a_eq (h2 := g_hp G C (g_hm G (f_mL (f_mI (f_mI M 13 (f_tkI (M.2.2.2.1 13) (M.2.2.2.1 11) (6 * s + i) 0)) 14 (f_tkI (M.2.2.2.1 14) (M.2.2.2.1 12) (6 * s + i) 0)) 4 (f_tkL (M.2.2.2.2 4) (M.2.2.2.2 3) (6 * s + i) 0)) ++ ob)) rfl rfl rfl (rfl) ?_
  refine a_sub (lv' := [(4, .int (nI 0)), (0, .ref (g_ad G 38)), (1, .int (nI s)), (2, .int (nI i)), (3, .int (nI m))]) [0, 1, 2, 3, 4] rfl ?_
  refine g_for (P := fun t9 => True) m (fun t9 => [(4, .int (nI t9)), (0, .ref (g_ad G 38)), (1, .int (nI s)), (2, .int (nI i)), (3, .int (nI m))]) (fun t9 => g_hp G C (g_hm G (f_mL (f_mI (f_mI M 13 (f_tkI (M.2.2.2.1 13) (M.2.2.2.1 11) (6 * s + i) t9)) 14 (f_tkI (M.2.2.2.1 14) (M.2.2.2.1 12) (6 * s + i) t9)) 4 (f_tkL (M.2.2.2.2 4) (M.2.2.2.2 3) (6 * s + i) t9)) ++ ob)) (trivial) (fun t9 h_t9 p_t9 k_t9 => ?_) (fun p_t9 => ?_)
  · have hcl : (nI t9).toNatClampNeg = t9 := g_cl (by omega)
    refine a_iload 0 5 rfl dX12_takes_3 rfl ?_
    refine a_iload_n 4 6 rfl dX12_takes_5 rfl rfl ?_
    refine a_icmp_ge 78 9 rfl dX12_takes_6 (by decide) (fun hc => absurd hc (nI_ge (a := t9) (b := m) (by omega) (by omega))) (fun _ => ?_)
    refine a_aload_n 1 10 rfl dX12_takes_9 rfl rfl ?_
    refine a_get 34 cl_11 f_RX12_71_11 (by decide) (rfl) rfl 13 rfl dX12_takes_10 ?_
    refine a_iload 0 15 rfl dX12_takes_13 rfl ?_
    refine a_aload_n 1 16 rfl dX12_takes_15 rfl rfl ?_
    refine a_get 32 cl_11 f_RX12_65_11 (by decide) (rfl) rfl 19 rfl dX12_takes_16 ?_
    refine a_bipush (x := 6) 21 rfl dX12_takes_19 (by decide) ?_
    refine a_iload_n 2 22 rfl dX12_takes_21 rfl rfl ?_
    refine a_imul 23 rfl dX12_takes_22 ?_
    refine a_eq (st2 := [.int (nI (6 * s)), .ref (g_ad G 53), .int (nI t9), .ref (g_ad G 55)]) rfl rfl (congrArg (fun z9 => Value.int z9 :: [.ref (g_ad G 53), .int (nI t9), .ref (g_ad G 55)]) (pk_mul 6 s)) rfl ?_
    refine a_iload_n 3 24 rfl dX12_takes_23 rfl rfl ?_
    refine a_iadd 25 rfl dX12_takes_24 ?_
    refine a_eq (st2 := [.int (nI ((6 * s) + i)), .ref (g_ad G 53), .int (nI t9), .ref (g_ad G 55)]) rfl rfl (congrArg (fun z9 => Value.int z9 :: [.ref (g_ad G 53), .int (nI t9), .ref (g_ad G 55)]) (nI_add (6 * s) i)) rfl ?_
    refine a_iload 0 27 rfl dX12_takes_25 rfl ?_
    refine a_iadd 28 rfl dX12_takes_27 ?_
    refine a_eq (st2 := [.int (nI (((6 * s) + i) + t9)), .ref (g_ad G 53), .int (nI t9), .ref (g_ad G 55)]) rfl rfl (congrArg (fun z9 => Value.int z9 :: [.ref (g_ad G 53), .int (nI t9), .ref (g_ad G 55)]) (nI_add ((6 * s) + i) t9)) rfl ?_
    refine a_iald (rfl) (vp_in_nI (n := (((6 * s) + i) + t9)) (by omega) (by omega)) 29 rfl dX12_takes_28 ?_
    refine a_eq (st2 := [.int ((M.2.2.2.1 11) (((6 * s) + i) + t9)), .int (nI t9), .ref (g_ad G 55)]) rfl rfl (congrArg (fun z9 => Value.int z9 :: [.int (nI t9), .ref (g_ad G 55)]) (congrArg (M.2.2.2.1 11) (g_cl (by omega)))) rfl ?_
    refine a_iast (rfl) (vp_in_nI (n := t9) (by omega) (by omega)) 30 rfl dX12_takes_29 ?_
    refine a_eq (h2 := g_hp G C (g_hm G (f_mI (f_mL (f_mI M 14 (f_tkI (M.2.2.2.1 14) (M.2.2.2.1 12) (6 * s + i) t9)) 4 (f_tkL (M.2.2.2.2 4) (M.2.2.2.2 3) (6 * s + i) t9)) 13 (f_tkI (M.2.2.2.1 13) (M.2.2.2.1 11) (6 * s + i) (t9 + 1))) ++ ob)) rfl rfl rfl (by show (((g_hp G C (g_hm G (f_mL (f_mI (f_mI M 13 (f_tkI (M.2.2.2.1 13) (M.2.2.2.1 11) (6 * s + i) t9)) 14 (f_tkI (M.2.2.2.1 14) (M.2.2.2.1 12) (6 * s + i) t9)) 4 (f_tkL (M.2.2.2.2 4) (M.2.2.2.2 3) (6 * s + i) t9)) ++ ob)).set 55 (c_I G 6 (upd (f_tkI (M.2.2.2.1 13) (M.2.2.2.1 11) (6 * s + i) t9) (nI t9).toNatClampNeg ((M.2.2.2.1 11) (((6 * s) + i) + t9))))) : List va_E) = _; rw [hcl]; rfl) ?_
    refine a_aload_n 1 31 rfl dX12_takes_30 rfl rfl ?_
    refine a_get 35 cl_11 f_RX12_74_11 (by decide) (rfl) rfl 34 rfl dX12_takes_31 ?_
    refine a_iload 0 36 rfl dX12_takes_34 rfl ?_
    refine a_aload_n 1 37 rfl dX12_takes_36 rfl rfl ?_
    refine a_get 33 cl_11 f_RX12_68_11 (by decide) (rfl) rfl 40 rfl dX12_takes_37 ?_
    refine a_bipush (x := 6) 42 rfl dX12_takes_40 (by decide) ?_
    refine a_iload_n 2 43 rfl dX12_takes_42 rfl rfl ?_
    refine a_imul 44 rfl dX12_takes_43 ?_
    refine a_eq (st2 := [.int (nI (6 * s)), .ref (g_ad G 54), .int (nI t9), .ref (g_ad G 56)]) rfl rfl (congrArg (fun z9 => Value.int z9 :: [.ref (g_ad G 54), .int (nI t9), .ref (g_ad G 56)]) (pk_mul 6 s)) rfl ?_
    refine a_iload_n 3 45 rfl dX12_takes_44 rfl rfl ?_
    refine a_iadd 46 rfl dX12_takes_45 ?_
    refine a_eq (st2 := [.int (nI ((6 * s) + i)), .ref (g_ad G 54), .int (nI t9), .ref (g_ad G 56)]) rfl rfl (congrArg (fun z9 => Value.int z9 :: [.ref (g_ad G 54), .int (nI t9), .ref (g_ad G 56)]) (nI_add (6 * s) i)) rfl ?_
    refine a_iload 0 48 rfl dX12_takes_46 rfl ?_
    refine a_iadd 49 rfl dX12_takes_48 ?_
    refine a_eq (st2 := [.int (nI (((6 * s) + i) + t9)), .ref (g_ad G 54), .int (nI t9), .ref (g_ad G 56)]) rfl rfl (congrArg (fun z9 => Value.int z9 :: [.ref (g_ad G 54), .int (nI t9), .ref (g_ad G 56)]) (nI_add ((6 * s) + i) t9)) rfl ?_
    refine a_iald (rfl) (vp_in_nI (n := (((6 * s) + i) + t9)) (by omega) (by omega)) 50 rfl dX12_takes_49 ?_
    refine a_eq (st2 := [.int ((M.2.2.2.1 12) (((6 * s) + i) + t9)), .int (nI t9), .ref (g_ad G 56)]) rfl rfl (congrArg (fun z9 => Value.int z9 :: [.int (nI t9), .ref (g_ad G 56)]) (congrArg (M.2.2.2.1 12) (g_cl (by omega)))) rfl ?_
    refine a_iast (rfl) (vp_in_nI (n := t9) (by omega) (by omega)) 51 rfl dX12_takes_50 ?_
    refine a_eq (h2 := g_hp G C (g_hm G (f_mI (f_mI (f_mL M 4 (f_tkL (M.2.2.2.2 4) (M.2.2.2.2 3) (6 * s + i) t9)) 13 (f_tkI (M.2.2.2.1 13) (M.2.2.2.1 11) (6 * s + i) (t9 + 1))) 14 (f_tkI (M.2.2.2.1 14) (M.2.2.2.1 12) (6 * s + i) (t9 + 1))) ++ ob)) rfl rfl rfl (by show (((g_hp G C (g_hm G (f_mI (f_mL (f_mI M 14 (f_tkI (M.2.2.2.1 14) (M.2.2.2.1 12) (6 * s + i) t9)) 4 (f_tkL (M.2.2.2.2 4) (M.2.2.2.2 3) (6 * s + i) t9)) 13 (f_tkI (M.2.2.2.1 13) (M.2.2.2.1 11) (6 * s + i) (t9 + 1))) ++ ob)).set 56 (c_I G 6 (upd (f_tkI (M.2.2.2.1 14) (M.2.2.2.1 12) (6 * s + i) t9) (nI t9).toNatClampNeg ((M.2.2.2.1 12) (((6 * s) + i) + t9))))) : List va_E) = _; rw [hcl]; rfl) ?_
    refine a_aload_n 1 52 rfl dX12_takes_51 rfl rfl ?_
    refine a_get 37 cl_11 f_RX12_80_11 (by decide) (rfl) rfl 55 rfl dX12_takes_52 ?_
    refine a_iload 0 57 rfl dX12_takes_55 rfl ?_
    refine a_aload_n 1 58 rfl dX12_takes_57 rfl rfl ?_
    refine a_get 36 cl_11 f_RX12_77_11 (by decide) (rfl) rfl 61 rfl dX12_takes_58 ?_
    refine a_bipush (x := 6) 63 rfl dX12_takes_61 (by decide) ?_
    refine a_iload_n 2 64 rfl dX12_takes_63 rfl rfl ?_
    refine a_imul 65 rfl dX12_takes_64 ?_
    refine a_eq (st2 := [.int (nI (6 * s)), .ref (g_ad G 57), .int (nI t9), .ref (g_ad G 58)]) rfl rfl (congrArg (fun z9 => Value.int z9 :: [.ref (g_ad G 57), .int (nI t9), .ref (g_ad G 58)]) (pk_mul 6 s)) rfl ?_
    refine a_iload_n 3 66 rfl dX12_takes_65 rfl rfl ?_
    refine a_iadd 67 rfl dX12_takes_66 ?_
    refine a_eq (st2 := [.int (nI ((6 * s) + i)), .ref (g_ad G 57), .int (nI t9), .ref (g_ad G 58)]) rfl rfl (congrArg (fun z9 => Value.int z9 :: [.ref (g_ad G 57), .int (nI t9), .ref (g_ad G 58)]) (nI_add (6 * s) i)) rfl ?_
    refine a_iload 0 69 rfl dX12_takes_67 rfl ?_
    refine a_iadd 70 rfl dX12_takes_69 ?_
    refine a_eq (st2 := [.int (nI (((6 * s) + i) + t9)), .ref (g_ad G 57), .int (nI t9), .ref (g_ad G 58)]) rfl rfl (congrArg (fun z9 => Value.int z9 :: [.ref (g_ad G 57), .int (nI t9), .ref (g_ad G 58)]) (nI_add ((6 * s) + i) t9)) rfl ?_
    refine a_lald (rfl) (vp_in_nI (n := (((6 * s) + i) + t9)) (by omega) (by omega)) 71 rfl dX12_takes_70 ?_
    refine a_eq (st2 := [.long ((M.2.2.2.2 3) (((6 * s) + i) + t9)), .int (nI t9), .ref (g_ad G 58)]) rfl rfl (congrArg (fun z9 => Value.long z9 :: [.int (nI t9), .ref (g_ad G 58)]) (congrArg (M.2.2.2.2 3) (g_cl (by omega)))) rfl ?_
    refine a_last (rfl) (vp_in_nI (n := t9) (by omega) (by omega)) 72 rfl dX12_takes_71 ?_
    refine a_eq (h2 := g_hp G C (g_hm G (f_mL (f_mI (f_mI M 13 (f_tkI (M.2.2.2.1 13) (M.2.2.2.1 11) (6 * s + i) (t9 + 1))) 14 (f_tkI (M.2.2.2.1 14) (M.2.2.2.1 12) (6 * s + i) (t9 + 1))) 4 (f_tkL (M.2.2.2.2 4) (M.2.2.2.2 3) (6 * s + i) (t9 + 1))) ++ ob)) rfl rfl rfl (by show (((g_hp G C (g_hm G (f_mI (f_mI (f_mL M 4 (f_tkL (M.2.2.2.2 4) (M.2.2.2.2 3) (6 * s + i) t9)) 13 (f_tkI (M.2.2.2.1 13) (M.2.2.2.1 11) (6 * s + i) (t9 + 1))) 14 (f_tkI (M.2.2.2.1 14) (M.2.2.2.1 12) (6 * s + i) (t9 + 1))) ++ ob)).set 58 (c_L G 6 (vp_updL (f_tkL (M.2.2.2.2 4) (M.2.2.2.2 3) (6 * s + i) t9) (nI t9).toNatClampNeg ((M.2.2.2.2 3) (((6 * s) + i) + t9))))) : List va_E) = _; rw [hcl]; rfl) ?_
    refine a_iinc (y := nI (t9 + 1)) (lv' := [(4, .int (nI (t9 + 1))), (0, .ref (g_ad G 38)), (1, .int (nI s)), (2, .int (nI i)), (3, .int (nI m))]) 0 75 rfl dX12_takes_72 rfl (nI_1 t9) (by decide) rfl ?_
    refine a_goto 3 dX12_takes_75 (by decide) ?_
    refine a_sub (lv' := [(4, .int (nI (t9 + 1))), (0, .ref (g_ad G 38)), (1, .int (nI s)), (2, .int (nI i)), (3, .int (nI m))]) [0, 1, 2, 3, 4] rfl ?_
    exact k_t9 trivial
  · skip
    refine a_iload 0 5 rfl dX12_takes_3 rfl ?_
    refine a_iload_n 4 6 rfl dX12_takes_5 rfl rfl ?_
    refine a_icmp_ge 78 9 rfl dX12_takes_6 (by decide) (fun _ => ?_) (fun hc => absurd (nI_le (a := m) (b := m) (by omega) (by omega)) hc)
    exact a_return rfl (rfl) (rfl) dX12_takes_78
def f_liM (M : f_M) (s o : Nat) : f_M := f_mI (f_mI M 9 (upd (M.2.2.2.1 9) s (M.2.2.2.1 9 o))) 10 (upd (M.2.2.2.1 10) s (M.2.2.2.1 10 o))
theorem r_lkM_b0 (hy : ¬ ((0 : Int32) ≤ y ∧ y ≤ 2)) : g_Run G mX12_like 6 0 0 [.ref (g_ad G 38), .int y, .int y2] (g_hp G C (g_hm G M ++ ob)) (some (.int (-1))) (g_hp G C (g_hm G M ++ ob)) := by
  refine g_Run.of (lv := [(0, .ref (g_ad G 38)), (1, .int y), (2, .int y2)]) (by decide) (Nat.le_of_ble_eq_true rfl) rfl ?_
  refine a_iload_n 1 1 rfl dX12_like_0 rfl rfl ?_
  refine a_callS (as := [.int y]) (rest := []) (st2 := [.int (f_i (decide ((0:Int32) ≤ y ∧ y ≤ 2)))]) (u1 := 0) (v1 := 0) (u2 := 0) (v2 := 0) (r_isShM) oX12_isShelf q_1580 q_1581 rfl (by omega) (by decide) rfl (Nat.le_of_ble_eq_true rfl) 4 rfl dX12_like_1 rfl ?_
  refine a_if_eq 19 7 rfl dX12_like_4 (by decide) (fun _ => ?_) (fun hc => absurd (f_i_F (decide_eq_false hy)) hc)
  refine a_iconst (x := (-1)) 20 rfl dX12_like_19 (by decide) ?_
  exact a_ireturn .int rfl rfl (rfl) (rfl) dX12_like_20
theorem r_lkM_b1 (hs : s < 3) (hy : ¬ ((0 : Int32) ≤ y2 ∧ y2 ≤ 2)) : g_Run G mX12_like 6 0 0 [.ref (g_ad G 38), .int (nI s), .int y2] (g_hp G C (g_hm G M ++ ob)) (some (.int (-1))) (g_hp G C (g_hm G M ++ ob)) := by
  refine g_Run.of (lv := [(0, .ref (g_ad G 38)), (1, .int (nI s)), (2, .int y2)]) (by decide) (Nat.le_of_ble_eq_true rfl) rfl ?_
  refine a_iload_n 1 1 rfl dX12_like_0 rfl rfl ?_
  refine a_callS (as := [.int (nI s)]) (rest := []) (st2 := [.int (f_i (decide ((0:Int32) ≤ nI s ∧ nI s ≤ 2)))]) (u1 := 0) (v1 := 0) (u2 := 0) (v2 := 0) (r_isShM) oX12_isShelf q_1580 q_1581 rfl (by omega) (by decide) rfl (Nat.le_of_ble_eq_true rfl) 4 rfl dX12_like_1 rfl ?_
  refine a_if_eq 19 7 rfl dX12_like_4 (by decide) (fun hc => absurd hc (f_i_T (f_or2 hs))) (fun _ => ?_)
  refine a_iload_n 2 8 rfl dX12_like_7 rfl rfl ?_
  refine a_callS (as := [.int y2]) (rest := []) (st2 := [.int (f_i (decide ((0:Int32) ≤ y2 ∧ y2 ≤ 2)))]) (u1 := 0) (v1 := 0) (u2 := 0) (v2 := 0) (r_isShM) oX12_isShelf q_1580 q_1581 rfl (by omega) (by decide) rfl (Nat.le_of_ble_eq_true rfl) 11 rfl dX12_like_8 rfl ?_
  refine a_if_eq 19 14 rfl dX12_like_11 (by decide) (fun _ => ?_) (fun hc => absurd (f_i_F (decide_eq_false hy)) hc)
  refine a_iconst (x := (-1)) 20 rfl dX12_like_19 (by decide) ?_
  exact a_ireturn .int rfl rfl (rfl) (rfl) dX12_like_20
theorem r_lkM_same (hs : s < 3) : g_Run G mX12_like 6 0 0 [.ref (g_ad G 38), .int (nI s), .int (nI s)] (g_hp G C (g_hm G M ++ ob)) (some (.int (-1))) (g_hp G C (g_hm G M ++ ob)) := by
  refine g_Run.of (lv := [(0, .ref (g_ad G 38)), (1, .int (nI s)), (2, .int (nI s))]) (by decide) (Nat.le_of_ble_eq_true rfl) rfl ?_
  refine a_iload_n 1 1 rfl dX12_like_0 rfl rfl ?_
  refine a_callS (as := [.int (nI s)]) (rest := []) (st2 := [.int (f_i (decide ((0:Int32) ≤ nI s ∧ nI s ≤ 2)))]) (u1 := 0) (v1 := 0) (u2 := 0) (v2 := 0) (r_isShM) oX12_isShelf q_1580 q_1581 rfl (by omega) (by decide) rfl (Nat.le_of_ble_eq_true rfl) 4 rfl dX12_like_1 rfl ?_
  refine a_if_eq 19 7 rfl dX12_like_4 (by decide) (fun hc => absurd hc (f_i_T (f_or2 hs))) (fun _ => ?_)
  refine a_iload_n 2 8 rfl dX12_like_7 rfl rfl ?_
  refine a_callS (as := [.int (nI s)]) (rest := []) (st2 := [.int (f_i (decide ((0:Int32) ≤ nI s ∧ nI s ≤ 2)))]) (u1 := 0) (v1 := 0) (u2 := 0) (v2 := 0) (r_isShM) oX12_isShelf q_1580 q_1581 rfl (by omega) (by decide) rfl (Nat.le_of_ble_eq_true rfl) 11 rfl dX12_like_8 rfl ?_
  refine a_if_eq 19 14 rfl dX12_like_11 (by decide) (fun hc => absurd hc (f_i_T (f_or2 hs))) (fun _ => ?_)
  refine a_iload_n 1 15 rfl dX12_like_14 rfl rfl ?_
  refine a_iload_n 2 16 rfl dX12_like_15 rfl rfl ?_
  refine a_icmp_ne 21 19 rfl dX12_like_16 (by decide) (fun hc => absurd (rfl) hc) (fun _ => ?_)
  refine a_iconst (x := (-1)) 20 rfl dX12_like_19 (by decide) ?_
  exact a_ireturn .int rfl rfl (rfl) (rfl) dX12_like_20
theorem r_lkM_miss (hs : s < 3) (ho : o < 3) (hne : ¬ s = o) (h0 : ¬ 0 ≤ M.2.2.2.1 9 o) : g_Run G mX12_like 6 0 0 [.ref (g_ad G 38), .int (nI s), .int (nI o)] (g_hp G C (g_hm G M ++ ob)) (some (.int (-11))) (g_hp G C (g_hm G M ++ ob)) := by
  refine g_Run.of (lv := [(0, .ref (g_ad G 38)), (1, .int (nI s)), (2, .int (nI o))]) (by decide) (Nat.le_of_ble_eq_true rfl) rfl ?_
  refine a_iload_n 1 1 rfl dX12_like_0 rfl rfl ?_
  refine a_callS (as := [.int (nI s)]) (rest := []) (st2 := [.int (f_i (decide ((0:Int32) ≤ nI s ∧ nI s ≤ 2)))]) (u1 := 0) (v1 := 0) (u2 := 0) (v2 := 0) (r_isShM) oX12_isShelf q_1580 q_1581 rfl (by omega) (by decide) rfl (Nat.le_of_ble_eq_true rfl) 4 rfl dX12_like_1 rfl ?_
  refine a_if_eq 19 7 rfl dX12_like_4 (by decide) (fun hc => absurd hc (f_i_T (f_or2 hs))) (fun _ => ?_)
  refine a_iload_n 2 8 rfl dX12_like_7 rfl rfl ?_
  refine a_callS (as := [.int (nI o)]) (rest := []) (st2 := [.int (f_i (decide ((0:Int32) ≤ nI o ∧ nI o ≤ 2)))]) (u1 := 0) (v1 := 0) (u2 := 0) (v2 := 0) (r_isShM) oX12_isShelf q_1580 q_1581 rfl (by omega) (by decide) rfl (Nat.le_of_ble_eq_true rfl) 11 rfl dX12_like_8 rfl ?_
  refine a_if_eq 19 14 rfl dX12_like_11 (by decide) (fun hc => absurd hc (f_i_T (f_or2 ho))) (fun _ => ?_)
  refine a_iload_n 1 15 rfl dX12_like_14 rfl rfl ?_
  refine a_iload_n 2 16 rfl dX12_like_15 rfl rfl ?_
  refine a_icmp_ne 21 19 rfl dX12_like_16 (by decide) (fun _ => ?_) (fun hc => absurd hc (fun z9 => absurd (nI_inj9 (a := s) (b := o) (by omega) (by omega) z9) (by omega)))
  refine a_aload_n 0 22 rfl dX12_like_21 rfl rfl ?_
  refine a_get 30 cl_11 f_RX12_59_11 (by decide) (rfl) rfl 25 rfl dX12_like_22 ?_
  refine a_iload_n 2 26 rfl dX12_like_25 rfl rfl ?_
  refine a_iald (rfl) (vp_in_nI (n := o) (by omega) (by omega)) 27 rfl dX12_like_26 ?_
  refine a_eq (st2 := [.int ((M.2.2.2.1 9) o)]) rfl rfl (congrArg (fun z9 => Value.int z9 :: []) (congrArg (M.2.2.2.1 9) (g_cl (by omega)))) rfl ?_
  refine a_if_ge 33 30 rfl dX12_like_27 (by decide) (fun hc => absurd hc (h0)) (fun _ => ?_)
  refine a_bipush (x := (-11)) 32 rfl dX12_like_30 (by decide) ?_
  exact a_ireturn .int rfl rfl (rfl) (rfl) dX12_like_32
theorem r_lkM (hs : s < 3) (ho : o < 3) (hne : ¬ s = o) (h0 : 0 ≤ M.2.2.2.1 9 o) : g_Run G mX12_like 6 0 0 [.ref (g_ad G 38), .int (nI s), .int (nI o)] (g_hp G C (g_hm G M ++ ob)) (some (.int (M.2.2.2.1 10 o))) (g_hp G C (g_hm G (f_mvM3 (f_tkM3 (f_liM M s o) (6 * o + 0) 6) (6 * s) 6) ++ ob)) := by
  have hcl : (nI s).toNatClampNeg = s := g_cl (by omega)
  obtain ⟨N, eN⟩ : ∃ N, N = f_tkM3 (f_liM M s o) (6 * o + 0) 6 := ⟨_, rfl⟩
  have eR : N.2.2.2.1 10 s = M.2.2.2.1 10 o := by rw [eN]; exact pk_us
  rw [← eN]
  refine g_Run.of (lv := [(0, .ref (g_ad G 38)), (1, .int (nI s)), (2, .int (nI o))]) (by decide) (Nat.le_of_ble_eq_true rfl) rfl ?_
  refine a_iload_n 1 1 rfl dX12_like_0 rfl rfl ?_
  refine a_callS (as := [.int (nI s)]) (rest := []) (st2 := [.int (f_i (decide ((0:Int32) ≤ nI s ∧ nI s ≤ 2)))]) (u1 := 0) (v1 := 0) (u2 := 0) (v2 := 0) (r_isShM) oX12_isShelf q_1580 q_1581 rfl (by omega) (by decide) rfl (Nat.le_of_ble_eq_true rfl) 4 rfl dX12_like_1 rfl ?_
  refine a_if_eq 19 7 rfl dX12_like_4 (by decide) (fun hc => absurd hc (f_i_T (f_or2 hs))) (fun _ => ?_)
  refine a_iload_n 2 8 rfl dX12_like_7 rfl rfl ?_
  refine a_callS (as := [.int (nI o)]) (rest := []) (st2 := [.int (f_i (decide ((0:Int32) ≤ nI o ∧ nI o ≤ 2)))]) (u1 := 0) (v1 := 0) (u2 := 0) (v2 := 0) (r_isShM) oX12_isShelf q_1580 q_1581 rfl (by omega) (by decide) rfl (Nat.le_of_ble_eq_true rfl) 11 rfl dX12_like_8 rfl ?_
  refine a_if_eq 19 14 rfl dX12_like_11 (by decide) (fun hc => absurd hc (f_i_T (f_or2 ho))) (fun _ => ?_)
  refine a_iload_n 1 15 rfl dX12_like_14 rfl rfl ?_
  refine a_iload_n 2 16 rfl dX12_like_15 rfl rfl ?_
  refine a_icmp_ne 21 19 rfl dX12_like_16 (by decide) (fun _ => ?_) (fun hc => absurd hc (fun z9 => absurd (nI_inj9 (a := s) (b := o) (by omega) (by omega) z9) (by omega)))
  refine a_aload_n 0 22 rfl dX12_like_21 rfl rfl ?_
  refine a_get 30 cl_11 f_RX12_59_11 (by decide) (rfl) rfl 25 rfl dX12_like_22 ?_
  refine a_iload_n 2 26 rfl dX12_like_25 rfl rfl ?_
  refine a_iald (rfl) (vp_in_nI (n := o) (by omega) (by omega)) 27 rfl dX12_like_26 ?_
  refine a_eq (st2 := [.int ((M.2.2.2.1 9) o)]) rfl rfl (congrArg (fun z9 => Value.int z9 :: []) (congrArg (M.2.2.2.1 9) (g_cl (by omega)))) rfl ?_
  refine a_if_ge 33 30 rfl dX12_like_27 (by decide) (fun _ => ?_) (fun hc => absurd (h0) hc)
  refine a_aload_n 0 34 rfl dX12_like_33 rfl rfl ?_
  refine a_get 30 cl_11 f_RX12_59_11 (by decide) (rfl) rfl 37 rfl dX12_like_34 ?_
  refine a_iload_n 1 38 rfl dX12_like_37 rfl rfl ?_
  refine a_aload_n 0 39 rfl dX12_like_38 rfl rfl ?_
  refine a_get 30 cl_11 f_RX12_59_11 (by decide) (rfl) rfl 42 rfl dX12_like_39 ?_
  refine a_iload_n 2 43 rfl dX12_like_42 rfl rfl ?_
  refine a_iald (rfl) (vp_in_nI (n := o) (by omega) (by omega)) 44 rfl dX12_like_43 ?_
  refine a_eq (st2 := [.int ((M.2.2.2.1 9) o), .int (nI s), .ref (g_ad G 51)]) rfl rfl (congrArg (fun z9 => Value.int z9 :: [.int (nI s), .ref (g_ad G 51)]) (congrArg (M.2.2.2.1 9) (g_cl (by omega)))) rfl ?_
  refine a_iast (rfl) (vp_in_nI (n := s) (by omega) (by omega)) 45 rfl dX12_like_44 ?_
  refine a_eq (h2 := g_hp G C (g_hm G (f_mI M 9 (upd (M.2.2.2.1 9) s (M.2.2.2.1 9 o))) ++ ob)) rfl rfl rfl (by show (((g_hp G C (g_hm G M ++ ob)).set 51 (c_I G 3 (upd (M.2.2.2.1 9) (nI s).toNatClampNeg ((M.2.2.2.1 9) o)))) : List va_E) = _; rw [hcl]; rfl) ?_
  refine a_aload_n 0 46 rfl dX12_like_45 rfl rfl ?_
  refine a_get 31 cl_11 f_RX12_62_11 (by decide) (rfl) rfl 49 rfl dX12_like_46 ?_
  refine a_iload_n 1 50 rfl dX12_like_49 rfl rfl ?_
  refine a_aload_n 0 51 rfl dX12_like_50 rfl rfl ?_
  refine a_get 31 cl_11 f_RX12_62_11 (by decide) (rfl) rfl 54 rfl dX12_like_51 ?_
  refine a_iload_n 2 55 rfl dX12_like_54 rfl rfl ?_
  refine a_iald (rfl) (vp_in_nI (n := o) (by omega) (by omega)) 56 rfl dX12_like_55 ?_
  refine a_eq (st2 := [.int ((M.2.2.2.1 10) o), .int (nI s), .ref (g_ad G 52)]) rfl rfl (congrArg (fun z9 => Value.int z9 :: [.int (nI s), .ref (g_ad G 52)]) (congrArg (M.2.2.2.1 10) (g_cl (by omega)))) rfl ?_
  refine a_iast (rfl) (vp_in_nI (n := s) (by omega) (by omega)) 57 rfl dX12_like_56 ?_
  refine a_eq (h2 := g_hp G C (g_hm G (f_mI (f_mI M 9 (upd (M.2.2.2.1 9) s (M.2.2.2.1 9 o))) 10 (upd (M.2.2.2.1 10) s (M.2.2.2.1 10 o))) ++ ob)) rfl rfl rfl (by show (((g_hp G C (g_hm G (f_mI M 9 (upd (M.2.2.2.1 9) s (M.2.2.2.1 9 o))) ++ ob)).set 52 (c_I G 3 (upd (M.2.2.2.1 10) (nI s).toNatClampNeg ((M.2.2.2.1 10) o)))) : List va_E) = _; rw [hcl]; rfl) ?_
  refine a_aload_n 0 58 rfl dX12_like_57 rfl rfl ?_
  refine a_iload_n 2 59 rfl dX12_like_58 rfl rfl ?_
  refine a_iconst (x := 0) 60 rfl dX12_like_59 (by decide) ?_
  refine a_bipush (x := 6) 62 rfl dX12_like_60 (by decide) ?_
  refine a_callV (as := [.int (nI o), .int 0, .int 6]) (rest := []) (st2 := []) (u1 := 0) (v1 := 0) (u2 := 0) (v2 := 0) (r_tkM3 (M := f_liM M s o) (i := 0) (m := 6) ho (by omega)) (⟨_, _, _, _, rfl, rfl⟩) oX12_takes q_1598 q_1600 q_115 rfl (by omega) (by decide) rfl (Nat.le_of_ble_eq_true rfl) 65 rfl dX12_like_62 rfl ?_
  refine a_eq (h2 := g_hp G C (g_hm G N ++ ob)) rfl rfl rfl (by rw [eN]) ?_
  refine a_iconst (x := 0) 66 rfl dX12_like_65 (by decide) ?_
  refine a_istore_n (lv' := [(3, .int 0), (0, .ref (g_ad G 38)), (1, .int (nI s)), (2, .int (nI o))]) 67 rfl dX12_like_66 rfl (by decide) rfl ?_
  refine a_eq (h2 := g_hp G C (g_hm G (f_mL (f_mI (f_mI N 11 (f_mvI (N.2.2.2.1 11) (N.2.2.2.1 13) (6 * s) 0)) 12 (f_mvI (N.2.2.2.1 12) (N.2.2.2.1 14) (6 * s) 0)) 3 (f_mvL (N.2.2.2.2 3) (N.2.2.2.2 4) (6 * s) 0)) ++ ob)) rfl rfl rfl (rfl) ?_
  refine a_sub (lv' := [(3, .int (nI 0)), (0, .ref (g_ad G 38)), (1, .int (nI s))]) [0, 1, 2] rfl ?_
  refine g_for (P := fun t9 => True) 6 (fun t9 => [(3, .int (nI t9)), (0, .ref (g_ad G 38)), (1, .int (nI s))]) (fun t9 => g_hp G C (g_hm G (f_mL (f_mI (f_mI N 11 (f_mvI (N.2.2.2.1 11) (N.2.2.2.1 13) (6 * s) t9)) 12 (f_mvI (N.2.2.2.1 12) (N.2.2.2.1 14) (6 * s) t9)) 3 (f_mvL (N.2.2.2.2 3) (N.2.2.2.2 4) (6 * s) t9)) ++ ob)) (trivial) (fun t9 h_t9 p_t9 k_t9 => ?_) (fun p_t9 => ?_)
  · skip
    refine a_iload_n 0 68 rfl dX12_like_67 rfl rfl ?_
    refine a_bipush (x := 6) 70 rfl dX12_like_68 (by decide) ?_
    refine a_icmp_ge 90 73 rfl dX12_like_70 (by decide) (fun hc => absurd hc (nI_ge (a := t9) (b := 6) (by omega) (by omega))) (fun _ => ?_)
    refine a_aload_n 1 74 rfl dX12_like_73 rfl rfl ?_
    refine a_iload_n 0 75 rfl dX12_like_74 rfl rfl ?_
    refine a_bipush (x := 6) 77 rfl dX12_like_75 (by decide) ?_
    refine a_iload_n 2 78 rfl dX12_like_77 rfl rfl ?_
    refine a_imul 79 rfl dX12_like_78 ?_
    refine a_eq (st2 := [.int (nI (6 * s)), .int (nI t9), .ref (g_ad G 38)]) rfl rfl (congrArg (fun z9 => Value.int z9 :: [.int (nI t9), .ref (g_ad G 38)]) (pk_mul 6 s)) rfl ?_
    refine a_iload_n 0 80 rfl dX12_like_79 rfl rfl ?_
    refine a_iadd 81 rfl dX12_like_80 ?_
    refine a_eq (st2 := [.int (nI ((6 * s) + t9)), .int (nI t9), .ref (g_ad G 38)]) rfl rfl (congrArg (fun z9 => Value.int z9 :: [.int (nI t9), .ref (g_ad G 38)]) (nI_add (6 * s) t9)) rfl ?_
    refine a_callV (as := [.int (nI t9), .int (nI ((6 * s) + t9))]) (rest := []) (st2 := []) (u1 := 0) (v1 := 0) (u2 := 0) (v2 := 0) (r_mvM (M := f_mL (f_mI (f_mI N 11 (f_mvI (N.2.2.2.1 11) (N.2.2.2.1 13) (6 * s) t9)) 12 (f_mvI (N.2.2.2.1 12) (N.2.2.2.1 14) (6 * s) t9)) 3 (f_mvL (N.2.2.2.2 3) (N.2.2.2.2 4) (6 * s) t9)) (i := t9) (j := 6 * s + t9) (by omega) (by omega)) (⟨_, _, _, _, rfl, rfl⟩) oX12_moves q_1602 q_1604 q_116 rfl (by omega) (by decide) rfl (Nat.le_of_ble_eq_true rfl) 84 rfl dX12_like_81 rfl ?_
    refine a_eq (h2 := g_hp G C (g_hm G (f_mL (f_mI (f_mI N 11 (f_mvI (N.2.2.2.1 11) (N.2.2.2.1 13) (6 * s) (t9 + 1))) 12 (f_mvI (N.2.2.2.1 12) (N.2.2.2.1 14) (6 * s) (t9 + 1))) 3 (f_mvL (N.2.2.2.2 3) (N.2.2.2.2 4) (6 * s) (t9 + 1))) ++ ob)) rfl rfl rfl rfl ?_
    refine a_iinc (y := nI (t9 + 1)) (lv' := [(3, .int (nI (t9 + 1))), (0, .ref (g_ad G 38)), (1, .int (nI s))]) 0 87 rfl dX12_like_84 rfl (nI_1 t9) (by decide) rfl ?_
    refine a_goto 67 dX12_like_87 (by decide) ?_
    refine a_sub (lv' := [(3, .int (nI (t9 + 1))), (0, .ref (g_ad G 38)), (1, .int (nI s))]) [0, 1, 2] rfl ?_
    exact k_t9 trivial
  · skip
    refine a_iload_n 0 68 rfl dX12_like_67 rfl rfl ?_
    refine a_bipush (x := 6) 70 rfl dX12_like_68 (by decide) ?_
    refine a_icmp_ge 90 73 rfl dX12_like_70 (by decide) (fun _ => ?_) (fun hc => absurd (nI_le (a := 6) (b := 6) (by omega) (by omega)) hc)
    refine a_aload_n 1 91 rfl dX12_like_90 rfl rfl ?_
    refine a_get 31 cl_11 f_RX12_62_11 (by decide) (rfl) rfl 94 rfl dX12_like_91 ?_
    refine a_iload_n 2 95 rfl dX12_like_94 rfl rfl ?_
    refine a_iald (rfl) (vp_in_nI (n := s) (by omega) (by omega)) 96 rfl dX12_like_95 ?_
    refine a_eq (st2 := [.int ((N.2.2.2.1 10) s)]) rfl rfl (congrArg (fun z9 => Value.int z9 :: []) (congrArg (N.2.2.2.1 10) (g_cl (by omega)))) rfl ?_
    refine a_eq (st2 := [.int (M.2.2.2.1 10 o)]) rfl rfl (congrArg (fun z9 => Value.int z9 :: []) (eR)) rfl ?_
    exact a_ireturn .int rfl rfl (rfl) (rfl) dX12_like_96
theorem r_ptM_b0 (hy : ¬ ((0 : Int32) ≤ y ∧ y ≤ 2)) : g_Run G mX12_put 6 0 0 [.ref (g_ad G 38), .int y, .int y2, .long x] (g_hp G C (g_hm G M ++ ob)) (some (.int (-1))) (g_hp G C (g_hm G M ++ ob)) := by
  refine g_Run.of (lv := [(0, .ref (g_ad G 38)), (1, .int y), (2, .int y2), (3, .long x)]) (by decide) (Nat.le_of_ble_eq_true rfl) rfl ?_
  refine a_iload_n 1 1 rfl dX12_put_0 rfl rfl ?_
  refine a_callS (as := [.int y]) (rest := []) (st2 := [.int (f_i (decide ((0:Int32) ≤ y ∧ y ≤ 2)))]) (u1 := 0) (v1 := 0) (u2 := 0) (v2 := 0) (r_isLiM) oX12_isList q_1530 q_1531 rfl (by omega) (by decide) rfl (Nat.le_of_ble_eq_true rfl) 4 rfl dX12_put_1 rfl ?_
  refine a_if_ne 9 7 rfl dX12_put_4 (by decide) (fun hc => absurd (f_i_F (decide_eq_false hy)) hc) (fun _ => ?_)
  refine a_iconst (x := (-1)) 8 rfl dX12_put_7 (by decide) ?_
  exact a_ireturn .int rfl rfl (rfl) (rfl) dX12_put_8
theorem r_ptM_miss (hs : s < 3) (h0 : ¬ 0 ≤ M.2.2.2.1 15 s) : g_Run G mX12_put 6 0 0 [.ref (g_ad G 38), .int (nI s), .int y2, .long x] (g_hp G C (g_hm G M ++ ob)) (some (.int (-11))) (g_hp G C (g_hm G M ++ ob)) := by
  refine g_Run.of (lv := [(0, .ref (g_ad G 38)), (1, .int (nI s)), (2, .int y2), (3, .long x)]) (by decide) (Nat.le_of_ble_eq_true rfl) rfl ?_
  refine a_iload_n 1 1 rfl dX12_put_0 rfl rfl ?_
  refine a_callS (as := [.int (nI s)]) (rest := []) (st2 := [.int (f_i (decide ((0:Int32) ≤ nI s ∧ nI s ≤ 2)))]) (u1 := 0) (v1 := 0) (u2 := 0) (v2 := 0) (r_isLiM) oX12_isList q_1530 q_1531 rfl (by omega) (by decide) rfl (Nat.le_of_ble_eq_true rfl) 4 rfl dX12_put_1 rfl ?_
  refine a_if_ne 9 7 rfl dX12_put_4 (by decide) (fun _ => ?_) (fun hc => absurd hc (f_i_T (f_or2 hs)))
  refine a_aload_n 0 10 rfl dX12_put_9 rfl rfl ?_
  refine a_get 38 cl_11 f_RX12_83_11 (by decide) (rfl) rfl 13 rfl dX12_put_10 ?_
  refine a_iload_n 1 14 rfl dX12_put_13 rfl rfl ?_
  refine a_iald (rfl) (vp_in_nI (n := s) (by omega) (by omega)) 15 rfl dX12_put_14 ?_
  refine a_eq (st2 := [.int ((M.2.2.2.1 15) s)]) rfl rfl (congrArg (fun z9 => Value.int z9 :: []) (congrArg (M.2.2.2.1 15) (g_cl (by omega)))) rfl ?_
  refine a_if_ge 21 18 rfl dX12_put_15 (by decide) (fun hc => absurd hc (h0)) (fun _ => ?_)
  refine a_bipush (x := (-11)) 20 rfl dX12_put_18 (by decide) ?_
  exact a_ireturn .int rfl rfl (rfl) (rfl) dX12_put_20
theorem r_ptM_out (hs : s < 3) (h0 : 0 ≤ M.2.2.2.1 15 s) (hy : ¬ ((0 : Int32) ≤ y2 ∧ y2 ≤ M.2.2.2.1 16 s - 1)) : g_Run G mX12_put 6 0 0 [.ref (g_ad G 38), .int (nI s), .int y2, .long x] (g_hp G C (g_hm G M ++ ob)) (some (.int (-13))) (g_hp G C (g_hm G M ++ ob)) := by
  refine g_Run.of (lv := [(0, .ref (g_ad G 38)), (1, .int (nI s)), (2, .int y2), (3, .long x)]) (by decide) (Nat.le_of_ble_eq_true rfl) rfl ?_
  refine a_iload_n 1 1 rfl dX12_put_0 rfl rfl ?_
  refine a_callS (as := [.int (nI s)]) (rest := []) (st2 := [.int (f_i (decide ((0:Int32) ≤ nI s ∧ nI s ≤ 2)))]) (u1 := 0) (v1 := 0) (u2 := 0) (v2 := 0) (r_isLiM) oX12_isList q_1530 q_1531 rfl (by omega) (by decide) rfl (Nat.le_of_ble_eq_true rfl) 4 rfl dX12_put_1 rfl ?_
  refine a_if_ne 9 7 rfl dX12_put_4 (by decide) (fun _ => ?_) (fun hc => absurd hc (f_i_T (f_or2 hs)))
  refine a_aload_n 0 10 rfl dX12_put_9 rfl rfl ?_
  refine a_get 38 cl_11 f_RX12_83_11 (by decide) (rfl) rfl 13 rfl dX12_put_10 ?_
  refine a_iload_n 1 14 rfl dX12_put_13 rfl rfl ?_
  refine a_iald (rfl) (vp_in_nI (n := s) (by omega) (by omega)) 15 rfl dX12_put_14 ?_
  refine a_eq (st2 := [.int ((M.2.2.2.1 15) s)]) rfl rfl (congrArg (fun z9 => Value.int z9 :: []) (congrArg (M.2.2.2.1 15) (g_cl (by omega)))) rfl ?_
  refine a_if_ge 21 18 rfl dX12_put_15 (by decide) (fun _ => ?_) (fun hc => absurd (h0) hc)
  refine a_iload_n 2 22 rfl dX12_put_21 rfl rfl ?_
  refine a_i2l 23 rfl dX12_put_22 ?_
  refine a_lconst (x := 0) 24 rfl dX12_put_23 (by decide) ?_
  refine a_aload_n 0 25 rfl dX12_put_24 rfl rfl ?_
  refine a_get 39 cl_11 f_RX12_86_11 (by decide) (rfl) rfl 28 rfl dX12_put_25 ?_
  refine a_iload_n 1 29 rfl dX12_put_28 rfl rfl ?_
  refine a_iald (rfl) (vp_in_nI (n := s) (by omega) (by omega)) 30 rfl dX12_put_29 ?_
  refine a_eq (st2 := [.int ((M.2.2.2.1 16) s), .long 0, .long y2.toInt64]) rfl rfl (congrArg (fun z9 => Value.int z9 :: [.long 0, .long y2.toInt64]) (congrArg (M.2.2.2.1 16) (g_cl (by omega)))) rfl ?_
  refine a_iconst (x := 1) 31 rfl dX12_put_30 (by decide) ?_
  refine a_isub 32 rfl dX12_put_31 ?_
  refine a_i2l 33 rfl dX12_put_32 ?_
  refine a_callS (as := [.long y2.toInt64, .long 0, .long ((((M.2.2.2.1 16) s) - 1).toInt64)]) (rest := []) (st2 := [.int (f_i (decide ((0 : Int32) ≤ y2 ∧ y2 ≤ (((M.2.2.2.1 16) s) - 1))))]) (u1 := 0) (v1 := 0) (u2 := 0) (v2 := 0) (r_isInB (y := y2) (a := 0) (b := (((M.2.2.2.1 16) s) - 1)) rfl rfl) oX12_isIn q_1242 q_1243 rfl (by omega) (by decide) rfl (Nat.le_of_ble_eq_true rfl) 36 rfl dX12_put_33 rfl ?_
  refine a_if_ne 42 39 rfl dX12_put_36 (by decide) (fun hc => absurd (f_i_F (decide_eq_false hy)) hc) (fun _ => ?_)
  refine a_bipush (x := (-13)) 41 rfl dX12_put_39 (by decide) ?_
  exact a_ireturn .int rfl rfl (rfl) (rfl) dX12_put_41
theorem r_ptM (hs : s < 3) (hi : i < 20) (h0 : 0 ≤ M.2.2.2.1 15 s) (hy : (0 : Int32) ≤ nI i ∧ nI i ≤ M.2.2.2.1 16 s - 1) : g_Run G mX12_put 6 0 0 [.ref (g_ad G 38), .int (nI s), .int (nI i), .long x] (g_hp G C (g_hm G M ++ ob)) (some (.int 1)) (g_hp G C (g_hm G (f_mL M 5 (vp_updL (M.2.2.2.2 5) (20 * s + i) (cond (decide (M.2.2.2.1 15 s = 0)) x.toInt32.toInt64 x))) ++ ob)) := by
  have hcl : (nI (20 * s + i)).toNatClampNeg = 20 * s + i := g_cl (by omega)
  refine g_Run.of (lv := [(0, .ref (g_ad G 38)), (1, .int (nI s)), (2, .int (nI i)), (3, .long x)]) (by decide) (Nat.le_of_ble_eq_true rfl) rfl ?_
  refine a_iload_n 1 1 rfl dX12_put_0 rfl rfl ?_
  refine a_callS (as := [.int (nI s)]) (rest := []) (st2 := [.int (f_i (decide ((0:Int32) ≤ nI s ∧ nI s ≤ 2)))]) (u1 := 0) (v1 := 0) (u2 := 0) (v2 := 0) (r_isLiM) oX12_isList q_1530 q_1531 rfl (by omega) (by decide) rfl (Nat.le_of_ble_eq_true rfl) 4 rfl dX12_put_1 rfl ?_
  refine a_if_ne 9 7 rfl dX12_put_4 (by decide) (fun _ => ?_) (fun hc => absurd hc (f_i_T (f_or2 hs)))
  refine a_aload_n 0 10 rfl dX12_put_9 rfl rfl ?_
  refine a_get 38 cl_11 f_RX12_83_11 (by decide) (rfl) rfl 13 rfl dX12_put_10 ?_
  refine a_iload_n 1 14 rfl dX12_put_13 rfl rfl ?_
  refine a_iald (rfl) (vp_in_nI (n := s) (by omega) (by omega)) 15 rfl dX12_put_14 ?_
  refine a_eq (st2 := [.int ((M.2.2.2.1 15) s)]) rfl rfl (congrArg (fun z9 => Value.int z9 :: []) (congrArg (M.2.2.2.1 15) (g_cl (by omega)))) rfl ?_
  refine a_if_ge 21 18 rfl dX12_put_15 (by decide) (fun _ => ?_) (fun hc => absurd (h0) hc)
  refine a_iload_n 2 22 rfl dX12_put_21 rfl rfl ?_
  refine a_i2l 23 rfl dX12_put_22 ?_
  refine a_lconst (x := 0) 24 rfl dX12_put_23 (by decide) ?_
  refine a_aload_n 0 25 rfl dX12_put_24 rfl rfl ?_
  refine a_get 39 cl_11 f_RX12_86_11 (by decide) (rfl) rfl 28 rfl dX12_put_25 ?_
  refine a_iload_n 1 29 rfl dX12_put_28 rfl rfl ?_
  refine a_iald (rfl) (vp_in_nI (n := s) (by omega) (by omega)) 30 rfl dX12_put_29 ?_
  refine a_eq (st2 := [.int ((M.2.2.2.1 16) s), .long 0, .long ((nI i).toInt64)]) rfl rfl (congrArg (fun z9 => Value.int z9 :: [.long 0, .long ((nI i).toInt64)]) (congrArg (M.2.2.2.1 16) (g_cl (by omega)))) rfl ?_
  refine a_iconst (x := 1) 31 rfl dX12_put_30 (by decide) ?_
  refine a_isub 32 rfl dX12_put_31 ?_
  refine a_i2l 33 rfl dX12_put_32 ?_
  refine a_callS (as := [.long ((nI i).toInt64), .long 0, .long ((((M.2.2.2.1 16) s) - 1).toInt64)]) (rest := []) (st2 := [.int (f_i (decide ((0 : Int32) ≤ (nI i) ∧ (nI i) ≤ (((M.2.2.2.1 16) s) - 1))))]) (u1 := 0) (v1 := 0) (u2 := 0) (v2 := 0) (r_isInB (y := (nI i)) (a := 0) (b := (((M.2.2.2.1 16) s) - 1)) rfl rfl) oX12_isIn q_1242 q_1243 rfl (by omega) (by decide) rfl (Nat.le_of_ble_eq_true rfl) 36 rfl dX12_put_33 rfl ?_
  refine a_if_ne 42 39 rfl dX12_put_36 (by decide) (fun _ => ?_) (fun hc => absurd hc (f_i_T (decide_eq_true hy)))
  refine a_aload_n 0 43 rfl dX12_put_42 rfl rfl ?_
  refine a_get 40 cl_11 f_RX12_89_11 (by decide) (rfl) rfl 46 rfl dX12_put_43 ?_
  refine a_bipush (x := 20) 48 rfl dX12_put_46 (by decide) ?_
  refine a_iload_n 1 49 rfl dX12_put_48 rfl rfl ?_
  refine a_imul 50 rfl dX12_put_49 ?_
  refine a_eq (st2 := [.int (nI (20 * s)), .ref (g_ad G 61)]) rfl rfl (congrArg (fun z9 => Value.int z9 :: [.ref (g_ad G 61)]) (pk_mul 20 s)) rfl ?_
  refine a_iload_n 2 51 rfl dX12_put_50 rfl rfl ?_
  refine a_iadd 52 rfl dX12_put_51 ?_
  refine a_eq (st2 := [.int (nI ((20 * s) + i)), .ref (g_ad G 61)]) rfl rfl (congrArg (fun z9 => Value.int z9 :: [.ref (g_ad G 61)]) (nI_add (20 * s) i)) rfl ?_
  refine a_aload_n 0 53 rfl dX12_put_52 rfl rfl ?_
  refine a_get 38 cl_11 f_RX12_83_11 (by decide) (rfl) rfl 56 rfl dX12_put_53 ?_
  refine a_iload_n 1 57 rfl dX12_put_56 rfl rfl ?_
  refine a_iald (rfl) (vp_in_nI (n := s) (by omega) (by omega)) 58 rfl dX12_put_57 ?_
  refine a_eq (st2 := [.int ((M.2.2.2.1 15) s), .int (nI ((20 * s) + i)), .ref (g_ad G 61)]) rfl rfl (congrArg (fun z9 => Value.int z9 :: [.int (nI ((20 * s) + i)), .ref (g_ad G 61)]) (congrArg (M.2.2.2.1 15) (g_cl (by omega)))) rfl ?_
  refine g_sfx (pc := 68) (lv := [(0, .ref (g_ad G 38)), (1, .int (nI s)), (2, .int (nI i)), (3, .long x)]) (st := [.long (cond (decide (((M.2.2.2.1 15) s) = 0)) x.toInt32.toInt64 x), .int (nI ((20 * s) + i)), .ref (g_ad G 61)]) (h := (g_hp G C (g_hm G M ++ ob))) (fun key => ?_) ?_
  · skip
    rcases Bool.eq_false_or_eq_true (decide (((M.2.2.2.1 15) s) = 0)) with c58_1 | c58_1
    · skip
      have dc58_1 := of_decide_eq_true c58_1
      refine a_if_ne 67 61 rfl dX12_put_58 (by decide) (fun hc => absurd (of_decide_eq_true c58_1) hc) (fun _ => ?_)
      refine a_lload_n 3 62 rfl dX12_put_61 rfl rfl ?_
      refine a_l2i 63 rfl dX12_put_62 ?_
      refine a_i2l 64 rfl dX12_put_63 ?_
      refine a_goto 68 dX12_put_64 (by decide) ?_
      exact a_eq rfl (rfl) (by rw [c58_1]; rfl) rfl key
    · skip
      have dc58_1 := of_decide_eq_false c58_1
      refine a_if_ne 67 61 rfl dX12_put_58 (by decide) (fun _ => ?_) (fun hc => absurd hc (of_decide_eq_false c58_1))
      refine a_lload_n 3 68 rfl dX12_put_67 rfl rfl ?_
      exact a_eq rfl (rfl) (by rw [c58_1]; rfl) rfl key
  refine a_last (rfl) (vp_in_nI (n := ((20 * s) + i)) (by omega) (by omega)) 69 rfl dX12_put_68 ?_
  refine a_eq (h2 := g_hp G C (g_hm G (f_mL M 5 (vp_updL (M.2.2.2.2 5) (20 * s + i) (cond (decide (M.2.2.2.1 15 s = 0)) x.toInt32.toInt64 x))) ++ ob)) rfl rfl rfl (by show (((g_hp G C (g_hm G M ++ ob)).set 61 (c_L G 60 (vp_updL (M.2.2.2.2 5) (nI ((20 * s) + i)).toNatClampNeg (cond (decide (((M.2.2.2.1 15) s) = 0)) x.toInt32.toInt64 x)))) : List va_E) = _; rw [hcl]; rfl) ?_
  refine a_iconst (x := 1) 70 rfl dX12_put_69 (by decide) ?_
  exact a_ireturn .int rfl rfl (rfl) (rfl) dX12_put_70
theorem r_gtM_b0 (hy : ¬ ((0 : Int32) ≤ y ∧ y ≤ 2)) : g_Run G mX12_get 6 0 0 [.ref (g_ad G 38), .int y, .int y2] (g_hp G C (g_hm G M ++ ob)) (some (.long (-9223372036854775808))) (g_hp G C (g_hm G M ++ ob)) := by
  refine g_Run.of (lv := [(0, .ref (g_ad G 38)), (1, .int y), (2, .int y2)]) (by decide) (Nat.le_of_ble_eq_true rfl) rfl ?_
  refine a_iload_n 1 1 rfl dX12_get_0 rfl rfl ?_
  refine a_callS (as := [.int y]) (rest := []) (st2 := [.int (f_i (decide ((0:Int32) ≤ y ∧ y ≤ 2)))]) (u1 := 0) (v1 := 0) (u2 := 0) (v2 := 0) (r_isLiM) oX12_isList q_1530 q_1531 rfl (by omega) (by decide) rfl (Nat.le_of_ble_eq_true rfl) 4 rfl dX12_get_1 rfl ?_
  refine a_if_eq 39 7 rfl dX12_get_4 (by decide) (fun _ => ?_) (fun hc => absurd (f_i_F (decide_eq_false hy)) hc)
  refine a_ldc2 q_1295 42 rfl dX12_get_39 ?_
  exact a_lreturn rfl (rfl) (rfl) dX12_get_42
theorem r_gtM_b1 (hs : s < 3) (hy : ¬ ((0 : Int32) ≤ y2 ∧ y2 ≤ M.2.2.2.1 16 s - 1)) : g_Run G mX12_get 6 0 0 [.ref (g_ad G 38), .int (nI s), .int y2] (g_hp G C (g_hm G M ++ ob)) (some (.long (-9223372036854775808))) (g_hp G C (g_hm G M ++ ob)) := by
  refine g_Run.of (lv := [(0, .ref (g_ad G 38)), (1, .int (nI s)), (2, .int y2)]) (by decide) (Nat.le_of_ble_eq_true rfl) rfl ?_
  refine a_iload_n 1 1 rfl dX12_get_0 rfl rfl ?_
  refine a_callS (as := [.int (nI s)]) (rest := []) (st2 := [.int (f_i (decide ((0:Int32) ≤ nI s ∧ nI s ≤ 2)))]) (u1 := 0) (v1 := 0) (u2 := 0) (v2 := 0) (r_isLiM) oX12_isList q_1530 q_1531 rfl (by omega) (by decide) rfl (Nat.le_of_ble_eq_true rfl) 4 rfl dX12_get_1 rfl ?_
  refine a_if_eq 39 7 rfl dX12_get_4 (by decide) (fun hc => absurd hc (f_i_T (f_or2 hs))) (fun _ => ?_)
  refine a_iload_n 2 8 rfl dX12_get_7 rfl rfl ?_
  refine a_i2l 9 rfl dX12_get_8 ?_
  refine a_lconst (x := 0) 10 rfl dX12_get_9 (by decide) ?_
  refine a_aload_n 0 11 rfl dX12_get_10 rfl rfl ?_
  refine a_get 39 cl_11 f_RX12_86_11 (by decide) (rfl) rfl 14 rfl dX12_get_11 ?_
  refine a_iload_n 1 15 rfl dX12_get_14 rfl rfl ?_
  refine a_iald (rfl) (vp_in_nI (n := s) (by omega) (by omega)) 16 rfl dX12_get_15 ?_
  refine a_eq (st2 := [.int ((M.2.2.2.1 16) s), .long 0, .long y2.toInt64]) rfl rfl (congrArg (fun z9 => Value.int z9 :: [.long 0, .long y2.toInt64]) (congrArg (M.2.2.2.1 16) (g_cl (by omega)))) rfl ?_
  refine a_iconst (x := 1) 17 rfl dX12_get_16 (by decide) ?_
  refine a_isub 18 rfl dX12_get_17 ?_
  refine a_i2l 19 rfl dX12_get_18 ?_
  refine a_callS (as := [.long y2.toInt64, .long 0, .long ((((M.2.2.2.1 16) s) - 1).toInt64)]) (rest := []) (st2 := [.int (f_i (decide ((0 : Int32) ≤ y2 ∧ y2 ≤ (((M.2.2.2.1 16) s) - 1))))]) (u1 := 0) (v1 := 0) (u2 := 0) (v2 := 0) (r_isInB (y := y2) (a := 0) (b := (((M.2.2.2.1 16) s) - 1)) rfl rfl) oX12_isIn q_1242 q_1243 rfl (by omega) (by decide) rfl (Nat.le_of_ble_eq_true rfl) 22 rfl dX12_get_19 rfl ?_
  refine a_if_eq 39 25 rfl dX12_get_22 (by decide) (fun _ => ?_) (fun hc => absurd (f_i_F (decide_eq_false hy)) hc)
  refine a_ldc2 q_1295 42 rfl dX12_get_39 ?_
  exact a_lreturn rfl (rfl) (rfl) dX12_get_42
theorem r_gtM (hs : s < 3) (hi : i < 20) (hy : (0 : Int32) ≤ nI i ∧ nI i ≤ M.2.2.2.1 16 s - 1) : g_Run G mX12_get 6 0 0 [.ref (g_ad G 38), .int (nI s), .int (nI i)] (g_hp G C (g_hm G M ++ ob)) (some (.long (M.2.2.2.2 5 (20 * s + i)))) (g_hp G C (g_hm G M ++ ob)) := by
  refine g_Run.of (lv := [(0, .ref (g_ad G 38)), (1, .int (nI s)), (2, .int (nI i))]) (by decide) (Nat.le_of_ble_eq_true rfl) rfl ?_
  refine a_iload_n 1 1 rfl dX12_get_0 rfl rfl ?_
  refine a_callS (as := [.int (nI s)]) (rest := []) (st2 := [.int (f_i (decide ((0:Int32) ≤ nI s ∧ nI s ≤ 2)))]) (u1 := 0) (v1 := 0) (u2 := 0) (v2 := 0) (r_isLiM) oX12_isList q_1530 q_1531 rfl (by omega) (by decide) rfl (Nat.le_of_ble_eq_true rfl) 4 rfl dX12_get_1 rfl ?_
  refine a_if_eq 39 7 rfl dX12_get_4 (by decide) (fun hc => absurd hc (f_i_T (f_or2 hs))) (fun _ => ?_)
  refine a_iload_n 2 8 rfl dX12_get_7 rfl rfl ?_
  refine a_i2l 9 rfl dX12_get_8 ?_
  refine a_lconst (x := 0) 10 rfl dX12_get_9 (by decide) ?_
  refine a_aload_n 0 11 rfl dX12_get_10 rfl rfl ?_
  refine a_get 39 cl_11 f_RX12_86_11 (by decide) (rfl) rfl 14 rfl dX12_get_11 ?_
  refine a_iload_n 1 15 rfl dX12_get_14 rfl rfl ?_
  refine a_iald (rfl) (vp_in_nI (n := s) (by omega) (by omega)) 16 rfl dX12_get_15 ?_
  refine a_eq (st2 := [.int ((M.2.2.2.1 16) s), .long 0, .long ((nI i).toInt64)]) rfl rfl (congrArg (fun z9 => Value.int z9 :: [.long 0, .long ((nI i).toInt64)]) (congrArg (M.2.2.2.1 16) (g_cl (by omega)))) rfl ?_
  refine a_iconst (x := 1) 17 rfl dX12_get_16 (by decide) ?_
  refine a_isub 18 rfl dX12_get_17 ?_
  refine a_i2l 19 rfl dX12_get_18 ?_
  refine a_callS (as := [.long ((nI i).toInt64), .long 0, .long ((((M.2.2.2.1 16) s) - 1).toInt64)]) (rest := []) (st2 := [.int (f_i (decide ((0 : Int32) ≤ (nI i) ∧ (nI i) ≤ (((M.2.2.2.1 16) s) - 1))))]) (u1 := 0) (v1 := 0) (u2 := 0) (v2 := 0) (r_isInB (y := (nI i)) (a := 0) (b := (((M.2.2.2.1 16) s) - 1)) rfl rfl) oX12_isIn q_1242 q_1243 rfl (by omega) (by decide) rfl (Nat.le_of_ble_eq_true rfl) 22 rfl dX12_get_19 rfl ?_
  refine a_if_eq 39 25 rfl dX12_get_22 (by decide) (fun hc => absurd hc (f_i_T (decide_eq_true hy))) (fun _ => ?_)
  refine a_aload_n 0 26 rfl dX12_get_25 rfl rfl ?_
  refine a_get 40 cl_11 f_RX12_89_11 (by decide) (rfl) rfl 29 rfl dX12_get_26 ?_
  refine a_bipush (x := 20) 31 rfl dX12_get_29 (by decide) ?_
  refine a_iload_n 1 32 rfl dX12_get_31 rfl rfl ?_
  refine a_imul 33 rfl dX12_get_32 ?_
  refine a_eq (st2 := [.int (nI (20 * s)), .ref (g_ad G 61)]) rfl rfl (congrArg (fun z9 => Value.int z9 :: [.ref (g_ad G 61)]) (pk_mul 20 s)) rfl ?_
  refine a_iload_n 2 34 rfl dX12_get_33 rfl rfl ?_
  refine a_iadd 35 rfl dX12_get_34 ?_
  refine a_eq (st2 := [.int (nI ((20 * s) + i)), .ref (g_ad G 61)]) rfl rfl (congrArg (fun z9 => Value.int z9 :: [.ref (g_ad G 61)]) (nI_add (20 * s) i)) rfl ?_
  refine a_lald (rfl) (vp_in_nI (n := ((20 * s) + i)) (by omega) (by omega)) 36 rfl dX12_get_35 ?_
  refine a_eq (st2 := [.long ((M.2.2.2.2 5) ((20 * s) + i))]) rfl rfl (congrArg (fun z9 => Value.long z9 :: []) (congrArg (M.2.2.2.2 5) (g_cl (by omega)))) rfl ?_
  refine a_goto 42 dX12_get_36 (by decide) ?_
  exact a_lreturn rfl (rfl) (rfl) dX12_get_42
end MS2
