/-! choices, cascades -/
/-- how many sets of k there are of n things -/
def f_bin : Nat → Nat → Nat
  | _, 0 => 1
  | 0, _ + 1 => 0
  | n + 1, k + 1 => f_bin n k + f_bin n (k + 1)
theorem f_bin_0 (n : Nat) : f_bin n 0 = 1 := by cases n <;> rfl
theorem f_bin_ss (n k : Nat) : f_bin (n + 1) (k + 1) = f_bin n k + f_bin n (k + 1) := rfl
theorem f_bin_above : ∀ (n k : Nat), n < k → f_bin n k = 0 := by
  intro n
  induction n with
  | zero => intro k hk; cases k with
    | zero => omega
    | succ k => rfl
  | succ n ih => intro k hk; cases k with
    | zero => omega
    | succ k => rw [f_bin_ss, ih k (by omega), ih (k + 1) (by omega)]
theorem f_bin_self (n : Nat) : f_bin n n = 1 := by
  induction n with
  | zero => rfl
  | succ n ih => rw [f_bin_ss, ih, f_bin_above n (n + 1) (by omega)]
theorem f_bin_1 (n : Nat) : f_bin n 1 = n := by
  induction n with
  | zero => rfl
  | succ n ih => rw [f_bin_ss, ih, f_bin_0]; omega
theorem f_bin_mul : ∀ (n k : Nat), f_bin (n + 1) (k + 1) * (k + 1) = (n + 1) * f_bin n k := by
  intro n
  induction n with
  | zero =>
    intro k
    cases k with
    | zero => rfl
    | succ k => rw [f_bin_above 1 (k + 2) (by omega), f_bin_above 0 (k + 1) (by omega)]; simp
  | succ n ih =>
    intro k
    cases k with
    | zero => rw [f_bin_1, f_bin_0]
    | succ k =>
      have e1 := ih k
      have e2 := ih (k + 1)
      rw [f_bin_ss (n + 1) (k + 1), Nat.add_mul]
      have e3 : f_bin (n + 1) (k + 1) * (k + 1 + 1) = (n + 1) * f_bin n k + f_bin (n + 1) (k + 1) := by
        rw [Nat.mul_add, e1, Nat.mul_one]
      rw [e3, e2]
      have e4 : f_bin (n + 1) (k + 1) = f_bin n k + f_bin n (k + 1) := rfl
      rw [e4]
      have e5 : (n + 1 + 1) * (f_bin n k + f_bin n (k + 1)) = (n + 1) * f_bin n k + (n + 1) * f_bin n (k + 1) + (f_bin n k + f_bin n (k + 1)) := by
        rw [Nat.add_mul (n + 1) 1, Nat.mul_add (n + 1), Nat.one_mul]
      rw [e5]
      omega
theorem f_bin_le (n k : Nat) : f_bin n k ≤ f_bin (n + 1) (k + 1) := by rw [f_bin_ss]; omega
theorem f_bin_diag (b : Nat) : ∀ (j i : Nat), f_bin (b + i) i ≤ f_bin (b + (i + j)) (i + j) := by
  intro j
  induction j with
  | zero => intro i; exact Nat.le_refl _
  | succ j ih =>
    intro i
    have e1 := ih i
    have e2 := f_bin_le (b + (i + j)) (i + j)
    rw [show b + (i + (j + 1)) = b + (i + j) + 1 by omega, show i + (j + 1) = i + j + 1 by omega]
    omega
theorem f_bin_sym : ∀ (s a b : Nat), a + b = s → f_bin (a + b) a = f_bin (a + b) b := by
  intro s
  induction s with
  | zero => intro a b e; rw [show a = 0 by omega, show b = 0 by omega]
  | succ s ih =>
    intro a b e
    cases a with
    | zero => rw [f_bin_0, Nat.zero_add, f_bin_self]
    | succ a => cases b with
      | zero => rw [f_bin_0, Nat.add_zero, f_bin_self]
      | succ b =>
        have e1 := ih a (b + 1) (by omega)
        have e2 := ih (a + 1) b (by omega)
        rw [show a + 1 + (b + 1) = (a + (b + 1)) + 1 by omega, f_bin_ss, f_bin_ss, e1]
        rw [show a + 1 + b = a + (b + 1) by omega] at e2
        rw [e2]
        omega
theorem f_bin_symm {n k : Nat} (hk : k ≤ n) : f_bin n k = f_bin n (n - k) := by
  have e1 := f_bin_sym n k (n - k) (by omega)
  rw [show k + (n - k) = n by omega] at e1
  exact e1
/-- LeastShadows.choices: more than 4000000000 is told as one more -/
def f_ch (t k : Nat) : Nat := if 4000000000 < f_bin t k then 4000000001 else f_bin t k
theorem f_ch_le (t k : Nat) : f_ch t k ≤ 4000000001 := by unfold f_ch; split <;> omega
section CH1
variable {G : g_G} {h : List va_E} {t9 k9 : Nat}
theorem f_cmpT_gt {x y : Nat} (hx : x < 2 ^ 63) (hy : y < 2 ^ 63) (hh : y < x) : 0 < lg_cmp (lN x) (lN y) := g_cmp_gt.mpr ((pk_lLT hy hx).mpr hh)
theorem f_cmpF_gt {x y : Nat} (hx : x < 2 ^ 63) (hy : y < 2 ^ 63) (hh : x ≤ y) : ¬ 0 < lg_cmp (lN x) (lN y) := fun z => by
  have := (pk_lLT hy hx).mp (g_cmp_gt.mp z)
  omega
theorem f_cmpT_le {x y : Nat} (hx : x < 2 ^ 63) (hy : y < 2 ^ 63) (hh : x ≤ y) : lg_cmp (lN x) (lN y) ≤ 0 := g_cmp_le.mpr ((pk_lLE hx hy).mpr hh)
theorem f_cmpF_le {x y : Nat} (hx : x < 2 ^ 63) (hy : y < 2 ^ 63) (hh : y < x) : ¬ lg_cmp (lN x) (lN y) ≤ 0 := fun z => by
  have := (pk_lLE hx hy).mp (g_cmp_le.mp z)
  omega
theorem r_choices0 (hk : t9 < k9) (hk2 : k9 ≤ 100) : g_Run G mX11_choices 1 0 0 [.long (lN t9), .int (nI k9)] h (some (.long (lN (f_ch t9 k9)))) h := by
  refine g_Run.of (lv := [(0, .long (lN t9)), (2, .int (nI k9))]) (by decide) (Nat.le_of_ble_eq_true rfl) rfl ?_
  refine a_iload_n 1 1 rfl dX11_choices_0 rfl rfl ?_
  refine a_if_lt 11 4 rfl dX11_choices_1 (by decide) (fun hc => absurd hc (nI_pos (by omega))) (fun _ => ?_)
  refine a_iload_n 1 5 rfl dX11_choices_4 rfl rfl ?_
  refine a_i2l 6 rfl dX11_choices_5 ?_
  refine a_lload_n 0 7 rfl dX11_choices_6 rfl rfl ?_
  refine a_lcmp 8 rfl dX11_choices_7 ?_
  refine a_if_le 13 11 rfl dX11_choices_8 (by decide) (fun hc => absurd hc ((by rw [nI_l (by omega)]; exact f_cmpF_le (by omega) (by omega) hk))) (fun _ => ?_)
  refine a_lconst (x := 0) 12 rfl dX11_choices_11 (by decide) ?_
  exact a_lreturn rfl ((by rw [f_ch, f_bin_above t9 k9 hk]; rfl)) (rfl) dX11_choices_12
theorem r_choices (hk : k9 ≤ t9) (hk2 : k9 ≤ 100) (ht : t9 < 2147483648) : g_Run G mX11_choices 1 0 0 [.long (lN t9), .int (nI k9)] h (some (.long (lN (f_ch t9 k9)))) h := by
  obtain ⟨f9, hf9⟩ : ∃ f9, f9 = (if t9 - k9 < k9 then t9 - k9 else k9) := ⟨_, rfl⟩
  have hf1 : f9 ≤ t9 ∧ f9 ≤ 100 := by rw [hf9]; split <;> omega
  have hf2 : f_bin t9 k9 = f_bin (t9 - f9 + f9) f9 := by
    rw [show t9 - f9 + f9 = t9 by omega, hf9]
    split
    · exact f_bin_symm hk
    · rfl
  refine g_Run.of (lv := [(0, .long (lN t9)), (2, .int (nI k9))]) (by decide) (Nat.le_of_ble_eq_true rfl) rfl ?_
  refine a_iload_n 1 1 rfl dX11_choices_0 rfl rfl ?_
  refine a_if_lt 11 4 rfl dX11_choices_1 (by decide) (fun hc => absurd hc (nI_pos (by omega))) (fun _ => ?_)
  refine a_iload_n 1 5 rfl dX11_choices_4 rfl rfl ?_
  refine a_i2l 6 rfl dX11_choices_5 ?_
  refine a_lload_n 0 7 rfl dX11_choices_6 rfl rfl ?_
  refine a_lcmp 8 rfl dX11_choices_7 ?_
  refine a_if_le 13 11 rfl dX11_choices_8 (by decide) (fun _ => ?_) (fun hc => absurd ((by rw [nI_l (by omega)]; exact f_cmpT_le (by omega) (by omega) hk)) hc)
  refine a_iload_n 1 14 rfl dX11_choices_13 rfl rfl ?_
  refine a_i2l 15 rfl dX11_choices_14 ?_
  refine a_lload_n 0 16 rfl dX11_choices_15 rfl rfl ?_
  refine a_iload_n 1 17 rfl dX11_choices_16 rfl rfl ?_
  refine a_i2l 18 rfl dX11_choices_17 ?_
  refine a_lsub 19 rfl dX11_choices_18 ?_
  refine a_minJJ q_724 q_725 q_134 q_726 (by decide) (Nat.le_of_ble_eq_true rfl) 22 rfl dX11_choices_19 ?_
  refine a_eq (st2 := [.long (lN f9)]) rfl rfl ?_ rfl ?_
  · rw [nI_l (by omega), lN_sub hk, hf9]
    by_cases e9 : t9 - k9 < k9
    · rw [if_pos e9, if_pos ((pk_lLT (by omega) (by omega)).mpr e9)]
    · rw [if_neg e9, if_neg (fun z => e9 ((pk_lLT (by omega) (by omega)).mp z))]
  refine a_lstore_n (lv' := [(3, .long (lN f9)), (0, .long (lN t9)), (2, .int (nI k9))]) 23 rfl dX11_choices_22 rfl (by decide) rfl ?_
  refine a_lconst (x := 1) 24 rfl dX11_choices_23 (by decide) ?_
  refine a_lstore (lv' := [(5, .long 1), (3, .long (lN f9)), (0, .long (lN t9)), (2, .int (nI k9))]) 26 rfl dX11_choices_24 (by decide) rfl ?_
  refine a_iconst (x := 1) 27 rfl dX11_choices_26 (by decide) ?_
  refine a_istore (lv' := [(7, .int 1), (5, .long 1), (3, .long (lN f9)), (0, .long (lN t9)), (2, .int (nI k9))]) 29 rfl dX11_choices_27 (by decide) rfl ?_
  refine a_eq (lv2 := [(7, .int (nI (0 + 1))), (5, .long (lN (f_bin (t9 - f9 + 0) 0))), (3, .long (lN f9)), (0, .long (lN t9)), (2, .int (nI k9))]) rfl (by rw [f_bin_0]; rfl) rfl rfl ?_
  have key : ∀ jj ii : Nat, ii + jj = f9 → f_bin (t9 - f9 + ii) ii ≤ 4000000000 → g_A G mX11_choices 1 0 0 29 [(7, .int (nI (ii + 1))), (5, .long (lN (f_bin (t9 - f9 + ii) ii))), (3, .long (lN f9)), (0, .long (lN t9)), (2, .int (nI k9))] [] h (some (.long (lN (f_ch t9 k9)))) h := by
    intro jj
    induction jj with
    | zero =>
      intro ii hii hle
      refine a_iload 0 31 rfl dX11_choices_29 rfl ?_
      refine a_i2l 32 rfl dX11_choices_31 ?_
      refine a_lload_n 2 33 rfl dX11_choices_32 rfl rfl ?_
      refine a_lcmp 34 rfl dX11_choices_33 ?_
      refine a_if_gt 72 37 rfl dX11_choices_34 (by decide) (fun _ => ?_) (fun hc => absurd ((by rw [nI_l (by omega)]; exact f_cmpT_gt (by omega) (by omega) (by omega))) hc)
      refine a_lload 1 74 rfl dX11_choices_72 rfl ?_
      exact a_lreturn rfl ((by rw [f_ch, hf2, show f9 = ii by omega, if_neg (by rw [show f9 = ii by omega] at hle; omega)])) (rfl) dX11_choices_74
    | succ jj ih =>
      intro ii hii hle
      have hstep : f_bin (t9 - f9 + ii) ii * (t9 - f9 + (ii + 1)) / (ii + 1) = f_bin (t9 - f9 + (ii + 1)) (ii + 1) := by
        have e1 := f_bin_mul (t9 - f9 + ii) ii
        rw [show t9 - f9 + (ii + 1) = t9 - f9 + ii + 1 by omega, Nat.mul_comm, ← e1]
        exact Nat.mul_div_cancel _ (by omega)
      have hb9 : t9 - f9 + (ii + 1) < 2147483648 := by omega
      have hprod : f_bin (t9 - f9 + ii) ii * (t9 - f9 + (ii + 1)) ≤ 4000000000 * 2147483648 := Nat.mul_le_mul hle (by omega)
      have hnz : ¬ (nI (ii + 1)).toInt64 = 0 := by
        rw [nI_l (by omega)]
        intro z
        have := (pk_lEQ (a := ii + 1) (b := 0) (by omega) (by omega)).mp z
        omega
      refine a_iload 0 31 rfl dX11_choices_29 rfl ?_
      refine a_i2l 32 rfl dX11_choices_31 ?_
      refine a_lload_n 2 33 rfl dX11_choices_32 rfl rfl ?_
      refine a_lcmp 34 rfl dX11_choices_33 ?_
      refine a_if_gt 72 37 rfl dX11_choices_34 (by decide) (fun hc => absurd hc ((by rw [nI_l (by omega)]; exact f_cmpF_gt (by omega) (by omega) (by omega)))) (fun _ => ?_)
      refine a_lload 1 39 rfl dX11_choices_37 rfl ?_
      refine a_lload_n 3 40 rfl dX11_choices_39 rfl rfl ?_
      refine a_lload_n 2 41 rfl dX11_choices_40 rfl rfl ?_
      refine a_lsub 42 rfl dX11_choices_41 ?_
      refine a_iload 0 44 rfl dX11_choices_42 rfl ?_
      refine a_i2l 45 rfl dX11_choices_44 ?_
      refine a_ladd 46 rfl dX11_choices_45 ?_
      refine a_lmul 47 rfl dX11_choices_46 ?_
      refine a_iload 0 49 rfl dX11_choices_47 rfl ?_
      refine a_i2l 50 rfl dX11_choices_49 ?_
      refine a_ldiv 51 rfl dX11_choices_50 (hnz) ?_
      refine a_eq (st2 := [.long (lN (f_bin (t9 - f9 + (ii + 1)) (ii + 1)))]) rfl rfl (by rw [nI_l (by omega), lN_sub (by omega), lN_add, lN_mul, pk_lDiv (by omega) (by omega) (by omega), hstep]) rfl ?_
      have hup : f_bin (t9 - f9 + (ii + 1)) (ii + 1) ≤ 4000000000 * 2147483648 := by
        rw [← hstep]
        exact Nat.le_trans (Nat.div_le_self _ _) hprod
      by_cases e9 : f_bin (t9 - f9 + (ii + 1)) (ii + 1) ≤ 4000000000
      · skip
        refine a_lstore (lv' := [(5, .long (lN (f_bin (t9 - f9 + (ii + 1)) (ii + 1)))), (7, .int (nI (ii + 1))), (3, .long (lN f9)), (0, .long (lN t9)), (2, .int (nI k9))]) 53 rfl dX11_choices_51 (by decide) rfl ?_
        refine a_lload 0 55 rfl dX11_choices_53 rfl ?_
        refine a_ldc2 q_727 58 rfl dX11_choices_55 ?_
        refine a_lcmp 59 rfl dX11_choices_58 ?_
        refine a_if_le 66 62 rfl dX11_choices_59 (by decide) (fun _ => ?_) (fun hc => absurd ((f_cmpT_le (y := 4000000000) (by omega) (by omega) e9)) hc)
        refine a_iinc (y := nI (ii + 1 + 1)) (lv' := [(7, .int (nI (ii + 1 + 1))), (5, .long (lN (f_bin (t9 - f9 + (ii + 1)) (ii + 1)))), (3, .long (lN f9)), (0, .long (lN t9)), (2, .int (nI k9))]) 1 69 rfl dX11_choices_66 rfl (nI_1 (ii + 1)) (by decide) rfl ?_
        refine a_goto 29 dX11_choices_69 (by decide) ?_
        refine a_sub (lv' := [(7, .int (nI (ii + 1 + 1))), (5, .long (lN (f_bin (t9 - f9 + (ii + 1)) (ii + 1)))), (3, .long (lN f9)), (0, .long (lN t9)), (2, .int (nI k9))]) [0, 1, 2, 3, 4] rfl ?_
        exact ih (ii + 1) (by omega) e9
      · have e8 : 4000000000 < f_bin t9 k9 := by
          have e7 := f_bin_diag (t9 - f9) (f9 - (ii + 1)) (ii + 1)
          rw [show ii + 1 + (f9 - (ii + 1)) = f9 by omega] at e7
          rw [hf2]
          omega
        refine a_lstore (lv' := [(5, .long (lN (f_bin (t9 - f9 + (ii + 1)) (ii + 1)))), (7, .int (nI (ii + 1))), (3, .long (lN f9)), (0, .long (lN t9)), (2, .int (nI k9))]) 53 rfl dX11_choices_51 (by decide) rfl ?_
        refine a_lload 0 55 rfl dX11_choices_53 rfl ?_
        refine a_ldc2 q_727 58 rfl dX11_choices_55 ?_
        refine a_lcmp 59 rfl dX11_choices_58 ?_
        refine a_if_le 66 62 rfl dX11_choices_59 (by decide) (fun hc => absurd hc ((f_cmpF_le (y := 4000000000) (by omega) (by omega) (by omega)))) (fun _ => ?_)
        refine a_ldc2 q_728 65 rfl dX11_choices_62 ?_
        exact a_lreturn rfl ((by rw [f_ch, if_pos e8]; rfl)) (rfl) dX11_choices_65
  exact key f9 0 (by omega) (by rw [f_bin_0]; omega)
end CH1
