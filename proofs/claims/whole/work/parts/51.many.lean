/-! The model's counting -/
/-- how many of the lowest t bits are set -/
def f_pc : Nat → Nat → Nat
  | 0, _ => 0
  | t + 1, n => n % 2 + f_pc t (n / 2)
theorem f_pc_0 : ∀ t, f_pc t 0 = 0 := by
  intro t
  induction t with
  | zero => rfl
  | succ t ih => rw [f_pc]; show 0 % 2 + f_pc t (0 / 2) = 0; rw [show (0 : Nat) / 2 = 0 from rfl, ih]
theorem f_pc_le : ∀ t n, f_pc t n ≤ t := by
  intro t
  induction t with
  | zero => intro n; exact Nat.le_refl _
  | succ t ih => intro n; have e9 := ih (n / 2); rw [f_pc]; omega
theorem f_land2 (a b : Nat) : (a &&& b) / 2 = a / 2 &&& b / 2 := by
  refine Nat.eq_of_testBit_eq (fun i => ?_)
  rw [Nat.testBit_and, Nat.testBit_div_two, Nat.testBit_div_two, Nat.testBit_div_two, Nat.testBit_and]
theorem f_land2m (a b : Nat) : (a &&& b) % 2 = (a % 2) * (b % 2) := by
  have e1 := Nat.testBit_and a b 0
  rw [Nat.testBit_zero, Nat.testBit_zero, Nat.testBit_zero] at e1
  rcases Nat.mod_two_eq_zero_or_one a with ha | ha <;> rcases Nat.mod_two_eq_zero_or_one b with hb | hb <;> rcases Nat.mod_two_eq_zero_or_one (a &&& b) with hc | hc <;> rw [ha, hb, hc] at e1 <;> rw [ha, hb, hc] <;> first | rfl | (exact absurd e1 (by decide))
theorem f_pc_step : ∀ t n, 0 < n → n < 2 ^ t → f_pc t (n &&& (n - 1)) + 1 = f_pc t n := by
  intro t
  induction t with
  | zero => intro n h0 h1; omega
  | succ t ih =>
    intro n h0 h1
    rw [f_pc, f_pc, f_land2, f_land2m]
    rcases Nat.mod_two_eq_zero_or_one n with hn | hn
    · have e1 : (n - 1) / 2 = n / 2 - 1 := by omega
      have e2 := ih (n / 2) (by omega) (by rw [Nat.pow_succ] at h1; omega)
      rw [e1, hn, Nat.zero_mul, Nat.zero_add, Nat.zero_add]
      exact e2
    · have e1 : (n - 1) / 2 = n / 2 := by omega
      have e2 : (n - 1) % 2 = 0 := by omega
      rw [e1, e2, hn, Nat.mul_zero, Nat.and_self]
      omega
/-- how many bits are set -/
def f_pop (x : Int64) : Nat := f_pc 64 x.toUInt64.toNat
theorem f_pop_step {x : Int64} (hx : ¬ x = 0) : f_pop (x &&& (x - 1)) + 1 = f_pop x := by
  have hne : x.toUInt64.toNat ≠ 0 := fun z => hx (by
    have e1 : x.toUInt64 = 0 := UInt64.toNat_inj.mp z
    cases x; cases e1; rfl)
  have e2 : (x &&& (x - 1)).toUInt64.toNat = x.toUInt64.toNat &&& (x.toUInt64.toNat - 1) := by
    rw [Int64.toUInt64_and, UInt64.toNat_and, Int64.toUInt64_sub]
    have e3 : (x.toUInt64 - (1 : Int64).toUInt64).toNat = x.toUInt64.toNat - 1 := by
      rw [show (1 : Int64).toUInt64 = 1 from rfl, UInt64.toNat_sub_of_le _ _ (by rw [UInt64.le_iff_toNat_le]; show 1 ≤ _; omega)]
      rfl
    rw [e3]
  unfold f_pop
  rw [e2]
  exact f_pc_step 64 _ (by omega) x.toUInt64.toNat_lt
theorem f_pop_pos {x : Int64} (hx : ¬ x = 0) : 0 < f_pop x := by have := f_pop_step hx; omega
section MA1
variable {G : g_G} {h : List va_E} {x : Int64}
theorem r_many : g_Run G mX12_many 1 0 0 [.long x] h (some (.int (nI (f_pop x)))) h := by
  have key : ∀ (t : Nat) (z : Int64) (c : Nat), f_pop z = t → g_A G mX12_many 1 0 0 4 [(3, .long z), (2, .int (nI c))] [] h (some (.int (nI (c + t)))) h := by
    intro t
    induction t with
    | zero =>
      intro z c hz
      have e9 : z = 0 := by
        by_cases e8 : z = 0
        · exact e8
        · have := f_pop_pos e8; omega
      refine a_lload_n 0 5 rfl dX12_many_4 rfl rfl ?_
      refine a_lconst (x := 0) 6 rfl dX12_many_5 (by decide) ?_
      refine a_lcmp 7 rfl dX12_many_6 ?_
      refine a_if_eq 22 10 rfl dX12_many_7 (by decide) (fun _ => ?_) (fun hc => absurd ((g_cmp_eq.mpr e9)) hc)
      refine a_iload_n 1 23 rfl dX12_many_22 rfl rfl ?_
      exact a_ireturn .int rfl rfl (rfl) (rfl) dX12_many_23
    | succ t ih =>
      intro z c hz
      have e9 : ¬ z = 0 := fun e8 => by rw [e8] at hz; have e7 : f_pop 0 = 0 := f_pc_0 64; omega
      have e6 := f_pop_step e9
      refine a_lload_n 0 5 rfl dX12_many_4 rfl rfl ?_
      refine a_lconst (x := 0) 6 rfl dX12_many_5 (by decide) ?_
      refine a_lcmp 7 rfl dX12_many_6 ?_
      refine a_if_eq 22 10 rfl dX12_many_7 (by decide) (fun hc => absurd hc ((g_cmp_ne.mpr e9))) (fun _ => ?_)
      refine a_iinc (y := nI (c + 1)) (lv' := [(2, .int (nI (c + 1))), (3, .long z)]) 1 13 rfl dX12_many_10 rfl (nI_1 c) (by decide) rfl ?_
      refine a_lload_n 1 14 rfl dX12_many_13 rfl rfl ?_
      refine a_lload_n 1 15 rfl dX12_many_14 rfl rfl ?_
      refine a_lconst (x := 1) 16 rfl dX12_many_15 (by decide) ?_
      refine a_lsub 17 rfl dX12_many_16 ?_
      refine a_land 18 rfl dX12_many_17 ?_
      refine a_lstore_n (lv' := [(3, .long (z &&& (z - 1))), (2, .int (nI (c + 1)))]) 19 rfl dX12_many_18 rfl (by decide) rfl ?_
      refine a_goto 4 dX12_many_19 (by decide) ?_
      rw [show c + (t + 1) = c + 1 + t by omega]
      exact ih _ (c + 1) (by omega)
  refine g_Run.of (lv := [(0, .long x)]) (by decide) (Nat.le_of_ble_eq_true rfl) rfl ?_
  refine a_iconst (x := 0) 1 rfl dX12_many_0 (by decide) ?_
  refine a_istore_n (lv' := [(2, .int 0), (0, .long x)]) 2 rfl dX12_many_1 rfl (by decide) rfl ?_
  refine a_lload_n 1 3 rfl dX12_many_2 rfl rfl ?_
  refine a_lstore_n (lv' := [(3, .long x), (2, .int 0), (0, .long x)]) 4 rfl dX12_many_3 rfl (by decide) rfl ?_
  refine a_sub (lv' := [(3, .long x), (2, .int (nI 0))]) [0, 1] rfl ?_
  have w := key (f_pop x) x 0 rfl
  rw [Nat.zero_add] at w
  exact w
end MA1
