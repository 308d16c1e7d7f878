/-! Both sides alike: parts, turned, mirrored -/
theorem f_tx (k i b : Nat) : Nat.testBit (k ^^^ 2 ^ i) b = (Nat.testBit k b ^^ decide (i = b)) := by rw [Nat.testBit_xor, Nat.testBit_two_pow]
/-- s is above k, by elements below i -/
def f_ab (i s k : Nat) : Prop := (∀ b, Nat.testBit k b = true → Nat.testBit s b = true) ∧ (∀ b, i ≤ b → Nat.testBit s b = Nat.testBit k b)
theorem f_down_b {y : Int64} {i k : Nat} (hi : i < 6) (hk : k < 64) : f_b (f_sr (y &&& f_hold i) (f_pw i)) k = (!Nat.testBit k i && f_b y (k ^^^ 2 ^ i)) := by
  have h32 := f_p32 hi
  have h2 := f_up2 i hi k hk
  have e1 : f_pw i = nI (2 ^ i) := f_shlI i (by omega)
  rw [e1, f_b_sr (by omega), f_b_and, f_b_hold hi, h2.1]
  cases hq : Nat.testBit k i
  · rw [h2.2 hq, decide_eq_true (f_x64 hk hi)]
    cases f_b y (k ^^^ 2 ^ i) <;> rfl
  · simp
theorem f_upp_b {y : Int64} {i k : Nat} (hi : i < 6) (hk : k < 64) : f_b (f_sl (y &&& (f_hold i ^^^ (-1))) (f_pw i)) k = (Nat.testBit k i && f_b y (k ^^^ 2 ^ i)) := by
  have h32 := f_p32 hi
  have h2 := f_dn2 i hi k hk
  have e1 : f_pw i = nI (2 ^ i) := f_shlI i (by omega)
  have hks : k - 2 ^ i < 64 := Nat.lt_of_le_of_lt (Nat.sub_le _ _) hk
  rw [e1, f_b_sl (by omega) hk, f_b_and, f_b_not hks, f_b_hold hi, decide_eq_true hks, Bool.true_and]
  by_cases hq : 2 ^ i ≤ k
  · rw [decide_eq_true hq, (h2.1 hq).1]
    cases hz : Nat.testBit k i
    · simp
    · rw [(h2.1 hq).2 hz]; simp
  · rw [decide_eq_false hq, Bool.false_and]
    cases hz : Nat.testBit k i
    · rfl
    · exact absurd (h2.2.1 hz) hq
theorem f_parts_b {x : Int64} : ∀ i, i ≤ 6 → ∀ k, k < 64 → (f_b (f_parts x i) k = true ↔ ∃ s, f_b x s = true ∧ f_ab i s k) := by
  intro i
  induction i with
  | zero =>
    intro _ k hk
    constructor
    · intro h; exact ⟨k, h, fun b hb => hb, fun b _ => rfl⟩
    · rintro ⟨s, h, h1, h2⟩
      have : s = k := Nat.eq_of_testBit_eq (fun b => h2 b (Nat.zero_le b))
      subst this; exact h
  | succ i ih =>
    intro hi k hk
    rw [f_parts, f_b_or, f_down_b (by omega) hk, Bool.or_eq_true, Bool.and_eq_true, ih (by omega) k hk, ih (by omega) _ (f_x64 hk (by omega))]
    constructor
    · rintro (⟨s, h, h1, h2⟩ | ⟨h0, s, h, h1, h2⟩)
      · exact ⟨s, h, h1, fun b hb => h2 b (by omega)⟩
      · refine ⟨s, h, fun b hb => h1 b ?_, fun b hb => ?_⟩
        · rw [f_tx]
          by_cases e : i = b
          · subst e; rw [hb] at h0; exact absurd h0 (by decide)
          · rw [decide_eq_false e, hb]; rfl
        · rw [h2 b (by omega), f_tx, decide_eq_false (by omega), Bool.xor_false]
    · rintro ⟨s, h, h1, h2⟩
      cases hs : Nat.testBit s i
      · refine Or.inl ⟨s, h, h1, fun b hb => ?_⟩
        by_cases e : b = i
        · subst e
          rw [hs]
          cases hz : Nat.testBit k b
          · rfl
          · rw [h1 b hz] at hs; exact Bool.noConfusion hs
        · exact h2 b (by omega)
      · cases hz : Nat.testBit k i
        · refine Or.inr ⟨rfl, s, h, fun b hb => ?_, fun b hb => ?_⟩
          · rw [f_tx] at hb
            by_cases e : i = b
            · subst e; exact hs
            · rw [decide_eq_false e, Bool.xor_false] at hb; exact h1 b hb
          · rw [f_tx]
            by_cases e : i = b
            · subst e; rw [hs, hz, decide_eq_true rfl]; rfl
            · rw [decide_eq_false e, Bool.xor_false]; exact h2 b (by omega)
        · refine Or.inl ⟨s, h, h1, fun b hb => ?_⟩
          by_cases e : b = i
          · subst e; rw [hs, hz]
          · exact h2 b (by omega)
theorem f_sub_iff {s k : Nat} : (∀ b, Nat.testBit k b = true → Nat.testBit s b = true) ↔ k &&& s = k := by
  constructor
  · intro h
    apply Nat.eq_of_testBit_eq
    intro b
    rw [Nat.testBit_and]
    cases hk : Nat.testBit k b
    · rfl
    · rw [h b hk]; rfl
  · intro h b hb
    rw [← h, Nat.testBit_and, Bool.and_eq_true] at hb
    exact hb.2
theorem f_parts_in {n k : Nat} {x : Int64} (hn : n ≤ 6) (hx : f_in (2 ^ n) x) (hk : k < 64) : f_b (f_parts x n) k = true ↔ ∃ s, s < 2 ^ n ∧ f_b x s = true ∧ k &&& s = k := by
  rw [f_parts_b n hn k hk]
  constructor
  · rintro ⟨s, h, h1, h2⟩; exact ⟨s, hx.lt h, h, f_sub_iff.mp h1⟩
  · rintro ⟨s, h0, h, h1⟩
    refine ⟨s, h, f_sub_iff.mpr h1, fun b hb => ?_⟩
    have e1 : Nat.testBit s b = false := Nat.testBit_lt_two_pow (Nat.lt_of_lt_of_le h0 (Nat.pow_le_pow_right (by decide) hb))
    rw [e1]
    cases hz : Nat.testBit k b
    · rfl
    · have := (f_sub_iff.mpr h1) b hz
      rw [e1] at this; exact Bool.noConfusion this
theorem f_in_lt_sub {n k s : Nat} (hs : s < 2 ^ n) (h : k &&& s = k) : k < 2 ^ n := by
  rw [← h]; exact Nat.lt_of_le_of_lt Nat.and_le_right hs
theorem f_flip : ∀ i, i < 6 → 2 ^ i ^^^ (2 ^ i - 1) = 2 ^ (i + 1) - 1 := by decide
theorem f_turned_b {x : Int64} : ∀ i, i ≤ 6 → ∀ k, k < 64 → f_b (f_turned x i) k = f_b x (k ^^^ (2 ^ i - 1)) := by
  intro i
  induction i with
  | zero => intro _ k _; rw [f_turned]; show _ = f_b x (k ^^^ 0); rw [Nat.xor_zero]
  | succ i ih =>
    intro hi k hk
    rw [f_turned, f_b_or, f_down_b (by omega) hk, f_upp_b (by omega) hk, ih (by omega) _ (f_x64 hk (by omega)), Nat.xor_assoc, f_flip i (by omega)]
    cases Nat.testBit k i <;> simp
theorem f_comp : ∀ n, n < 7 → ∀ k, k < 2 ^ n → k ^^^ (2 ^ n - 1) = 2 ^ n - 1 - k := by decide +kernel
theorem f_xge {n k : Nat} (hn : n ≤ 6) (hk : 2 ^ n ≤ k) : 2 ^ n ≤ k ^^^ (2 ^ n - 1) := by
  rcases Nat.lt_or_ge (k ^^^ (2 ^ n - 1)) (2 ^ n) with h | h
  · have h1 : k ^^^ (2 ^ n - 1) ^^^ (2 ^ n - 1) < 2 ^ n := Nat.xor_lt_two_pow h (by have := Nat.two_pow_pos n; omega)
    rw [f_xx] at h1; omega
  · exact h
/-- two elements change places -/
def f_sw (i j k : Nat) : Nat := if Nat.testBit k i = Nat.testBit k j then k else k ^^^ 2 ^ i ^^^ 2 ^ j
theorem f_swA0 : ∀ j, j < 6 → ∀ i, i < j → ∀ k, k < 64 → f_sw i j k < 64 := by decide +kernel
theorem f_swA1 : ∀ j, j < 6 → ∀ i, i < j → ∀ k, k < 64 → (!(Nat.testBit k i && !Nat.testBit k j) || (decide (2 ^ j - 2 ^ i + k = f_sw i j k) && (decide (2 ^ j - 2 ^ i + k < 64) && (Nat.testBit (2 ^ j - 2 ^ i + k) j && !Nat.testBit (2 ^ j - 2 ^ i + k) i)))) = true := by decide +kernel
theorem f_swA2 : ∀ j, j < 6 → ∀ i, i < j → ∀ k, k < 64 → (!(Nat.testBit k j && !Nat.testBit k i) || (decide (2 ^ j - 2 ^ i ≤ k) && (decide (k - (2 ^ j - 2 ^ i) = f_sw i j k) && (Nat.testBit (k - (2 ^ j - 2 ^ i)) i && !Nat.testBit (k - (2 ^ j - 2 ^ i)) j)))) = true := by decide +kernel
theorem f_swB1 : ∀ j, j < 6 → ∀ i, i < j → ∀ k, k < 64 → (!(decide (2 ^ j - 2 ^ i ≤ k) && (Nat.testBit (k - (2 ^ j - 2 ^ i)) i && !Nat.testBit (k - (2 ^ j - 2 ^ i)) j)) || (Nat.testBit k j && !Nat.testBit k i)) = true := by decide +kernel
theorem f_nt {b : Bool} (h : (!b) = true) : b = false := by cases b; rfl; exact Bool.noConfusion h
theorem f_swA (j : Nat) (hj : j < 6) (i : Nat) (hi : i < j) (k : Nat) (hk : k < 64) : f_sw i j k < 64 ∧ (Nat.testBit k i = true → Nat.testBit k j = false → 2 ^ j - 2 ^ i + k = f_sw i j k ∧ 2 ^ j - 2 ^ i + k < 64 ∧ Nat.testBit (2 ^ j - 2 ^ i + k) j = true ∧ Nat.testBit (2 ^ j - 2 ^ i + k) i = false) ∧ (Nat.testBit k j = true → Nat.testBit k i = false → 2 ^ j - 2 ^ i ≤ k ∧ k - (2 ^ j - 2 ^ i) = f_sw i j k ∧ Nat.testBit (k - (2 ^ j - 2 ^ i)) i = true ∧ Nat.testBit (k - (2 ^ j - 2 ^ i)) j = false) := by
  refine ⟨f_swA0 j hj i hi k hk, fun h1 h2 => ?_, fun h1 h2 => ?_⟩
  · have h := f_swA1 j hj i hi k hk
    rw [h1, h2, Bool.not_false, Bool.and_self, Bool.not_true, Bool.false_or, Bool.and_eq_true, Bool.and_eq_true, Bool.and_eq_true, decide_eq_true_eq, decide_eq_true_eq] at h
    exact ⟨h.1, h.2.1, h.2.2.1, f_nt h.2.2.2⟩
  · have h := f_swA2 j hj i hi k hk
    rw [h1, h2, Bool.not_false, Bool.and_self, Bool.not_true, Bool.false_or, Bool.and_eq_true, Bool.and_eq_true, Bool.and_eq_true, decide_eq_true_eq, decide_eq_true_eq] at h
    exact ⟨h.1, h.2.1, h.2.2.1, f_nt h.2.2.2⟩
theorem f_swB (j : Nat) (hj : j < 6) (i : Nat) (hi : i < j) (k : Nat) (hk : k < 64) (h0 : 2 ^ j - 2 ^ i ≤ k) (h1 : Nat.testBit (k - (2 ^ j - 2 ^ i)) i = true) (h2 : Nat.testBit (k - (2 ^ j - 2 ^ i)) j = false) : Nat.testBit k j = true ∧ Nat.testBit k i = false := by
  have h := f_swB1 j hj i hi k hk
  rw [decide_eq_true h0, h1, h2, Bool.not_false, Bool.and_self, Bool.and_self, Bool.not_true, Bool.false_or, Bool.and_eq_true] at h
  exact ⟨h.1, f_nt h.2⟩
theorem f_swap_b {x : Int64} {i j k : Nat} (hi : i < j) (hj : j < 6) (hk : k < 64) : f_b (f_swap x i j) k = f_b x (f_sw i j k) := by
  obtain ⟨es, hs, h0⟩ := f_step j hj i hi
  have hA := f_stA j hj i hi k hk
  have hS := f_swA j hj i hi k hk
  have hB := f_swB j hj i hi k hk
  obtain ⟨st, est⟩ : ∃ st, st = nI (2 ^ j - 2 ^ i) := ⟨_, rfl⟩
  unfold f_swap
  rw [es, f_b_or, f_b_or, f_b_and, f_b_and, f_b_not hk, f_b_not hk, f_b_and, f_b_and, f_b_and, f_b_and, f_b_not hk, f_b_not hk, f_b_sr (by omega), f_b_sl (by omega) hk, f_b_and, f_b_and, f_b_and, f_b_and, f_holdb j hj k hk, f_holdb i (by omega) k hk]
  have hks : k - (2 ^ j - 2 ^ i) < 64 := by omega
  rw [f_b_not hks, f_holdb i (by omega) _ hks, f_holdb j hj _ hks]
  have e1 : (f_b x (2 ^ j - 2 ^ i + k) && f_b (f_hold j) (2 ^ j - 2 ^ i + k) && f_b (f_hold i ^^^ -1) (2 ^ j - 2 ^ i + k)) = (f_b x (2 ^ j - 2 ^ i + k) && (Nat.testBit k i && !Nat.testBit k j)) := by
    rw [← hA]
    rcases Nat.lt_or_ge (2 ^ j - 2 ^ i + k) 64 with q | q
    · rw [f_b_not q, f_holdb j hj _ q, f_holdb i (by omega) _ q, decide_eq_true q, Bool.true_and, Bool.and_assoc]
    · rw [f_b_hi (x := x) q]; rfl
  rw [e1]
  have e2 : (decide (2 ^ j - 2 ^ i ≤ k) && (f_b x (k - (2 ^ j - 2 ^ i)) && Nat.testBit (k - (2 ^ j - 2 ^ i)) i && !Nat.testBit (k - (2 ^ j - 2 ^ i)) j)) = (f_b x (k - (2 ^ j - 2 ^ i)) && (Nat.testBit k j && !Nat.testBit k i)) := by
    by_cases hq : 2 ^ j - 2 ^ i ≤ k
    · rw [decide_eq_true hq, Bool.true_and]
      cases hjk : Nat.testBit k j
      · cases h1 : Nat.testBit (k - (2 ^ j - 2 ^ i)) i
        · simp
        · cases h2 : Nat.testBit (k - (2 ^ j - 2 ^ i)) j
          · have := (hB hq h1 h2).1; rw [hjk] at this; exact Bool.noConfusion this
          · simp
      · cases hik : Nat.testBit k i
        · have := hS.2.2 hjk hik
          rw [this.2.2.1, this.2.2.2]; simp
        · cases h1 : Nat.testBit (k - (2 ^ j - 2 ^ i)) i
          · simp
          · cases h2 : Nat.testBit (k - (2 ^ j - 2 ^ i)) j
            · have := (hB hq h1 h2).2; rw [hik] at this; exact Bool.noConfusion this
            · simp
    · rw [decide_eq_false hq, Bool.false_and]
      cases hjk : Nat.testBit k j
      · simp
      · cases hik : Nat.testBit k i
        · exact absurd (hS.2.2 hjk hik).1 hq
        · simp
  rw [e2]
  cases hik : Nat.testBit k i
  · cases hjk : Nat.testBit k j
    · have : f_sw i j k = k := by unfold f_sw; rw [hik, hjk, if_pos rfl]
      rw [this]; simp
    · have := hS.2.2 hjk hik
      rw [this.2.1]; simp
  · cases hjk : Nat.testBit k j
    · have := hS.2.1 hik hjk
      rw [this.1]; simp
    · have : f_sw i j k = k := by unfold f_sw; rw [hik, hjk, if_pos rfl]
      rw [this]; simp
def f_mu (n : Nat) : Nat → Nat → Nat
  | 0, k => k
  | t + 1, k => f_mu n t (f_sw t (n - 1 - t) k)
theorem f_mirror_b {n : Nat} {x : Int64} (hn : n ≤ 6) : ∀ t, t ≤ n / 2 → ∀ k, k < 64 → f_b (f_mirror x n t) k = f_b x (f_mu n t k) := by
  intro t
  induction t with
  | zero => intro _ k _; rfl
  | succ t ih =>
    intro ht k hk
    rw [f_mirror, f_swap_b (by omega) (by omega) hk, ih (by omega) _ (f_swA (n - 1 - t) (by omega) t (by omega) k hk).1, f_mu]
theorem f_mu_ok : ∀ n, n < 7 → ∀ k, k < 64 → (k < 2 ^ n → f_mu n (n / 2) k = f_mirM n k n ∧ f_mirM n k n < 2 ^ n ∧ f_mirM n (f_mirM n k n) n = k) ∧ (2 ^ n ≤ k → 2 ^ n ≤ f_mu n (n / 2) k) ∧ f_mu n (n / 2) k < 64 := by decide +kernel
