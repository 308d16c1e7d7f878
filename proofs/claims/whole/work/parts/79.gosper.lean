/-! Both sides alike: the next of as many ones -/
/-- a number by its lowest run of ones: a, how many, and how many zeros below -/
theorem f_run : ∀ c, 0 < c → ∃ a r s, 0 < r ∧ c = (a * 2 ^ (r + 1) + (2 ^ r - 1)) * 2 ^ s ∧ (c % 2 = 1 → s = 0) := by
  intro c
  induction c using Nat.strongRecOn with
  | ind c ih =>
    intro hc
    rcases Nat.mod_two_eq_zero_or_one c with e | e
    · obtain ⟨a, r, s, h1, h2, h3⟩ := ih (c / 2) (by omega) (by omega)
      refine ⟨a, r, s + 1, h1, ?_, fun h => by omega⟩
      rw [Nat.pow_succ 2 s, ← Nat.mul_assoc, ← h2]; omega
    · rcases Nat.mod_two_eq_zero_or_one (c / 2) with e2 | e2
      · refine ⟨c / 2 / 2, 1, 0, by omega, ?_, fun _ => rfl⟩
        show c = (c / 2 / 2 * 4 + 1) * 1
        omega
      · obtain ⟨a, r, s, h1, h2, h3⟩ := ih (c / 2) (by omega) (by omega)
        have hs := h3 e2
        rw [hs, Nat.pow_zero, Nat.mul_one] at h2
        refine ⟨a, r + 1, 0, by omega, ?_, fun _ => rfl⟩
        have hp := Nat.two_pow_pos r
        have e3 : c = 2 * (c / 2) + 1 := by omega
        rw [Nat.pow_zero, Nat.mul_one, e3, h2, show a * 2 ^ (r + 1 + 1) = 2 * (a * 2 ^ (r + 1)) by rw [Nat.pow_succ 2 (r + 1)]; rw [Nat.mul_comm 2 (a * 2 ^ (r + 1)), Nat.mul_assoc], Nat.pow_succ 2 r]
        omega
theorem f_xor_hi {a u v k : Nat} (hu : u < 2 ^ k) (hv : v < 2 ^ k) : (a * 2 ^ k + u) ^^^ (a * 2 ^ k + v) = u ^^^ v := by
  apply Nat.eq_of_testBit_eq
  intro i
  rw [Nat.testBit_xor, Nat.testBit_xor, Nat.mul_comm a, Nat.testBit_two_pow_mul_add a hu, Nat.testBit_two_pow_mul_add a hv]
  by_cases h : i < k
  · rw [if_pos h, if_pos h]
  · rw [if_neg h, if_neg h, Bool.xor_self]
    have e1 : Nat.testBit u i = false := Nat.testBit_lt_two_pow (Nat.lt_of_lt_of_le hu (Nat.pow_le_pow_right (by decide) (by omega)))
    have e2 : Nat.testBit v i = false := Nat.testBit_lt_two_pow (Nat.lt_of_lt_of_le hv (Nat.pow_le_pow_right (by decide) (by omega)))
    rw [e1, e2]; rfl
theorem f_xor_sh (u v s : Nat) : (u * 2 ^ s) ^^^ (v * 2 ^ s) = (u ^^^ v) * 2 ^ s := by
  rw [← Nat.shiftLeft_eq, ← Nat.shiftLeft_eq, ← Nat.shiftLeft_eq, Nat.shiftLeft_xor_distrib]
theorem f_or_hi {a b k : Nat} (hb : b < 2 ^ k) : (a * 2 ^ k) ||| b = a * 2 ^ k + b := by
  rw [← Nat.shiftLeft_eq, Nat.shiftLeft_add_eq_or_of_lt hb]
/-- the next of as many ones, on naturals -/
def f_gos (c l : Nat) : Nat := (c + l) ||| ((c ^^^ (c + l)) / 4 / l)
theorem f_gos_run {a r s : Nat} (hr : 0 < r) : f_gos ((a * 2 ^ (r + 1) + (2 ^ r - 1)) * 2 ^ s) (2 ^ s) = (a * 2 ^ (r + 1) + 2 ^ r) * 2 ^ s + (2 ^ (r - 1) - 1) := by
  have hp := Nat.two_pow_pos r
  have hps := Nat.two_pow_pos s
  obtain ⟨r9, rfl⟩ : ∃ r9, r = r9 + 1 := ⟨r - 1, by omega⟩
  have hp9 := Nat.two_pow_pos r9
  have e1 : (a * 2 ^ (r9 + 1 + 1) + (2 ^ (r9 + 1) - 1)) * 2 ^ s + 2 ^ s = (a * 2 ^ (r9 + 1 + 1) + 2 ^ (r9 + 1)) * 2 ^ s := by
    have : a * 2 ^ (r9 + 1 + 1) + 2 ^ (r9 + 1) = (a * 2 ^ (r9 + 1 + 1) + (2 ^ (r9 + 1) - 1)) + 1 := by omega
    rw [this, Nat.add_mul _ 1, Nat.one_mul]
  unfold f_gos
  have hlt1 : 2 ^ (r9 + 1) - 1 < 2 ^ (r9 + 1 + 1) := by rw [Nat.pow_succ 2 (r9 + 1)]; omega
  have hlt2 : 2 ^ (r9 + 1) < 2 ^ (r9 + 1 + 1) := by rw [Nat.pow_succ 2 (r9 + 1)]; omega
  rw [e1, f_xor_sh, f_xor_hi hlt1 hlt2, f_xhi (show 2 ^ (r9 + 1) - 1 < 2 ^ (r9 + 1) by omega)]
  have e2 : (2 ^ (r9 + 1) + (2 ^ (r9 + 1) - 1)) * 2 ^ s / 4 / 2 ^ s = 2 ^ r9 - 1 := by
    rw [Nat.div_div_eq_div_mul, Nat.mul_comm 4, ← Nat.div_div_eq_div_mul, Nat.mul_div_cancel _ hps, Nat.pow_succ 2 r9]
    omega
  rw [e2]
  have e3 : a * 2 ^ (r9 + 1 + 1) + 2 ^ (r9 + 1) = (2 * a + 1) * 2 ^ (r9 + 1) := by
    rw [Nat.pow_succ 2 (r9 + 1), Nat.add_mul, Nat.one_mul, ← Nat.mul_assoc, Nat.mul_right_comm, Nat.mul_comm a 2]
  rw [e3, Nat.mul_assoc, ← Nat.pow_add]
  have hlt3 : 2 ^ r9 - 1 < 2 ^ (r9 + 1 + s) := by
    have : 2 ^ r9 ≤ 2 ^ (r9 + 1 + s) := Nat.pow_le_pow_right (by decide) (by omega)
    omega
  rw [f_or_hi hlt3]
  rfl
theorem f_pc_app : ∀ k t a b, b < 2 ^ k → f_pc (k + t) (a * 2 ^ k + b) = f_pc k b + f_pc t a := by
  intro k
  induction k with
  | zero => intro t a b hb; rw [Nat.pow_zero] at hb; rw [show b = 0 by omega, Nat.pow_zero, Nat.mul_one, Nat.zero_add, Nat.add_zero]; show _ = 0 + _; omega
  | succ k ih =>
    intro t a b hb
    rw [Nat.pow_succ] at hb
    rw [show k + 1 + t = (k + t) + 1 by omega, f_pc, f_pc, show (a * 2 ^ (k + 1) + b) % 2 = b % 2 by rw [Nat.pow_succ, ← Nat.mul_assoc]; omega, show (a * 2 ^ (k + 1) + b) / 2 = a * 2 ^ k + b / 2 by rw [Nat.pow_succ, ← Nat.mul_assoc]; omega, ih t a (b / 2) (by omega)]
    omega
theorem f_pc_ones : ∀ r, f_pc r (2 ^ r - 1) = r := by
  intro r
  induction r with
  | zero => rfl
  | succ r ih =>
    have hp := Nat.two_pow_pos r
    rw [f_pc, Nat.pow_succ, show (2 ^ r * 2 - 1) % 2 = 1 by omega, show (2 ^ r * 2 - 1) / 2 = 2 ^ r - 1 by omega, ih]; omega
theorem f_pc_up (t n : Nat) : ∀ j, n < 2 ^ t → f_pc (t + j) n = f_pc t n := by
  intro j h
  have := f_pc_app t j 0 n h
  rw [Nat.zero_mul, Nat.zero_add, f_pc_0, Nat.add_zero] at this
  exact this
/-- with so many ones it can't be less -/
theorem f_pc_least : ∀ t n, 2 ^ (f_pc t n) - 1 ≤ n := by
  intro t
  induction t with
  | zero => intro n; rw [f_pc]; omega
  | succ t ih =>
    intro n
    have h := ih (n / 2)
    rw [f_pc]
    have hp := Nat.two_pow_pos (f_pc t (n / 2))
    rcases Nat.mod_two_eq_zero_or_one n with e | e
    · rw [e, Nat.zero_add]; omega
    · rw [e, Nat.add_comm 1, Nat.pow_succ]; omega
theorem f_pc_pos : ∀ t n, 0 < n → n < 2 ^ t → 0 < f_pc t n := by
  intro t
  induction t with
  | zero => intro n h1 h2; rw [Nat.pow_zero] at h2; omega
  | succ t ih =>
    intro n h1 h2
    rw [Nat.pow_succ] at h2
    rw [f_pc]
    rcases Nat.mod_two_eq_zero_or_one n with e | e
    · have := ih (n / 2) (by omega) (by omega); omega
    · omega
theorem f_gos_next {a r s N : Nat} (hr : 0 < r) (hN : r + s + 1 ≤ N) : (a * 2 ^ (r + 1) + (2 ^ r - 1)) * 2 ^ s < (a * 2 ^ (r + 1) + 2 ^ r) * 2 ^ s + (2 ^ (r - 1) - 1) ∧ f_pc N ((a * 2 ^ (r + 1) + 2 ^ r) * 2 ^ s + (2 ^ (r - 1) - 1)) = f_pc N ((a * 2 ^ (r + 1) + (2 ^ r - 1)) * 2 ^ s) ∧ ∀ z, (a * 2 ^ (r + 1) + (2 ^ r - 1)) * 2 ^ s < z → z < (a * 2 ^ (r + 1) + 2 ^ r) * 2 ^ s + (2 ^ (r - 1) - 1) → f_pc N z ≠ f_pc N ((a * 2 ^ (r + 1) + (2 ^ r - 1)) * 2 ^ s) := by
  obtain ⟨r9, rfl⟩ : ∃ r9, r = r9 + 1 := ⟨r - 1, by omega⟩
  have hp9 := Nat.two_pow_pos r9
  have hps := Nat.two_pow_pos s
  have hpr : 2 ^ (r9 + 1) = 2 ^ r9 * 2 := Nat.pow_succ 2 r9
  obtain ⟨K, eK⟩ : ∃ K, K = 2 ^ (r9 + 1 + s) := ⟨_, rfl⟩
  have hK : K = 2 ^ (r9 + 1) * 2 ^ s := by rw [eK, Nat.pow_add]
  obtain ⟨P, eP⟩ : ∃ P, P = a * 2 ^ (r9 + 1 + s + 1) := ⟨_, rfl⟩
  have hP : a * 2 ^ (r9 + 1 + 1) * 2 ^ s = P := by rw [eP, Nat.mul_assoc, ← Nat.pow_add, show r9 + 1 + 1 + s = r9 + 1 + s + 1 by omega]
  -- the number and its next
  have hc : (a * 2 ^ (r9 + 1 + 1) + (2 ^ (r9 + 1) - 1)) * 2 ^ s = P + (2 ^ (r9 + 1) - 1) * 2 ^ s := by rw [Nat.add_mul, hP]
  have hy : (a * 2 ^ (r9 + 1 + 1) + 2 ^ (r9 + 1)) * 2 ^ s + (2 ^ (r9 + 1 - 1) - 1) = P + K + (2 ^ r9 - 1) := by rw [Nat.add_mul, hP, ← hK]; rfl
  rw [hc, hy]
  have hw : (2 ^ (r9 + 1) - 1) * 2 ^ s + 2 ^ s = K := by
    rw [hK]
    have : 2 ^ (r9 + 1) = (2 ^ (r9 + 1) - 1) + 1 := by omega
    rw [this, Nat.add_mul _ 1, Nat.one_mul, Nat.add_sub_cancel]
  have hsplit : ∀ v, v < 2 ^ (r9 + 1 + s + 1) → f_pc N (P + v) = f_pc (r9 + 1 + s + 1) v + f_pc (N - (r9 + 1 + s + 1)) a := by
    intro v hv
    have := f_pc_app (r9 + 1 + s + 1) (N - (r9 + 1 + s + 1)) a v hv
    rw [← eP, show r9 + 1 + s + 1 + (N - (r9 + 1 + s + 1)) = N by omega] at this
    exact this
  have h2K : 2 ^ (r9 + 1 + s + 1) = K + K := by rw [Nat.pow_succ, ← eK]; omega
  have hr9K : 2 ^ r9 ≤ K := by rw [eK]; exact Nat.pow_le_pow_right (by decide) (by omega)
  -- with the upper one
  have hup : ∀ v, v < K → f_pc (r9 + 1 + s + 1) (K + v) = f_pc (r9 + 1 + s) v + 1 := by
    intro v hv
    have := f_pc_app (r9 + 1 + s) 1 1 v (by rw [← eK]; exact hv)
    rw [Nat.one_mul, ← eK] at this
    rw [this]; rfl
  have hlow : ∀ v, v < K → f_pc (r9 + 1 + s + 1) v = f_pc (r9 + 1 + s) v := fun v hv => f_pc_up (r9 + 1 + s) v 1 (by rw [← eK]; exact hv)
  -- ones above s zeros
  have hrun : ∀ v, v < 2 ^ s → f_pc (r9 + 1 + s) ((2 ^ (r9 + 1) - 1) * 2 ^ s + v) = f_pc s v + (r9 + 1) := by
    intro v hv
    have := f_pc_app s (r9 + 1) (2 ^ (r9 + 1) - 1) v hv
    rw [f_pc_ones, Nat.add_comm s] at this
    exact this
  have c0 : f_pc (r9 + 1 + s) ((2 ^ (r9 + 1) - 1) * 2 ^ s) = r9 + 1 := by
    have h9 := hrun 0 hps
    rw [f_pc_0, Nat.zero_add] at h9
    exact h9
  have cc : f_pc N (P + (2 ^ (r9 + 1) - 1) * 2 ^ s) = (r9 + 1) + f_pc (N - (r9 + 1 + s + 1)) a := by
    rw [hsplit _ (by omega), hlow _ (by omega), c0]
  have ones : f_pc (r9 + 1 + s) (2 ^ r9 - 1) = r9 := by
    have := f_pc_up r9 (2 ^ r9 - 1) (1 + s) (by omega)
    rw [f_pc_ones, ← Nat.add_assoc] at this
    exact this
  refine ⟨by omega, ?_, ?_⟩
  · rw [cc, Nat.add_assoc, hsplit _ (by omega), hup _ (by omega), ones]
  · intro z h1 h2
    rw [cc]
    rcases Nat.lt_or_ge z (P + K) with h | h
    · obtain ⟨v, hv⟩ : ∃ v, z = P + ((2 ^ (r9 + 1) - 1) * 2 ^ s + v) := ⟨z - (P + (2 ^ (r9 + 1) - 1) * 2 ^ s), by omega⟩
      rw [hv, hsplit _ (by omega), hlow _ (by omega), hrun v (by omega)]
      have := f_pc_pos s v (by omega) (by omega)
      omega
    · obtain ⟨v, hv⟩ : ∃ v, z = P + (K + v) := ⟨z - (P + K), by omega⟩
      rw [hv, hsplit _ (by omega), hup v (by omega)]
      have h3 := f_pc_least (r9 + 1 + s) v
      have h4 : f_pc (r9 + 1 + s) v < r9 := by
        rcases Nat.lt_or_ge (f_pc (r9 + 1 + s) v) r9 with q | q
        · exact q
        · have : 2 ^ r9 ≤ 2 ^ f_pc (r9 + 1 + s) v := Nat.pow_le_pow_right (by decide) q
          omega
      omega
