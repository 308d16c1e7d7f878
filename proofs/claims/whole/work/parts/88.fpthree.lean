/-! Both sides alike: quotients, sums, whole numbers -/
--CUT

theorem f_fp_lead_lo {num den : Nat} {k : Nat} (hn : 0 < num) (hd : 0 < den) (h : den * 2 ^ k ≤ num) : (k : Int) ≤ FP.Core.leading num den := by
  have hl := f_fp_leading hn hd
  obtain ⟨m, em⟩ : ∃ m, m = FP.Core.leading num den := ⟨_, rfl⟩
  rw [← em] at hl ⊢
  rcases Int.lt_or_le m k with q | q
  · exfalso
    obtain ⟨t, et⟩ : ∃ t : Nat, (0 : Int) ≤ (t : Int) + m := ⟨m.natAbs, by omega⟩
    have s1 := f_fp_sl hl.2 t et
    have e1 : 2 * (den * 2 ^ ((t : Int) + m).toNat) ≤ den * 2 ^ k * 2 ^ t := by
      rw [← Nat.mul_assoc, Nat.mul_comm 2 den, Nat.mul_assoc, ← Nat.pow_succ', Nat.mul_assoc, ← Nat.pow_add]
      exact Nat.mul_le_mul_left _ (Nat.pow_le_pow_right (by decide) (by omega))
    have e2 : den * 2 ^ k * 2 ^ t ≤ num * 2 ^ t := Nat.mul_le_mul_right _ h
    omega
  · exact q
theorem f_fp_lead_hi {num den : Nat} {k : Nat} (hn : 0 < num) (hd : 0 < den) (h : num < den * 2 ^ k) : FP.Core.leading num den < (k : Int) := by
  have hl := f_fp_leading hn hd
  obtain ⟨m, em⟩ : ∃ m, m = FP.Core.leading num den := ⟨_, rfl⟩
  rw [← em] at hl ⊢
  rcases Int.lt_or_le m k with q | q
  · exact q
  · exfalso
    have s1 := f_fp_sh hl.1 0 (by omega)
    rw [Nat.pow_zero, Nat.mul_one] at s1
    have e1 : den * 2 ^ k ≤ den * 2 ^ (((0 : Nat) : Int) + m).toNat := Nat.mul_le_mul_left _ (Nat.pow_le_pow_right (by decide) (by omega))
    omega
theorem f_fp_lead_lo1 {num den : Nat} (hn : 0 < num) (hd : 0 < den) (h : den ≤ 2 * num) : -1 ≤ FP.Core.leading num den := by
  have hl := f_fp_leading hn hd
  obtain ⟨m, em⟩ : ∃ m, m = FP.Core.leading num den := ⟨_, rfl⟩
  rw [← em] at hl ⊢
  rcases Int.lt_or_le m (-1) with q | q
  · exfalso
    have s1 := hl.2
    rw [show m.toNat = 0 by omega, Nat.pow_zero, Nat.mul_one] at s1
    have e1 : num * 2 ^ 2 ≤ num * 2 ^ (-m).toNat := Nat.mul_le_mul_left _ (Nat.pow_le_pow_right (by decide) (by omega))
    omega
  · exact q

theorem f_nf32_round {num den : Nat} {e lo hi : Int} (hn : 0 < num) (hd : 0 < den) (h1 : lo ≤ FP.Core.leading num den) (h2 : FP.Core.leading num den ≤ hi) (h3 : -149 ≤ lo + e - (24 - 1)) (h4 : hi + e - (24 - 1) + 1 ≤ 104) : ∃ (c : Nat) (q : Int), f_nf32 (UInt32.ofNat (FP.Core.encode FP.Core.b32 (FP.Core.roundRatio FP.Core.b32 false num den e))) c q ∧ lo + e - (24 - 1) ≤ q ∧ q ≤ hi + e - (24 - 1) + 1 := by
  obtain ⟨b1, b2, b3, b4, b5, b6⟩ := f_fb32
  obtain ⟨c, q, r1, r2, r3, r4⟩ := f_fp_round (f := FP.Core.b32) (e := e) hn hd (by rw [b3]; decide) (by rw [b4, b3]; omega) (by rw [b5, b3]; omega)
  rw [b1] at r2
  rw [b6] at r3
  rw [b3] at r4
  refine ⟨c, q, ?_, by omega, by omega⟩
  rw [r1]
  exact f_nf32_of r2 r3 (by omega) (by omega)
theorem f_nf32_quot {v w : UInt32} {c d : Nat} {q r : Int} (h : f_nf32 v c q) (hw : f_nf32 w d r) (h3 : -149 ≤ q - r - 24) (h4 : q - r ≤ 104) : ∃ (c2 : Nat) (q2 : Int), f_nf32 (FP.Core.fdiv v w) c2 q2 ∧ q - r - 24 ≤ q2 ∧ q2 ≤ q - r - 24 + 2 := by
  obtain ⟨i0, i1, i2, i3, i4⟩ := h
  obtain ⟨j0, j1, j2, j3, j4⟩ := hw
  have hl1 := f_fp_lead_lo1 (num := c) (den := d) (by omega) (by omega) (by omega)
  have hl2 := f_fp_lead_hi (num := c) (den := d) (k := 1) (by omega) (by omega) (by rw [Nat.pow_one]; omega)
  obtain ⟨c2, q2, k1, k2, k3⟩ := f_nf32_round (num := c) (den := d) (e := q - r) (lo := -1) (hi := 0) (by omega) (by omega) hl1 (by omega) (by omega) (by omega)
  refine ⟨c2, q2, ?_, by omega, by omega⟩
  have e2 : FP.Core.div FP.Core.b32 v.toNat w.toNat = FP.Core.encode FP.Core.b32 (FP.Core.roundRatio FP.Core.b32 false c d (q - r)) := by
    unfold FP.Core.div
    rw [i0, j0]
    show FP.Core.encode FP.Core.b32 (if d = 0 then (if c = 0 then .nan else .inf (false != false)) else FP.Core.roundRatio FP.Core.b32 (false != false) c d (q - r)) = _
    rw [if_neg (by omega)]; rfl
  unfold FP.Core.fdiv
  rw [e2]; exact k1
theorem f_nf32_nat {k : Nat} (h0 : 0 < k) (hk : k < 1024) : ∃ (c : Nat) (q : Int), f_nf32 (UInt32.ofNat (FP.Core.fromInt FP.Core.b32 (k : Int))) c q ∧ -(24 - 1) ≤ q ∧ q ≤ 10 - (24 - 1) := by
  have hl1 := f_fp_lead_lo (num := k) (den := 1) (k := 0) h0 (by decide) (by rw [Nat.pow_zero]; omega)
  have hl2 := f_fp_lead_hi (num := k) (den := 1) (k := 10) h0 (by decide) (by show k < 1 * 1024; omega)
  obtain ⟨c2, q2, k1, k2, k3⟩ := f_nf32_round (num := k) (den := 1) (e := 0) (lo := 0) (hi := 9) h0 (by decide) hl1 (by omega) (by omega) (by omega)
  refine ⟨c2, q2, ?_, by omega, by omega⟩
  have e2 : FP.Core.fromInt FP.Core.b32 (k : Int) = FP.Core.encode FP.Core.b32 (FP.Core.roundRatio FP.Core.b32 false k 1 0) := by
    unfold FP.Core.fromInt FP.Core.ofInt FP.Core.round
    rw [decide_eq_false (by omega), Int.natAbs_natCast]
  rw [e2]; exact k1
theorem f_nf32_sum {v w : UInt32} {c d : Nat} {q r : Int} (h : f_nf32 v c q) (hw : f_nf32 w d r) (h3 : -149 ≤ q) (h4 : q + 2 ≤ 104) (h5 : r + 2 ≤ 104) : ∃ (c2 : Nat) (q2 : Int), f_nf32 (.ofNat (FP.Core.add FP.Core.b32 v.toNat w.toNat)) c2 q2 ∧ max q r ≤ q2 ∧ q2 ≤ max q r + 2 := by
  obtain ⟨i0, i1, i2, i3, i4⟩ := h
  obtain ⟨j0, j1, j2, j3, j4⟩ := hw
  obtain ⟨m, em⟩ : ∃ m, m = min q r := ⟨_, rfl⟩
  obtain ⟨N, eN⟩ : ∃ N, N = c * 2 ^ (q - m).toNat + d * 2 ^ (r - m).toNat := ⟨_, rfl⟩
  have hp1 := Nat.two_pow_pos (q - m).toNat
  have hp2 := Nat.two_pow_pos (r - m).toNat
  have hN0 : 0 < N := by have := Nat.mul_pos (show 0 < c by omega) hp1; omega
  obtain ⟨k, ek⟩ : ∃ k, k = (max q r - m).toNat := ⟨_, rfl⟩
  have hT : 8388608 = 2 ^ (24 - 1) := rfl
  have hlo : 1 * 2 ^ (24 - 1 + k) ≤ N := by
    rw [Nat.one_mul, Nat.pow_add, ← hT]
    rcases Int.le_total q r with z | z
    · have e1 : (r - m).toNat = k := by omega
      have : 8388608 * 2 ^ k ≤ d * 2 ^ (r - m).toNat := by rw [e1]; exact Nat.mul_le_mul_right _ j1
      omega
    · have e1 : (q - m).toNat = k := by omega
      have : 8388608 * 2 ^ k ≤ c * 2 ^ (q - m).toNat := by rw [e1]; exact Nat.mul_le_mul_right _ i1
      omega
  have hhi : N < 1 * 2 ^ (24 - 1 + k + 2) := by
    have e1 : c * 2 ^ (q - m).toNat < 2 * 8388608 * 2 ^ k := Nat.lt_of_lt_of_le (Nat.mul_lt_mul_of_pos_right i2 hp1) (Nat.mul_le_mul_left _ (Nat.pow_le_pow_right (by decide) (by omega)))
    have e2 : d * 2 ^ (r - m).toNat < 2 * 8388608 * 2 ^ k := Nat.lt_of_lt_of_le (Nat.mul_lt_mul_of_pos_right j2 hp2) (Nat.mul_le_mul_left _ (Nat.pow_le_pow_right (by decide) (by omega)))
    have e3 : 1 * 2 ^ (24 - 1 + k + 2) = 2 * 8388608 * 2 ^ k + 2 * 8388608 * 2 ^ k := by
      rw [Nat.one_mul, Nat.pow_add, Nat.pow_add, ← hT, Nat.mul_assoc 2]
      show 8388608 * 2 ^ k * 4 = _
      omega
    omega
  have hl1 := f_fp_lead_lo (num := N) (den := 1) hN0 (by decide) hlo
  have hl2 := f_fp_lead_hi (num := N) (den := 1) hN0 (by decide) hhi
  obtain ⟨c2, q2, k1, k2, k3⟩ := f_nf32_round (num := N) (den := 1) (e := m) (lo := ((24 - 1 + k : Nat) : Int)) (hi := ((24 - 1 + k + 1 : Nat) : Int)) hN0 (by decide) hl1 (by omega) (by omega) (by omega)
  refine ⟨c2, q2, ?_, by omega, by omega⟩
  have e2 : FP.Core.add FP.Core.b32 v.toNat w.toNat = FP.Core.encode FP.Core.b32 (FP.Core.roundRatio FP.Core.b32 false N 1 m) := by
    have e3 : FP.Core.sumUnits false c q false d r m = (N : Int) := by
      unfold FP.Core.sumUnits FP.Core.signed FP.Core.inUnits
      rw [if_neg (by decide), if_neg (by decide), eN]
      exact (Int.natCast_add _ _).symm
    unfold FP.Core.add
    rw [i0, j0]
    show FP.Core.encode FP.Core.b32 (FP.Core.roundRatio FP.Core.b32 (FP.Core.sumSign false false (FP.Core.sumUnits false c q false d r (min q r))) (FP.Core.sumUnits false c q false d r (min q r)).natAbs 1 (min q r)) = _
    rw [← em, e3]
    unfold FP.Core.sumSign
    rw [if_neg (by omega), decide_eq_false (by omega), Int.natAbs_natCast]
  rw [e2]; exact k1
theorem f_nf32_sum0 {w : UInt32} {d : Nat} {r : Int} (hw : f_nf32 w d r) (h5 : r + 2 ≤ 104) : ∃ (c2 : Nat) (q2 : Int), f_nf32 (.ofNat (FP.Core.add FP.Core.b32 (0 : UInt32).toNat w.toNat)) c2 q2 ∧ r ≤ q2 ∧ q2 ≤ r + 1 := by
  obtain ⟨j0, j1, j2, j3, j4⟩ := hw
  obtain ⟨m, em⟩ : ∃ m : Int, m = min (-149) r := ⟨_, rfl⟩
  obtain ⟨N, eN⟩ : ∃ N, N = d * 2 ^ (r - m).toNat := ⟨_, rfl⟩
  have hp2 := Nat.two_pow_pos (r - m).toNat
  have hN0 : 0 < N := by have := Nat.mul_pos (show 0 < d by omega) hp2; omega
  have hT : 8388608 = 2 ^ (24 - 1) := rfl
  have hlo : 1 * 2 ^ (24 - 1 + (r - m).toNat) ≤ N := by
    rw [Nat.one_mul, Nat.pow_add, ← hT, eN]; exact Nat.mul_le_mul_right _ j1
  have hhi : N < 1 * 2 ^ (24 - 1 + (r - m).toNat + 1) := by
    rw [Nat.one_mul, Nat.pow_succ, Nat.pow_add, ← hT, eN, Nat.mul_right_comm]
    exact Nat.mul_lt_mul_of_pos_right (by omega) hp2
  have hl1 := f_fp_lead_lo (num := N) (den := 1) hN0 (by decide) hlo
  have hl2 := f_fp_lead_hi (num := N) (den := 1) hN0 (by decide) hhi
  obtain ⟨c2, q2, k1, k2, k3⟩ := f_nf32_round (num := N) (den := 1) (e := m) (lo := ((24 - 1 + (r - m).toNat : Nat) : Int)) (hi := ((24 - 1 + (r - m).toNat : Nat) : Int)) hN0 (by decide) hl1 (by omega) (by omega) (by omega)
  refine ⟨c2, q2, ?_, by omega, by omega⟩
  have e2 : FP.Core.add FP.Core.b32 (0 : UInt32).toNat w.toNat = FP.Core.encode FP.Core.b32 (FP.Core.roundRatio FP.Core.b32 false N 1 m) := by
    have e3 : FP.Core.sumUnits false 0 (-149) false d r m = (N : Int) := by
      unfold FP.Core.sumUnits FP.Core.signed FP.Core.inUnits
      rw [if_neg (by decide), if_neg (by decide), eN, Nat.zero_mul]
      omega
    unfold FP.Core.add
    rw [f_nf32_zero, j0]
    show FP.Core.encode FP.Core.b32 (FP.Core.roundRatio FP.Core.b32 (FP.Core.sumSign false false (FP.Core.sumUnits false 0 (-149) false d r (min (-149) r))) (FP.Core.sumUnits false 0 (-149) false d r (min (-149) r)).natAbs 1 (min (-149) r)) = _
    rw [← em, e3]
    unfold FP.Core.sumSign
    rw [if_neg (by omega), decide_eq_false (by omega), Int.natAbs_natCast]
  rw [e2]; exact k1

theorem f_nf64_round {num den : Nat} {e lo hi : Int} (hn : 0 < num) (hd : 0 < den) (h1 : lo ≤ FP.Core.leading num den) (h2 : FP.Core.leading num den ≤ hi) (h3 : -1074 ≤ lo + e - (53 - 1)) (h4 : hi + e - (53 - 1) + 1 ≤ 971) : ∃ (c : Nat) (q : Int), f_nf64 (UInt64.ofNat (FP.Core.encode FP.Core.b64 (FP.Core.roundRatio FP.Core.b64 false num den e))) c q ∧ lo + e - (53 - 1) ≤ q ∧ q ≤ hi + e - (53 - 1) + 1 := by
  obtain ⟨b1, b2, b3, b4, b5, b6⟩ := f_fb64
  obtain ⟨c, q, r1, r2, r3, r4⟩ := f_fp_round (f := FP.Core.b64) (e := e) hn hd (by rw [b3]; decide) (by rw [b4, b3]; omega) (by rw [b5, b3]; omega)
  rw [b1] at r2
  rw [b6] at r3
  rw [b3] at r4
  refine ⟨c, q, ?_, by omega, by omega⟩
  rw [r1]
  exact f_nf64_of r2 r3 (by omega) (by omega)
theorem f_nf64_quot {v w : UInt64} {c d : Nat} {q r : Int} (h : f_nf64 v c q) (hw : f_nf64 w d r) (h3 : -1074 ≤ q - r - 53) (h4 : q - r ≤ 971) : ∃ (c2 : Nat) (q2 : Int), f_nf64 (FP.Core.ddiv v w) c2 q2 ∧ q - r - 53 ≤ q2 ∧ q2 ≤ q - r - 53 + 2 := by
  obtain ⟨i0, i1, i2, i3, i4⟩ := h
  obtain ⟨j0, j1, j2, j3, j4⟩ := hw
  have hl1 := f_fp_lead_lo1 (num := c) (den := d) (by omega) (by omega) (by omega)
  have hl2 := f_fp_lead_hi (num := c) (den := d) (k := 1) (by omega) (by omega) (by rw [Nat.pow_one]; omega)
  obtain ⟨c2, q2, k1, k2, k3⟩ := f_nf64_round (num := c) (den := d) (e := q - r) (lo := -1) (hi := 0) (by omega) (by omega) hl1 (by omega) (by omega) (by omega)
  refine ⟨c2, q2, ?_, by omega, by omega⟩
  have e2 : FP.Core.div FP.Core.b64 v.toNat w.toNat = FP.Core.encode FP.Core.b64 (FP.Core.roundRatio FP.Core.b64 false c d (q - r)) := by
    unfold FP.Core.div
    rw [i0, j0]
    show FP.Core.encode FP.Core.b64 (if d = 0 then (if c = 0 then .nan else .inf (false != false)) else FP.Core.roundRatio FP.Core.b64 (false != false) c d (q - r)) = _
    rw [if_neg (by omega)]; rfl
  unfold FP.Core.ddiv
  rw [e2]; exact k1
theorem f_nf64_nat {k : Nat} (h0 : 0 < k) (hk : k < 1024) : ∃ (c : Nat) (q : Int), f_nf64 (UInt64.ofNat (FP.Core.fromInt FP.Core.b64 (k : Int))) c q ∧ -(53 - 1) ≤ q ∧ q ≤ 10 - (53 - 1) := by
  have hl1 := f_fp_lead_lo (num := k) (den := 1) (k := 0) h0 (by decide) (by rw [Nat.pow_zero]; omega)
  have hl2 := f_fp_lead_hi (num := k) (den := 1) (k := 10) h0 (by decide) (by show k < 1 * 1024; omega)
  obtain ⟨c2, q2, k1, k2, k3⟩ := f_nf64_round (num := k) (den := 1) (e := 0) (lo := 0) (hi := 9) h0 (by decide) hl1 (by omega) (by omega) (by omega)
  refine ⟨c2, q2, ?_, by omega, by omega⟩
  have e2 : FP.Core.fromInt FP.Core.b64 (k : Int) = FP.Core.encode FP.Core.b64 (FP.Core.roundRatio FP.Core.b64 false k 1 0) := by
    unfold FP.Core.fromInt FP.Core.ofInt FP.Core.round
    rw [decide_eq_false (by omega), Int.natAbs_natCast]
  rw [e2]; exact k1
theorem f_nf64_sum {v w : UInt64} {c d : Nat} {q r : Int} (h : f_nf64 v c q) (hw : f_nf64 w d r) (h3 : -1074 ≤ q) (h4 : q + 2 ≤ 971) (h5 : r + 2 ≤ 971) : ∃ (c2 : Nat) (q2 : Int), f_nf64 (.ofNat (FP.Core.add FP.Core.b64 v.toNat w.toNat)) c2 q2 ∧ max q r ≤ q2 ∧ q2 ≤ max q r + 2 := by
  obtain ⟨i0, i1, i2, i3, i4⟩ := h
  obtain ⟨j0, j1, j2, j3, j4⟩ := hw
  obtain ⟨m, em⟩ : ∃ m, m = min q r := ⟨_, rfl⟩
  obtain ⟨N, eN⟩ : ∃ N, N = c * 2 ^ (q - m).toNat + d * 2 ^ (r - m).toNat := ⟨_, rfl⟩
  have hp1 := Nat.two_pow_pos (q - m).toNat
  have hp2 := Nat.two_pow_pos (r - m).toNat
  have hN0 : 0 < N := by have := Nat.mul_pos (show 0 < c by omega) hp1; omega
  obtain ⟨k, ek⟩ : ∃ k, k = (max q r - m).toNat := ⟨_, rfl⟩
  have hT : 4503599627370496 = 2 ^ (53 - 1) := rfl
  have hlo : 1 * 2 ^ (53 - 1 + k) ≤ N := by
    rw [Nat.one_mul, Nat.pow_add, ← hT]
    rcases Int.le_total q r with z | z
    · have e1 : (r - m).toNat = k := by omega
      have : 4503599627370496 * 2 ^ k ≤ d * 2 ^ (r - m).toNat := by rw [e1]; exact Nat.mul_le_mul_right _ j1
      omega
    · have e1 : (q - m).toNat = k := by omega
      have : 4503599627370496 * 2 ^ k ≤ c * 2 ^ (q - m).toNat := by rw [e1]; exact Nat.mul_le_mul_right _ i1
      omega
  have hhi : N < 1 * 2 ^ (53 - 1 + k + 2) := by
    have e1 : c * 2 ^ (q - m).toNat < 2 * 4503599627370496 * 2 ^ k := Nat.lt_of_lt_of_le (Nat.mul_lt_mul_of_pos_right i2 hp1) (Nat.mul_le_mul_left _ (Nat.pow_le_pow_right (by decide) (by omega)))
    have e2 : d * 2 ^ (r - m).toNat < 2 * 4503599627370496 * 2 ^ k := Nat.lt_of_lt_of_le (Nat.mul_lt_mul_of_pos_right j2 hp2) (Nat.mul_le_mul_left _ (Nat.pow_le_pow_right (by decide) (by omega)))
    have e3 : 1 * 2 ^ (53 - 1 + k + 2) = 2 * 4503599627370496 * 2 ^ k + 2 * 4503599627370496 * 2 ^ k := by
      rw [Nat.one_mul, Nat.pow_add, Nat.pow_add, ← hT, Nat.mul_assoc 2]
      show 4503599627370496 * 2 ^ k * 4 = _
      omega
    omega
  have hl1 := f_fp_lead_lo (num := N) (den := 1) hN0 (by decide) hlo
  have hl2 := f_fp_lead_hi (num := N) (den := 1) hN0 (by decide) hhi
  obtain ⟨c2, q2, k1, k2, k3⟩ := f_nf64_round (num := N) (den := 1) (e := m) (lo := ((53 - 1 + k : Nat) : Int)) (hi := ((53 - 1 + k + 1 : Nat) : Int)) hN0 (by decide) hl1 (by omega) (by omega) (by omega)
  refine ⟨c2, q2, ?_, by omega, by omega⟩
  have e2 : FP.Core.add FP.Core.b64 v.toNat w.toNat = FP.Core.encode FP.Core.b64 (FP.Core.roundRatio FP.Core.b64 false N 1 m) := by
    have e3 : FP.Core.sumUnits false c q false d r m = (N : Int) := by
      unfold FP.Core.sumUnits FP.Core.signed FP.Core.inUnits
      rw [if_neg (by decide), if_neg (by decide), eN]
      exact (Int.natCast_add _ _).symm
    unfold FP.Core.add
    rw [i0, j0]
    show FP.Core.encode FP.Core.b64 (FP.Core.roundRatio FP.Core.b64 (FP.Core.sumSign false false (FP.Core.sumUnits false c q false d r (min q r))) (FP.Core.sumUnits false c q false d r (min q r)).natAbs 1 (min q r)) = _
    rw [← em, e3]
    unfold FP.Core.sumSign
    rw [if_neg (by omega), decide_eq_false (by omega), Int.natAbs_natCast]
  rw [e2]; exact k1
theorem f_nf64_sum0 {w : UInt64} {d : Nat} {r : Int} (hw : f_nf64 w d r) (h5 : r + 2 ≤ 971) : ∃ (c2 : Nat) (q2 : Int), f_nf64 (.ofNat (FP.Core.add FP.Core.b64 (0 : UInt64).toNat w.toNat)) c2 q2 ∧ r ≤ q2 ∧ q2 ≤ r + 1 := by
  obtain ⟨j0, j1, j2, j3, j4⟩ := hw
  obtain ⟨m, em⟩ : ∃ m : Int, m = min (-1074) r := ⟨_, rfl⟩
  obtain ⟨N, eN⟩ : ∃ N, N = d * 2 ^ (r - m).toNat := ⟨_, rfl⟩
  have hp2 := Nat.two_pow_pos (r - m).toNat
  have hN0 : 0 < N := by have := Nat.mul_pos (show 0 < d by omega) hp2; omega
  have hT : 4503599627370496 = 2 ^ (53 - 1) := rfl
  have hlo : 1 * 2 ^ (53 - 1 + (r - m).toNat) ≤ N := by
    rw [Nat.one_mul, Nat.pow_add, ← hT, eN]; exact Nat.mul_le_mul_right _ j1
  have hhi : N < 1 * 2 ^ (53 - 1 + (r - m).toNat + 1) := by
    rw [Nat.one_mul, Nat.pow_succ, Nat.pow_add, ← hT, eN, Nat.mul_right_comm]
    exact Nat.mul_lt_mul_of_pos_right (by omega) hp2
  have hl1 := f_fp_lead_lo (num := N) (den := 1) hN0 (by decide) hlo
  have hl2 := f_fp_lead_hi (num := N) (den := 1) hN0 (by decide) hhi
  obtain ⟨c2, q2, k1, k2, k3⟩ := f_nf64_round (num := N) (den := 1) (e := m) (lo := ((53 - 1 + (r - m).toNat : Nat) : Int)) (hi := ((53 - 1 + (r - m).toNat : Nat) : Int)) hN0 (by decide) hl1 (by omega) (by omega) (by omega)
  refine ⟨c2, q2, ?_, by omega, by omega⟩
  have e2 : FP.Core.add FP.Core.b64 (0 : UInt64).toNat w.toNat = FP.Core.encode FP.Core.b64 (FP.Core.roundRatio FP.Core.b64 false N 1 m) := by
    have e3 : FP.Core.sumUnits false 0 (-1074) false d r m = (N : Int) := by
      unfold FP.Core.sumUnits FP.Core.signed FP.Core.inUnits
      rw [if_neg (by decide), if_neg (by decide), eN, Nat.zero_mul]
      omega
    unfold FP.Core.add
    rw [f_nf64_zero, j0]
    show FP.Core.encode FP.Core.b64 (FP.Core.roundRatio FP.Core.b64 (FP.Core.sumSign false false (FP.Core.sumUnits false 0 (-1074) false d r (min (-1074) r))) (FP.Core.sumUnits false 0 (-1074) false d r (min (-1074) r)).natAbs 1 (min (-1074) r)) = _
    rw [← em, e3]
    unfold FP.Core.sumSign
    rw [if_neg (by omega), decide_eq_false (by omega), Int.natAbs_natCast]
  rw [e2]; exact k1
