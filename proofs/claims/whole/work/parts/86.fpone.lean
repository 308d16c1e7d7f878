/-! Both sides alike: roundings, of any form -/
theorem f_fp_sh {num den : Nat} {k : Int} (h : den * 2 ^ k.toNat ≤ num * 2 ^ (-k).toNat) (t : Nat) (ht : 0 ≤ (t : Int) + k) : den * 2 ^ ((t : Int) + k).toNat ≤ num * 2 ^ t := by
  rcases Int.lt_or_le k 0 with q | q
  · rw [show k.toNat = 0 by omega, Nat.pow_zero, Nat.mul_one] at h
    have e1 : t = (-k).toNat + ((t : Int) + k).toNat := by omega
    calc den * 2 ^ ((t : Int) + k).toNat ≤ num * 2 ^ (-k).toNat * 2 ^ ((t : Int) + k).toNat := Nat.mul_le_mul_right _ h
      _ = num * 2 ^ t := by rw [Nat.mul_assoc, ← Nat.pow_add, ← e1]
  · rw [show (-k).toNat = 0 by omega, Nat.pow_zero, Nat.mul_one] at h
    rw [show ((t : Int) + k).toNat = k.toNat + t by omega, Nat.pow_add, ← Nat.mul_assoc]
    exact Nat.mul_le_mul_right _ h
theorem f_fp_sl {num den : Nat} {k : Int} (h : num * 2 ^ (-k).toNat < 2 * (den * 2 ^ k.toNat)) (t : Nat) (ht : 0 ≤ (t : Int) + k) : num * 2 ^ t < 2 * (den * 2 ^ ((t : Int) + k).toNat) := by
  rcases Int.lt_or_le k 0 with q | q
  · rw [show k.toNat = 0 by omega, Nat.pow_zero, Nat.mul_one] at h
    have e1 : t = (-k).toNat + ((t : Int) + k).toNat := by omega
    have hp := Nat.two_pow_pos ((t : Int) + k).toNat
    calc num * 2 ^ t = num * 2 ^ (-k).toNat * 2 ^ ((t : Int) + k).toNat := by rw [Nat.mul_assoc, ← Nat.pow_add, ← e1]
      _ < 2 * den * 2 ^ ((t : Int) + k).toNat := Nat.mul_lt_mul_of_pos_right h hp
      _ = 2 * (den * 2 ^ ((t : Int) + k).toNat) := Nat.mul_assoc _ _ _
  · rw [show (-k).toNat = 0 by omega, Nat.pow_zero, Nat.mul_one] at h
    have hp := Nat.two_pow_pos t
    rw [show ((t : Int) + k).toNat = k.toNat + t by omega, Nat.pow_add, ← Nat.mul_assoc den, ← Nat.mul_assoc]
    exact Nat.mul_lt_mul_of_pos_right h hp
theorem f_fp_leading {num den : Nat} (hn : 0 < num) (hd : 0 < den) : den * 2 ^ (FP.Core.leading num den).toNat ≤ num * 2 ^ (-(FP.Core.leading num den)).toNat ∧ num * 2 ^ (-(FP.Core.leading num den)).toNat < 2 * (den * 2 ^ (FP.Core.leading num den).toNat) := by
  have a1 : 2 ^ num.log2 ≤ num := Nat.log2_self_le (by omega)
  have a2 : num < 2 ^ (num.log2 + 1) := Nat.lt_log2_self
  have b1 : 2 ^ den.log2 ≤ den := Nat.log2_self_le (by omega)
  have b2 : den < 2 ^ (den.log2 + 1) := Nat.lt_log2_self
  obtain ⟨l1, e1⟩ : ∃ l, l = num.log2 := ⟨_, rfl⟩
  obtain ⟨l2, e2⟩ : ∃ l, l = den.log2 := ⟨_, rfl⟩
  unfold FP.Core.leading
  rw [← e1] at a1 a2 ⊢
  rw [← e2] at b1 b2 ⊢
  -- the upper end for the difference of the digit counts
  have up : num * 2 ^ (-((l1 : Int) - l2)).toNat < 2 * (den * 2 ^ ((l1 : Int) - l2).toNat) := by
    have h1 : num * 2 ^ (-((l1 : Int) - l2)).toNat < 2 ^ (l1 + 1) * 2 ^ (-((l1 : Int) - l2)).toNat := Nat.mul_lt_mul_of_pos_right a2 (Nat.two_pow_pos _)
    have h2 : 2 ^ l2 * 2 ^ ((l1 : Int) - l2).toNat ≤ den * 2 ^ ((l1 : Int) - l2).toNat := Nat.mul_le_mul_right _ b1
    have h3 : 2 ^ (l1 + 1) * 2 ^ (-((l1 : Int) - l2)).toNat = 2 * (2 ^ l2 * 2 ^ ((l1 : Int) - l2).toNat) := by
      rw [← Nat.pow_add, ← Nat.pow_add, ← Nat.pow_succ']
      congr 1; omega
    omega
  by_cases h : den * 2 ^ ((l1 : Int) - l2).toNat ≤ num * 2 ^ (-((l1 : Int) - l2)).toNat
  · simp only [h, if_true]
    exact ⟨trivial, up⟩
  · simp only [h, if_false]
    have hlt : num * 2 ^ (-((l1 : Int) - l2)).toNat < den * 2 ^ ((l1 : Int) - l2).toNat := Nat.lt_of_not_le h
    obtain ⟨k, ek⟩ : ∃ k : Int, k = (l1 : Int) - l2 := ⟨_, rfl⟩
    rw [← ek] at hlt ⊢
    constructor
    · -- below
      have h1 : den * 2 ^ (k - 1).toNat ≤ 2 ^ (l2 + 1) * 2 ^ (k - 1).toNat := Nat.mul_le_mul_right _ (Nat.le_of_lt b2)
      have h2 : 2 ^ l1 * 2 ^ (-(k - 1)).toNat ≤ num * 2 ^ (-(k - 1)).toNat := Nat.mul_le_mul_right _ a1
      have h3 : 2 ^ (l2 + 1) * 2 ^ (k - 1).toNat = 2 ^ l1 * 2 ^ (-(k - 1)).toNat := by
        rw [← Nat.pow_add, ← Nat.pow_add]
        congr 1; omega
      omega
    · rcases Int.lt_or_le k 1 with q | q
      · rw [show (-(k - 1)).toNat = (-k).toNat + 1 by omega, Nat.pow_succ, ← Nat.mul_assoc, show (k - 1).toNat = 0 by omega, Nat.pow_zero, Nat.mul_one]
        rw [show k.toNat = 0 by omega, Nat.pow_zero, Nat.mul_one] at hlt
        omega
      · rw [show (-(k - 1)).toNat = 0 by omega, Nat.pow_zero, Nat.mul_one, ← Nat.mul_assoc, Nat.mul_comm 2 den, Nat.mul_assoc, ← Nat.pow_succ', show (k - 1).toNat.succ = k.toNat by omega]
        rw [show (-k).toNat = 0 by omega, Nat.pow_zero, Nat.mul_one] at hlt
        exact hlt
theorem f_fp_near {N D T : Nat} (hD : 0 < D) (h1 : D * T ≤ N) (h2 : N < D * (2 * T)) : T ≤ FP.Core.nearest N D ∧ FP.Core.nearest N D ≤ 2 * T := by
  have a1 : T ≤ N / D := (Nat.le_div_iff_mul_le hD).mpr (by rw [Nat.mul_comm]; exact h1)
  have a2 : N / D < 2 * T := (Nat.div_lt_iff_lt_mul hD).mpr (by rw [Nat.mul_comm]; exact h2)
  unfold FP.Core.nearest
  split
  · omega
  · split <;> omega
theorem f_fp_exact {c D : Nat} (hD : 0 < D) : FP.Core.nearest (c * D) D = c := by
  unfold FP.Core.nearest
  rw [Nat.mul_mod_left, Nat.mul_div_cancel _ hD, if_pos (by omega)]
/-- a number other than zero, rounded -/
theorem f_fp_round {f : FP.Core.Fmt} {num den : Nat} {e : Int} (hn : 0 < num) (hd : 0 < den) (hp : 1 ≤ f.p) (hq1 : f.qmin ≤ FP.Core.leading num den + e - ((f.p : Int) - 1)) (hq2 : FP.Core.leading num den + e - ((f.p : Int) - 1) + 1 ≤ f.qmax) : ∃ (c : Nat) (q : Int), FP.Core.roundRatio f false num den e = .fin false c q ∧ f.tails ≤ c ∧ c < 2 ^ f.p ∧ (q = FP.Core.leading num den + e - ((f.p : Int) - 1) ∨ q = FP.Core.leading num den + e - ((f.p : Int) - 1) + 1) := by
  have hl := f_fp_leading hn hd
  obtain ⟨k, ek⟩ : ∃ k, k = FP.Core.leading num den := ⟨_, rfl⟩
  rw [← ek] at hl hq1 hq2
  have hQ : FP.Core.quantum f num den e = k + e - ((f.p : Int) - 1) := by unfold FP.Core.quantum; rw [← ek]; exact Int.max_eq_right hq1
  unfold FP.Core.roundRatio FP.Core.roundAt
  rw [if_neg (by omega), hQ, ← ek]
  obtain ⟨Q, eQ⟩ : ∃ Q, Q = k + e - ((f.p : Int) - 1) := ⟨_, rfl⟩
  rw [← eQ] at hq1 hq2 ⊢
  have hT : f.tails = 2 ^ (f.p - 1) := rfl
  have h2T : 2 ^ f.p = 2 * f.tails := by
    rw [hT, ← Nat.pow_succ', show (f.p - 1).succ = f.p by omega]
  have hpT := Nat.two_pow_pos (f.p - 1)
  have hD : 0 < FP.Core.unitsDen den e Q := Nat.mul_pos hd (Nat.two_pow_pos _)
  have b1 : FP.Core.unitsDen den e Q * f.tails ≤ FP.Core.unitsNum num e Q ∧ FP.Core.unitsNum num e Q < FP.Core.unitsDen den e Q * (2 * f.tails) := by
    unfold FP.Core.unitsDen FP.Core.unitsNum
    rcases Int.lt_or_le ((f.p : Int) - 1) k with q | q
    · have s1 := f_fp_sh hl.1 0 (by omega)
      have s2 := f_fp_sl hl.2 0 (by omega)
      rw [show ((0 : Nat) : Int) + k = k by omega, Nat.pow_zero, Nat.mul_one] at s1 s2
      have e1 : den * 2 ^ (Q - e).toNat * f.tails = den * 2 ^ k.toNat := by
        rw [hT, Nat.mul_assoc, ← Nat.pow_add]
        congr 2; omega
      have e2 : den * 2 ^ (Q - e).toNat * (2 * f.tails) = 2 * (den * 2 ^ (Q - e).toNat * f.tails) := Nat.mul_left_comm _ _ _
      rw [show (e - Q).toNat = 0 by omega, Nat.pow_zero, Nat.mul_one, e2, e1]
      exact ⟨s1, s2⟩
    · have s1 := f_fp_sh hl.1 (e - Q).toNat (by omega)
      have s2 := f_fp_sl hl.2 (e - Q).toNat (by omega)
      rw [show (((e - Q).toNat : Nat) : Int) + k = ((f.p - 1 : Nat) : Int) by omega] at s1 s2
      rw [show (((f.p - 1 : Nat) : Int)).toNat = f.p - 1 by omega] at s1 s2
      rw [show (Q - e).toNat = 0 by omega, Nat.pow_zero, Nat.mul_one, ← Nat.mul_assoc, Nat.mul_comm den 2, Nat.mul_assoc 2, hT]
      exact ⟨s1, s2⟩
  have hN := f_fp_near hD b1.1 b1.2
  unfold FP.Core.settle FP.Core.bound
  by_cases h : FP.Core.nearest (FP.Core.unitsNum num e Q) (FP.Core.unitsDen den e Q) < 2 ^ f.p
  · rw [if_pos h, if_pos (by omega)]
    exact ⟨_, _, rfl, hN.1, h, Or.inl rfl⟩
  · rw [if_neg h, if_pos (by omega)]
    exact ⟨_, _, rfl, Nat.le_refl _, by omega, Or.inr rfl⟩
/-- a number that needs no rounding -/
theorem f_fp_keep {f : FP.Core.Fmt} {c den : Nat} {e Q : Int} {num : Nat} (hn : 0 < num) (hd : 0 < den) (hp : 1 ≤ f.p) (hc1 : f.tails ≤ c) (hc2 : c < 2 ^ f.p) (hQ : FP.Core.leading num den + e - ((f.p : Int) - 1) = Q) (hq1 : f.qmin ≤ Q) (hq2 : Q ≤ f.qmax) (hex : FP.Core.unitsNum num e Q = c * FP.Core.unitsDen den e Q) : FP.Core.roundRatio f false num den e = .fin false c Q := by
  have hQ2 : FP.Core.quantum f num den e = Q := by unfold FP.Core.quantum; rw [hQ]; exact Int.max_eq_right hq1
  have hD : 0 < FP.Core.unitsDen den e Q := Nat.mul_pos hd (Nat.two_pow_pos _)
  unfold FP.Core.roundRatio FP.Core.roundAt
  rw [if_neg (by omega), hQ2, hex, f_fp_exact hD]
  unfold FP.Core.settle FP.Core.bound
  rw [if_pos hc2, if_pos hq2]
/-- what the leading digit is -/
theorem f_fp_lead {num den : Nat} {k : Int} (hn : 0 < num) (hd : 0 < den) (h1 : den * 2 ^ k.toNat ≤ num * 2 ^ (-k).toNat) (h2 : num * 2 ^ (-k).toNat < 2 * (den * 2 ^ k.toNat)) : FP.Core.leading num den = k := by
  have hl := f_fp_leading hn hd
  obtain ⟨m, em⟩ : ∃ m, m = FP.Core.leading num den := ⟨_, rfl⟩
  rw [← em] at hl ⊢
  rcases Int.lt_trichotomy m k with q | q | q
  · -- m < k
    exfalso
    obtain ⟨t, et⟩ : ∃ t : Nat, (0 : Int) ≤ (t : Int) + m ∧ (0 : Int) ≤ (t : Int) + k := ⟨m.natAbs + k.natAbs, by omega⟩
    have s1 := f_fp_sl hl.2 t et.1
    have s2 := f_fp_sh h1 t et.2
    have e1 : 2 * (den * 2 ^ ((t : Int) + m).toNat) ≤ den * 2 ^ ((t : Int) + k).toNat := by
      rw [← Nat.mul_assoc, Nat.mul_comm 2 den, Nat.mul_assoc, ← Nat.pow_succ']
      exact Nat.mul_le_mul_left _ (Nat.pow_le_pow_right (by decide) (by omega))
    omega
  · exact q
  · exfalso
    obtain ⟨t, et⟩ : ∃ t : Nat, (0 : Int) ≤ (t : Int) + m ∧ (0 : Int) ≤ (t : Int) + k := ⟨m.natAbs + k.natAbs, by omega⟩
    have s1 := f_fp_sl h2 t et.2
    have s2 := f_fp_sh hl.1 t et.1
    have e1 : 2 * (den * 2 ^ ((t : Int) + k).toNat) ≤ den * 2 ^ ((t : Int) + m).toNat := by
      rw [← Nat.mul_assoc, Nat.mul_comm 2 den, Nat.mul_assoc, ← Nat.pow_succ']
      exact Nat.mul_le_mul_left _ (Nat.pow_le_pow_right (by decide) (by omega))
    omega
/-- times 2^(p-1+j): the digits stay -/
theorem f_fp_times {f : FP.Core.Fmt} {c : Nat} {e : Int} (hp : 1 ≤ f.p) (hc1 : f.tails ≤ c) (hc2 : c < 2 ^ f.p) (hq1 : f.qmin ≤ e + ((f.p : Int) - 1)) (hq2 : e + ((f.p : Int) - 1) ≤ f.qmax) : FP.Core.roundRatio f false (c * f.tails) 1 e = .fin false c (e + ((f.p : Int) - 1)) := by
  have hT : f.tails = 2 ^ (f.p - 1) := rfl
  have hpT := Nat.two_pow_pos (f.p - 1)
  have h2T : 2 ^ f.p = 2 * f.tails := by rw [hT, ← Nat.pow_succ', show (f.p - 1).succ = f.p by omega]
  have hc0 : 0 < c := by omega
  have hlead : FP.Core.leading (c * f.tails) 1 = 2 * ((f.p : Int) - 1) := by
    refine f_fp_lead (Nat.mul_pos hc0 (by omega)) (by decide) ?_ ?_
    · rw [show (-(2 * ((f.p : Int) - 1))).toNat = 0 by omega, Nat.pow_zero, Nat.mul_one, Nat.one_mul, show (2 * ((f.p : Int) - 1)).toNat = (f.p - 1) + (f.p - 1) by omega, Nat.pow_add, ← hT]
      exact Nat.mul_le_mul_right _ hc1
    · rw [show (-(2 * ((f.p : Int) - 1))).toNat = 0 by omega, Nat.pow_zero, Nat.mul_one, Nat.one_mul, show (2 * ((f.p : Int) - 1)).toNat = (f.p - 1) + (f.p - 1) by omega, Nat.pow_add, ← hT, ← Nat.mul_assoc]
      exact Nat.mul_lt_mul_of_pos_right (by omega) (by omega)
  refine f_fp_keep (Nat.mul_pos hc0 (by omega)) (by decide) hp hc1 hc2 (by rw [hlead]; omega) hq1 hq2 ?_
  unfold FP.Core.unitsNum FP.Core.unitsDen
  rw [show (e - (e + ((f.p : Int) - 1))).toNat = 0 by omega, show (e + ((f.p : Int) - 1) - e).toNat = f.p - 1 by omega, Nat.pow_zero, Nat.mul_one, Nat.one_mul, ← hT]
/-- through 2^j -/
theorem f_fp_half {f : FP.Core.Fmt} {c : Nat} {e : Int} (hp : 1 ≤ f.p) (hc1 : f.tails ≤ c) (hc2 : c < 2 ^ f.p) (hq1 : f.qmin ≤ e - ((f.p : Int) - 1)) (hq2 : e - ((f.p : Int) - 1) ≤ f.qmax) : FP.Core.roundRatio f false c f.tails e = .fin false c (e - ((f.p : Int) - 1)) := by
  have hT : f.tails = 2 ^ (f.p - 1) := rfl
  have hpT := Nat.two_pow_pos (f.p - 1)
  have h2T : 2 ^ f.p = 2 * f.tails := by rw [hT, ← Nat.pow_succ', show (f.p - 1).succ = f.p by omega]
  have hc0 : 0 < c := by omega
  have hlead : FP.Core.leading c f.tails = 0 := by
    refine f_fp_lead hc0 (by omega) ?_ ?_
    · show f.tails * 1 ≤ c * 1; omega
    · show c * 1 < 2 * (f.tails * 1); omega
  refine f_fp_keep hc0 (by omega) hp hc1 hc2 (by rw [hlead]; omega) hq1 hq2 ?_
  unfold FP.Core.unitsNum FP.Core.unitsDen
  rw [show (e - (e - ((f.p : Int) - 1))).toNat = f.p - 1 by omega, show (e - ((f.p : Int) - 1) - e).toNat = 0 by omega, Nat.pow_zero, Nat.mul_one, ← hT]
