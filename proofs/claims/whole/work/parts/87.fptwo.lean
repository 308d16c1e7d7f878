/-! Both sides alike: positive normal values -/
--CUT

/-- normal and positive, as a float -/
def f_nf32 (v : UInt32) (c : Nat) (q : Int) : Prop := FP.Core.decode FP.Core.b32 v.toNat = .fin false c q ∧ 8388608 ≤ c ∧ c < 2 * 8388608 ∧ -149 ≤ q ∧ q ≤ 104
theorem f_fb32 : FP.Core.b32.tails = 8388608 ∧ FP.Core.b32.exps = 256 ∧ FP.Core.b32.p = 24 ∧ FP.Core.b32.qmin = -149 ∧ FP.Core.b32.qmax = 104 ∧ 2 ^ FP.Core.b32.p = 2 * 8388608 := by refine ⟨rfl, rfl, rfl, by decide, by decide, rfl⟩
theorem f_fe32 {c : Nat} {q : Int} (h1 : 8388608 ≤ c) (h2 : c < 2 * 8388608) (h3 : -149 ≤ q) (h4 : q ≤ 104) : FP.Core.encode FP.Core.b32 (.fin false c q) = ((q - -149).toNat + 1) * 8388608 + (c - 8388608) ∧ FP.Core.decode FP.Core.b32 (((q - -149).toNat + 1) * 8388608 + (c - 8388608)) = .fin false c q ∧ ((q - -149).toNat + 1) * 8388608 + (c - 8388608) < 2139095040 := by
  obtain ⟨b1, b2, b3, b4, b5, b6⟩ := f_fb32
  have e0 : (q - -149).toNat + 1 < 256 - 1 := by omega
  obtain ⟨E, eE⟩ : ∃ E, E = (q - -149).toNat + 1 := ⟨_, rfl⟩
  have hq : q = -149 + ((E : Int) - 1) := by omega
  rw [← eE] at e0 ⊢
  refine ⟨?_, ?_, by omega⟩
  · unfold FP.Core.encode FP.Core.assemble
    simp only [b1, b4]
    rw [if_neg (by omega), ← eE, b2]
    show (0 * _ + E) * 8388608 + _ = _
    rw [Nat.zero_mul, Nat.zero_add]
  · have d1 : (E * 8388608 + (c - 8388608)) / 8388608 = E := by omega
    have d2 : (E * 8388608 + (c - 8388608)) % 8388608 = c - 8388608 := by omega
    unfold FP.Core.decode FP.Core.fieldE FP.Core.fieldT FP.Core.fieldS
    rw [b1, b2, d1, d2, b4, Nat.mod_eq_of_lt (show E < 256 by omega), if_neg (by omega), if_neg (by omega), Nat.div_eq_of_lt (show E < 256 by omega), ← hq, show 8388608 + (c - 8388608) = c by omega]
    rfl
theorem f_nf32_of {c : Nat} {q : Int} (h1 : 8388608 ≤ c) (h2 : c < 2 * 8388608) (h3 : -149 ≤ q) (h4 : q ≤ 104) : f_nf32 (UInt32.ofNat (FP.Core.encode FP.Core.b32 (.fin false c q))) c q := by
  have h := f_fe32 h1 h2 h3 h4
  unfold f_nf32
  rw [h.1, UInt32.toNat_ofNat', Nat.mod_eq_of_lt (by show _ < 4294967296; omega)]
  exact ⟨h.2.1, h1, h2, h3, h4⟩
/-- the number itself -/
theorem f_nf32_bits {v : UInt32} {c : Nat} {q : Int} (h : f_nf32 v c q) : v.toNat = ((q - -149).toNat + 1) * 8388608 + (c - 8388608) := by
  obtain ⟨h0, h1, h2, h3, h4⟩ := h
  obtain ⟨b1, b2, b3, b4, b5, b6⟩ := f_fb32
  have hv : v.toNat < 4294967296 := v.toNat_lt
  unfold FP.Core.decode FP.Core.fieldE FP.Core.fieldT FP.Core.fieldS at h0
  rw [b1, b2, b4] at h0
  by_cases c1 : v.toNat / 8388608 % 256 = 256 - 1
  · rw [if_pos c1] at h0
    by_cases c2 : v.toNat % 8388608 = 0
    · rw [if_pos c2] at h0; exact FP.Core.Datum.noConfusion h0
    · rw [if_neg c2] at h0; exact FP.Core.Datum.noConfusion h0
  · rw [if_neg c1] at h0
    by_cases c2 : v.toNat / 8388608 % 256 = 0
    · rw [if_pos c2] at h0
      injection h0 with i1 i2 i3
      omega
    · rw [if_neg c2] at h0
      injection h0 with i1 i2 i3
      have i4 : v.toNat / 8388608 / 256 % 2 = 0 := by
        rcases Nat.mod_two_eq_zero_or_one (v.toNat / 8388608 / 256) with z | z
        · exact z
        · rw [z] at i1; exact absurd i1 (by decide)
      omega
theorem f_nf32_zero : FP.Core.decode FP.Core.b32 (0 : UInt32).toNat = .fin false 0 (-149) := by decide
theorem f_nf32_c1 : FP.Core.decode FP.Core.b32 (0x3f800000 : UInt32).toNat = .fin false 8388608 (-23) := by decide
theorem f_nf32_c2 : FP.Core.decode FP.Core.b32 (0x40000000 : UInt32).toNat = .fin false 8388608 (-22) := by decide
theorem f_nf32_ct : FP.Core.decode FP.Core.b32 (1258291200 : UInt32).toNat = .fin false 8388608 0 := by decide
theorem f_nf32_half {v : UInt32} {c : Nat} {q : Int} (h : f_nf32 v c q) (hq : -149 ≤ q - 1) : f_nf32 (FP.Core.fdiv v 0x40000000) c (q - 1) := by
  obtain ⟨h0, h1, h2, h3, h4⟩ := h
  obtain ⟨b1, b2, b3, b4, b5, b6⟩ := f_fb32
  have e1 := f_fp_half (f := FP.Core.b32) (c := c) (e := q - (-22)) (by rw [b3]; decide) (by rw [b1]; exact h1) (by rw [b6]; exact h2) (by rw [b4, b3]; omega) (by rw [b5, b3]; omega)
  rw [b1, b3, show q - (-22) - (((24 : Nat) : Int) - 1) = q - 1 by omega] at e1
  have e2 : FP.Core.div FP.Core.b32 v.toNat (0x40000000 : UInt32).toNat = FP.Core.encode FP.Core.b32 (.fin false c (q - 1)) := by
    unfold FP.Core.div
    rw [h0, f_nf32_c2]
    show FP.Core.encode FP.Core.b32 (if 8388608 = 0 then (if c = 0 then .nan else .inf (false != false)) else FP.Core.roundRatio FP.Core.b32 (false != false) c 8388608 (q - (-22))) = _
    rw [if_neg (by decide)]
    show FP.Core.encode FP.Core.b32 (FP.Core.roundRatio FP.Core.b32 false c 8388608 (q - (-22))) = _
    rw [e1]
  unfold FP.Core.fdiv
  rw [e2]
  exact f_nf32_of h1 h2 hq (by omega)
theorem f_nf32_times {v w : UInt32} {c : Nat} {q r : Int} (h : f_nf32 v c q) (hw : FP.Core.decode FP.Core.b32 w.toNat = .fin false 8388608 r) (hq1 : -149 ≤ q + r + (24 - 1)) (hq2 : q + r + (24 - 1) ≤ 104) : f_nf32 (FP.Core.fmul v w) c (q + r + (24 - 1)) := by
  obtain ⟨h0, h1, h2, h3, h4⟩ := h
  obtain ⟨b1, b2, b3, b4, b5, b6⟩ := f_fb32
  have e1 := f_fp_times (f := FP.Core.b32) (c := c) (e := q + r) (by rw [b3]; decide) (by rw [b1]; exact h1) (by rw [b6]; exact h2) (by rw [b4, b3]; omega) (by rw [b5, b3]; omega)
  rw [b1, b3, show q + r + (((24 : Nat) : Int) - 1) = q + r + (24 - 1) by omega] at e1
  have e2 : FP.Core.mul FP.Core.b32 v.toNat w.toNat = FP.Core.encode FP.Core.b32 (.fin false c (q + r + (24 - 1))) := by
    unfold FP.Core.mul
    rw [h0, hw]
    show FP.Core.encode FP.Core.b32 (FP.Core.roundRatio FP.Core.b32 false (c * 8388608) 1 (q + r)) = _
    rw [e1]
  unfold FP.Core.fmul
  rw [e2]
  exact f_nf32_of h1 h2 hq1 hq2
/-- compared with 2^(p-1) at r -/
theorem f_nf32_cmp {v w : UInt32} {c : Nat} {q r : Int} (h : f_nf32 v c q) (hw : FP.Core.decode FP.Core.b32 w.toNat = .fin false 8388608 r) : (q < r → FP.Core.fcmp v w = some .lt) ∧ (r ≤ q → FP.Core.fcmp v w = some .gt ∨ FP.Core.fcmp v w = some .eq) := by
  obtain ⟨h0, h1, h2, h3, h4⟩ := h
  have e1 : FP.Core.fcmp v w = some (compare ((c * 2 ^ (q - min q r).toNat : Nat) : Int) ((8388608 * 2 ^ (r - min q r).toNat : Nat) : Int)) := by
    unfold FP.Core.fcmp FP.Core.cmp
    rw [h0, hw]; rfl
  rw [e1]
  constructor
  · intro hlt
    rw [Int.min_eq_left (by omega), show (q - q).toNat = 0 by omega, Nat.pow_zero, Nat.mul_one]
    obtain ⟨k, ek⟩ : ∃ k, (r - q).toNat = k + 1 := ⟨(r - q).toNat - 1, by omega⟩
    rw [ek, Nat.pow_succ]
    have hp := Nat.two_pow_pos k
    have : c < 8388608 * (2 ^ k * 2) := by
      have : 8388608 * (1 * 2) ≤ 8388608 * (2 ^ k * 2) := Nat.mul_le_mul_left _ (Nat.mul_le_mul_right _ hp)
      omega
    exact congrArg some (Int.compare_eq_lt.mpr (by omega))
  · intro hle
    rw [Int.min_eq_right hle, show (r - r).toNat = 0 by omega, Nat.pow_zero, Nat.mul_one]
    have hp := Nat.two_pow_pos (q - r).toNat
    have h5 : 8388608 ≤ c * 2 ^ (q - r).toNat := by
      have : c * 1 ≤ c * 2 ^ (q - r).toNat := Nat.mul_le_mul_left _ hp
      omega
    rcases Nat.lt_or_ge 8388608 (c * 2 ^ (q - r).toNat) with z | z
    · exact Or.inl (congrArg some (Int.compare_eq_gt.mpr (by omega)))
    · exact Or.inr (congrArg some (Int.compare_eq_eq.mpr (by omega)))
theorem f_nf32_pos {v : UInt32} {c : Nat} {q : Int} (h : f_nf32 v c q) : FP.Core.fcmp v 0 = some .gt := by
  obtain ⟨h0, h1, h2, h3, h4⟩ := h
  unfold FP.Core.fcmp FP.Core.cmp
  rw [h0, f_nf32_zero]
  show some (compare ((c * 2 ^ (q - min q (-149)).toNat : Nat) : Int) ((0 * 2 ^ ((-149) - min q (-149)).toNat : Nat) : Int)) = _
  have hp : 0 < c * 2 ^ (q - min q (-149)).toNat := Nat.mul_pos (by omega) (Nat.two_pow_pos _)
  rw [Nat.zero_mul]
  exact congrArg some (Int.compare_eq_gt.mpr (by omega))
/-- a whole number below 2^p, as a long -/
theorem f_nf32_long {v : UInt32} {c : Nat} (h : f_nf32 v c 0) : FP.Core.f2l v = Int64.ofNat c := by
  obtain ⟨h0, h1, h2, h3, h4⟩ := h
  unfold FP.Core.f2l FP.Core.toL
  rw [h0]
  show Int64.ofInt (max (-2 ^ 63) (min (2 ^ 63 - 1) (((c * 2 ^ 0 / 2 ^ 0 : Nat) : Int)))) = _
  rw [Nat.pow_zero, Nat.mul_one, Nat.div_one, Int.min_eq_right (by omega), Int.max_eq_right (by omega)]
  rfl

/-- normal and positive, as a double -/
def f_nf64 (v : UInt64) (c : Nat) (q : Int) : Prop := FP.Core.decode FP.Core.b64 v.toNat = .fin false c q ∧ 4503599627370496 ≤ c ∧ c < 2 * 4503599627370496 ∧ -1074 ≤ q ∧ q ≤ 971
theorem f_fb64 : FP.Core.b64.tails = 4503599627370496 ∧ FP.Core.b64.exps = 2048 ∧ FP.Core.b64.p = 53 ∧ FP.Core.b64.qmin = -1074 ∧ FP.Core.b64.qmax = 971 ∧ 2 ^ FP.Core.b64.p = 2 * 4503599627370496 := by refine ⟨rfl, rfl, rfl, by decide, by decide, rfl⟩
theorem f_fe64 {c : Nat} {q : Int} (h1 : 4503599627370496 ≤ c) (h2 : c < 2 * 4503599627370496) (h3 : -1074 ≤ q) (h4 : q ≤ 971) : FP.Core.encode FP.Core.b64 (.fin false c q) = ((q - -1074).toNat + 1) * 4503599627370496 + (c - 4503599627370496) ∧ FP.Core.decode FP.Core.b64 (((q - -1074).toNat + 1) * 4503599627370496 + (c - 4503599627370496)) = .fin false c q ∧ ((q - -1074).toNat + 1) * 4503599627370496 + (c - 4503599627370496) < 9218868437227405312 := by
  obtain ⟨b1, b2, b3, b4, b5, b6⟩ := f_fb64
  have e0 : (q - -1074).toNat + 1 < 2048 - 1 := by omega
  obtain ⟨E, eE⟩ : ∃ E, E = (q - -1074).toNat + 1 := ⟨_, rfl⟩
  have hq : q = -1074 + ((E : Int) - 1) := by omega
  rw [← eE] at e0 ⊢
  refine ⟨?_, ?_, by omega⟩
  · unfold FP.Core.encode FP.Core.assemble
    simp only [b1, b4]
    rw [if_neg (by omega), ← eE, b2]
    show (0 * _ + E) * 4503599627370496 + _ = _
    rw [Nat.zero_mul, Nat.zero_add]
  · have d1 : (E * 4503599627370496 + (c - 4503599627370496)) / 4503599627370496 = E := by omega
    have d2 : (E * 4503599627370496 + (c - 4503599627370496)) % 4503599627370496 = c - 4503599627370496 := by omega
    unfold FP.Core.decode FP.Core.fieldE FP.Core.fieldT FP.Core.fieldS
    rw [b1, b2, d1, d2, b4, Nat.mod_eq_of_lt (show E < 2048 by omega), if_neg (by omega), if_neg (by omega), Nat.div_eq_of_lt (show E < 2048 by omega), ← hq, show 4503599627370496 + (c - 4503599627370496) = c by omega]
    rfl
theorem f_nf64_of {c : Nat} {q : Int} (h1 : 4503599627370496 ≤ c) (h2 : c < 2 * 4503599627370496) (h3 : -1074 ≤ q) (h4 : q ≤ 971) : f_nf64 (UInt64.ofNat (FP.Core.encode FP.Core.b64 (.fin false c q))) c q := by
  have h := f_fe64 h1 h2 h3 h4
  unfold f_nf64
  rw [h.1, UInt64.toNat_ofNat', Nat.mod_eq_of_lt (by show _ < 18446744073709551616; omega)]
  exact ⟨h.2.1, h1, h2, h3, h4⟩
/-- the number itself -/
theorem f_nf64_bits {v : UInt64} {c : Nat} {q : Int} (h : f_nf64 v c q) : v.toNat = ((q - -1074).toNat + 1) * 4503599627370496 + (c - 4503599627370496) := by
  obtain ⟨h0, h1, h2, h3, h4⟩ := h
  obtain ⟨b1, b2, b3, b4, b5, b6⟩ := f_fb64
  have hv : v.toNat < 18446744073709551616 := v.toNat_lt
  unfold FP.Core.decode FP.Core.fieldE FP.Core.fieldT FP.Core.fieldS at h0
  rw [b1, b2, b4] at h0
  by_cases c1 : v.toNat / 4503599627370496 % 2048 = 2048 - 1
  · rw [if_pos c1] at h0
    by_cases c2 : v.toNat % 4503599627370496 = 0
    · rw [if_pos c2] at h0; exact FP.Core.Datum.noConfusion h0
    · rw [if_neg c2] at h0; exact FP.Core.Datum.noConfusion h0
  · rw [if_neg c1] at h0
    by_cases c2 : v.toNat / 4503599627370496 % 2048 = 0
    · rw [if_pos c2] at h0
      injection h0 with i1 i2 i3
      omega
    · rw [if_neg c2] at h0
      injection h0 with i1 i2 i3
      have i4 : v.toNat / 4503599627370496 / 2048 % 2 = 0 := by
        rcases Nat.mod_two_eq_zero_or_one (v.toNat / 4503599627370496 / 2048) with z | z
        · exact z
        · rw [z] at i1; exact absurd i1 (by decide)
      omega
theorem f_nf64_zero : FP.Core.decode FP.Core.b64 (0 : UInt64).toNat = .fin false 0 (-1074) := by decide
theorem f_nf64_c1 : FP.Core.decode FP.Core.b64 (0x3ff0000000000000 : UInt64).toNat = .fin false 4503599627370496 (-52) := by decide
theorem f_nf64_c2 : FP.Core.decode FP.Core.b64 (4611686018427387904 : UInt64).toNat = .fin false 4503599627370496 (-51) := by decide
theorem f_nf64_ct : FP.Core.decode FP.Core.b64 (4841369599423283200 : UInt64).toNat = .fin false 4503599627370496 0 := by decide
theorem f_nf64_half {v : UInt64} {c : Nat} {q : Int} (h : f_nf64 v c q) (hq : -1074 ≤ q - 1) : f_nf64 (FP.Core.ddiv v 4611686018427387904) c (q - 1) := by
  obtain ⟨h0, h1, h2, h3, h4⟩ := h
  obtain ⟨b1, b2, b3, b4, b5, b6⟩ := f_fb64
  have e1 := f_fp_half (f := FP.Core.b64) (c := c) (e := q - (-51)) (by rw [b3]; decide) (by rw [b1]; exact h1) (by rw [b6]; exact h2) (by rw [b4, b3]; omega) (by rw [b5, b3]; omega)
  rw [b1, b3, show q - (-51) - (((53 : Nat) : Int) - 1) = q - 1 by omega] at e1
  have e2 : FP.Core.div FP.Core.b64 v.toNat (4611686018427387904 : UInt64).toNat = FP.Core.encode FP.Core.b64 (.fin false c (q - 1)) := by
    unfold FP.Core.div
    rw [h0, f_nf64_c2]
    show FP.Core.encode FP.Core.b64 (if 4503599627370496 = 0 then (if c = 0 then .nan else .inf (false != false)) else FP.Core.roundRatio FP.Core.b64 (false != false) c 4503599627370496 (q - (-51))) = _
    rw [if_neg (by decide)]
    show FP.Core.encode FP.Core.b64 (FP.Core.roundRatio FP.Core.b64 false c 4503599627370496 (q - (-51))) = _
    rw [e1]
  unfold FP.Core.ddiv
  rw [e2]
  exact f_nf64_of h1 h2 hq (by omega)
theorem f_nf64_times {v w : UInt64} {c : Nat} {q r : Int} (h : f_nf64 v c q) (hw : FP.Core.decode FP.Core.b64 w.toNat = .fin false 4503599627370496 r) (hq1 : -1074 ≤ q + r + (53 - 1)) (hq2 : q + r + (53 - 1) ≤ 971) : f_nf64 (FP.Core.dmul v w) c (q + r + (53 - 1)) := by
  obtain ⟨h0, h1, h2, h3, h4⟩ := h
  obtain ⟨b1, b2, b3, b4, b5, b6⟩ := f_fb64
  have e1 := f_fp_times (f := FP.Core.b64) (c := c) (e := q + r) (by rw [b3]; decide) (by rw [b1]; exact h1) (by rw [b6]; exact h2) (by rw [b4, b3]; omega) (by rw [b5, b3]; omega)
  rw [b1, b3, show q + r + (((53 : Nat) : Int) - 1) = q + r + (53 - 1) by omega] at e1
  have e2 : FP.Core.mul FP.Core.b64 v.toNat w.toNat = FP.Core.encode FP.Core.b64 (.fin false c (q + r + (53 - 1))) := by
    unfold FP.Core.mul
    rw [h0, hw]
    show FP.Core.encode FP.Core.b64 (FP.Core.roundRatio FP.Core.b64 false (c * 4503599627370496) 1 (q + r)) = _
    rw [e1]
  unfold FP.Core.dmul
  rw [e2]
  exact f_nf64_of h1 h2 hq1 hq2
/-- compared with 2^(p-1) at r -/
theorem f_nf64_cmp {v w : UInt64} {c : Nat} {q r : Int} (h : f_nf64 v c q) (hw : FP.Core.decode FP.Core.b64 w.toNat = .fin false 4503599627370496 r) : (q < r → FP.Core.dcmp v w = some .lt) ∧ (r ≤ q → FP.Core.dcmp v w = some .gt ∨ FP.Core.dcmp v w = some .eq) := by
  obtain ⟨h0, h1, h2, h3, h4⟩ := h
  have e1 : FP.Core.dcmp v w = some (compare ((c * 2 ^ (q - min q r).toNat : Nat) : Int) ((4503599627370496 * 2 ^ (r - min q r).toNat : Nat) : Int)) := by
    unfold FP.Core.dcmp FP.Core.cmp
    rw [h0, hw]; rfl
  rw [e1]
  constructor
  · intro hlt
    rw [Int.min_eq_left (by omega), show (q - q).toNat = 0 by omega, Nat.pow_zero, Nat.mul_one]
    obtain ⟨k, ek⟩ : ∃ k, (r - q).toNat = k + 1 := ⟨(r - q).toNat - 1, by omega⟩
    rw [ek, Nat.pow_succ]
    have hp := Nat.two_pow_pos k
    have : c < 4503599627370496 * (2 ^ k * 2) := by
      have : 4503599627370496 * (1 * 2) ≤ 4503599627370496 * (2 ^ k * 2) := Nat.mul_le_mul_left _ (Nat.mul_le_mul_right _ hp)
      omega
    exact congrArg some (Int.compare_eq_lt.mpr (by omega))
  · intro hle
    rw [Int.min_eq_right hle, show (r - r).toNat = 0 by omega, Nat.pow_zero, Nat.mul_one]
    have hp := Nat.two_pow_pos (q - r).toNat
    have h5 : 4503599627370496 ≤ c * 2 ^ (q - r).toNat := by
      have : c * 1 ≤ c * 2 ^ (q - r).toNat := Nat.mul_le_mul_left _ hp
      omega
    rcases Nat.lt_or_ge 4503599627370496 (c * 2 ^ (q - r).toNat) with z | z
    · exact Or.inl (congrArg some (Int.compare_eq_gt.mpr (by omega)))
    · exact Or.inr (congrArg some (Int.compare_eq_eq.mpr (by omega)))
theorem f_nf64_pos {v : UInt64} {c : Nat} {q : Int} (h : f_nf64 v c q) : FP.Core.dcmp v 0 = some .gt := by
  obtain ⟨h0, h1, h2, h3, h4⟩ := h
  unfold FP.Core.dcmp FP.Core.cmp
  rw [h0, f_nf64_zero]
  show some (compare ((c * 2 ^ (q - min q (-1074)).toNat : Nat) : Int) ((0 * 2 ^ ((-1074) - min q (-1074)).toNat : Nat) : Int)) = _
  have hp : 0 < c * 2 ^ (q - min q (-1074)).toNat := Nat.mul_pos (by omega) (Nat.two_pow_pos _)
  rw [Nat.zero_mul]
  exact congrArg some (Int.compare_eq_gt.mpr (by omega))
/-- a whole number below 2^p, as a long -/
theorem f_nf64_long {v : UInt64} {c : Nat} (h : f_nf64 v c 0) : FP.Core.d2l v = Int64.ofNat c := by
  obtain ⟨h0, h1, h2, h3, h4⟩ := h
  unfold FP.Core.d2l FP.Core.toL
  rw [h0]
  show Int64.ofInt (max (-2 ^ 63) (min (2 ^ 63 - 1) (((c * 2 ^ 0 / 2 ^ 0 : Nat) : Int)))) = _
  rw [Nat.pow_zero, Nat.mul_one, Nat.div_one, Int.min_eq_right (by omega), Int.max_eq_right (by omega)]
  rfl
