/-! quotients of whole numbers as floats -/
def f_q32 (a b : Nat) : UInt32 := FP.fdiv (FP.i2f (nI a)) (FP.i2f (nI b))
def f_qB (a b : Nat) : Int64 := if a = 0 then 0 else lN (f_q32 a b).toNat
theorem f_i2f {k9 : Nat} (h0 : 0 < k9) (hk : k9 < 1024) : ∃ (c : Nat) (q : Int), f_nf32 (FP.i2f (nI k9)) c q ∧ -(24 - 1) ≤ q ∧ q ≤ 10 - (24 - 1) := by
  have e1 : FP.i2f (nI k9) = UInt32.ofNat (FP.Core.fromInt FP.Core.b32 (k9 : Int)) := by
    have e2 : (nI k9).toInt = (k9 : Int) := by
      unfold nI
      rw [Int32.toInt_ofNat', Int.bmod_eq_of_le_mul_two (by have e0 : Int32.size = 4294967296 := rfl; omega) (by have e0 : Int32.size = 4294967296 := rfl; omega)]
    show UInt32.ofNat (FP.Core.fromInt FP.Core.b32 (nI k9).toInt) = _
    rw [e2]
  rw [e1]
  exact f_nf32_nat h0 hk
theorem f_q_nf {a b : Nat} (ha : 0 < a) (ha2 : a < 1024) (hb : 0 < b) (hb2 : b < 1024) : ∃ (c : Nat) (q : Int), f_nf32 (f_q32 a b) c q ∧ -149 < q ∧ q ≤ 23 := by
  obtain ⟨c1, q1, h1, h2, h3⟩ := f_i2f ha ha2
  obtain ⟨c2, q2, h4, h5, h6⟩ := f_i2f hb hb2
  obtain ⟨c3, q3, h7, h8, h9⟩ := f_nf32_quot h1 h4 (by omega) (by omega)
  exact ⟨c3, q3, h7, by omega, by omega⟩
theorem f_q_0 : ∀ b, b < 65 → 0 < b → f_q32 0 b = 0 := by decide +kernel
theorem f_q_1000 : ∀ n, n < 7 → ∀ a, a < 65 → vf_n32 (FP.fmul (f_q32 a (2 ^ n)) 1148846080) := by unfold vf_n32; decide +kernel
theorem f_q_ok {a b : Nat} (ha : a < 1024) (hb : 0 < b) (hb2 : b < 65) : vf_n32 (f_q32 a b) := by
  by_cases h0 : a = 0
  · rw [h0, f_q_0 b hb2 hb]; unfold vf_n32; decide
  · obtain ⟨c, q, h, _, _⟩ := f_q_nf (a := a) (b := b) (by omega) ha hb (by omega)
    exact f_nn32 h
theorem r_bofq {G : g_G} {h : List va_E} {uu vv a b : Nat} (ha : a < 1024) (hb : 0 < b) (hb2 : b < 65) : g_Run G mX11_bitsOfFloat 1 uu vv [.float (f_q32 a b)] h (some (.long (f_qB a b))) h := by
  unfold f_qB
  by_cases h0 : a = 0
  · rw [if_pos h0, h0, f_q_0 b hb2 hb]; exact r_bof0
  · rw [if_neg h0]
    obtain ⟨c, q, h, h1, h2⟩ := f_q_nf (a := a) (b := b) (by omega) ha hb (by omega)
    exact r_bof h h1 h2
theorem f_q_self {a b : Nat} (ha : a < 1024) (hb : 0 < b) (hb2 : b < 65) : FP.fcmp (f_q32 a b) (f_q32 a b) = some .eq := by
  by_cases h0 : a = 0
  · rw [h0, f_q_0 b hb2 hb]; decide
  · obtain ⟨c, q, h, _, _⟩ := f_q_nf (a := a) (b := b) (by omega) ha hb (by omega)
    exact f_nf32_self h
theorem f_q_bits {a b : Nat} (ha : a < 1024) (hb : 0 < b) (hb2 : b < 65) : (f_q32 a b).toInt32.toInt64 = f_qB a b := by
  unfold f_qB
  by_cases h0 : a = 0
  · rw [if_pos h0, h0, f_q_0 b hb2 hb]; decide
  · rw [if_neg h0]
    obtain ⟨c, q, h, _, _⟩ := f_q_nf (a := a) (b := b) (by omega) ha hb (by omega)
    exact f_bits32 h
/-- sum of all sets' numbers of elements -/
def f_szN (x : Int64) : Nat → Nat
  | 0 => 0
  | i + 1 => f_szN x i + f_pop (x &&& f_hold i)
theorem f_sizes_N (x : Int64) : ∀ n, f_sizes x n = nI (f_szN x n)
  | 0 => rfl
  | i + 1 => by
    show f_sizes x i + f_bcL (x &&& f_hold i) = _
    rw [f_sizes_N x i, f_bcL_pop, nI_add]
    rfl
theorem f_szN_le (x : Int64) : ∀ n, f_szN x n ≤ n * 64
  | 0 => Nat.zero_le _
  | i + 1 => by
    have e1 := f_szN_le x i
    have e2 := f_pop_le (x &&& f_hold i)
    show f_szN x i + f_pop (x &&& f_hold i) ≤ _
    omega
