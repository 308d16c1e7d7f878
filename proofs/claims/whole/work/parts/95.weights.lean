/-! weights: sums of doubles -/
def f_wu (m : Nat) : UInt64 := FP.ddiv FP.dconst1 (FP.l2d (lN m))
def f_wt (x : Int64) (n : Nat) : Nat → UInt64
  | 0 => FP.dconst0
  | s + 1 => cond (f_b x s) (FP.dadd (f_wt x n s) (f_wu (f_ch n (f_pop (nI s).toInt64)))) (f_wt x n s)
theorem f_l2d {k9 : Nat} (h0 : 0 < k9) (hk : k9 < 1024) : ∃ (c : Nat) (q : Int), f_nf64 (FP.l2d (lN k9)) c q ∧ -(53 - 1) ≤ q ∧ q ≤ 10 - (53 - 1) := by
  have e1 : FP.l2d (lN k9) = UInt64.ofNat (FP.Core.fromInt FP.Core.b64 (k9 : Int)) := by
    have e2 : (lN k9).toInt = (k9 : Int) := by
      unfold lN
      rw [Int64.toInt_ofNat', Int.bmod_eq_of_le_mul_two (by have e0 : Int64.size = 18446744073709551616 := rfl; omega) (by have e0 : Int64.size = 18446744073709551616 := rfl; omega)]
    show UInt64.ofNat (FP.Core.fromInt FP.Core.b64 (lN k9).toInt) = _
    rw [e2]
  rw [e1]
  exact f_nf64_nat h0 hk
theorem f_wu_nf {m : Nat} (h0 : 0 < m) (hm : m < 1024) : ∃ (c : Nat) (q : Int), f_nf64 (f_wu m) c q ∧ -63 ≤ q ∧ q ≤ -51 := by
  obtain ⟨c1, q1, h1, h2, h3⟩ := f_l2d h0 hm
  have h4 : f_nf64 FP.dconst1 4503599627370496 (-52) := ⟨f_nf64_c1, by omega, by omega, by omega, by omega⟩
  obtain ⟨c3, q3, h7, h8, h9⟩ := f_nf64_quot h4 h1 (by omega) (by omega)
  exact ⟨c3, q3, h7, by omega, by omega⟩
theorem f_chs : ∀ n, n < 7 → ∀ s, s < 2 ^ n → 0 < f_ch n (f_pop (nI s).toInt64) ∧ f_ch n (f_pop (nI s).toInt64) < 1024 := by decide +kernel
theorem f_wt_nf {x : Int64} {n : Nat} (hn : n ≤ 6) : ∀ s, s ≤ 2 ^ n → f_wt x n s = 0 ∨ ∃ (c : Nat) (q : Int), f_nf64 (f_wt x n s) c q ∧ -63 ≤ q ∧ q ≤ -51 + 2 * (s : Int)
  | 0, _ => Or.inl rfl
  | s + 1, hs => by
    have hp := f_2n hn
    show cond (f_b x s) (FP.dadd (f_wt x n s) (f_wu (f_ch n (f_pop (nI s).toInt64)))) (f_wt x n s) = 0 ∨ ∃ (c : Nat) (q : Int), f_nf64 (cond (f_b x s) (FP.dadd (f_wt x n s) (f_wu (f_ch n (f_pop (nI s).toInt64)))) (f_wt x n s)) c q ∧ -63 ≤ q ∧ q ≤ -51 + 2 * ((s + 1 : Nat) : Int)
    obtain ⟨c0, q0, h1, h2, h3⟩ := f_wu_nf (f_chs n (by omega) s (by omega)).1 (f_chs n (by omega) s (by omega)).2
    cases f_b x s
    · rcases f_wt_nf (x := x) hn s (by omega) with z | ⟨c, q, z1, z2, z3⟩
      · exact Or.inl z
      · exact Or.inr ⟨c, q, z1, z2, by omega⟩
    · rcases f_wt_nf (x := x) hn s (by omega) with z | ⟨c, q, z1, z2, z3⟩
      · obtain ⟨c5, q5, h5, h6, h7⟩ := f_nf64_sum0 h1 (by omega)
        refine Or.inr ⟨c5, q5, ?_, by omega, by omega⟩
        show f_nf64 (FP.dadd (f_wt x n s) (f_wu (f_ch n (f_pop (nI s).toInt64)))) c5 q5
        rw [z]
        exact h5
      · obtain ⟨c5, q5, h5, h6, h7⟩ := f_nf64_sum z1 h1 (by omega) (by omega) (by omega)
        exact Or.inr ⟨c5, q5, h5, by omega, by omega⟩
theorem f_wt_ok {x : Int64} {n s : Nat} (hn : n ≤ 6) (hs : s ≤ 2 ^ n) : vf_n64 (f_wt x n s) := by
  rcases f_wt_nf (x := x) hn s hs with z | ⟨c, q, z1, _, _⟩
  · rw [z]; unfold vf_n64; decide
  · exact f_nn64 z1
theorem f_wt_self {x : Int64} {n s : Nat} (hn : n ≤ 6) (hs : s ≤ 2 ^ n) : FP.dcmp (f_wt x n s) (f_wt x n s) = some .eq := by
  rcases f_wt_nf (x := x) hn s hs with z | ⟨c, q, z1, _, _⟩
  · rw [z]; decide
  · exact f_nf64_self z1
theorem r_bodw {G : g_G} {h : List va_E} {uu vv s n : Nat} {x : Int64} (hn : n ≤ 6) (hs : s ≤ 2 ^ n) : g_Run G mX11_bitsOfDouble 1 uu vv [.double (f_wt x n s)] h (some (.long (lN (f_wt x n s).toNat))) h := by
  have hp := f_2n hn
  rcases f_wt_nf (x := x) hn s hs with z | ⟨c, q, z1, z2, z3⟩
  · rw [z]; exact r_bod0
  · exact r_bod z1 (by omega) (by omega)
