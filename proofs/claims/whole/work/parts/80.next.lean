/-! Both sides alike: the next of as many ones, as a long -/
theorem f_uN_lN {n : Nat} (h : n < 2 ^ 64) : f_uN (lN n) = n := by
  show (BitVec.ofNat 64 n).toNat = n
  rw [BitVec.toNat_ofNat]; exact Nat.mod_eq_of_lt h
theorem f_uN_xor (x y : Int64) : f_uN (x ^^^ y) = f_uN x ^^^ f_uN y := by unfold f_uN; rw [Int64.toUInt64_xor, UInt64.toNat_xor]
theorem f_uN_or (x y : Int64) : f_uN (x ||| y) = f_uN x ||| f_uN y := by unfold f_uN; rw [Int64.toUInt64_or, UInt64.toNat_or]
theorem f_low_run {a r s : Nat} (hr : 0 < r) (hc : (a * 2 ^ (r + 1) + (2 ^ r - 1)) * 2 ^ s < 2 ^ 63) : lN ((a * 2 ^ (r + 1) + (2 ^ r - 1)) * 2 ^ s) &&& -lN ((a * 2 ^ (r + 1) + (2 ^ r - 1)) * 2 ^ s) = lN (2 ^ s) := by
  have hp : 2 ^ 1 ≤ 2 ^ r := Nat.pow_le_pow_right (by decide) hr
  have hps := Nat.two_pow_pos s
  obtain ⟨o, eo⟩ : ∃ o, o = a * 2 ^ (r + 1) + (2 ^ r - 1) := ⟨_, rfl⟩
  have hodd : o % 2 = 1 := by
    obtain ⟨r9, rfl⟩ : ∃ r9, r = r9 + 1 := ⟨r - 1, by omega⟩
    rw [eo, Nat.pow_succ 2 (r9 + 1), Nat.pow_succ 2 r9, ← Nat.mul_assoc]
    have := Nat.two_pow_pos r9
    omega
  rw [← eo] at hc ⊢
  have hc0 : 0 < o * 2 ^ s := Nat.mul_pos (by omega) hps
  have hne : ¬ lN (o * 2 ^ s) = 0 := fun z => by
    have := f_uN_0.mp z
    rw [f_uN_lN (by omega)] at this; omega
  obtain ⟨q, hq, hb, hz, he⟩ := f_low hne
  have hbit : ∀ k, f_b (lN (o * 2 ^ s)) k = Nat.testBit (o * 2 ^ s) k := by
    intro k
    show Nat.testBit (f_uN (lN (o * 2 ^ s))) k = _
    rw [f_uN_lN (by omega)]
  have h1 : Nat.testBit (o * 2 ^ s) s = true := by
    rw [Nat.testBit_mul_two_pow, Nat.sub_self, Nat.testBit_zero, hodd]; simp
  have hqs : q = s := by
    rcases Nat.lt_trichotomy q s with h | h | h
    · rw [hbit, Nat.testBit_mul_two_pow, decide_eq_false (by omega)] at hb; exact Bool.noConfusion hb
    · exact h
    · have := hz s h; rw [hbit, h1] at this; exact Bool.noConfusion this
  subst hqs
  rw [he]
  exact f_uN_inj (by rw [f_uN_one hq, f_uN_lN (Nat.pow_lt_pow_right (by decide) hq)])
theorem f_next_ok {c : Nat} (h0 : 0 < c) (hc : c < 2 ^ 17) : ∃ c2, f_next (lN c) = lN c2 ∧ c < c2 ∧ c2 < 2 ^ 20 ∧ f_pc 64 c2 = f_pc 64 c ∧ ∀ z, c < z → z < c2 → f_pc 64 z ≠ f_pc 64 c := by
  obtain ⟨a, r, s, hr, he, _⟩ := f_run c h0
  have hps := Nat.two_pow_pos s
  have hp : 2 ^ 1 ≤ 2 ^ r := Nat.pow_le_pow_right (by decide) hr
  obtain ⟨l, el⟩ : ∃ l, l = 2 ^ s := ⟨_, rfl⟩
  have hle : (2 ^ r - 1) * 2 ^ s ≤ c := by rw [he, Nat.add_mul]; exact Nat.le_add_left _ _
  have hls : l ≤ c := by
    have : 1 * 2 ^ s ≤ (2 ^ r - 1) * 2 ^ s := Nat.mul_le_mul_right _ (by omega)
    omega
  have hrs : r + s + 1 ≤ 64 := by
    rcases Nat.lt_or_ge (r + s) 18 with h | h
    · omega
    · have h1 : 2 ^ 18 ≤ 2 ^ (r + s) := Nat.pow_le_pow_right (by decide) h
      have h2 : 2 ^ (r + s) = (2 ^ r - 1) * 2 ^ s + 2 ^ s := by
        rw [Nat.pow_add]
        have : 2 ^ r = (2 ^ r - 1) + 1 := by omega
        rw [this, Nat.add_mul _ 1, Nat.one_mul, Nat.add_sub_cancel]
      omega
  have hn := f_gos_next (a := a) (s := s) (N := 64) hr hrs
  have hg := f_gos_run (a := a) (s := s) hr
  rw [← he] at hn hg
  rw [← hg] at hn
  have hlow := f_low_run (a := a) (r := r) (s := s) hr (by rw [← he]; omega)
  rw [← he, ← el] at hlow
  rw [← el] at hn hg
  have hx1 : c ^^^ (c + l) < 2 ^ 18 := Nat.xor_lt_two_pow (by omega) (by omega)
  have hd1 : (c ^^^ (c + l)) / 4 / l < 2 ^ 18 := Nat.lt_of_le_of_lt (Nat.le_trans (Nat.div_le_self _ _) (Nat.div_le_self _ _)) hx1
  have ho1 : (c + l) ||| ((c ^^^ (c + l)) / 4 / l) < 2 ^ 18 := Nat.or_lt_two_pow (by omega) hd1
  refine ⟨f_gos c l, ?_, hn.1, by unfold f_gos; omega, hn.2.1, hn.2.2⟩
  have hl0 : ¬ lN l = 0 := fun z => by
    have := f_uN_0.mp z
    rw [f_uN_lN (by omega)] at this; omega
  unfold f_next
  rw [hlow, if_neg hl0]
  have e1 : lN c + lN l = lN (c + l) := f_uN_inj (by rw [f_uN_add, f_uN_lN (by omega), f_uN_lN (by omega), f_uN_lN (by omega)]; exact Nat.mod_eq_of_lt (by omega))
  have e2 : lN c ^^^ lN (c + l) = lN (c ^^^ (c + l)) := f_uN_inj (by rw [f_uN_xor, f_uN_lN (by omega), f_uN_lN (by omega), f_uN_lN (by omega)])
  have e3 : f_sr (lN (c ^^^ (c + l))) 2 = lN ((c ^^^ (c + l)) / 4) := f_uN_inj (by rw [show (2 : Int32) = nI 2 from rfl, f_uN_sr (by decide), f_uN_lN (by omega), f_uN_lN (by omega)])
  rw [e1, e2, e3, pk_lDiv (by omega) (by omega) (by omega)]
  exact f_uN_inj (by rw [f_uN_or, f_uN_lN (by omega), f_uN_lN (by omega), f_uN_lN (by unfold f_gos; omega)]; rfl)
/-- how many numbers from c on, below e, have so many ones -/
def f_left (m : Nat) (c : Nat) : Nat → Nat
  | 0 => 0
  | t + 1 => f_left m c t + (decide (f_pc 64 (c + t) = m)).toNat
theorem f_left_first (m c : Nat) : ∀ t, f_left m c (t + 1) = (decide (f_pc 64 c = m)).toNat + f_left m (c + 1) t := by
  intro t
  induction t with
  | zero => rw [f_left, f_left, f_left, Nat.add_zero]; omega
  | succ t ih => rw [f_left, ih, f_left, show c + (t + 1) = c + 1 + t by omega]; omega
theorem f_left_drop (m : Nat) : ∀ d c t, (∀ z, c ≤ z → z < c + d → f_pc 64 z ≠ m) → f_left m c (d + t) = f_left m (c + d) t := by
  intro d
  induction d with
  | zero => intro c t _; rw [Nat.zero_add, Nat.add_zero]
  | succ d ih =>
    intro c t h
    rw [show d + 1 + t = (d + t) + 1 by omega, f_left_first, decide_eq_false (h c (Nat.le_refl _) (by omega)), ih (c + 1) t (fun z a b => h z (by omega) (by omega)), show c + 1 + d = c + (d + 1) by omega]
    exact Nat.zero_add _
