/-! Both sides alike: shadows -/
theorem f_holdb : ∀ i, i < 6 → ∀ k, k < 64 → f_b (f_hold i) k = Nat.testBit k i := by decide +kernel
theorem f_up2 : ∀ i, i < 6 → ∀ k, k < 64 → Nat.testBit (2 ^ i + k) i = (!Nat.testBit k i) ∧ (Nat.testBit k i = false → 2 ^ i + k = k ^^^ 2 ^ i) := by decide +kernel
theorem f_dn2 : ∀ i, i < 6 → ∀ k, k < 64 → (2 ^ i ≤ k → (Nat.testBit (k - 2 ^ i) i = (!Nat.testBit k i)) ∧ (Nat.testBit k i = true → k - 2 ^ i = k ^^^ 2 ^ i)) ∧ (Nat.testBit k i = true → 2 ^ i ≤ k) ∧ Nat.testBit (k ^^^ 2 ^ i) i = !Nat.testBit k i := by decide +kernel
theorem f_p32 {i : Nat} (hi : i < 6) : 2 ^ i ≤ 32 := show 2 ^ i ≤ 2 ^ 5 from Nat.pow_le_pow_right (by decide) (by omega)
theorem f_b_hold {i k : Nat} (hi : i < 6) : f_b (f_hold i) k = (decide (k < 64) && Nat.testBit k i) := by
  by_cases hk : k < 64
  · rw [f_holdb i hi k hk, decide_eq_true hk, Bool.true_and]
  · rw [f_b_hi (by omega), decide_eq_false hk, Bool.false_and]
theorem f_shadow_b {x : Int64} {k : Nat} (hk : k < 64) : ∀ n, n ≤ 6 → (f_b (f_shadow x n) k = true ↔ ∃ e, e < n ∧ Nat.testBit k e = false ∧ f_b x (k ^^^ 2 ^ e) = true) := by
  intro n
  induction n with
  | zero => intro _; rw [f_shadow, f_b_0]; exact ⟨fun h => Bool.noConfusion h, fun ⟨e, h, _⟩ => absurd h (Nat.not_lt_zero e)⟩
  | succ i ih =>
    intro hn
    have h32 := f_p32 (i := i) (by omega)
    have e1 : ((x &&& f_hold i).toUInt64 >>> (((1 : Int32) <<< (nI i &&& 31)).toInt64.toUInt64 &&& Int64.toUInt64 63)).toInt64 = f_sr (x &&& f_hold i) (nI (2 ^ i)) := by rw [f_shlI i (by omega)]; rfl
    rw [f_shadow, e1, f_b_or, Bool.or_eq_true, ih (by omega), f_b_sr (by omega), f_b_and, f_b_hold (by omega)]
    have h2 := f_up2 i (by omega) k hk
    constructor
    · rintro (⟨e, a, b, c⟩ | h)
      · exact ⟨e, by omega, b, c⟩
      · rw [Bool.and_eq_true, Bool.and_eq_true] at h
        rw [h2.1] at h
        have h3 : Nat.testBit k i = false := by
          cases hq : Nat.testBit k i
          · rfl
          · rw [hq] at h; exact absurd h.2.2 (by decide)
        refine ⟨i, by omega, h3, ?_⟩
        rw [← h2.2 h3]; exact h.1
    · rintro ⟨e, a, b, c⟩
      by_cases he : e = i
      · subst he
        refine Or.inr ?_
        rw [h2.2 b, c, ← h2.2 b, h2.1, b, Bool.true_and, Bool.not_false, Bool.and_true, decide_eq_true_eq]
        rw [h2.2 b]
        rcases Nat.lt_or_ge (k ^^^ 2 ^ e) 64 with q | q
        · exact q
        · rw [f_b_hi q] at c; exact Bool.noConfusion c
      · exact Or.inl ⟨e, by omega, b, c⟩
theorem f_upper_b {x : Int64} {k : Nat} (hk : k < 64) : ∀ n, n ≤ 6 → (f_b (f_upper x n) k = true ↔ ∃ e, e < n ∧ Nat.testBit k e = true ∧ f_b x (k ^^^ 2 ^ e) = true) := by
  intro n
  induction n with
  | zero => intro _; rw [f_upper, f_b_0]; exact ⟨fun h => Bool.noConfusion h, fun ⟨e, h, _⟩ => absurd h (Nat.not_lt_zero e)⟩
  | succ i ih =>
    intro hn
    have h32 := f_p32 (i := i) (by omega)
    have h2 := f_dn2 i (by omega) k hk
    have e1 : f_upper x (i + 1) = f_upper x i ||| f_sl (x &&& (f_hold i ^^^ (-1))) (nI (2 ^ i)) := by rw [f_upper]; rw [← f_shlI i (by omega)]; rfl
    have hks : k - 2 ^ i < 64 := Nat.lt_of_le_of_lt (Nat.sub_le _ _) hk
    rw [e1, f_b_or, Bool.or_eq_true, ih (by omega), f_b_sl (by omega) hk, f_b_and, f_b_not hks, f_b_hold (by omega)]
    constructor
    · rintro (⟨e, a, b, c⟩ | h)
      · exact ⟨e, by omega, b, c⟩
      · rw [Bool.and_eq_true, Bool.and_eq_true, decide_eq_true_eq, decide_eq_true hks, Bool.true_and] at h
        have h4 := h2.1 h.1
        rw [h4.1, Bool.not_not] at h
        refine ⟨i, by omega, h.2.2, ?_⟩
        rw [← h4.2 h.2.2]; exact h.2.1
    · rintro ⟨e, a, b, c⟩
      by_cases he : e = i
      · subst he
        have h5 := h2.2.1 b
        have h4 := h2.1 h5
        refine Or.inr ?_
        rw [decide_eq_true h5, Bool.true_and, h4.2 b, c, ← h4.2 b, h4.1, b, decide_eq_true hks]
        rfl
      · exact Or.inl ⟨e, by omega, b, c⟩
theorem f_b_orF {a : Int64} {g : Nat → Int64} {k : Nat} : ∀ t, f_b (f_orF a g t) k = (f_b a k || f_ex (fun s => f_b (g s) k) t) := by
  intro t
  induction t with
  | zero => rw [f_orF, f_ex, Bool.or_false]
  | succ t ih => rw [f_orF, f_b_or, ih, f_ex, Bool.or_assoc]
theorem f_b_cond1 {b : Bool} {s k : Nat} (hs : s < 64) (hk : k < 64) : f_b (cond b (f_sl 1 (nI s)) 0) k = (b && decide (k = s)) := by
  cases b
  · rw [cond_false, f_b_0]; rfl
  · rw [cond_true, f_b_one hs hk]; rfl
theorem f_shM_b {u : Bool} {n k : Nat} {x : Int64} (hn : n ≤ 6) (hk : k < 64) : ∀ p, p ≤ 64 → (f_b (f_shM u n x p) k = true ↔ ∃ s, s < p ∧ f_b x s = true ∧ ∃ e, e < n ∧ (u ^^ Nat.testBit s e) = true ∧ k = s ^^^ 2 ^ e) := by
  intro p
  induction p with
  | zero => intro _; rw [f_shM, f_b_0]; exact ⟨fun h => Bool.noConfusion h, fun ⟨e, h, _⟩ => absurd h (Nat.not_lt_zero e)⟩
  | succ p ih =>
    intro hp
    rw [f_shM]
    have e1 : (f_b (f_orF (f_shM u n x p) (fun e => cond (u ^^ Nat.testBit p e) (f_sl 1 (nI (p ^^^ 2 ^ e))) 0) n) k = true) ↔ (f_b (f_shM u n x p) k = true ∨ ∃ e, e < n ∧ (u ^^ Nat.testBit p e) = true ∧ k = p ^^^ 2 ^ e) := by
      rw [f_b_orF, Bool.or_eq_true, f_ex_T]
      constructor
      · rintro (h | ⟨e, a, b⟩)
        · exact Or.inl h
        · rw [f_b_cond1 (f_x64 (by omega) (by omega)) hk, Bool.and_eq_true, decide_eq_true_eq] at b
          exact Or.inr ⟨e, a, b.1, b.2⟩
      · rintro (h | ⟨e, a, b, c⟩)
        · exact Or.inl h
        · refine Or.inr ⟨e, a, ?_⟩
          rw [f_b_cond1 (f_x64 (by omega) (by omega)) hk, Bool.and_eq_true, decide_eq_true_eq]
          exact ⟨b, c⟩
    cases hx : f_b x p
    · rw [cond_false, ih (by omega)]
      constructor
      · rintro ⟨s, a, b, c⟩; exact ⟨s, by omega, b, c⟩
      · rintro ⟨s, a, b, c⟩
        by_cases hs : s = p
        · subst hs; rw [hx] at b; exact Bool.noConfusion b
        · exact ⟨s, by omega, b, c⟩
    · rw [cond_true, e1, ih (by omega)]
      constructor
      · rintro (⟨s, a, b, c⟩ | h)
        · exact ⟨s, by omega, b, c⟩
        · exact ⟨p, by omega, hx, h⟩
      · rintro ⟨s, a, b, c⟩
        by_cases hs : s = p
        · subst hs; exact Or.inr c
        · exact Or.inl ⟨s, by omega, b, c⟩
theorem f_xx (k a : Nat) : k ^^^ a ^^^ a = k := by rw [Nat.xor_assoc, Nat.xor_self, Nat.xor_zero]
/-- only sets below p -/
def f_in (p : Nat) (x : Int64) : Prop := ∀ k, p ≤ k → f_b x k = false
theorem f_in.lt {p k : Nat} {x : Int64} (h : f_in p x) (hk : f_b x k = true) : k < p := by
  rcases Nat.lt_or_ge k p with q | q
  · exact q
  · rw [h k q] at hk; exact Bool.noConfusion hk
theorem f_shadow_M {n : Nat} {x : Int64} (hn : n ≤ 6) (hx : f_in (2 ^ n) x) : f_shadow x n = f_shM false n x (2 ^ n) := by
  have hp : 2 ^ n ≤ 64 := Nat.pow_le_pow_right (by decide) hn
  refine f_b_ext (fun k hk => Bool.eq_iff_iff.mpr ?_)
  rw [f_shadow_b hk n hn, f_shM_b hn hk _ hp]
  constructor
  · rintro ⟨e, a, b, c⟩
    refine ⟨k ^^^ 2 ^ e, hx.lt c, c, e, a, ?_, (f_xx k _).symm⟩
    rw [(f_dn2 e (by omega) k hk).2.2, b]; rfl
  · rintro ⟨s, a, b, e, c, d, rfl⟩
    refine ⟨e, c, ?_, by rw [f_xx]; exact b⟩
    rw [(f_dn2 e (by omega) s (by omega)).2.2]
    rw [Bool.false_xor] at d
    rw [d]; rfl
theorem f_upper_M {n : Nat} {x : Int64} (hn : n ≤ 6) (hx : f_in (2 ^ n) x) : f_upper x n = f_shM true n x (2 ^ n) := by
  have hp : 2 ^ n ≤ 64 := Nat.pow_le_pow_right (by decide) hn
  refine f_b_ext (fun k hk => Bool.eq_iff_iff.mpr ?_)
  rw [f_upper_b hk n hn, f_shM_b hn hk _ hp]
  constructor
  · rintro ⟨e, a, b, c⟩
    refine ⟨k ^^^ 2 ^ e, hx.lt c, c, e, a, ?_, (f_xx k _).symm⟩
    rw [(f_dn2 e (by omega) k hk).2.2, b]; rfl
  · rintro ⟨s, a, b, e, c, d, rfl⟩
    refine ⟨e, c, ?_, by rw [f_xx]; exact b⟩
    rw [(f_dn2 e (by omega) s (by omega)).2.2]
    cases hq : Nat.testBit s e
    · rfl
    · rw [hq] at d; exact Bool.noConfusion d
theorem f_border_M {n : Nat} {x : Int64} (hn : n ≤ 6) (hx : f_in (2 ^ n) x) : f_border x n = f_boM n x := by
  unfold f_border f_boM; rw [f_shadow_M hn hx, f_upper_M hn hx]
