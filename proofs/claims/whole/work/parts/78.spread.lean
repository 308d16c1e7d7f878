/-! Both sides alike: lowest bits, what is spread -/
theorem f_low_nat : ∀ N U, 0 < U → U < 2 ^ N → ∃ q, q < N ∧ Nat.testBit U q = true ∧ (∀ z, z < q → Nat.testBit U z = false) ∧ U &&& (2 ^ N - U) = 2 ^ q := by
  intro N
  induction N with
  | zero => intro U h1 h2; rw [Nat.pow_zero] at h2; omega
  | succ N ih =>
    intro U h1 h2
    rw [Nat.pow_succ] at h2 ⊢
    rcases Nat.mod_two_eq_zero_or_one U with e | e
    · obtain ⟨q, hq, hb, hz, he⟩ := ih (U / 2) (by omega) (by omega)
      refine ⟨q + 1, by omega, by rw [← Nat.testBit_div_two]; exact hb, fun z hzq => ?_, ?_⟩
      · cases z with
        | zero => rw [Nat.testBit_zero]; exact decide_eq_false (by omega)
        | succ z => rw [← Nat.testBit_div_two]; exact hz z (by omega)
      · have e1 := f_land2 U (2 ^ N * 2 - U)
        have e2 := f_land2m U (2 ^ N * 2 - U)
        rw [show (2 ^ N * 2 - U) / 2 = 2 ^ N - U / 2 by omega, he] at e1
        rw [e, Nat.zero_mul] at e2
        rw [Nat.pow_succ]; omega
    · refine ⟨0, by omega, by rw [Nat.testBit_zero]; exact decide_eq_true e, fun z hz => absurd hz (Nat.not_lt_zero z), ?_⟩
      have e1 := f_land2 U (2 ^ N * 2 - U)
      have e2 := f_land2m U (2 ^ N * 2 - U)
      rw [show (2 ^ N * 2 - U) / 2 = 2 ^ N - (U / 2 + 1) by omega] at e1
      have e3 : U / 2 &&& (2 ^ N - (U / 2 + 1)) = 0 := by
        apply Nat.eq_of_testBit_eq
        intro i
        rw [Nat.testBit_and, Nat.testBit_two_pow_sub_succ (by omega), Nat.zero_testBit]
        cases Nat.testBit (U / 2) i <;> simp
      rw [e3] at e1
      rw [e, show (2 ^ N * 2 - U) % 2 = 1 by omega] at e2
      rw [Nat.pow_zero]; omega
theorem f_uN_inj {x y : Int64} (h : f_uN x = f_uN y) : x = y := by
  refine f_b_ext (fun k _ => ?_)
  show Nat.testBit (f_uN x) k = Nat.testBit (f_uN y) k
  rw [h]
theorem f_uN_one {q : Nat} (hq : q < 64) : f_uN (f_sl 1 (nI q)) = 2 ^ q := by
  apply Nat.eq_of_testBit_eq
  intro i
  rw [Nat.testBit_two_pow]
  rcases Nat.lt_or_ge i 64 with h | h
  · show f_b (f_sl 1 (nI q)) i = _
    rw [f_b_one hq h]
    exact decide_eq_decide.mpr ⟨fun e => e.symm, fun e => e.symm⟩
  · have e1 : Nat.testBit (f_uN (f_sl 1 (nI q))) i = false := f_b_hi h
    rw [e1]
    exact (decide_eq_false (by omega)).symm
theorem f_uN_0 {x : Int64} : x = 0 ↔ f_uN x = 0 := by
  constructor
  · intro h; rw [h]; rfl
  · intro h; exact f_uN_inj h
theorem f_uN_neg {x : Int64} (h : ¬ x = 0) : f_uN (-x) = 2 ^ 64 - f_uN x := by
  have h0 : ¬ f_uN x = 0 := fun z => h (f_uN_0.mpr z)
  have hl := f_uN_lt x
  unfold f_uN at *
  rw [Int64.toUInt64_neg, UInt64.toNat_neg, Nat.mod_eq_of_lt (by show 2 ^ 64 - _ < 2 ^ 64; omega)]
theorem f_low {x : Int64} (h : ¬ x = 0) : ∃ q, q < 64 ∧ f_b x q = true ∧ (∀ z, z < q → f_b x z = false) ∧ x &&& -x = f_sl 1 (nI q) := by
  have h0 : ¬ f_uN x = 0 := fun z => h (f_uN_0.mpr z)
  obtain ⟨q, hq, hb, hz, he⟩ := f_low_nat 64 (f_uN x) (by omega) (f_uN_lt x)
  exact ⟨q, hq, hb, hz, f_uN_inj (by rw [f_uN_and, f_uN_neg h, he, f_uN_one hq])⟩
/-- how many bits are set below q -/
def f_rk (l : Int64) (q : Nat) : Nat := f_sm (fun z => (f_b l z).toNat) q
theorem f_rk_le (l : Int64) (q : Nat) : f_rk l q ≤ q := by
  have h1 : f_rk l q ≤ f_sm (fun _ => 1) q := f_sm_le q (fun k _ => Bool.toNat_le _)
  have h2 : ∀ t, f_sm (fun _ => 1) t = t := by
    intro t
    induction t with
    | zero => rfl
    | succ t ih => rw [f_sm, ih]
  rw [h2] at h1; exact h1
theorem f_spread_b {x : Int64} : ∀ t i l s, f_rk l 64 ≤ t → i + t ≤ 64 → ∀ q, q < 64 → f_b (f_spread x t i l s) q = (f_b s q || (f_b l q && f_b x (i + f_rk l q))) := by
  intro t
  induction t with
  | zero =>
    intro i l s hl hi q hq
    have h1 : f_b l q = false := by
      have := f_sm_0 64 (show f_rk l 64 = 0 by omega) q hq
      cases h : f_b l q
      · rfl
      · rw [h] at this; exact absurd this (by decide)
    rw [f_spread, h1, Bool.false_and, Bool.or_false]
  | succ t ih =>
    intro i l s hl hi q hq
    rw [f_spread]
    by_cases h : l = 0
    · rw [if_pos h, h, f_b_0, Bool.false_and, Bool.or_false]
    · rw [if_neg h]
      obtain ⟨p, hp, hb, hz, he⟩ := f_low h
      have hl' : ∀ z, z < 64 → f_b (l ^^^ (l &&& -l)) z = (f_b l z && !decide (z = p)) := by
        intro z hz64
        rw [he, f_b_xor, f_b_one hp hz64]
        by_cases e : z = p
        · subst e; rw [hb, decide_eq_true rfl]; rfl
        · rw [decide_eq_false e]; simp
      have hr : ∀ z, z ≤ 64 → f_rk l z = f_rk (l ^^^ (l &&& -l)) z + (decide (p < z)).toNat := by
        intro z hz64
        have e1 : f_rk l z = f_sm (fun k => (f_b (l ^^^ (l &&& -l)) k).toNat + (decide (k = p)).toNat) z := by
          refine f_sm_ext z (fun k hk => ?_)
          rw [hl' k (by omega)]
          by_cases e : k = p
          · subst e; rw [hb, decide_eq_true rfl]; rfl
          · rw [decide_eq_false e]; cases f_b l k <;> rfl
        rw [e1, f_sm_add]
        congr 1
        have : ∀ t, f_sm (fun k => (decide (k = p)).toNat) t = (decide (p < t)).toNat := by
          intro t
          induction t with
          | zero => rfl
          | succ t ih =>
            rw [f_sm, ih]
            by_cases e : t = p
            · subst e; rw [decide_eq_true rfl, decide_eq_false (show ¬ t < t by omega), decide_eq_true (show t < t + 1 by omega)]; rfl
            · rw [decide_eq_false e]
              by_cases e2 : p < t
              · rw [decide_eq_true e2, decide_eq_true (show p < t + 1 by omega)]; rfl
              · rw [decide_eq_false e2, decide_eq_false (show ¬ p < t + 1 by omega)]; rfl
        exact this z
      have h64 := hr 64 (Nat.le_refl _)
      rw [decide_eq_true hp] at h64
      have h65 : f_rk l 64 = f_rk (l ^^^ (l &&& -l)) 64 + 1 := h64
      have hs : f_b (if f_sr x (nI i) &&& 1 = 0 then s else s ||| (l &&& -l)) q = (f_b s q || (decide (q = p) && f_b x i)) := by
        have hx : (f_sr x (nI i) &&& 1 = 0) ↔ f_b x i = false := by
          have hh := f_has (x := x) (s := i) (by omega)
          constructor
          · intro e
            cases hxi : f_b x i
            · rfl
            · have := hh.mpr hxi; rw [e] at this; exact absurd this (by decide)
          · intro e
            refine f_b_ext (fun k hk => ?_)
            rw [f_b_and, f_b_sr (by omega), f_b_1, f_b_0]
            by_cases e0 : k = 0
            · subst e0; rw [Nat.add_zero, e]; rfl
            · rw [decide_eq_false e0, Bool.and_false]
        by_cases e : f_sr x (nI i) &&& 1 = 0
        · rw [if_pos e, hx.mp e, Bool.and_false, Bool.or_false]
        · rw [if_neg e, f_b_or, he, f_b_one hp hq]
          have : f_b x i = true := by
            cases hxi : f_b x i
            · exact absurd (hx.mpr hxi) e
            · rfl
          rw [this, Bool.and_true]
      rw [ih (i + 1) _ _ (by omega) (by omega) q hq, hs, hl' q hq]
      have hrq := hr q (by omega)
      by_cases e : q = p
      · subst e
        have h0 : f_rk l q = 0 := f_sm_zero q (fun k hk => by rw [hz k hk]; rfl)
        rw [decide_eq_true rfl, hb, h0, Nat.add_zero]
        cases f_b s q <;> cases f_b x i <;> rfl
      · rw [decide_eq_false e, Bool.false_and, Bool.or_false, Bool.not_false, Bool.and_true]
        rcases Nat.lt_or_ge p q with h1 | h1
        · rw [decide_eq_true h1] at hrq
          have : f_rk l q = f_rk (l ^^^ (l &&& -l)) q + 1 := hrq
          rw [this, show i + 1 + f_rk (l ^^^ (l &&& -l)) q = i + (f_rk (l ^^^ (l &&& -l)) q + 1) by omega]
        · rw [hz q (by omega), Bool.false_and, Bool.false_and]
