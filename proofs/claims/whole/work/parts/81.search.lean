/-! Both sides alike: the search for the least -/
theorem f_popN {w : Nat} (h : w < 2 ^ 31) : f_pop (nI w).toInt64 = f_pc 64 w := by
  rw [nI_l h]
  show f_pc 64 (f_uN (lN w)) = _
  rw [f_uN_lN (by omega)]
theorem f_pc64_hi {k z : Nat} (hk : k < 64) (hz : z < 2 ^ k) : f_pc 64 (2 ^ k + z) = f_pc 64 z + 1 := by
  have h1 := f_pc_app k (64 - k) 1 z hz
  have h2 := f_pc_up k z (64 - k) hz
  rw [show k + (64 - k) = 64 by omega] at h1 h2
  rw [Nat.one_mul] at h1
  have h3 : ∀ t, f_pc (t + 1) 1 = 1 := by
    intro t
    rw [f_pc]
    show 1 + f_pc t 0 = 1
    rw [f_pc_0]
  rw [h1, h2, show 64 - k = (63 - k) + 1 by omega, h3]
theorem f_left_sm (m c : Nat) : ∀ t, f_left m c t = f_sm (fun z => (decide (f_pc 64 (c + z) = m)).toNat) t := by
  intro t
  induction t with
  | zero => rfl
  | succ t ih => rw [f_left, f_sm, ih]
theorem f_left_bin : ∀ k, k < 64 → ∀ m, f_left m 0 (2 ^ k) = f_bin k m := by
  intro k
  induction k with
  | zero => intro _ m; cases m with
    | zero => rfl
    | succ m =>
      show f_left (m + 1) 0 (0 + 1) = 0
      rw [f_left, f_left, Nat.add_zero, f_pc_0, decide_eq_false (by omega)]; rfl
  | succ k ih =>
    intro hk m
    have e1 : f_left m 0 (2 ^ (k + 1)) = f_left m 0 (2 ^ k) + f_sm (fun z => (decide (f_pc 64 z + 1 = m)).toNat) (2 ^ k) := by
      rw [f_left_sm, f_left_sm, Nat.pow_succ, Nat.mul_two, f_sm_app]
      exact congrArg (f_sm (fun z => (decide (f_pc 64 (0 + z) = m)).toNat) (2 ^ k) + ·) (f_sm_ext _ (fun z hz => by
        show (decide (f_pc 64 (0 + (2 ^ k + z)) = m)).toNat = _
        rw [Nat.zero_add, f_pc64_hi (by omega) hz]))
    rw [e1, ih (by omega)]
    cases m with
    | zero =>
      rw [f_sm_zero _ (fun z _ => by rw [decide_eq_false (by omega)]; rfl)]
      cases k <;> rfl
    | succ m =>
      have e2 : f_sm (fun z => (decide (f_pc 64 z + 1 = m + 1)).toNat) (2 ^ k) = f_left m 0 (2 ^ k) := by
        rw [f_left_sm]
        refine f_sm_ext _ (fun z _ => ?_)
        rw [Nat.zero_add]
        have e9 : decide (f_pc 64 z + 1 = m + 1) = decide (f_pc 64 z = m) := decide_eq_decide.mpr (by omega)
        rw [e9]
      rw [e2, ih (by omega)]
      show _ = f_bin k m + f_bin k (m + 1)
      omega
theorem f_bin_16 : ∀ k, k < 17 → ∀ m, m < 17 → f_bin k m ≤ 12870 := by decide +kernel
theorem f_left_some {m c : Nat} : ∀ t, f_left m c t = 0 → ∀ z, c ≤ z → z < c + t → f_pc 64 z ≠ m := by
  intro t h z h1 h2
  rw [f_left_sm] at h
  have := f_sm_0 t h (z - c) (by omega)
  rw [show c + (z - c) = z by omega] at this
  intro e
  rw [decide_eq_true e] at this
  exact absurd this (by decide)
theorem f_left_app (m c : Nat) (a b : Nat) : f_left m c (a + b) = f_left m c a + f_left m (c + a) b := by
  rw [f_left_sm, f_left_sm, f_left_sm, f_sm_app]
  exact congrArg (f_sm (fun z => (decide (f_pc 64 (c + z) = m)).toNat) a + ·) (f_sm_ext _ (fun z _ => by
    show (decide (f_pc 64 (c + (a + z)) = m)).toNat = _
    rw [Nat.add_assoc]))
section SE1
variable {g : Int64 → Int32} {m ff : Int64} {K so mm : Nat} {O : Nat → Int32} {L : Nat → Int64}
theorem f_fin_hit {w : Nat} (hw : w < 2 ^ 16) (h : f_pc 64 w = mm) : f_fin K O L so mm ff (w + 1) = cond (decide ((f_fin K O L so mm ff w).1 = -2) || decide (nI (f_cost K w O L so) < (f_fin K O L so mm ff w).1)) (nI (f_cost K w O L so), f_own w O so) (f_fin K O L so mm ff w) := by
  rw [f_fin, f_popN (by omega), decide_eq_true h, cond_true]
theorem f_fin_skip {w : Nat} (hw : w < 2 ^ 16) (h : ¬ f_pc 64 w = mm) : f_fin K O L so mm ff (w + 1) = f_fin K O L so mm ff w := by
  rw [f_fin, f_popN (by omega), decide_eq_false h, cond_false]
theorem f_fin_skips {c : Nat} : ∀ d, c + d ≤ 2 ^ 16 → (∀ z, c ≤ z → z < c + d → f_pc 64 z ≠ mm) → f_fin K O L so mm ff (c + d) = f_fin K O L so mm ff c := by
  intro d
  induction d with
  | zero => intro _ _; rfl
  | succ d ih =>
    intro h1 h2
    rw [← Nat.add_assoc, f_fin_skip (by omega) (h2 (c + d) (by omega) (by omega))]
    exact ih (by omega) (fun z a b => h2 z a (by omega))
theorem f_search_M (hso : so ≤ 16) (hS : ∀ w, w < 2 ^ so → f_pc 64 w = mm → f_spread (lN w) 64 0 m 0 = f_own w O so) (hG : ∀ w, w < 2 ^ so → f_pc 64 w = mm → g (f_own w O so) = nI (f_cost K w O L so) ∧ ¬ nI (f_cost K w O L so) = -2) : ∀ t c b f, 0 < c → c < 2 ^ so → f_pc 64 c = mm → f_fin K O L so mm ff (c + 1) = (f, b) → f = g b → ¬ f = -2 → f_left mm (c + 1) (2 ^ so - (c + 1)) ≤ t → f_search g m (lN (2 ^ so)) t (lN c) b f = (f_fin K O L so mm ff (2 ^ so)).2 ∧ (f_fin K O L so mm ff (2 ^ so)).1 = g (f_fin K O L so mm ff (2 ^ so)).2 := by
  have h16 : 2 ^ so ≤ 2 ^ 16 := Nat.pow_le_pow_right (by decide) hso
  intro t
  induction t with
  | zero =>
    intro c b f h0 hc hpc hF hf hne hl
    have hz := f_left_some (m := mm) (c := c + 1) (2 ^ so - (c + 1)) (by omega)
    have hk := f_fin_skips (K := K) (O := O) (L := L) (so := so) (mm := mm) (ff := ff) (c := c + 1) (2 ^ so - (c + 1)) (by omega) hz
    rw [show c + 1 + (2 ^ so - (c + 1)) = 2 ^ so by omega] at hk
    rw [hk, hF]
    exact ⟨rfl, hf⟩
  | succ t ih =>
    intro c b f h0 hc hpc hF hf hne hl
    obtain ⟨c2, e1, e2, e3, e4, e5⟩ := f_next_ok h0 (show c < 2 ^ 17 by omega)
    rw [f_search, e1]
    by_cases h : 2 ^ so ≤ c2
    · rw [if_pos (Or.inr ((pk_lLE (by omega) (by omega)).mpr h))]
      have hk := f_fin_skips (K := K) (O := O) (L := L) (so := so) (mm := mm) (ff := ff) (c := c + 1) (2 ^ so - (c + 1)) (by omega) (fun z a b9 => by rw [← hpc]; exact e5 z (by omega) (by omega))
      rw [show c + 1 + (2 ^ so - (c + 1)) = 2 ^ so by omega] at hk
      rw [hk, hF]
      exact ⟨rfl, hf⟩
    · have hno : ¬ (lN c2 ≤ 0 ∨ lN (2 ^ so) ≤ lN c2) := by
        rintro (z | z)
        · have := (pk_lLE (a := c2) (b := 0) (by omega) (by omega)).mp z; omega
        · have := (pk_lLE (by omega) (by omega)).mp z; omega
      rw [if_neg hno]
      have hp2 : f_pc 64 c2 = mm := by rw [e4, hpc]
      have hk := f_fin_skips (K := K) (O := O) (L := L) (so := so) (mm := mm) (ff := ff) (c := c + 1) (c2 - (c + 1)) (by omega) (fun z a b9 => by rw [← hpc]; exact e5 z (by omega) (by omega))
      rw [show c + 1 + (c2 - (c + 1)) = c2 by omega, hF] at hk
      have hhit := f_fin_hit (K := K) (O := O) (L := L) (so := so) (mm := mm) (ff := ff) (w := c2) (by omega) hp2
      rw [hk, decide_eq_false hne, Bool.false_or] at hhit
      have hg := hG c2 (by omega) hp2
      rw [hS c2 (by omega) hp2, hg.1]
      have hleft : f_left mm (c2 + 1) (2 ^ so - (c2 + 1)) ≤ t := by
        have a1 := f_left_app mm (c + 1) (c2 - (c + 1)) (2 ^ so - c2)
        rw [show c2 - (c + 1) + (2 ^ so - c2) = 2 ^ so - (c + 1) by omega, show c + 1 + (c2 - (c + 1)) = c2 by omega] at a1
        have a2 := f_left_first mm c2 (2 ^ so - (c2 + 1))
        rw [show 2 ^ so - (c2 + 1) + 1 = 2 ^ so - c2 by omega, decide_eq_true hp2] at a2
        have a3 : (true).toNat = 1 := rfl
        omega
      by_cases hlt : nI (f_cost K c2 O L so) < f
      · rw [if_pos hlt]
        rw [decide_eq_true hlt, cond_true] at hhit
        exact ih c2 _ _ (by omega) (by omega) hp2 hhit hg.1.symm hg.2 hleft
      · rw [if_neg hlt]
        rw [decide_eq_false hlt, cond_false] at hhit
        exact ih c2 _ _ (by omega) (by omega) hp2 hhit hf hne hleft
theorem f_own_0 (O : Nat → Int32) : ∀ t, f_own 0 O t = 0 := by
  intro t
  induction t with
  | zero => rfl
  | succ t ih => rw [f_own, Nat.zero_testBit, cond_false, ih]
theorem f_lo_M (hso : so ≤ 16) (hmm : mm ≤ so) (hm : f_bcL m = nI so) (hS : ∀ w, w < 2 ^ so → f_pc 64 w = mm → f_spread (lN w) 64 0 m 0 = f_own w O so) (hG : ∀ w, w < 2 ^ so → f_pc 64 w = mm → g (f_own w O so) = nI (f_cost K w O L so) ∧ ¬ nI (f_cost K w O L so) = -2) : f_lo g (nI mm) m = (f_fin K O L so mm ff (2 ^ so)).2 ∧ g (f_lo g (nI mm) m) = (f_fin K O L so mm ff (2 ^ so)).1 := by
  have h16 : 2 ^ so ≤ 2 ^ 16 := Nat.pow_le_pow_right (by decide) hso
  have hps := Nat.two_pow_pos so
  have hone : f_sl 1 (nI so) = lN (2 ^ so) := f_uN_inj (by rw [f_uN_one (by omega), f_uN_lN (by omega)])
  unfold f_lo
  rcases Nat.eq_zero_or_pos mm with e | e
  · subst e
    rw [if_pos (by decide)]
    have hhit := f_fin_hit (K := K) (O := O) (L := L) (so := so) (mm := 0) (ff := ff) (w := 0) (by omega) (f_pc_0 64)
    rw [show (f_fin K O L so 0 ff 0).1 = -2 from rfl, decide_eq_true rfl, Bool.true_or, cond_true, f_own_0] at hhit
    have hz : ∀ z, 1 ≤ z → z < 1 + (2 ^ so - 1) → f_pc 64 z ≠ 0 := fun z h1 h2 => by have := f_pc_pos 64 z h1 (by omega); omega
    have hk := f_fin_skips (K := K) (O := O) (L := L) (so := so) (mm := 0) (ff := ff) (c := 1) (2 ^ so - 1) (by omega) hz
    rw [show 1 + (2 ^ so - 1) = 2 ^ so by omega, show f_fin K O L so 0 ff 1 = f_fin K O L so 0 ff (0 + 1) from rfl, hhit] at hk
    have hg := hG 0 hps (f_pc_0 64)
    rw [f_own_0] at hg
    rw [hk]
    exact ⟨rfl, hg.1⟩
  · have hpm : 2 ^ mm ≤ 2 ^ so := Nat.pow_le_pow_right (by decide) hmm
    have hp1 : 2 ^ 1 ≤ 2 ^ mm := Nat.pow_le_pow_right (by decide) e
    have hnp : ¬ nI mm ≤ 0 := by
      have : ∀ k, k < 17 → 0 < k → ¬ nI k ≤ 0 := by decide
      exact this mm (by omega) e
    rw [if_neg hnp]
    have hc0 : f_sl 1 (nI mm) - 1 = lN (2 ^ mm - 1) := by
      have h1 : f_uN (f_sl 1 (nI mm)) = 2 ^ mm := f_uN_one (by omega)
      have h2 : f_uN (1 : Int64) = 1 := rfl
      exact f_uN_inj (by rw [f_uN_sub (by rw [h1, h2]; omega), h1, h2, f_uN_lN (by omega)])
    have hpc : f_pc 64 (2 ^ mm - 1) = mm := by
      have := f_pc_up mm (2 ^ mm - 1) (64 - mm) (by omega)
      rw [f_pc_ones, show mm + (64 - mm) = 64 by omega] at this
      exact this
    have hz : ∀ z, 0 ≤ z → z < 0 + (2 ^ mm - 1) → f_pc 64 z ≠ mm := by
      intro z _ h2 h3
      have := f_pc_least 64 z
      rw [h3] at this; omega
    have hk := f_fin_skips (K := K) (O := O) (L := L) (so := so) (mm := mm) (ff := ff) (c := 0) (2 ^ mm - 1) (by omega) hz
    rw [Nat.zero_add] at hk
    have hhit := f_fin_hit (K := K) (O := O) (L := L) (so := so) (mm := mm) (ff := ff) (w := 2 ^ mm - 1) (by omega) hpc
    rw [hk, show (f_fin K O L so mm ff 0).1 = -2 from rfl, decide_eq_true rfl, Bool.true_or, cond_true] at hhit
    have hg := hG (2 ^ mm - 1) (by omega) hpc
    have hleft : f_left mm (2 ^ mm - 1 + 1) (2 ^ so - (2 ^ mm - 1 + 1)) ≤ 20000 := by
      have a1 := f_left_app mm 0 (2 ^ mm - 1 + 1) (2 ^ so - (2 ^ mm - 1 + 1))
      rw [show 2 ^ mm - 1 + 1 + (2 ^ so - (2 ^ mm - 1 + 1)) = 2 ^ so by omega, Nat.zero_add, f_left_bin so (by omega)] at a1
      have := f_bin_16 so (by omega) mm (by omega)
      omega
    have hres := f_search_M (ff := ff) hso hS hG 20000 (2 ^ mm - 1) _ _ (by omega) (by omega) hpc hhit hg.1.symm hg.2 hleft
    unfold f_leastOf
    rw [hm, hone, hc0, hS _ (by omega) hpc, hg.1, hres.1]
    exact ⟨rfl, hres.2.symm⟩
end SE1
