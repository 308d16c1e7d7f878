/-! Both sides alike: what is spread, what it costs -/
/-- the k-th of those that are meant -/
def f_onN (c : Nat → Bool) : Nat → Nat → Nat
  | 0, _ => 0
  | s + 1, k => cond (c s && decide (k = f_cn c s)) s (f_onN c s k)
theorem f_onN_ok (c : Nat → Bool) : ∀ t k, k < f_cn c t → f_onN c t k < t ∧ c (f_onN c t k) = true ∧ f_cn c (f_onN c t k) = k := by
  intro t
  induction t with
  | zero => intro k h; exact absurd h (Nat.not_lt_zero k)
  | succ t ih =>
    intro k h
    rw [f_cn] at h
    rw [f_onN]
    cases hc : c t
    · rw [hc, cond_false] at h
      rw [Bool.false_and, cond_false]
      have := ih k h
      exact ⟨by omega, this.2⟩
    · rw [hc, cond_true] at h
      rw [Bool.true_and]
      by_cases e : k = f_cn c t
      · rw [decide_eq_true e, cond_true]
        exact ⟨by omega, hc, e.symm⟩
      · rw [decide_eq_false e, cond_false]
        have := ih k (by omega)
        exact ⟨by omega, this.2⟩
theorem f_cn_sm (c : Nat → Bool) : ∀ t, f_cn c t = f_sm (fun z => (c z).toNat) t := by
  intro t
  induction t with
  | zero => rfl
  | succ t ih => rw [f_cn, f_sm, ← ih]; cases c t <;> rfl
theorem f_cn_lt (c : Nat → Bool) {s t : Nat} (hs : s < t) (hc : c s = true) : f_cn c s < f_cn c t := by
  rw [f_cn_sm, f_cn_sm, show t = s + (1 + (t - s - 1)) by omega, f_sm_app, f_sm_app]
  have : f_sm (fun k => (c (s + k)).toNat) 1 = 1 := by
    show 0 + (c (s + 0)).toNat = 1
    rw [Nat.add_zero, hc]; rfl
  omega
theorem f_onN_cn (c : Nat → Bool) {s t : Nat} (hs : s < t) (hc : c s = true) : f_onN c t (f_cn c s) = s := by
  have h := f_onN_ok c t (f_cn c s) (f_cn_lt c hs hc)
  rcases Nat.lt_trichotomy (f_onN c t (f_cn c s)) s with q | q | q
  · have := f_cn_lt c q h.2.1; omega
  · exact q
  · have := f_cn_lt c q hc; omega
theorem f_oR_at (c : Nat → Bool) (O : Nat → Int32) : ∀ t k, k < f_cn c t → f_oR c O t k = nI (f_onN c t k) := by
  intro t
  induction t with
  | zero => intro k h; exact absurd h (Nat.not_lt_zero k)
  | succ t ih =>
    intro k h
    rw [f_cn] at h
    rw [f_oR, f_onN]
    cases hc : c t
    · rw [hc, cond_false] at h
      rw [Bool.false_and, cond_false, cond_false]
      exact ih k h
    · rw [hc, cond_true] at h
      rw [Bool.true_and, cond_true]
      by_cases e : k = f_cn c t
      · rw [decide_eq_true e, cond_true, e, pk_us]
      · rw [decide_eq_false e, cond_false, pk_un e]
        exact ih k (by omega)
theorem f_tR_at (c : Nat → Bool) (tc : Nat → Int64) (L : Nat → Int64) : ∀ t k, k < f_cn c t → f_tR c tc L t k = tc (f_onN c t k) := by
  intro t
  induction t with
  | zero => intro k h; exact absurd h (Nat.not_lt_zero k)
  | succ t ih =>
    intro k h
    rw [f_cn] at h
    rw [f_tR, f_onN]
    cases hc : c t
    · rw [hc, cond_false] at h
      rw [Bool.false_and, cond_false, cond_false]
      exact ih k h
    · rw [hc, cond_true] at h
      rw [Bool.true_and, cond_true]
      by_cases e : k = f_cn c t
      · rw [decide_eq_true e, cond_true, e, pk_uLs]
      · rw [decide_eq_false e, cond_false, pk_uLn e]
        exact ih k (by omega)
theorem f_own_b {w : Nat} {O : Nat → Int32} {on : Nat → Nat} {q : Nat} (hq : q < 64) : ∀ t, (∀ k, k < t → O k = nI (on k) ∧ on k < 64) → (f_b (f_own w O t) q = true ↔ ∃ k, k < t ∧ Nat.testBit w k = true ∧ q = on k) := by
  intro t
  induction t with
  | zero => intro _; rw [f_own, f_b_0]; exact ⟨fun h => Bool.noConfusion h, fun ⟨e, h, _⟩ => absurd h (Nat.not_lt_zero e)⟩
  | succ t ih =>
    intro h
    have ht := h t (by omega)
    have hi := ih (fun k hk => h k (by omega))
    rw [f_own]
    cases hw : Nat.testBit w t
    · rw [cond_false, hi]
      constructor
      · rintro ⟨k, a, b, c⟩; exact ⟨k, by omega, b, c⟩
      · rintro ⟨k, a, b, c⟩
        by_cases e : k = t
        · subst e; rw [hw] at b; exact Bool.noConfusion b
        · exact ⟨k, by omega, b, c⟩
    · rw [cond_true, f_b_or, Bool.or_eq_true, hi, ht.1, f_b_one ht.2 hq, decide_eq_true_eq]
      constructor
      · rintro (⟨k, a, b, c⟩ | c)
        · exact ⟨k, by omega, b, c⟩
        · exact ⟨t, by omega, hw, c⟩
      · rintro ⟨k, a, b, c⟩
        by_cases e : k = t
        · subst e; exact Or.inr c
        · exact Or.inl ⟨k, by omega, b, c⟩
theorem f_tou_b {w : Nat} {L : Nat → Int64} {q : Nat} : ∀ t, (f_b (f_tou w L t) q = true ↔ ∃ k, k < t ∧ Nat.testBit w k = true ∧ f_b (L k) q = true) := by
  intro t
  induction t with
  | zero => rw [f_tou, f_b_0]; exact ⟨fun h => Bool.noConfusion h, fun ⟨e, h, _⟩ => absurd h (Nat.not_lt_zero e)⟩
  | succ t hi =>
    rw [f_tou]
    cases hw : Nat.testBit w t
    · rw [cond_false, hi]
      constructor
      · rintro ⟨k, a, b, c⟩; exact ⟨k, by omega, b, c⟩
      · rintro ⟨k, a, b, c⟩
        by_cases e : k = t
        · subst e; rw [hw] at b; exact Bool.noConfusion b
        · exact ⟨k, by omega, b, c⟩
    · rw [cond_true, f_b_or, Bool.or_eq_true, hi]
      constructor
      · rintro (⟨k, a, b, c⟩ | c)
        · exact ⟨k, by omega, b, c⟩
        · exact ⟨t, by omega, hw, c⟩
      · rintro ⟨k, a, b, c⟩
        by_cases e : k = t
        · subst e; exact Or.inr c
        · exact Or.inl ⟨k, by omega, b, c⟩
/-- what is meant: those below p by c, in the mask m -/
def f_mask (m : Int64) (p : Nat) (c : Nat → Bool) : Prop := ∀ q, q < 64 → f_b m q = (decide (q < p) && c q)
theorem f_mask_rk {m : Int64} {p : Nat} {c : Nat → Bool} (hp : p ≤ 64) (hm : f_mask m p c) {q : Nat} (hq : q ≤ p) : f_rk m q = f_cn c q := by
  rw [f_cn_sm]
  exact f_sm_ext q (fun k hk => by rw [hm k (by omega), decide_eq_true (show k < p by omega), Bool.true_and])
theorem f_mask_pop {m : Int64} {p : Nat} {c : Nat → Bool} (hp : p ≤ 64) (hm : f_mask m p c) : f_bcL m = nI (f_cn c p) := by
  have hin : f_in p m := f_in_of (fun q hq hh => by rw [hm q hq, decide_eq_false (by omega), Bool.false_and])
  rw [f_bcL_pop, f_pop_in hp hin, f_cn_sm]
  congr 1
  exact f_sm_ext p (fun k hk => by rw [hm k (by omega), decide_eq_true hk, Bool.true_and])
theorem f_own_at {w p : Nat} {O : Nat → Int32} {c : Nat → Bool} (hp : p ≤ 64) (hO : ∀ k, k < f_cn c p → O k = nI (f_onN c p k)) {q : Nat} (hq : q < 64) : f_b (f_own w O (f_cn c p)) q = (decide (q < p) && (c q && Nat.testBit w (f_cn c q))) := by
  apply Bool.eq_iff_iff.mpr
  rw [f_own_b (on := f_onN c p) hq _ (fun k hk => ⟨hO k hk, by have := (f_onN_ok c p k hk).1; omega⟩), Bool.and_eq_true, Bool.and_eq_true, decide_eq_true_eq]
  constructor
  · rintro ⟨k, h1, h2, h3⟩
    have h := f_onN_ok c p k h1
    rw [h3]
    exact ⟨h.1, h.2.1, by rw [h.2.2]; exact h2⟩
  · rintro ⟨h1, h2, h3⟩
    exact ⟨f_cn c q, f_cn_lt c h1 h2, h3, (f_onN_cn c h1 h2).symm⟩
theorem f_spread_own {w p : Nat} {m : Int64} {O : Nat → Int32} {c : Nat → Bool} (hp : p ≤ 64) (hm : f_mask m p c) (hw : w < 2 ^ 63) (hO : ∀ k, k < f_cn c p → O k = nI (f_onN c p k)) : f_spread (lN w) 64 0 m 0 = f_own w O (f_cn c p) := by
  refine f_b_ext (fun q hq => ?_)
  rw [f_spread_b 64 0 m 0 (f_rk_le m 64) (Nat.le_refl _) q hq, f_own_at hp hO hq, f_b_0, Bool.false_or, Nat.zero_add, hm q hq]
  by_cases h : q < p
  · rw [f_mask_rk hp hm (by omega), decide_eq_true h, Bool.true_and, Bool.true_and]
    have : f_b (lN w) (f_cn c q) = Nat.testBit w (f_cn c q) := by
      show Nat.testBit (f_uN (lN w)) _ = _
      rw [f_uN_lN (by omega)]
    rw [this]
  · rw [decide_eq_false h]; rfl
theorem f_tou_own {w p q : Nat} {O : Nat → Int32} {L tc : Nat → Int64} {c : Nat → Bool} (hp : p ≤ 64) (hO : ∀ k, k < f_cn c p → O k = nI (f_onN c p k)) (hL : ∀ k, k < f_cn c p → L k = tc (f_onN c p k)) : f_b (f_tou w L (f_cn c p)) q = true ↔ ∃ s, s < p ∧ f_b (f_own w O (f_cn c p)) s = true ∧ f_b (tc s) q = true := by
  rw [f_tou_b]
  constructor
  · rintro ⟨k, h1, h2, h3⟩
    have h := f_onN_ok c p k h1
    refine ⟨f_onN c p k, h.1, ?_, by rw [← hL k h1]; exact h3⟩
    rw [f_own_at hp hO (by omega), decide_eq_true h.1, h.2.1, h.2.2, h2]; rfl
  · rintro ⟨s, h1, h2, h3⟩
    rw [f_own_at hp hO (by omega), Bool.and_eq_true, Bool.and_eq_true] at h2
    refine ⟨f_cn c s, f_cn_lt c h1 h2.2.1, h2.2.2, ?_⟩
    rw [hL _ (f_cn_lt c h1 h2.2.1), f_onN_cn c h1 h2.2.1]; exact h3
theorem f_own_inp {w p : Nat} {O : Nat → Int32} {c : Nat → Bool} (hp : p ≤ 64) (hO : ∀ k, k < f_cn c p → O k = nI (f_onN c p k)) : f_in p (f_own w O (f_cn c p)) := f_in_of (fun q hq hh => by rw [f_own_at hp hO hq, decide_eq_false (by omega), Bool.false_and])
theorem f_m2 {k : Nat} (hk : k < 2 ^ 31) : ¬ nI k = -2 := by
  intro z
  have h1 := congrArg Int32.toInt z
  rw [nI_toInt hk] at h1
  have h2 : (-2 : Int32).toInt = -2 := by decide
  omega
theorem f_sh_one {u : Bool} {n s q : Nat} (hn : n ≤ 6) (hs : s < 2 ^ n) (hq : q < 64) : f_b (f_shM u n (f_sl 1 (nI s)) (2 ^ n)) q = true ↔ ∃ e, e < n ∧ (u ^^ Nat.testBit s e) = true ∧ q = s ^^^ 2 ^ e := by
  have hp : 2 ^ n ≤ 64 := Nat.pow_le_pow_right (by decide) hn
  rw [f_shM_b hn hq _ hp]
  constructor
  · rintro ⟨s2, h1, h2, h3⟩
    rw [f_b_one (by omega) (by omega), decide_eq_true_eq] at h2
    subst h2; exact h3
  · intro h
    exact ⟨s, hs, by rw [f_b_one (by omega) (by omega)]; exact decide_eq_true rfl, h⟩
section CO1
variable {n w : Nat} {O : Nat → Int32} {L : Nat → Int64} {c : Nat → Bool}
theorem f_cost2 (hn : n ≤ 6) (hO : ∀ k, k < f_cn c (2 ^ n) → O k = nI (f_onN c (2 ^ n) k)) (hL : ∀ k, k < f_cn c (2 ^ n) → L k = f_lt 2 n (f_onN c (2 ^ n) k)) : f_bcL (f_shadow (f_own w O (f_cn c (2 ^ n))) n) = nI (f_cost 2 w O L (f_cn c (2 ^ n))) := by
  have hp : 2 ^ n ≤ 64 := Nat.pow_le_pow_right (by decide) hn
  rw [f_bcL_pop, f_shadow_M hn (f_own_inp hp hO)]
  show nI _ = nI (f_pop (f_tou w L (f_cn c (2 ^ n))))
  congr 2
  refine f_b_ext (fun q hq => Bool.eq_iff_iff.mpr ?_)
  rw [f_shM_b hn hq _ hp, f_tou_own (tc := f_lt 2 n) hp hO hL]
  constructor
  · rintro ⟨s, h1, h2, h3⟩; exact ⟨s, h1, h2, (f_sh_one hn h1 hq).mpr h3⟩
  · rintro ⟨s, h1, h2, h3⟩; exact ⟨s, h1, h2, (f_sh_one hn h1 hq).mp h3⟩
theorem f_lt_b {s q : Nat} (hn : n ≤ 6) (hs : s < 2 ^ n) (hq : q < 64) {K : Nat} (hK : K < 2) : f_b (f_lt K n s) q = true ↔ ∃ e, e < n ∧ q = s ^^^ 2 ^ e := by
  have e1 : f_lt K n s = f_shM false n (f_sl 1 (nI s)) (2 ^ n) ||| f_shM true n (f_sl 1 (nI s)) (2 ^ n) := by
    match K, hK with
    | 0, _ => rfl
    | 1, _ => rfl
  rw [e1, f_b_or, Bool.or_eq_true, f_sh_one hn hs hq, f_sh_one hn hs hq]
  constructor
  · rintro (⟨e, a, _, b⟩ | ⟨e, a, _, b⟩) <;> exact ⟨e, a, b⟩
  · rintro ⟨e, a, b⟩
    cases h : Nat.testBit s e
    · exact Or.inr ⟨e, a, by rw [h]; rfl, b⟩
    · exact Or.inl ⟨e, a, by rw [h]; rfl, b⟩
theorem f_cost0 (hn : n ≤ 6) (hO : ∀ k, k < f_cn c (2 ^ n) → O k = nI (f_onN c (2 ^ n) k)) (hL : ∀ k, k < f_cn c (2 ^ n) → L k = f_lt 0 n (f_onN c (2 ^ n) k)) : f_bcL (f_border (f_own w O (f_cn c (2 ^ n))) n) = nI (f_cost 0 w O L (f_cn c (2 ^ n))) := by
  have hp : 2 ^ n ≤ 64 := Nat.pow_le_pow_right (by decide) hn
  rw [f_bcL_pop, f_border_M hn (f_own_inp hp hO)]
  show nI _ = nI (f_pop (f_tou w L (f_cn c (2 ^ n)) &&& (f_own w O (f_cn c (2 ^ n)) ^^^ (-1))))
  unfold f_boM
  congr 3
  refine f_b_ext (fun q hq => Bool.eq_iff_iff.mpr ?_)
  rw [f_b_or, Bool.or_eq_true, f_shM_b hn hq _ hp, f_shM_b hn hq _ hp, f_tou_own (tc := f_lt 0 n) hp hO hL]
  constructor
  · rintro (⟨s, h1, h2, e, a, b, d⟩ | ⟨s, h1, h2, e, a, b, d⟩) <;> exact ⟨s, h1, h2, (f_lt_b hn h1 hq (by decide)).mpr ⟨e, a, d⟩⟩
  · rintro ⟨s, h1, h2, h3⟩
    obtain ⟨e, a, d⟩ := (f_lt_b hn h1 hq (by decide)).mp h3
    cases h : Nat.testBit s e
    · exact Or.inr ⟨s, h1, h2, e, a, by rw [h]; rfl, d⟩
    · exact Or.inl ⟨s, h1, h2, e, a, by rw [h]; rfl, d⟩
theorem f_sC_sm (w : Nat) (L : Nat → Int64) (y : Int64) : ∀ t, f_sC w L y t = f_sm (fun k => cond (Nat.testBit w k) (f_pop (L k &&& (y ^^^ (-1)))) 0) t := by
  intro t
  induction t with
  | zero => rfl
  | succ t ih => rw [f_sC, f_sm, ih]
theorem f_pop_nb {n s : Nat} {y : Int64} (hn : n ≤ 6) (hs : s < 2 ^ n) : f_pop (f_lt 1 n s &&& (y ^^^ (-1))) = f_sm (fun e => (!f_b y (s ^^^ 2 ^ e)).toNat) n := by
  have hp : 2 ^ n ≤ 64 := Nat.pow_le_pow_right (by decide) hn
  rw [f_pop_sm]
  have e1 : f_sm (fun k => (f_b (f_lt 1 n s &&& (y ^^^ (-1))) k).toNat) 64 = f_sm (fun k => f_sm (fun e => (decide (k = s ^^^ 2 ^ e) && !f_b y k).toNat) n) 64 := by
    refine f_sm_ext 64 (fun k hk => ?_)
    rw [f_b_and, f_b_not hk]
    cases hb : f_b (f_lt 1 n s) k
    · rw [Bool.false_and]
      refine (f_sm_zero n (fun e he => ?_)).symm
      have : ¬ k = s ^^^ 2 ^ e := fun z => by
        have := (f_lt_b hn hs hk (K := 1) (by decide)).mpr ⟨e, he, z⟩
        rw [hb] at this; exact Bool.noConfusion this
      rw [decide_eq_false this]; rfl
    · obtain ⟨e, he, hk2⟩ := (f_lt_b hn hs hk (by decide)).mp hb
      rw [f_sm_one (z := e) n (fun e2 he2 h2 => by
        rw [Bool.and_eq_true, decide_eq_true_eq] at h2
        have h3 : s ^^^ 2 ^ e2 = s ^^^ 2 ^ e := by rw [← h2.1, ← hk2]
        have h4 : 2 ^ e2 = 2 ^ e := by
          have h5 := congrArg (fun z => s ^^^ z) h3
          rw [← Nat.xor_assoc, ← Nat.xor_assoc, Nat.xor_self, Nat.zero_xor, Nat.zero_xor] at h5
          exact h5
        exact (Nat.pow_right_inj (by decide)).mp h4)]
      simp only [decide_eq_true he, decide_eq_true hk2, Bool.true_and]
  rw [e1, f_sm_swap]
  refine f_sm_ext n (fun e he => ?_)
  have hx := f_x64 (s := s) (e := e) (by omega) (by omega)
  rw [f_sm_one (z := s ^^^ 2 ^ e) 64 (fun k hk h2 => by rw [Bool.and_eq_true, decide_eq_true_eq] at h2; exact h2.1), decide_eq_true hx, decide_eq_true rfl, Bool.true_and, Bool.true_and]
end CO1
