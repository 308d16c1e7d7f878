/-! Both sides alike: pressing, rests, rounds -/
theorem f_step : ∀ j, j < 6 → ∀ i, i < j → f_pw j - f_pw i = nI (2 ^ j - 2 ^ i) ∧ 2 ^ j - 2 ^ i < 32 ∧ 0 < 2 ^ j - 2 ^ i := by decide +kernel
theorem f_stA : ∀ j, j < 6 → ∀ i, i < j → ∀ k, k < 64 → (decide (2 ^ j - 2 ^ i + k < 64) && (Nat.testBit (2 ^ j - 2 ^ i + k) j && !Nat.testBit (2 ^ j - 2 ^ i + k) i)) = (Nat.testBit k i && !Nat.testBit k j) := by decide +kernel
theorem f_stB : ∀ j, j < 6 → ∀ i, i < j → ∀ t, t < 64 → (Nat.testBit t j && !Nat.testBit t i) = true → 2 ^ j - 2 ^ i ≤ t ∧ f_to t i j = t - (2 ^ j - 2 ^ i) := by decide +kernel
/-- what goes by a pressing -/
def f_go (x : Int64) (i j t : Nat) : Bool := (f_b x t && (Nat.testBit t j && !Nat.testBit t i)) && !f_b x (t - (2 ^ j - 2 ^ i))
theorem f_com_b {x : Int64} {i j k : Nat} (hi : i < j) (hj : j < 6) (hk : k < 64) : f_b (f_sr (x &&& f_hold j &&& (f_hold i ^^^ (-1))) (f_pw j - f_pw i) &&& (x ^^^ (-1))) k = f_go x i j (2 ^ j - 2 ^ i + k) := by
  obtain ⟨es, hs, h0⟩ := f_step j hj i hi
  have hA := f_stA j hj i hi k hk
  unfold f_go
  rw [es, f_b_and, f_b_not hk, f_b_sr (by omega), f_b_and, f_b_and, show 2 ^ j - 2 ^ i + k - (2 ^ j - 2 ^ i) = k by omega]
  rcases Nat.lt_or_ge (2 ^ j - 2 ^ i + k) 64 with q | q
  · rw [f_b_not q, f_holdb j hj _ q, f_holdb i (by omega) _ q]
    cases f_b x (2 ^ j - 2 ^ i + k) <;> cases Nat.testBit (2 ^ j - 2 ^ i + k) j <;> cases Nat.testBit (2 ^ j - 2 ^ i + k) i <;> cases f_b x k <;> rfl
  · rw [f_b_hi (x := x) q]; rfl
theorem f_go_hi {x : Int64} {i j t : Nat} (h : 64 ≤ t) : f_go x i j t = false := by unfold f_go; rw [f_b_hi h]; rfl
theorem f_go_lo {x : Int64} {i j t : Nat} (hi : i < j) (hj : j < 6) (h : f_go x i j t = true) : 2 ^ j - 2 ^ i ≤ t ∧ t < 64 ∧ f_to t i j = t - (2 ^ j - 2 ^ i) ∧ f_b x t = true ∧ f_b x (t - (2 ^ j - 2 ^ i)) = false := by
  have ht : t < 64 := by
    rcases Nat.lt_or_ge t 64 with q | q
    · exact q
    · rw [f_go_hi q] at h; exact Bool.noConfusion h
  unfold f_go at h
  rw [Bool.and_eq_true, Bool.and_eq_true] at h
  have := f_stB j hj i hi t ht h.1.2
  refine ⟨this.1, ht, this.2, h.1.1, ?_⟩
  have h2 := h.2
  cases hq : f_b x (t - (2 ^ j - 2 ^ i))
  · rfl
  · rw [hq] at h2; exact Bool.noConfusion h2
theorem f_pressed_b {x : Int64} {i j k : Nat} (hi : i < j) (hj : j < 6) (hk : k < 64) : f_b (f_pressed x i j) k = ((f_b x k && !f_go x i j k) || f_go x i j (2 ^ j - 2 ^ i + k)) := by
  obtain ⟨es, hs, h0⟩ := f_step j hj i hi
  unfold f_pressed
  rw [f_b_or, f_b_and, f_b_not hk, f_com_b hi hj hk, es, f_b_sl (by omega) hk, ← es, f_com_b hi hj (by omega)]
  congr 2
  by_cases hq : 2 ^ j - 2 ^ i ≤ k
  · rw [decide_eq_true hq, Bool.true_and, show 2 ^ j - 2 ^ i + (k - (2 ^ j - 2 ^ i)) = k by omega]
  · rw [decide_eq_false hq, Bool.false_and]
    cases hg : f_go x i j k
    · rfl
    · exact absurd (f_go_lo hi hj hg).1 hq
theorem f_prB_go {x : Int64} {i j t : Nat} (hi : i < j) (hj : j < 6) (ht : t < 64) : f_prB x i j t = f_go x i j t := by
  unfold f_prB f_go
  cases hT : (Nat.testBit t j && !Nat.testBit t i)
  · cases f_b x t <;> cases hj1 : Nat.testBit t j <;> cases hi1 : Nat.testBit t i <;> rw [hj1, hi1] at hT <;> first | rfl | exact Bool.noConfusion hT
  · have := f_stB j hj i hi t ht hT
    rw [this.2]
    rw [Bool.and_eq_true] at hT
    rw [hT.1, hT.2]
    cases f_b x t <;> rfl
theorem f_prG_b {one : Nat → Int64} {B : Nat → Bool} {k : Nat} : ∀ t, f_b (f_prG one B t) k = true ↔ ∃ s, s < t ∧ B s = true ∧ f_b (one s) k = true := by
  intro t
  induction t with
  | zero => rw [f_prG, f_b_0]; exact ⟨fun h => Bool.noConfusion h, fun ⟨e, h, _⟩ => absurd h (Nat.not_lt_zero e)⟩
  | succ t ih =>
    rw [f_prG]
    cases hB : B t
    · rw [cond_false, ih]
      constructor
      · rintro ⟨s, a, b, c⟩; exact ⟨s, by omega, b, c⟩
      · rintro ⟨s, a, b, c⟩
        by_cases hs : s = t
        · subst hs; rw [hB] at b; exact Bool.noConfusion b
        · exact ⟨s, by omega, b, c⟩
    · rw [cond_true, f_b_or, Bool.or_eq_true, ih]
      constructor
      · rintro (⟨s, a, b, c⟩ | h)
        · exact ⟨s, by omega, b, c⟩
        · exact ⟨t, by omega, hB, h⟩
      · rintro ⟨s, a, b, c⟩
        by_cases hs : s = t
        · subst hs; exact Or.inr c
        · exact Or.inl ⟨s, by omega, b, c⟩
theorem f_pressed_M {n i j : Nat} {x : Int64} (hn : n ≤ 6) (hx : f_in (2 ^ n) x) (hi : i < j) (hj : j < n) : f_pressed x i j = f_prM n x i j := by
  have hp : 2 ^ n ≤ 64 := Nat.pow_le_pow_right (by decide) hn
  refine f_b_ext (fun k hk => ?_)
  rw [f_pressed_b hi (by omega) hk]
  unfold f_prM
  rw [f_b_or, f_b_and, f_b_not hk]
  have e1 : f_b (f_prG (fun s => f_sl 1 (nI s)) (f_prB x i j) (2 ^ n)) k = f_go x i j k := by
    apply Bool.eq_iff_iff.mpr
    rw [f_prG_b]
    constructor
    · rintro ⟨s, a, b, c⟩
      rw [f_b_one (by omega) hk, decide_eq_true_eq] at c
      subst c
      rw [f_prB_go hi (by omega) hk] at b; exact b
    · intro h
      exact ⟨k, hx.lt (f_go_lo hi (by omega) h).2.2.2.1, by rw [f_prB_go hi (by omega) hk]; exact h, by rw [f_b_one hk hk]; exact decide_eq_true rfl⟩
  have e2 : f_b (f_prG (fun s => f_sl 1 (nI (f_to s i j))) (f_prB x i j) (2 ^ n)) k = f_go x i j (2 ^ j - 2 ^ i + k) := by
    apply Bool.eq_iff_iff.mpr
    rw [f_prG_b]
    constructor
    · rintro ⟨s, a, b, c⟩
      rw [f_prB_go hi (by omega) (by omega)] at b
      have h := f_go_lo hi (by omega) b
      rw [h.2.2.1, f_b_one (by omega) hk, decide_eq_true_eq] at c
      rw [show 2 ^ j - 2 ^ i + k = s by omega]; exact b
    · intro h
      have h2 := f_go_lo hi (by omega) h
      refine ⟨2 ^ j - 2 ^ i + k, hx.lt h2.2.2.2.1, by rw [f_prB_go hi (by omega) h2.2.1]; exact h, ?_⟩
      rw [h2.2.2.1, show 2 ^ j - 2 ^ i + k - (2 ^ j - 2 ^ i) = k by omega, f_b_one hk hk]; exact decide_eq_true rfl
  rw [e1, e2]
theorem f_pressed_in {n i j : Nat} {x : Int64} (hn : n ≤ 6) (hx : f_in (2 ^ n) x) (hi : i < j) (hj : j < n) : f_in (2 ^ n) (f_pressed x i j) := by
  intro k hk
  rcases Nat.lt_or_ge k 64 with q | q
  · rw [f_pressed_b hi (by omega) q, hx k hk]
    cases hg : f_go x i j (2 ^ j - 2 ^ i + k)
    · rfl
    · have := hx.lt (f_go_lo hi (by omega) hg).2.2.2.1
      omega
  · exact f_b_hi q
/-- the sum of the numbers -/
def f_phi (x : Int64) : Nat := f_sm (fun k => k * (f_b x k).toNat) 64
theorem f_phi_le (x : Int64) : f_phi x ≤ 2016 := by
  have h1 : f_phi x ≤ f_sm (fun k => k) 64 := f_sm_le 64 (fun k _ => by cases f_b x k <;> simp)
  have h2 : f_sm (fun k => k) 64 = 2016 := by decide
  omega
theorem f_phi_press {x : Int64} {i j : Nat} (hi : i < j) (hj : j < 6) : f_phi (f_pressed x i j) + (2 ^ j - 2 ^ i) * f_sm (fun k => (f_go x i j (2 ^ j - 2 ^ i + k)).toNat) 64 = f_phi x := by
  obtain ⟨es, hs, h0⟩ := f_step j hj i hi
  obtain ⟨st, est⟩ : ∃ st, st = 2 ^ j - 2 ^ i := ⟨_, rfl⟩
  have h1 : f_phi (f_pressed x i j) + f_sm (fun k => k * (f_go x i j k).toNat) 64 = f_phi x + f_sm (fun k => k * (f_go x i j (st + k)).toNat) 64 := by
    unfold f_phi
    rw [← f_sm_add, ← f_sm_add]
    refine f_sm_ext 64 (fun k hk => ?_)
    rw [f_pressed_b hi hj hk, ← est, ← Nat.mul_add, ← Nat.mul_add]
    congr 1
    cases hg : f_go x i j k
    · cases hg2 : f_go x i j (st + k)
      · cases f_b x k <;> rfl
      · have := (f_go_lo hi hj hg2).2.2.2.2
        rw [← est, show st + k - st = k by omega] at this
        rw [this]; rfl
    · have h2 := (f_go_lo hi hj hg).2.2.2.1
      rw [h2]
      cases hg2 : f_go x i j (st + k)
      · rfl
      · have := (f_go_lo hi hj hg2).2.2.2.2
        rw [← est, show st + k - st = k by omega, h2] at this
        exact Bool.noConfusion this
  have h2 : f_sm (fun k => k * (f_go x i j k).toNat) 64 = f_sm (fun k => (st + k) * (f_go x i j (st + k)).toNat) 64 := by
    have a1 : f_sm (fun k => k * (f_go x i j k).toNat) 64 = f_sm (fun k => (st + k) * (f_go x i j (st + k)).toNat) (64 - st) := by
      have := f_sm_app (fun k => k * (f_go x i j k).toNat) st (64 - st)
      rw [show st + (64 - st) = 64 by omega] at this
      rw [this, f_sm_zero st, Nat.zero_add]
      intro k hk
      cases hg : f_go x i j k
      · exact Nat.mul_zero _
      · have := (f_go_lo hi hj hg).1; omega
    have a2 := f_sm_app (fun k => (st + k) * (f_go x i j (st + k)).toNat) (64 - st) st
    rw [show 64 - st + st = 64 by omega] at a2
    rw [a1, a2, f_sm_zero st (fun k hk => by rw [f_go_hi (by omega)]; exact Nat.mul_zero _), Nat.add_zero]
  have h3 : f_sm (fun k => (st + k) * (f_go x i j (st + k)).toNat) 64 = st * f_sm (fun k => (f_go x i j (st + k)).toNat) 64 + f_sm (fun k => k * (f_go x i j (st + k)).toNat) 64 := by
    have hm : ∀ (c : Nat) (g : Nat → Nat) t, c * f_sm g t = f_sm (fun k => c * g k) t := by
      intro c g t
      induction t with
      | zero => rfl
      | succ t ih => rw [f_sm, f_sm, Nat.mul_add, ih]
    rw [hm, ← f_sm_add]
    exact f_sm_ext 64 (fun k _ => Nat.add_mul _ _ _)
  rw [← est]
  omega
theorem f_sm_0 {g : Nat → Nat} : ∀ t, f_sm g t = 0 → ∀ k, k < t → g k = 0 := by
  intro t
  induction t with
  | zero => intro _ k hk; omega
  | succ t ih =>
    intro h k hk
    rw [f_sm] at h
    by_cases e : k = t
    · subst e; omega
    · exact ih (by omega) k (by omega)
theorem f_press_phi {x : Int64} {i j : Nat} (hi : i < j) (hj : j < 6) : f_phi (f_pressed x i j) ≤ f_phi x ∧ (f_phi (f_pressed x i j) = f_phi x → f_pressed x i j = x) := by
  have h := f_phi_press (x := x) hi hj
  obtain ⟨es, hs, h0⟩ := f_step j hj i hi
  refine ⟨by omega, fun e => ?_⟩
  have h1 : f_sm (fun k => (f_go x i j (2 ^ j - 2 ^ i + k)).toNat) 64 = 0 := by
    rcases Nat.eq_zero_or_pos (f_sm (fun k => (f_go x i j (2 ^ j - 2 ^ i + k)).toNat) 64) with q | q
    · exact q
    · have := Nat.mul_pos h0 q; omega
  have h2 := f_sm_0 64 h1
  have h3 : ∀ k, f_go x i j (2 ^ j - 2 ^ i + k) = false := by
    intro k
    rcases Nat.lt_or_ge k 64 with q | q
    · have := h2 k q
      cases hg : f_go x i j (2 ^ j - 2 ^ i + k)
      · rfl
      · rw [hg] at this; exact absurd this (by decide)
    · exact f_go_hi (by omega)
  refine f_b_ext (fun k hk => ?_)
  rw [f_pressed_b hi hj hk, h3 k, Bool.or_false]
  cases hg : f_go x i j k
  · rw [Bool.not_false, Bool.and_true]
  · have h4 := (f_go_lo hi hj hg).1
    have := h3 (k - (2 ^ j - 2 ^ i))
    rw [show 2 ^ j - 2 ^ i + (k - (2 ^ j - 2 ^ i)) = k by omega, hg] at this
    exact Bool.noConfusion this

theorem f_pI_M {n j : Nat} {x : Int64} (hn : n ≤ 6) (hx : f_in (2 ^ n) x) (hj : j < n) : ∀ i, i ≤ j → f_pressI x j i = f_pI n x j i ∧ f_in (2 ^ n) (f_pressI x j i) := by
  intro i
  induction i with
  | zero => intro _; exact ⟨rfl, hx⟩
  | succ i ih =>
    intro h
    have h1 := ih (by omega)
    rw [f_pressI, f_pI, f_pressed_M hn h1.2 (by omega) hj, ← h1.1]
    exact ⟨rfl, by rw [← f_pressed_M hn h1.2 (by omega) hj]; exact f_pressed_in hn h1.2 (by omega) hj⟩
theorem f_pJ_M {n : Nat} {x : Int64} (hn : n ≤ 6) (hx : f_in (2 ^ n) x) : ∀ j, j < n → f_pressJ x j = f_pJ n x j ∧ f_in (2 ^ n) (f_pressJ x j) := by
  intro j
  induction j with
  | zero => intro _; exact ⟨rfl, hx⟩
  | succ j ih =>
    intro h
    have h1 := ih (by omega)
    have h2 := f_pI_M hn h1.2 h (j + 1) (Nat.le_refl _)
    rw [f_pressJ, f_pJ, ← h1.1]
    exact ⟨h2.1, h2.2⟩
theorem f_phiI {n j : Nat} {x : Int64} (hn : n ≤ 6) (hx : f_in (2 ^ n) x) (hj : j < n) : ∀ i, i ≤ j → f_phi (f_pressI x j i) ≤ f_phi x ∧ (f_phi (f_pressI x j i) = f_phi x → f_pressI x j i = x ∧ (∀ i', i' < i → f_pressed x i' j = x) ∧ f_roundI x j i = 0) := by
  intro i
  induction i with
  | zero => intro _; exact ⟨Nat.le_refl _, fun _ => ⟨rfl, fun i' h => absurd h (Nat.not_lt_zero i'), rfl⟩⟩
  | succ i ih =>
    intro h
    have h1 := ih (by omega)
    have h2 := f_press_phi (x := f_pressI x j i) (i := i) (j := j) (by omega) (by omega)
    have e0 : f_pressI x j (i + 1) = f_pressed (f_pressI x j i) i j := rfl
    refine ⟨by rw [e0]; omega, fun e => ?_⟩
    rw [e0] at e
    have e1 := h1.2 (by omega)
    have e2 := h2.2 (by omega)
    rw [e1.1] at e2
    refine ⟨by rw [e0, e1.1, e2], fun i' hi' => ?_, ?_⟩
    · by_cases hh : i' = i
      · subst hh; exact e2
      · exact e1.2.1 i' (by omega)
    · rw [f_roundI, e1.2.2, e0, e1.1, e2, if_pos rfl]
theorem f_phiJ {n : Nat} {x : Int64} (hn : n ≤ 6) (hx : f_in (2 ^ n) x) : ∀ j, j < n → f_phi (f_pressJ x j) ≤ f_phi x ∧ (f_phi (f_pressJ x j) = f_phi x → f_pressJ x j = x ∧ (∀ j', j' < j → ∀ i', i' < j' + 1 → f_pressed x i' (j' + 1) = x) ∧ f_roundJ x j = 0) := by
  intro j
  induction j with
  | zero => intro _; exact ⟨Nat.le_refl _, fun _ => ⟨rfl, fun i' h => absurd h (Nat.not_lt_zero i'), rfl⟩⟩
  | succ j ih =>
    intro h
    have h1 := ih (by omega)
    have hin := (f_pJ_M hn hx j (by omega)).2
    have h2 := f_phiI hn hin h (j + 1) (Nat.le_refl _)
    have e0 : f_pressJ x (j + 1) = f_pressI (f_pressJ x j) (j + 1) (j + 1) := rfl
    refine ⟨by rw [e0]; omega, fun e => ?_⟩
    rw [e0] at e
    have e1 := h1.2 (by omega)
    have e2 := h2.2 (by omega)
    rw [e1.1] at e2
    refine ⟨by rw [e0, e1.1, e2.1], fun j' hj' => ?_, ?_⟩
    · by_cases hh : j' = j
      · subst hh; exact e2.2.1
      · exact e1.2.1 j' (by omega)
    · rw [f_roundJ, e1.2.2, e1.1, e2.2.2]
theorem f_roundI_0 {j : Nat} {x : Int64} : ∀ i, f_roundI x j i = 0 → f_pressI x j i = x := by
  intro i
  induction i with
  | zero => intro _; rfl
  | succ i ih =>
    intro h
    rw [f_roundI] at h
    have h1 := ih (by omega)
    by_cases e : f_pressI x j (i + 1) = f_pressI x j i
    · rw [e, h1]
    · rw [if_neg e] at h; omega
theorem f_roundJ_0 {x : Int64} : ∀ j, f_roundJ x j = 0 → f_pressJ x j = x := by
  intro j
  induction j with
  | zero => intro _; rfl
  | succ j ih =>
    intro h
    rw [f_roundJ] at h
    have h1 := ih (by omega)
    have h2 := f_roundI_0 (j + 1) (show f_roundI (f_pressJ x j) (j + 1) (j + 1) = 0 by omega)
    rw [f_pressJ, h2, h1]
theorem f_roundI_le {x : Int64} {j : Nat} : ∀ i, f_roundI x j i ≤ i := by
  intro i
  induction i with
  | zero => exact Nat.le_refl _
  | succ i ih => rw [f_roundI]; split <;> omega
theorem f_roundJ_le {x : Int64} : ∀ j, f_roundJ x j ≤ j * (j + 1) := by
  intro j
  induction j with
  | zero => exact Nat.le_refl _
  | succ j ih =>
    rw [f_roundJ]
    have h1 := f_roundI_le (x := f_pressJ x j) (j := j + 1) (j + 1)
    have h2 : (j + 1) * (j + 1 + 1) = j * (j + 1) + 2 * (j + 1) := by rw [← Nat.add_mul, Nat.mul_comm]
    omega
theorem f_alF_T {a : Bool} {c : Nat → Bool} : ∀ t, f_alF a c t = true ↔ a = true ∧ ∀ s, s < t → c s = true := by
  intro t
  induction t with
  | zero => exact ⟨fun h => ⟨h, fun s hs => absurd hs (Nat.not_lt_zero s)⟩, fun h => h.1⟩
  | succ t ih =>
    rw [f_alF, Bool.and_eq_true, ih]
    constructor
    · rintro ⟨⟨h0, h1⟩, h2⟩
      refine ⟨h0, fun s hs => ?_⟩
      by_cases h : s = t
      · subst h; exact h2
      · exact h1 s (by omega)
    · rintro ⟨h0, h⟩
      exact ⟨⟨h0, fun s hs => h s (by omega)⟩, h t (by omega)⟩
theorem f_arM_T {n : Nat} {x : Int64} : ∀ t, f_arM n x t = true ↔ ∀ j, j < t → ∀ i, i < j + 1 → f_prM n x i (j + 1) = x := by
  intro t
  induction t with
  | zero => exact ⟨fun _ j h => absurd h (Nat.not_lt_zero j), fun _ => rfl⟩
  | succ t ih =>
    rw [f_arM, f_alF_T, ih]
    constructor
    · rintro ⟨h0, h1⟩ j hj i hi
      by_cases h : j = t
      · subst h; exact of_decide_eq_true (h1 i hi)
      · exact h0 j (by omega) i hi
    · intro h
      exact ⟨fun j hj => h j (by omega), fun i hi => decide_eq_true (h t (by omega) i hi)⟩
/-- at rest: pressed by all it stays -/
theorem f_ar_iff {n : Nat} {x : Int64} (hn : n ≤ 6) (hn0 : 0 < n) (hx : f_in (2 ^ n) x) : f_arM n x (n - 1) = true ↔ f_pressAll x n = x := by
  rw [f_arM_T]
  unfold f_pressAll
  constructor
  · intro h
    have key : ∀ j, j < n → f_pressJ x j = x := by
      intro j
      induction j with
      | zero => intro _; rfl
      | succ j ih =>
        intro hj
        rw [f_pressJ, ih (by omega)]
        have k2 : ∀ i, i ≤ j + 1 → f_pressI x (j + 1) i = x := by
          intro i
          induction i with
          | zero => intro _; rfl
          | succ i ih2 =>
            intro hi
            rw [f_pressI, ih2 (by omega), f_pressed_M hn hx (by omega) hj]
            exact h j (by omega) i (by omega)
        exact k2 (j + 1) (Nat.le_refl _)
    exact key (n - 1) (by omega)
  · intro h j hj i hi
    have h1 := ((f_phiJ hn hx (n - 1) (by omega)).2 (by rw [h])).2.1 j hj i hi
    rw [← f_pressed_M hn hx (by omega) (by omega)]
    exact h1
theorem f_rJ_M {n r : Nat} {x : Int64} (hn : n ≤ 6) (hx : f_in (2 ^ n) x) : ∀ j, j < n → f_rJ n x r j = r + f_roundJ x j := by
  intro j
  induction j with
  | zero => intro _; rfl
  | succ j ih =>
    intro h
    have h0 := f_pJ_M hn hx j (by omega)
    have k2 : ∀ (r : Nat) i, i ≤ j + 1 → f_rI n (f_pJ n x j) (j + 1) r i = r + f_roundI (f_pressJ x j) (j + 1) i := by
      intro r i
      induction i with
      | zero => intro _; rfl
      | succ i ih2 =>
        intro hi
        rw [f_rI, f_roundI, ih2 (by omega)]
        have a1 := (f_pI_M hn h0.2 h i (by omega)).1
        have a2 := (f_pI_M hn h0.2 h (i + 1) hi).1
        rw [← h0.1, ← a1, ← a2]
        by_cases e : f_pressI (f_pressJ x j) (j + 1) (i + 1) = f_pressI (f_pressJ x j) (j + 1) i
        · rw [if_pos e, decide_eq_true e]; rfl
        · rw [if_neg e, decide_eq_false e]; show _ + 1 = _; omega
    rw [f_rJ, k2 _ (j + 1) (Nat.le_refl _), ih (by omega), f_roundJ]
    omega
theorem f_rest_M {n : Nat} (hn : n ≤ 6) (hn0 : 0 < n) : ∀ (t : Nat) (x : Int64) (r : Nat), f_in (2 ^ n) x → f_phi x ≤ t → (f_rsM n t x r).1 = f_rest n t x ∧ f_arM n (f_rsM n t x r).1 (n - 1) = true ∧ f_rounds n t x (nI r) = nI (f_rsM n t x r).2 ∧ f_in (2 ^ n) (f_rsM n t x r).1 := by
  intro t
  induction t with
  | zero =>
    intro x r hx h
    have h1 := f_phiJ hn hx (n - 1) (by omega)
    exact ⟨rfl, (f_ar_iff hn hn0 hx).mpr (h1.2 (by omega)).1, rfl, hx⟩
  | succ t ih =>
    intro x r hx h
    have hJ := f_pJ_M hn hx (n - 1) (by omega)
    have h1 := f_phiJ hn hx (n - 1) (by omega)
    have hr := f_rJ_M (r := r) hn hx (n - 1) (by omega)
    have hle := f_roundJ_le (x := x) (n - 1)
    have hle2 : (n - 1) * (n - 1 + 1) ≤ 5 * 6 := Nat.mul_le_mul (by omega) (by omega)
    have hadd : nI r + nI (f_roundJ x (n - 1)) = nI (r + f_roundJ x (n - 1)) := (Int32.ofNat_add _ _).symm
    cases e : f_arM n x (n - 1)
    · have h2 : ¬ f_pressAll x n = x := fun z => by rw [(f_ar_iff hn hn0 hx).mpr z] at e; exact Bool.noConfusion e
      have h3 : f_phi (f_pressJ x (n - 1)) < f_phi x := by
        rcases Nat.lt_or_ge (f_phi (f_pressJ x (n - 1))) (f_phi x) with q | q
        · exact q
        · exact absurd (h1.2 (by omega)).1 h2
      have h4 : ¬ nI r + nI (f_roundJ x (n - 1)) = nI r := by
        intro z
        have z2 : nI (f_roundJ x (n - 1)) = 0 := by
          have := congrArg (fun q => q - nI r) z
          rw [Int32.sub_self, Int32.add_comm, Int32.add_sub_cancel] at this
          exact this
        have z3 := congrArg Int32.toNatClampNeg z2
        have : (nI (f_roundJ x (n - 1))).toNatClampNeg = f_roundJ x (n - 1) := by
          have : ∀ k, k < 31 → (nI k).toNatClampNeg = k := by decide +kernel
          exact this _ (by omega)
        rw [this] at z3
        exact h2 (f_roundJ_0 (n - 1) z3)
      have e1 : f_rsM n (t + 1) x r = f_rsM n t (f_pressJ x (n - 1)) (r + f_roundJ x (n - 1)) := by rw [f_rsM, e, cond_false, ← hJ.1, hr]
      have e2 : f_rest n (t + 1) x = f_rest n t (f_pressJ x (n - 1)) := by rw [f_rest, if_neg h2]; rfl
      have e3 : f_rounds n (t + 1) x (nI r) = f_rounds n t (f_pressJ x (n - 1)) (nI (r + f_roundJ x (n - 1))) := by rw [f_rounds, if_neg h4, hadd]; rfl
      rw [e1, e2, e3]
      exact ih _ _ hJ.2 (by omega)
    · have h2 := (f_ar_iff hn hn0 hx).mp e
      have h5 := (h1.2 (by rw [show f_pressJ x (n - 1) = x from h2])).2.2
      have e1 : f_rsM n (t + 1) x r = (x, r) := by rw [f_rsM, e, cond_true]
      have e2 : f_rest n (t + 1) x = x := by rw [f_rest, if_pos h2]
      have e3 : f_rounds n (t + 1) x (nI r) = nI r := by rw [f_rounds, hadd, h5, Nat.add_zero, if_pos rfl]
      rw [e1, e2, e3]
      exact ⟨rfl, e, rfl, hx⟩
