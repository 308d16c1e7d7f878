/-! Both sides alike: grids -/
theorem f_nIadd2 (a b : Nat) : nI a + nI b = nI (a + b) := (Int32.ofNat_add _ _).symm
theorem f_nImul2 (a b : Nat) : nI a * nI b = nI (a * b) := (Int32.ofNat_mul _ _).symm
theorem f_col_b {w q k t : Nat} (hw : 0 < w) (hq : q < w) (hk : k < 64) : ∀ t9, t9 ≤ t → w * t ≤ 64 → (f_b (f_column w (nI q) t9) k = (decide (k < w * t9) && decide (k % w = q))) := by
  intro t9
  induction t9 with
  | zero => intro _ _; rw [f_column, f_b_0, Nat.mul_zero]; rfl
  | succ t9 ih =>
    intro h h64
    have h2 : w * t9 + w ≤ 64 := by
      have : w * (t9 + 1) ≤ w * t := Nat.mul_le_mul_left _ h
      rw [Nat.mul_succ] at this; omega
    rw [f_column, f_nImul2, f_nIadd2, f_b_or, ih (by omega) h64, f_b_one (by omega) hk, Nat.mul_succ]
    by_cases e : k < w * t9
    · rw [decide_eq_true e, decide_eq_true (show k < w * t9 + w by omega), decide_eq_false (show ¬ k = q + w * t9 by omega), Bool.or_false]
    · rw [decide_eq_false e, Bool.false_and, Bool.false_or]
      by_cases e2 : k < w * t9 + w
      · have e3 : k % w = k - w * t9 := by
          obtain ⟨r, hr⟩ : ∃ r, k = w * t9 + r := ⟨k - w * t9, by omega⟩
          rw [hr, Nat.mul_add_mod, Nat.mod_eq_of_lt (by omega)]; omega
        rw [decide_eq_true e2, Bool.true_and, e3]
        exact decide_eq_decide.mpr (by omega)
      · rw [decide_eq_false e2, Bool.false_and]
        exact decide_eq_false (by omega)
/-- neighbours of a cell -/
def f_nb (w t c k : Nat) : Bool := (decide (0 < c % w) && decide (k + 1 = c)) || ((decide (c % w < w - 1) && decide (k = c + 1)) || ((decide (w ≤ c) && decide (k + w = c)) || (decide (c + w < w * t) && decide (k = c + w))))
theorem f_bes_b {w t c k : Nat} (hw0 : 0 < w) (hw : w ≤ 8) (hp : w * t ≤ 64) (hc : c < w * t) (hk : k < 64) (hc1 : c % w < w - 1 → c + 1 < 64) : f_b (f_besM w t c) k = f_nb w t c k := by
  have hm := Nat.mod_le c w
  unfold f_besM f_nb
  rw [f_b_or, f_b_or, f_b_or]
  have e1 : f_b (cond (decide (c % w ≤ 0)) 0 (f_sl 1 (nI (c - 1)))) k = (decide (0 < c % w) && decide (k + 1 = c)) := by
    by_cases h : c % w ≤ 0
    · rw [decide_eq_true h, decide_eq_false (by omega), cond_true, f_b_0]; rfl
    · rw [decide_eq_false h, decide_eq_true (by omega), cond_false, f_b_one (by omega) hk, Bool.true_and]
      exact decide_eq_decide.mpr (by omega)
  have e2 : f_b (cond (decide (c % w < w - 1)) (f_sl 1 (nI (c + 1))) 0) k = (decide (c % w < w - 1) && decide (k = c + 1)) := by
    by_cases h : c % w < w - 1
    · have := hc1 h
      rw [decide_eq_true h, cond_true, f_b_one (by omega) hk, Bool.true_and]
    · rw [decide_eq_false h, cond_false, f_b_0]; rfl
  have e3 : f_b (cond (decide (c < w)) 0 (f_sl 1 (nI (c - w)))) k = (decide (w ≤ c) && decide (k + w = c)) := by
    by_cases h : c < w
    · rw [decide_eq_true h, cond_true, f_b_0, decide_eq_false (by omega)]; rfl
    · rw [decide_eq_false h, cond_false, f_b_one (by omega) hk, decide_eq_true (show w ≤ c by omega), Bool.true_and]
      exact decide_eq_decide.mpr (by omega)
  have e4 : f_b (cond (decide (c + w < w * t)) (f_sl 1 (nI (c + w))) 0) k = (decide (c + w < w * t) && decide (k = c + w)) := by
    by_cases h : c + w < w * t
    · rw [decide_eq_true h, cond_true, f_b_one (by omega) hk, Bool.true_and]
    · rw [decide_eq_false h, cond_false, f_b_0]; rfl
  rw [e1, e2, e3, e4, Bool.or_assoc, Bool.or_assoc]
theorem f_row {w t c : Nat} (hw0 : 0 < w) (hc : c < w * t) (h : c % w < w - 1) : c + 1 < w * t ∧ (c + 1) % w = c % w + 1 := by
  have h1 := Nat.div_add_mod c w
  have h2 : c / w < t := Nat.div_lt_of_lt_mul hc
  have h3 : w * (c / w + 1) ≤ w * t := Nat.mul_le_mul_left _ h2
  rw [Nat.mul_succ] at h3
  have h4 : c + 1 = w * (c / w) + (c % w + 1) := by omega
  refine ⟨by omega, ?_⟩
  rw [h4, Nat.mul_add_mod, Nat.mod_eq_of_lt (by omega)]
theorem f_row2 {w c : Nat} (hw0 : 0 < w) (h : 0 < (c + 1) % w) : (c + 1) % w = c % w + 1 ∧ c % w < w - 1 := by
  have h1 := Nat.div_add_mod (c + 1) w
  have h5 := Nat.mod_lt (c + 1) hw0
  have h4 : c = w * ((c + 1) / w) + ((c + 1) % w - 1) := by omega
  have h6 : c % w = (c + 1) % w - 1 := by
    have : c % w = (w * ((c + 1) / w) + ((c + 1) % w - 1)) % w := by rw [← h4]
    rw [this, Nat.mul_add_mod, Nat.mod_eq_of_lt (by omega)]
  omega
theorem f_row3 {w c : Nat} (hw0 : 0 < w) : (0 < (c + 1) % w) ↔ (c % w < w - 1) := by
  constructor
  · intro h; exact (f_row2 hw0 h).2
  · intro h
    have h1 := Nat.div_add_mod c w
    have h4 : c + 1 = w * (c / w) + (c % w + 1) := by omega
    rw [h4, Nat.mul_add_mod, Nat.mod_eq_of_lt (by omega)]; omega
/-- a cell has a neighbour in x -/
theorem f_boC_b {w t k : Nat} {x : Int64} (hw0 : 0 < w) (hw : w ≤ 8) (hp : w * t ≤ 64) (hk : k < 64) : f_b (f_boC w t x) k = true ↔ (∃ c, c < w * t ∧ f_b x c = true ∧ f_nb w t c k = true) ∧ f_b x k = false := by
  unfold f_boC
  rw [f_b_and, f_b_not hk, Bool.and_eq_true, f_b_or_p, f_ex_T]
  have e1 : (!f_b x k) = true ↔ f_b x k = false := by cases f_b x k <;> simp
  rw [e1]
  constructor
  · rintro ⟨⟨c, h1, h2⟩, h3⟩
    cases hx : f_b x c
    · rw [hx, cond_false, f_b_0] at h2; exact Bool.noConfusion h2
    · rw [hx, cond_true, f_bes_b hw0 hw hp h1 hk (fun h => by have := (f_row hw0 h1 h).1; omega)] at h2
      exact ⟨⟨c, h1, hx, h2⟩, h3⟩
  · rintro ⟨⟨c, h1, h2, h4⟩, h3⟩
    refine ⟨⟨c, h1, ?_⟩, h3⟩
    rw [h2, cond_true, f_bes_b hw0 hw hp h1 hk (fun h => by have := (f_row hw0 h1 h).1; omega)]; exact h4
theorem f_col0 (w t : Nat) : f_column w 0 t = f_column w (nI 0) t := rfl
theorem f_borderG_M {w t : Nat} {x : Int64} (hw0 : 0 < w) (hw : w ≤ 8) (ht : t ≤ 8) (hx : f_in (w * t) x) : f_borderG w t x = f_boC w t x := by
  have hp : w * t ≤ 64 := Nat.mul_le_mul hw ht
  have e0 : nI w - 1 = nI (w - 1) := by
    have : nI w = nI (w - 1) + nI 1 := by rw [f_nIadd2, show w - 1 + 1 = w by omega]
    rw [this]; exact Int32.add_sub_cancel _ _
  refine f_b_ext (fun k hk => Bool.eq_iff_iff.mpr ?_)
  rw [f_boC_b hw0 hw hp hk]
  unfold f_borderG
  rw [e0, f_b_and, f_b_and, f_b_not hk, f_b_all hk, f_b_or, f_b_or, f_b_or, show (1 : Int32) = nI 1 from rfl, f_b_sr (by omega), f_b_sl (by omega) hk, f_b_sr (by omega), f_b_sl (by omega) hk]
  have hk1 : k - 1 < 64 := by omega
  have c1 : f_b (x &&& (f_column w 0 t ^^^ (-1))) (1 + k) = (f_b x (k + 1) && !decide ((k + 1) % w = 0)) := by
    rw [Nat.add_comm 1 k, f_b_and]
    rcases Nat.lt_or_ge (k + 1) 64 with q | q
    · rw [f_b_not q, f_col0, f_col_b (t := t) hw0 hw0 q t (Nat.le_refl _) hp]
      cases h : f_b x (k + 1)
      · rfl
      · simp only [decide_eq_true (hx.lt h), Bool.true_and]
    · rw [f_b_hi (x := x) q]; rfl
  have c2 : f_b (x &&& (f_column w (nI (w - 1)) t ^^^ (-1))) (k - 1) = (f_b x (k - 1) && !decide ((k - 1) % w = w - 1)) := by
    rw [f_b_and, f_b_not hk1, f_col_b (t := t) hw0 (by omega) hk1 t (Nat.le_refl _) hp]
    cases h : f_b x (k - 1)
    · rfl
    · simp only [decide_eq_true (hx.lt h), Bool.true_and]
  rw [c1, c2, Bool.and_eq_true, Bool.and_eq_true, Bool.or_eq_true, Bool.or_eq_true, Bool.or_eq_true, decide_eq_true_eq]
  have e1 : (!f_b x k) = true ↔ f_b x k = false := by cases f_b x k <;> simp
  rw [e1]
  constructor
  · rintro ⟨⟨h, hkp⟩, h3⟩
    refine ⟨?_, h3⟩
    rcases h with ((h | h) | h) | h
    · rw [Bool.and_eq_true] at h
      refine ⟨k + 1, hx.lt h.1, h.1, ?_⟩
      unfold f_nb
      rw [decide_eq_true (show 0 < (k + 1) % w by have := h.2; rcases Nat.eq_zero_or_pos ((k + 1) % w) with q | q; rw [q] at this; exact absurd this (by decide); exact q), decide_eq_true rfl]; rfl
    · rw [Bool.and_eq_true, Bool.and_eq_true, decide_eq_true_eq] at h
      refine ⟨k - 1, hx.lt h.2.1, h.2.1, ?_⟩
      have hm := Nat.mod_lt (k - 1) hw0
      have h4 : ¬ (k - 1) % w = w - 1 := fun z => by have := h.2.2; rw [decide_eq_true z] at this; exact Bool.noConfusion this
      unfold f_nb
      rw [decide_eq_true (show (k - 1) % w < w - 1 by omega), decide_eq_true (show k = k - 1 + 1 by omega)]
      simp
    · refine ⟨k + w, hx.lt (by rw [Nat.add_comm]; exact h), by rw [Nat.add_comm]; exact h, ?_⟩
      unfold f_nb
      rw [decide_eq_true (show w ≤ k + w by omega), decide_eq_true (show k + w = k + w from rfl)]
      simp
    · rw [Bool.and_eq_true, decide_eq_true_eq] at h
      refine ⟨k - w, hx.lt h.2, h.2, ?_⟩
      unfold f_nb
      rw [decide_eq_true (show k - w + w < w * t by omega), decide_eq_true (show k = k - w + w by omega)]
      simp
  · rintro ⟨⟨c, h1, h2, h4⟩, h3⟩
    unfold f_nb at h4
    rw [Bool.or_eq_true, Bool.or_eq_true, Bool.or_eq_true, Bool.and_eq_true, Bool.and_eq_true, Bool.and_eq_true, Bool.and_eq_true, decide_eq_true_eq, decide_eq_true_eq, decide_eq_true_eq, decide_eq_true_eq, decide_eq_true_eq, decide_eq_true_eq, decide_eq_true_eq, decide_eq_true_eq] at h4
    rcases h4 with h | h | h | h
    · refine ⟨⟨Or.inl (Or.inl (Or.inl ?_)), by omega⟩, h3⟩
      rw [h.2, h2, decide_eq_false (show ¬ c % w = 0 by omega)]; rfl
    · have hr := f_row hw0 h1 h.1
      refine ⟨⟨Or.inl (Or.inl (Or.inr ?_)), by omega⟩, h3⟩
      rw [show k - 1 = c by omega, h2, decide_eq_false (show ¬ c % w = w - 1 by omega), decide_eq_true (show 1 ≤ k by omega)]; rfl
    · refine ⟨⟨Or.inl (Or.inr ?_), by omega⟩, h3⟩
      rw [Nat.add_comm, h.2, h2]
    · refine ⟨⟨Or.inr ?_, by omega⟩, h3⟩
      rw [show k - w = c by omega, h2, decide_eq_true (show w ≤ k by omega)]; rfl

/-- edges: across and down -/
theorem f_edC_sm (w t : Nat) (x : Int64) : ∀ p, f_edC w t x p = f_sm (fun c => cond (f_b x c) (f_pop (f_besM w t c &&& (x ^^^ (-1)))) 0) p := by
  intro p
  induction p with
  | zero => rfl
  | succ p ih => rw [f_edC, f_sm, ih]
theorem f_sm_one {c : Nat → Bool} {z : Nat} : ∀ t, (∀ k, k < t → c k = true → k = z) → f_sm (fun k => (c k).toNat) t = (decide (z < t) && c z).toNat := by
  intro t
  induction t with
  | zero => intro _; rfl
  | succ t ih =>
    intro h
    rw [f_sm, ih (fun k hk => h k (by omega))]
    by_cases e : z = t
    · subst e
      rw [decide_eq_false (show ¬ z < z by omega), decide_eq_true (show z < z + 1 by omega), Bool.false_and, Bool.true_and]
      show 0 + _ = _
      omega
    · have h2 : c t = false := by
        cases hc : c t
        · rfl
        · exact absurd (h t (by omega) hc).symm e
      rw [h2]
      by_cases e2 : z < t
      · rw [decide_eq_true e2, decide_eq_true (show z < t + 1 by omega)]; rfl
      · rw [decide_eq_false e2, decide_eq_false (show ¬ z < t + 1 by omega)]; rfl
theorem f_bes_pop {w t c : Nat} {x : Int64} (hw0 : 0 < w) (hw : w ≤ 8) (hp : w * t ≤ 64) (hc : c < w * t) : f_pop (f_besM w t c &&& (x ^^^ (-1))) = (decide (0 < c % w) && !f_b x (c - 1)).toNat + (decide (c % w < w - 1) && !f_b x (c + 1)).toNat + ((decide (w ≤ c) && !f_b x (c - w)).toNat + (decide (c + w < w * t) && !f_b x (c + w)).toNat) := by
  have hm := Nat.mod_le c w
  have hmw := Nat.mod_lt c hw0
  have hc1 : c % w < w - 1 → c + 1 < 64 := fun h => by have := (f_row hw0 hc h).1; omega
  rw [f_pop_sm]
  have e1 : f_sm (fun k => (f_b (f_besM w t c &&& (x ^^^ (-1))) k).toNat) 64 = f_sm (fun k => (((decide (0 < c % w) && decide (k + 1 = c)) && !f_b x k).toNat + ((decide (c % w < w - 1) && decide (k = c + 1)) && !f_b x k).toNat) + (((decide (w ≤ c) && decide (k + w = c)) && !f_b x k).toNat + ((decide (c + w < w * t) && decide (k = c + w)) && !f_b x k).toNat)) 64 := by
    refine f_sm_ext 64 (fun k hk => ?_)
    rw [f_b_and, f_b_not hk, f_bes_b hw0 hw hp hc hk hc1]
    unfold f_nb
    cases f_b x k
    · by_cases h1 : 0 < c % w ∧ k + 1 = c
      · have q1 : ¬ k = c + 1 := by omega
        have q3 : ¬ k = c + w := by omega
        have q2 : (decide (w ≤ c) && decide (k + w = c)) = false := by
          by_cases z : k + w = c
          · have : w = 1 := by omega
            subst this
            rw [Nat.mod_one] at h1; omega
          · rw [decide_eq_false z, Bool.and_false]
        rw [decide_eq_true h1.1, decide_eq_true h1.2, decide_eq_false q1, decide_eq_false q3, q2]
        simp
      · have p1 : (decide (0 < c % w) && decide (k + 1 = c)) = false := by
          rw [← Bool.decide_and]; exact decide_eq_false h1
        rw [p1]
        by_cases h2 : c % w < w - 1 ∧ k = c + 1
        · have q2 : ¬ k + w = c := by omega
          have q3 : (decide (c + w < w * t) && decide (k = c + w)) = false := by
            by_cases z : k = c + w
            · have : w = 1 := by omega
              subst this; omega
            · rw [decide_eq_false z, Bool.and_false]
          rw [decide_eq_true h2.1, decide_eq_true h2.2, decide_eq_false q2, q3]
          simp
        · have p2 : (decide (c % w < w - 1) && decide (k = c + 1)) = false := by
            rw [← Bool.decide_and]; exact decide_eq_false h2
          rw [p2]
          by_cases h3 : w ≤ c ∧ k + w = c
          · rw [decide_eq_true h3.1, decide_eq_true h3.2, decide_eq_false (show ¬ k = c + w by omega)]
            simp
          · have p3 : (decide (w ≤ c) && decide (k + w = c)) = false := by
              rw [← Bool.decide_and]; exact decide_eq_false h3
            rw [p3]
            cases (decide (c + w < w * t) && decide (k = c + w)) <;> rfl
    · simp only [Bool.not_true, Bool.and_false]; rfl
  rw [e1, f_sm_add, f_sm_add, f_sm_add]
  have a1 : f_sm (fun k => ((decide (0 < c % w) && decide (k + 1 = c)) && !f_b x k).toNat) 64 = (decide (0 < c % w) && !f_b x (c - 1)).toNat := by
    by_cases h : 0 < c % w
    · rw [f_sm_one (z := c - 1) 64 (fun k hk hc9 => by
        rw [Bool.and_eq_true, Bool.and_eq_true, decide_eq_true_eq, decide_eq_true_eq] at hc9; omega)]
      rw [decide_eq_true h, decide_eq_true (show c - 1 < 64 by omega), decide_eq_true (show c - 1 + 1 = c by omega), Bool.true_and, Bool.true_and]
    · rw [decide_eq_false h, Bool.false_and]
      exact f_sm_zero 64 (fun k _ => by rw [Bool.false_and, Bool.false_and]; rfl)
  have a2 : f_sm (fun k => ((decide (c % w < w - 1) && decide (k = c + 1)) && !f_b x k).toNat) 64 = (decide (c % w < w - 1) && !f_b x (c + 1)).toNat := by
    by_cases h : c % w < w - 1
    · have := hc1 h
      rw [f_sm_one (z := c + 1) 64 (fun k hk hc9 => by
        rw [Bool.and_eq_true, Bool.and_eq_true, decide_eq_true_eq, decide_eq_true_eq] at hc9; omega)]
      rw [decide_eq_true h, decide_eq_true (show c + 1 < 64 by omega), decide_eq_true (show c + 1 = c + 1 by omega), Bool.true_and, Bool.true_and]
    · rw [decide_eq_false h, Bool.false_and]
      exact f_sm_zero 64 (fun k _ => by rw [Bool.false_and, Bool.false_and]; rfl)
  have a3 : f_sm (fun k => ((decide (w ≤ c) && decide (k + w = c)) && !f_b x k).toNat) 64 = (decide (w ≤ c) && !f_b x (c - w)).toNat := by
    by_cases h : w ≤ c
    · rw [f_sm_one (z := c - w) 64 (fun k hk hc9 => by
        rw [Bool.and_eq_true, Bool.and_eq_true, decide_eq_true_eq, decide_eq_true_eq] at hc9; omega)]
      rw [decide_eq_true h, decide_eq_true (show c - w < 64 by omega), decide_eq_true (show c - w + w = c by omega), Bool.true_and, Bool.true_and]
    · rw [decide_eq_false h, Bool.false_and]
      exact f_sm_zero 64 (fun k _ => by rw [Bool.false_and, Bool.false_and]; rfl)
  have a4 : f_sm (fun k => ((decide (c + w < w * t) && decide (k = c + w)) && !f_b x k).toNat) 64 = (decide (c + w < w * t) && !f_b x (c + w)).toNat := by
    by_cases h : c + w < w * t
    · rw [f_sm_one (z := c + w) 64 (fun k hk hc9 => by
        rw [Bool.and_eq_true, Bool.and_eq_true, decide_eq_true_eq, decide_eq_true_eq] at hc9; omega)]
      rw [decide_eq_true h, decide_eq_true (show c + w < 64 by omega), decide_eq_true (show c + w = c + w by omega), Bool.true_and, Bool.true_and]
    · rw [decide_eq_false h, Bool.false_and]
      exact f_sm_zero 64 (fun k _ => by rw [Bool.false_and, Bool.false_and]; rfl)
  rw [a1, a2, a3, a4]
theorem f_sh1 {g : Nat → Nat} {p d : Nat} (h : ∀ k, p ≤ k + d → k < p → g k = 0) (hd : d ≤ p) : f_sm g p = f_sm g (p - d) := by
  have := f_sm_app g (p - d) d
  rw [show p - d + d = p by omega] at this
  rw [this, f_sm_zero d (fun k hk => h _ (by omega) (by omega)), Nat.add_zero]
/-- sums over what has one d further on, and one d before -/
theorem f_shift {g : Nat → Nat} {p d : Nat} (h : ∀ k, k < d → g k = 0) (hd : d ≤ p) : f_sm g p = f_sm (fun k => g (k + d)) (p - d) := by
  have := f_sm_app g d (p - d)
  rw [show d + (p - d) = p by omega] at this
  rw [this, f_sm_zero d h, Nat.zero_add]
  exact f_sm_ext _ (fun k _ => by rw [Nat.add_comm])
theorem f_edgesG_M {w t : Nat} {x : Int64} (hw0 : 0 < w) (ht0 : 0 < t) (hw : w ≤ 8) (ht : t ≤ 8) (hx : f_in (w * t) x) : f_edgesG w t x = nI (f_edC w t x (w * t)) := by
  have hp : w * t ≤ 64 := Nat.mul_le_mul hw ht
  have hwp : w ≤ w * t := Nat.le_mul_of_pos_right w ht0
  have e0 : nI w - 1 = nI (w - 1) := by
    have : nI w = nI (w - 1) + nI 1 := by rw [f_nIadd2, show w - 1 + 1 = w by omega]
    rw [this]; exact Int32.add_sub_cancel _ _
  obtain ⟨A, eA⟩ : ∃ A, A = (x ^^^ f_sr x 1) &&& (f_column w (nI w - 1) t ^^^ (-1)) &&& f_all (w * t) := ⟨_, rfl⟩
  obtain ⟨D, eD⟩ : ∃ D, D = (x ^^^ f_sr x (nI w)) &&& f_sr (f_all (w * t)) (nI w) := ⟨_, rfl⟩
  have hA : ∀ k, k < 64 → f_b A k = ((f_b x k ^^ f_b x (k + 1)) && (decide (k % w < w - 1) && decide (k < w * t))) := by
    intro k hk
    rw [eA, e0, f_b_and, f_b_and, f_b_xor, f_b_not hk, f_b_all hk, f_col_b (t := t) hw0 (by omega) hk t (Nat.le_refl _) hp, show (1 : Int32) = nI 1 from rfl, f_b_sr (by omega), Nat.add_comm 1 k]
    by_cases q : k < w * t
    · have hm := Nat.mod_lt k hw0
      rw [decide_eq_true q, Bool.true_and, Bool.and_true, Bool.and_true]
      congr 1
      by_cases z : k % w = w - 1
      · rw [decide_eq_true z, decide_eq_false (by omega)]; rfl
      · rw [decide_eq_false z, decide_eq_true (by omega)]; rfl
    · rw [decide_eq_false q, Bool.and_false, Bool.and_false, Bool.and_false]
  have hD : ∀ k, k < 64 → f_b D k = ((f_b x k ^^ f_b x (k + w)) && decide (k + w < w * t)) := by
    intro k hk
    rw [eD, f_b_and, f_b_xor, f_b_sr (by omega), f_b_sr (by omega), Nat.add_comm w k]
    congr 1
    rcases Nat.lt_or_ge (k + w) 64 with q | q
    · rw [f_b_all q]
    · rw [f_b_hi q, decide_eq_false (by omega)]
  have iA : f_in (w * t) A := f_in_of (fun q hq hh => by rw [hA q hq, decide_eq_false (show ¬ q < w * t by omega), Bool.and_false, Bool.and_false])
  have iD : f_in (w * t) D := f_in_of (fun q hq hh => by rw [hD q hq, decide_eq_false (show ¬ q + w < w * t by omega), Bool.and_false])
  unfold f_edgesG
  rw [← eA, ← eD, f_bcL_pop, f_bcL_pop, f_nIadd2, f_pop_in hp iA, f_pop_in hp iD, f_edC_sm]
  congr 1
  have e1 : f_sm (fun c => cond (f_b x c) (f_pop (f_besM w t c &&& (x ^^^ (-1)))) 0) (w * t) = f_sm (fun c => ((f_b x c && (decide (0 < c % w) && !f_b x (c - 1))).toNat + (f_b x c && (decide (c % w < w - 1) && !f_b x (c + 1))).toNat) + ((f_b x c && (decide (w ≤ c) && !f_b x (c - w))).toNat + (f_b x c && (decide (c + w < w * t) && !f_b x (c + w))).toNat)) (w * t) := by
    refine f_sm_ext _ (fun c hc => ?_)
    rw [f_bes_pop hw0 hw hp hc]
    cases f_b x c
    · rfl
    · simp only [cond_true, Bool.true_and]
  rw [e1, f_sm_add, f_sm_add, f_sm_add]
  congr 1
  · have s1 : f_sm (fun c => (f_b x c && (decide (0 < c % w) && !f_b x (c - 1))).toNat) (w * t) = f_sm (fun c => (f_b x (c + 1) && (decide (c % w < w - 1) && !f_b x c)).toNat) (w * t - 1) := by
      rw [f_shift (d := 1) (fun k hk => by rw [show k = 0 by omega, Nat.zero_mod]; simp) (by omega)]
      refine f_sm_ext _ (fun k hk => ?_)
      show (f_b x (k + 1) && (decide (0 < (k + 1) % w) && !f_b x (k + 1 - 1))).toNat = _
      rw [show k + 1 - 1 = k by omega]
      congr 3
      exact decide_eq_decide.mpr (f_row3 hw0)
    have s2 : f_sm (fun c => (f_b x (c + 1) && (decide (c % w < w - 1) && !f_b x c)).toNat) (w * t) = f_sm (fun c => (f_b x (c + 1) && (decide (c % w < w - 1) && !f_b x c)).toNat) (w * t - 1) :=
      f_sh1 (fun k h1 h2 => by rw [hx (k + 1) (by omega)]; rfl) (by omega)
    rw [s1, ← s2, ← f_sm_add]
    refine f_sm_ext _ (fun k hk => ?_)
    rw [hA k (by omega), decide_eq_true hk, Bool.and_true]
    cases f_b x k <;> cases f_b x (k + 1) <;> cases decide (k % w < w - 1) <;> rfl
  · have s1 : f_sm (fun c => (f_b x c && (decide (w ≤ c) && !f_b x (c - w))).toNat) (w * t) = f_sm (fun c => (f_b x (c + w) && !f_b x c).toNat) (w * t - w) := by
      rw [f_shift (d := w) (fun k hk => by rw [decide_eq_false (show ¬ w ≤ k by omega)]; simp) hwp]
      refine f_sm_ext _ (fun k hk => ?_)
      show (f_b x (k + w) && (decide (w ≤ k + w) && !f_b x (k + w - w))).toNat = _
      rw [show k + w - w = k by omega, decide_eq_true (show w ≤ k + w by omega), Bool.true_and]
    have s2 : f_sm (fun c => (f_b x (c + w) && !f_b x c).toNat) (w * t) = f_sm (fun c => (f_b x (c + w) && !f_b x c).toNat) (w * t - w) :=
      f_sh1 (fun k h1 h2 => by rw [hx (k + w) (by omega)]; rfl) hwp
    rw [s1, ← s2, ← f_sm_add]
    refine f_sm_ext _ (fun k hk => ?_)
    rw [hD k (by omega)]
    by_cases q : k + w < w * t
    · rw [decide_eq_true q, Bool.true_and, Bool.and_true]
      cases f_b x k <;> cases f_b x (k + w) <;> rfl
    · rw [decide_eq_false q, hx (k + w) (by omega)]
      cases f_b x k <;> rfl
