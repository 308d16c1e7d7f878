/-! Both sides alike: kinds of families, is, profile -/
theorem f_or_mk {c : Nat → Bool} {at9 : Nat → Nat} {p k : Nat} (hp : p ≤ 64) (hk : k < 64) (h : ∀ s, s < p → at9 s < 64) : f_b (f_or (fun s => cond (c s) (f_sl 1 (nI (at9 s))) 0) p) k = true ↔ ∃ s, s < p ∧ c s = true ∧ k = at9 s := by
  rw [f_b_or_p, f_ex_T]
  constructor
  · rintro ⟨s, h1, h2⟩
    rw [f_b_cond1 (h s h1) hk, Bool.and_eq_true, decide_eq_true_eq] at h2
    exact ⟨s, h1, h2.1, h2.2⟩
  · rintro ⟨s, h1, h2, h3⟩
    exact ⟨s, h1, by rw [f_b_cond1 (h s h1) hk, h2, decide_eq_true h3]; rfl⟩
theorem f_or_self {c : Nat → Bool} {p k : Nat} (hp : p ≤ 64) (hk : k < 64) : f_b (f_or (fun s => cond (c s) (f_sl 1 (nI s)) 0) p) k = (decide (k < p) && c k) := by
  apply Bool.eq_iff_iff.mpr
  rw [f_or_mk (at9 := fun s => s) hp hk (fun s h => by omega), Bool.and_eq_true, decide_eq_true_eq]
  constructor
  · rintro ⟨s, h1, h2, h3⟩; subst h3; exact ⟨h1, h2⟩
  · rintro ⟨h1, h2⟩; exact ⟨k, h1, h2, rfl⟩
theorem f_popI : ∀ s, s < 64 → f_bcI (nI s) = nI (f_pop (nI s).toInt64) ∧ f_pop (nI s).toInt64 ≤ 6 := by decide +kernel
theorem f_nIinj {a b : Nat} (ha : a < 2 ^ 31) (hb : b < 2 ^ 31) (h : nI a = nI b) : a = b := by
  have h1 := congrArg Int32.toNatClampNeg h
  have h2 : ∀ k, k < 2 ^ 31 → (nI k).toNatClampNeg = k := by
    intro k hk
    unfold nI Int32.toNatClampNeg
    rw [Int32.toInt_ofNat_of_lt (by omega)]
    exact Int.toNat_natCast k
  rw [h2 a ha, h2 b hb] at h1
  exact h1
theorem f_ofSize_b {z k : Nat} (hz : z < 100) (hk : k < 64) : ∀ t, t ≤ 64 → f_b (f_ofSize (nI z) t) k = (decide (k < t) && decide (f_pop (nI k).toInt64 = z)) := by
  intro t
  induction t with
  | zero => intro _; rw [f_ofSize, f_b_0]; rfl
  | succ t ih =>
    intro ht
    have hp := f_popI t (by omega)
    rw [f_ofSize]
    by_cases h : f_bcI (nI t) = nI z
    · have h1 : f_pop (nI t).toInt64 = z := f_nIinj (by omega) (by omega) (by rw [← hp.1]; exact h)
      rw [if_pos h, f_b_or, ih (by omega), f_b_one (by omega) hk]
      by_cases e : k = t
      · subst e; rw [decide_eq_true h1, decide_eq_true rfl, decide_eq_true (show k < k + 1 by omega)]; simp
      · rw [decide_eq_false e, Bool.or_false]
        by_cases h2 : k < t
        · rw [decide_eq_true h2, decide_eq_true (show k < t + 1 by omega)]
        · rw [decide_eq_false h2, decide_eq_false (show ¬ k < t + 1 by omega)]
    · have h1 : ¬ f_pop (nI t).toInt64 = z := fun q => h (by rw [hp.1, q])
      rw [if_neg h, ih (by omega)]
      by_cases e : k = t
      · subst e; rw [decide_eq_false h1, Bool.and_false, Bool.and_false]
      · by_cases h2 : k < t
        · rw [decide_eq_true h2, decide_eq_true (show k < t + 1 by omega)]
        · rw [decide_eq_false h2, decide_eq_false (show ¬ k < t + 1 by omega)]
theorem f_own_in (n : Nat) (t : Int64) : f_in (2 ^ n) (t &&& f_all (2 ^ n)) := by
  intro k hk
  rcases Nat.lt_or_ge k 64 with q | q
  · rw [f_b_and, f_b_all q, decide_eq_false (by omega), Bool.and_false]
  · exact f_b_hi q
theorem f_in_of {p : Nat} {x : Int64} (h : ∀ k, k < 64 → p ≤ k → f_b x k = false) : f_in p x := by
  intro k hk
  rcases Nat.lt_or_ge k 64 with q | q
  · exact h k q hk
  · exact f_b_hi q
theorem f_cc {x y : Int64} (a b : Bool) : cond a (cond b x y) y = cond (a && b) x y := by cases a <;> cases b <;> rfl
theorem f_kd3 (n g : Nat) (own : Int64) : f_kd 3 n g own = fun s => cond (f_b own s && decide (f_pop (nI s).toInt64 = g)) (f_sl 1 (nI s)) 0 := funext (fun s => f_cc (f_b own s) (decide (f_pop (nI s).toInt64 = g)))
theorem f_kd4 (n g : Nat) (own : Int64) : f_kd 4 n g own = fun s => cond (f_b own s && decide (f_pop (nI s).toInt64 = g)) (f_sl 1 (nI s)) 0 := funext (fun s => f_cc (f_b own s) (decide (f_pop (nI s).toInt64 = g)))
theorem f_kd1 (n g : Nat) (own : Int64) : f_kd 1 n g own = fun s => cond (!f_b own s) (f_sl 1 (nI s)) 0 := funext (fun s => by
  show cond (f_b own s) 0 (f_sl 1 (nI s)) = cond (!f_b own s) (f_sl 1 (nI s)) 0
  cases f_b own s
  · rw [Bool.not_false, cond_false, cond_true]
  · rw [Bool.not_true, cond_false, cond_true])
theorem f_lev {n g q : Nat} {own : Int64} (hp : 2 ^ n ≤ 64) (ho : f_in (2 ^ n) own) (hg : g < 10) (hq : q < 64) : f_b (own &&& f_ofSize (nI g) 64) q = f_b (f_or (fun s => cond (f_b own s && decide (f_pop (nI s).toInt64 = g)) (f_sl 1 (nI s)) 0) (2 ^ n)) q := by
  rw [f_or_self hp hq, f_b_and, f_ofSize_b (by omega) hq 64 (Nat.le_refl _), decide_eq_true hq, Bool.true_and]
  generalize decide (f_pop (nI q).toInt64 = g) = d
  cases h : f_b own q
  · rw [Bool.false_and, Bool.and_false]
  · rw [decide_eq_true (ho.lt h), Bool.true_and, Bool.true_and]
theorem f_setsOf_M {n k g : Nat} {t : Int64} (hn : n ≤ 6) (hk : k < 6) (hg : g < 10) : f_setsOf n k (nI g) t = f_sB k n g t ∧ f_in (2 ^ n) (f_setsOf n k (nI g) t) := by
  have hp : 2 ^ n ≤ 64 := Nat.pow_le_pow_right (by decide) hn
  have h0 := Nat.two_pow_pos n
  have ho := f_own_in n t
  obtain ⟨own, eo⟩ : ∃ own, own = t &&& f_all (2 ^ n) := ⟨_, rfl⟩
  rw [← eo] at ho
  match k, hk with
  | 0, _ =>
    show t &&& f_all (2 ^ n) = f_or (f_kd 0 n g (t &&& f_all (2 ^ n))) (2 ^ n) ∧ f_in (2 ^ n) (t &&& f_all (2 ^ n))
    rw [← eo]
    refine ⟨f_b_ext (fun q hq => ?_), ho⟩
    have e1 : f_kd 0 n g own = fun s => cond (f_b own s) (f_sl 1 (nI s)) 0 := rfl
    rw [e1, f_or_self hp hq]
    cases h : f_b own q
    · simp
    · rw [decide_eq_true (ho.lt h)]; rfl
  | 1, _ =>
    show f_all (2 ^ n) &&& ((t &&& f_all (2 ^ n)) ^^^ (-1)) = f_or (f_kd 1 n g (t &&& f_all (2 ^ n))) (2 ^ n) ∧ f_in (2 ^ n) (f_all (2 ^ n) &&& ((t &&& f_all (2 ^ n)) ^^^ (-1)))
    rw [← eo]
    refine ⟨f_b_ext (fun q hq => ?_), f_in_of (fun q hq hh => by rw [f_b_and, f_b_all hq, decide_eq_false (by omega), Bool.false_and])⟩
    rw [f_kd1, f_or_self hp hq, f_b_and, f_b_all hq, f_b_not hq]
  | 2, _ =>
    show f_turned (t &&& f_all (2 ^ n)) n = f_or (f_kd 2 n g (t &&& f_all (2 ^ n))) (2 ^ n) ∧ f_in (2 ^ n) (f_turned (t &&& f_all (2 ^ n)) n)
    rw [← eo]
    have hin : f_in (2 ^ n) (f_turned own n) := f_in_of (fun q hq hh => by rw [f_turned_b n hn q hq]; exact ho _ (f_xge hn hh))
    refine ⟨f_b_ext (fun q hq => Bool.eq_iff_iff.mpr ?_), hin⟩
    have e1 : f_kd 2 n g own = fun s => cond (f_b own s) (f_sl 1 (nI (2 ^ n - 1 - s))) 0 := rfl
    rw [e1, f_or_mk (at9 := fun s => 2 ^ n - 1 - s) hp hq (fun s h => by omega)]
    constructor
    · intro h
      have hq2 := hin.lt h
      rw [f_turned_b n hn q hq, f_comp n (by omega) q hq2] at h
      exact ⟨_, by omega, h, by omega⟩
    · rintro ⟨s, h1, h2, h3⟩
      rw [f_turned_b n hn q hq, f_comp n (by omega) q (by omega), show 2 ^ n - 1 - q = s by omega]; exact h2
  | 3, _ =>
    show t &&& f_all (2 ^ n) &&& f_ofSize (nI g) 64 = f_or (f_kd 3 n g (t &&& f_all (2 ^ n))) (2 ^ n) ∧ f_in (2 ^ n) (t &&& f_all (2 ^ n) &&& f_ofSize (nI g) 64)
    rw [← eo]
    refine ⟨f_b_ext (fun q hq => ?_), f_in_of (fun q hq hh => by rw [f_b_and, ho q hh, Bool.false_and])⟩
    rw [f_kd3]; exact f_lev hp ho hg hq
  | 4, _ =>
    show f_parts (t &&& f_all (2 ^ n) &&& f_ofSize (nI g) 64) n = f_or (fun s => cond (f_ex (fun o => f_b (f_or (f_kd 4 n g (t &&& f_all (2 ^ n))) (2 ^ n)) o && decide (s &&& o = s)) (2 ^ n)) (f_sl 1 (nI s)) 0) (2 ^ n) ∧ f_in (2 ^ n) (f_parts (t &&& f_all (2 ^ n) &&& f_ofSize (nI g) 64) n)
    rw [← eo]
    have e1 : f_or (f_kd 4 n g own) (2 ^ n) = own &&& f_ofSize (nI g) 64 := by
      refine f_b_ext (fun q hq => ?_)
      rw [f_kd4]; exact (f_lev hp ho hg hq).symm
    rw [e1]
    obtain ⟨y, ey⟩ : ∃ y, y = own &&& f_ofSize (nI g) 64 := ⟨_, rfl⟩
    have hy : f_in (2 ^ n) y := f_in_of (fun q hq hh => by rw [ey, f_b_and, ho q hh, Bool.false_and])
    rw [← ey]
    have hin : f_in (2 ^ n) (f_parts y n) := by
      refine f_in_of (fun q hq hh => ?_)
      cases hb : f_b (f_parts y n) q
      · rfl
      · obtain ⟨s, h1, h2, h3⟩ := (f_parts_in hn hy hq).mp hb
        have := f_in_lt_sub h1 h3
        omega
    refine ⟨f_b_ext (fun q hq => ?_), hin⟩
    rw [f_or_self hp hq]
    apply Bool.eq_iff_iff.mpr
    rw [Bool.and_eq_true, decide_eq_true_eq, f_ex_T, f_parts_in hn hy hq]
    constructor
    · rintro ⟨s, h1, h2, h3⟩
      exact ⟨f_in_lt_sub h1 h3, s, h1, by rw [h2, decide_eq_true h3]; rfl⟩
    · rintro ⟨h0, s, h1, h2⟩
      rw [Bool.and_eq_true, decide_eq_true_eq] at h2
      exact ⟨s, h1, h2.1, h2.2⟩
  | 5, _ =>
    show f_mirror (f_turned (t &&& f_all (2 ^ n)) n) n (n / 2) = f_or (f_kd 5 n g (t &&& f_all (2 ^ n))) (2 ^ n) ∧ f_in (2 ^ n) (f_mirror (f_turned (t &&& f_all (2 ^ n)) n) n (n / 2))
    rw [← eo]
    have hb : ∀ q, q < 64 → f_b (f_mirror (f_turned own n) n (n / 2)) q = f_b own (f_mu n (n / 2) q ^^^ (2 ^ n - 1)) := by
      intro q hq
      rw [f_mirror_b hn (n / 2) (Nat.le_refl _) q hq, f_turned_b n hn _ (f_mu_ok n (by omega) q hq).2.2]
    have hin : f_in (2 ^ n) (f_mirror (f_turned own n) n (n / 2)) := f_in_of (fun q hq hh => by rw [hb q hq]; exact ho _ (f_xge hn ((f_mu_ok n (by omega) q hq).2.1 hh)))
    refine ⟨f_b_ext (fun q hq => Bool.eq_iff_iff.mpr ?_), hin⟩
    have e1 : f_kd 5 n g own = fun s => cond (f_b own s) (f_sl 1 (nI (f_mirM n (2 ^ n - 1 - s) n))) 0 := rfl
    rw [e1, f_or_mk (at9 := fun s => f_mirM n (2 ^ n - 1 - s) n) hp hq (fun s h => by
      have := ((f_mu_ok n (by omega) (2 ^ n - 1 - s) (by omega)).1 (by omega)).2.1
      omega)]
    constructor
    · intro h
      have hq2 := hin.lt h
      have hm := (f_mu_ok n (by omega) q hq).1 hq2
      rw [hb q hq, hm.1, f_comp n (by omega) _ hm.2.1] at h
      refine ⟨2 ^ n - 1 - f_mirM n q n, by omega, h, ?_⟩
      rw [show 2 ^ n - 1 - (2 ^ n - 1 - f_mirM n q n) = f_mirM n q n by omega]
      exact hm.2.2.symm
    · rintro ⟨s, h1, h2, h3⟩
      have hm := (f_mu_ok n (by omega) (2 ^ n - 1 - s) (by omega)).1 (by omega)
      have hq2 : q < 2 ^ n := by rw [h3]; exact hm.2.1
      have hm2 := (f_mu_ok n (by omega) q hq).1 hq2
      rw [hb q hq, hm2.1, f_comp n (by omega) _ hm2.2.1, h3, hm.2.2, show 2 ^ n - 1 - (2 ^ n - 1 - s) = s by omega]
      exact h2

/-- profile -/
theorem f_pfM_sm (x : Int64) (z : Nat) : ∀ t, f_pfM x z t = f_sm (fun s => (f_b x s && decide (f_pop (nI s).toInt64 = z)).toNat) t := by
  intro t
  induction t with
  | zero => rfl
  | succ t ih => rw [f_pfM, f_sm, ih]
theorem f_profile_M {n z : Nat} {x : Int64} (hn : n ≤ 6) (hz : z < 100) (hx : f_in (2 ^ n) x) : f_bcL (x &&& f_ofSize (nI z) 64) = nI (f_pfM x z (2 ^ n)) := by
  have hp : 2 ^ n ≤ 64 := Nat.pow_le_pow_right (by decide) hn
  have hin : f_in (2 ^ n) (x &&& f_ofSize (nI z) 64) := f_in_of (fun q hq hh => by rw [f_b_and, hx q hh, Bool.false_and])
  rw [f_bcL_pop, f_pop_in hp hin, f_pfM_sm]
  congr 1
  refine f_sm_ext _ (fun k hk => ?_)
  rw [f_b_and, f_ofSize_b hz (by omega) 64 (Nat.le_refl _), decide_eq_true (show k < 64 by omega), Bool.true_and]
/-- is -/
theorem f_isM_T {w p : Nat} {x : Int64} : ∀ t, f_isM w p x t = true ↔ ∀ s, s < t → f_b x s = true → ∀ o, o < p → f_isc w x s o = true := by
  intro t
  induction t with
  | zero => exact ⟨fun _ s h => absurd h (Nat.not_lt_zero s), fun _ => rfl⟩
  | succ t ih =>
    rw [f_isM]
    cases hx : f_b x t
    · rw [cond_false, ih]
      constructor
      · intro h s hs hxs
        by_cases e : s = t
        · subst e; rw [hx] at hxs; exact Bool.noConfusion hxs
        · exact h s (by omega) hxs
      · intro h s hs; exact h s (by omega)
    · rw [cond_true, f_alF_T, ih]
      constructor
      · rintro ⟨h1, h2⟩ s hs hxs
        by_cases e : s = t
        · subst e; exact h2
        · exact h1 s (by omega) hxs
      · intro h
        exact ⟨fun s hs => h s (by omega), h t (by omega) hx⟩
theorem f_isI {a b : Bool} {P : Prop} [Decidable P] (h : P ↔ a = true) : (if P then (1 : Int32) else 0) = f_i a := by
  by_cases e : P
  · rw [if_pos e, h.mp e]; rfl
  · rw [if_neg e]
    cases ha : a
    · rfl
    · exact absurd (h.mpr ha) e
theorem f_and0 {x y : Int64} : x &&& y = 0 ↔ ∀ k, k < 64 → f_b x k = true → f_b y k = false := by
  constructor
  · intro h k hk hx
    have := congrArg (fun z => f_b z k) h
    rw [f_b_and, f_b_0, hx, Bool.true_and] at this
    exact this
  · intro h
    refine f_b_ext (fun k hk => ?_)
    rw [f_b_and, f_b_0]
    cases hx : f_b x k
    · rfl
    · rw [h k hk hx]; rfl
theorem f_is2_M {n : Nat} {x : Int64} (hn : n ≤ 6) (hx : f_in (2 ^ n) x) : (f_parts x n = x) ↔ f_isM 2 (2 ^ n) x (2 ^ n) = true := by
  have hp : 2 ^ n ≤ 64 := Nat.pow_le_pow_right (by decide) hn
  rw [f_isM_T]
  constructor
  · intro h s hs hxs o ho
    show (!decide (s &&& o = o) || f_b x o) = true
    cases hd : decide (s &&& o = o)
    · rfl
    · have h1 : f_b (f_parts x n) o = true := (f_parts_in hn hx (by omega)).mpr ⟨s, hs, hxs, by rw [Nat.and_comm]; exact of_decide_eq_true hd⟩
      rw [h] at h1; rw [h1]; rfl
  · intro h
    refine f_b_ext (fun k hk => Bool.eq_iff_iff.mpr ?_)
    rw [f_parts_in hn hx hk]
    constructor
    · rintro ⟨s, h1, h2, h3⟩
      have h4 : (!decide (s &&& k = k) || f_b x k) = true := h s h1 h2 k (f_in_lt_sub h1 h3)
      rw [decide_eq_true (show s &&& k = k by rw [Nat.and_comm]; exact h3)] at h4
      exact h4
    · intro hk2
      exact ⟨k, hx.lt hk2, hk2, Nat.and_self k⟩
theorem f_turned_in {n : Nat} {x : Int64} (hn : n ≤ 6) (hx : f_in (2 ^ n) x) : f_in (2 ^ n) (f_turned x n) := f_in_of (fun q hq hh => by rw [f_turned_b n hn q hq]; exact hx _ (f_xge hn hh))
theorem f_shadow_in {n : Nat} {x : Int64} (hn : n ≤ 6) (hx : f_in (2 ^ n) x) : f_in (2 ^ n) (f_shadow x n) := by
  refine f_in_of (fun q hq hh => ?_)
  cases hb : f_b (f_shadow x n) q
  · rfl
  · obtain ⟨e, h1, h2, h3⟩ := (f_shadow_b hq n hn).mp hb
    have h4 := hx.lt h3
    have h5 : q ^^^ 2 ^ e ^^^ 2 ^ e < 2 ^ n := Nat.xor_lt_two_pow h4 (Nat.pow_lt_pow_right (by decide) h1)
    rw [f_xx] at h5; omega
theorem f_compl : ∀ n, n < 7 → ∀ s, s < 2 ^ n → ∀ k, k < 2 ^ n → (decide (k &&& (2 ^ n - 1 - s) = k) == decide (s &&& k = 0)) = true := by decide +kernel
theorem f_is1_M {n : Nat} {x : Int64} (hn : n ≤ 6) (hx : f_in (2 ^ n) x) : (f_parts (f_turned x n) n &&& x = 0) ↔ f_isM 1 (2 ^ n) x (2 ^ n) = true := by
  have hp : 2 ^ n ≤ 64 := Nat.pow_le_pow_right (by decide) hn
  have ht := f_turned_in hn hx
  rw [f_isM_T, f_and0]
  constructor
  · intro h s hs hxs o ho
    show (!f_b x o || !decide (s &&& o = 0)) = true
    cases hxo : f_b x o
    · rfl
    · cases hd : decide (s &&& o = 0)
      · rfl
      · have hc := f_compl n (by omega) s hs o ho
        rw [hd] at hc
        have h1 : f_b (f_parts (f_turned x n) n) o = true := (f_parts_in hn ht (by omega)).mpr ⟨2 ^ n - 1 - s, by omega, by
          rw [f_turned_b n hn _ (by omega), f_comp n (by omega) _ (by omega), show 2 ^ n - 1 - (2 ^ n - 1 - s) = s by omega]; exact hxs, by
          cases hz : decide (o &&& (2 ^ n - 1 - s) = o)
          · rw [hz] at hc; exact Bool.noConfusion hc
          · exact of_decide_eq_true hz⟩
        have h2 := h o (by omega) h1
        rw [hxo] at h2; exact Bool.noConfusion h2
  · intro h k hk hkp
    obtain ⟨u, h1, h2, h3⟩ := (f_parts_in hn ht hk).mp hkp
    have hkn := f_in_lt_sub h1 h3
    cases hxk : f_b x k
    · rfl
    · rw [f_turned_b n hn u (by omega), f_comp n (by omega) u h1] at h2
      have h4 : (!f_b x k || !decide ((2 ^ n - 1 - u) &&& k = 0)) = true := h (2 ^ n - 1 - u) (by omega) h2 k hkn
      have hc := f_compl n (by omega) (2 ^ n - 1 - u) (by omega) k hkn
      rw [show 2 ^ n - 1 - (2 ^ n - 1 - u) = u by omega, decide_eq_true h3] at hc
      rw [hxk] at h4
      cases hz : decide ((2 ^ n - 1 - u) &&& k = 0)
      · rw [hz] at hc; exact Bool.noConfusion hc
      · rw [hz] at h4; exact Bool.noConfusion h4
theorem f_is0_M {n : Nat} {x : Int64} (hn : n ≤ 6) (hx : f_in (2 ^ n) x) : (f_parts (f_shadow x n) n &&& x = 0) ↔ f_isM 0 (2 ^ n) x (2 ^ n) = true := by
  have hp : 2 ^ n ≤ 64 := Nat.pow_le_pow_right (by decide) hn
  have hs := f_shadow_in hn hx
  rw [f_isM_T, f_and0]
  constructor
  · intro h s hs2 hxs o ho
    show (!f_b x o || (decide (s = o) || !decide (s &&& o = s))) = true
    cases hxo : f_b x o
    · rfl
    · cases hd : decide (s &&& o = s)
      · simp
      · by_cases e : s = o
        · rw [decide_eq_true e]; rfl
        · -- a part of another
          exfalso
          have hd2 := of_decide_eq_true hd
          obtain ⟨b, hb1, hb2⟩ : ∃ b, Nat.testBit o b = true ∧ Nat.testBit s b = false := by
            refine Classical.byContradiction (fun hno => e ?_)
            have hall : ∀ b, Nat.testBit o b = true → Nat.testBit s b = true := fun b hb => by
              cases hz : Nat.testBit s b
              · exact absurd ⟨b, hb, hz⟩ hno
              · rfl
            have := f_sub_iff.mp hall
            rw [Nat.and_comm, hd2] at this; exact this
          have hbn : b < n := by
            rcases Nat.lt_or_ge b n with q | q
            · exact q
            · have : Nat.testBit o b = false := Nat.testBit_lt_two_pow (Nat.lt_of_lt_of_le ho (Nat.pow_le_pow_right (by decide) q))
              rw [this] at hb1; exact Bool.noConfusion hb1
          have hu : f_b (f_shadow x n) (o ^^^ 2 ^ b) = true := (f_shadow_b (f_x64 (by omega) (by omega)) n hn).mpr ⟨b, hbn, by rw [f_tx, hb1, decide_eq_true rfl]; rfl, by rw [f_xx]; exact hxo⟩
          have hup : s &&& (o ^^^ 2 ^ b) = s := by
            refine f_sub_iff.mp (fun c hc => ?_)
            rw [f_tx]
            have hc2 := (f_sub_iff.mpr hd2) c hc
            by_cases ec : b = c
            · subst ec; rw [hb2] at hc; exact Bool.noConfusion hc
            · rw [decide_eq_false ec, Bool.xor_false]; exact hc2
          have h1 := h s (by omega) ((f_parts_in hn hs (by omega)).mpr ⟨o ^^^ 2 ^ b, hs.lt hu, hu, hup⟩)
          rw [hxs] at h1; exact Bool.noConfusion h1
  · intro h k hk hkp
    obtain ⟨u, h1, h2, h3⟩ := (f_parts_in hn hs hk).mp hkp
    obtain ⟨e, he, hue, hxv⟩ := (f_shadow_b (by omega) n hn).mp h2
    cases hxk : f_b x k
    · rfl
    · have hkn := f_in_lt_sub h1 h3
      have hv := hx.lt hxv
      have h4 : (!f_b x (u ^^^ 2 ^ e) || (decide (k = u ^^^ 2 ^ e) || !decide (k &&& (u ^^^ 2 ^ e) = k))) = true := h k hkn hxk _ hv
      have hsub : k &&& (u ^^^ 2 ^ e) = k := by
        refine f_sub_iff.mp (fun c hc => ?_)
        have hc2 := (f_sub_iff.mpr h3) c hc
        rw [f_tx]
        by_cases ec : e = c
        · subst ec; rw [hue] at hc2; exact Bool.noConfusion hc2
        · rw [decide_eq_false ec, Bool.xor_false]; exact hc2
      have hne : ¬ k = u ^^^ 2 ^ e := by
        intro z
        have hke : Nat.testBit k e = true := by rw [z, f_tx, hue, decide_eq_true rfl]; rfl
        have := (f_sub_iff.mpr h3) e hke
        rw [hue] at this; exact Bool.noConfusion this
      rw [hxv, decide_eq_false hne, decide_eq_true hsub] at h4
      exact Bool.noConfusion h4
