/-! Both sides alike: orders -/
def f_c0 (t s : Nat) : Bool := f_ah0 (nI t) (nI s) == decide (nI t < nI s)
def f_c1 (t s : Nat) : Bool := f_ah1 (nI t) (nI s) == decide (f_leK (nI t) < f_leK (nI s))
def f_c2 (t s : Nat) : Bool := f_ah2 (nI t) (nI s) == decide (f_bcI (nI t) * 64 + nI t < f_bcI (nI s) * 64 + nI s)
def f_c3 (n t s : Nat) : Bool := f_ah3 (nI t) (nI s) (nI (2 ^ (n - 1))) == decide (f_keyC n 3 (nI t) < f_keyC n 3 (nI s))
theorem f_ord0 : ∀ t, t < 64 → ∀ s, s < 64 → (decide (t = s) || f_c0 t s) = true := by decide +kernel
theorem f_ord1 : ∀ t, t < 64 → ∀ s, s < 64 → (decide (t = s) || f_c1 t s) = true := by decide +kernel
theorem f_ord2 : ∀ t, t < 64 → ∀ s, s < 64 → (decide (t = s) || f_c2 t s) = true := by decide +kernel
theorem f_ord3_1 : ∀ t, t < 2 → ∀ s, s < 2 → (decide (t = s) || f_c3 1 t s) = true := by decide +kernel
theorem f_ord3_2 : ∀ t, t < 4 → ∀ s, s < 4 → (decide (t = s) || f_c3 2 t s) = true := by decide +kernel
theorem f_ord3_3 : ∀ t, t < 8 → ∀ s, s < 8 → (decide (t = s) || f_c3 3 t s) = true := by decide +kernel
theorem f_ord3_4 : ∀ t, t < 16 → ∀ s, s < 16 → (decide (t = s) || f_c3 4 t s) = true := by decide +kernel
theorem f_ord3_5 : ∀ t, t < 32 → ∀ s, s < 32 → (decide (t = s) || f_c3 5 t s) = true := by decide +kernel
theorem f_ord3_6a : ∀ t, t < 16 → ∀ s, s < 64 → (decide (t + 0 = s) || f_c3 6 (t + 0) s) = true := by decide +kernel
theorem f_ord3_6b : ∀ t, t < 16 → ∀ s, s < 64 → (decide (t + 16 = s) || f_c3 6 (t + 16) s) = true := by decide +kernel
theorem f_ord3_6c : ∀ t, t < 16 → ∀ s, s < 64 → (decide (t + 32 = s) || f_c3 6 (t + 32) s) = true := by decide +kernel
theorem f_ord3_6d : ∀ t, t < 16 → ∀ s, s < 64 → (decide (t + 48 = s) || f_c3 6 (t + 48) s) = true := by decide +kernel
theorem f_ord3_6 (t : Nat) (ht : t < 64) (s : Nat) (hs : s < 64) : (decide (t = s) || f_c3 6 t s) = true := by
  rcases Nat.lt_or_ge t 32 with h | h
  · rcases Nat.lt_or_ge t 16 with h2 | h2
    · exact f_ord3_6a t h2 s hs
    · have := f_ord3_6b (t - 16) (by omega) s hs; rw [show t - 16 + 16 = t by omega] at this; exact this
  · rcases Nat.lt_or_ge t 48 with h2 | h2
    · have := f_ord3_6c (t - 32) (by omega) s hs; rw [show t - 32 + 32 = t by omega] at this; exact this
    · have := f_ord3_6d (t - 48) (by omega) s hs; rw [show t - 48 + 48 = t by omega] at this; exact this
theorem f_ord3 (n : Nat) (hn : n < 7) : n = 0 ∨ ∀ t, t < 2 ^ n → ∀ s, s < 2 ^ n → (decide (t = s) || f_c3 n t s) = true := by
  match n, hn with
  | 0, _ => exact Or.inl rfl
  | 1, _ => exact Or.inr (fun t ht s hs => f_ord3_1 t (by omega) s (by omega))
  | 2, _ => exact Or.inr (fun t ht s hs => f_ord3_2 t (by omega) s (by omega))
  | 3, _ => exact Or.inr (fun t ht s hs => f_ord3_3 t (by omega) s (by omega))
  | 4, _ => exact Or.inr (fun t ht s hs => f_ord3_4 t (by omega) s (by omega))
  | 5, _ => exact Or.inr (fun t ht s hs => f_ord3_5 t (by omega) s (by omega))
  | 6, _ => exact Or.inr (fun t ht s hs => f_ord3_6 t (by omega) s (by omega))
theorem f_ordAll {n o t s : Nat} (hn : n ≤ 6) (hn0 : 0 < n) (ho : o < 4) (ht : t < 2 ^ n) (hs : s < 2 ^ n) : (!decide (t = s) && f_ahead o (nI t) (nI s) (nI (2 ^ (n - 1)))) = decide (f_keyC n o (nI t) < f_keyC n o (nI s)) := by
  have hp : 2 ^ n ≤ 64 := Nat.pow_le_pow_right (by decide) hn
  by_cases e : t = s
  · subst e
    rw [decide_eq_true rfl, decide_eq_false (fun z => absurd z (by rw [Int32.lt_iff_toInt_lt]; omega))]; rfl
  · rw [decide_eq_false e, Bool.not_false, Bool.true_and]
    match o, ho with
    | 0, _ =>
      have h := f_ord0 t (by omega) s (by omega)
      rw [decide_eq_false e, Bool.false_or] at h
      exact eq_of_beq h
    | 1, _ =>
      have h := f_ord1 t (by omega) s (by omega)
      rw [decide_eq_false e, Bool.false_or] at h
      exact eq_of_beq h
    | 2, _ =>
      have h := f_ord2 t (by omega) s (by omega)
      rw [decide_eq_false e, Bool.false_or] at h
      exact eq_of_beq h
    | 3, _ =>
      rcases f_ord3 n (by omega) with h0 | h0
      · omega
      · have h := h0 t ht s hs
        rw [decide_eq_false e, Bool.false_or] at h
        exact eq_of_beq h
theorem f_rank_M {n o s : Nat} {f : Nat → Int32} (hn : n ≤ 6) (hn0 : 0 < n) (ho : o < 4) (hf : ∀ j, j < 2 ^ n → f j = f_keyC n o (nI j)) (hs : s < 2 ^ n) : ∀ t, t ≤ 2 ^ n → f_rank f s t = f_plM o n s t := by
  intro t
  induction t with
  | zero => intro _; rfl
  | succ t ih =>
    intro ht
    rw [f_rank, f_plM, f_ordAll hn hn0 ho (by omega) hs, ih (by omega), hf t (by omega), hf s hs]
    by_cases e : f_keyC n o (nI t) < f_keyC n o (nI s)
    · rw [if_pos e, decide_eq_true e]; rfl
    · rw [if_neg e, decide_eq_false e]; rfl
theorem f_nIlt {a b : Nat} (ha : a < 2 ^ 31) (hb : b < 2 ^ 31) : (nI a < nI b) ↔ a < b := by
  rw [Int32.lt_iff_toInt_lt]
  unfold nI
  rw [Int32.toInt_ofNat_of_lt (by omega), Int32.toInt_ofNat_of_lt (by omega)]
  omega
theorem f_firsts_or {f : Nat → Int32} {p m : Nat} (hp : p ≤ 64) (hm : m ≤ 64) {r : Nat → Nat} (hr : ∀ s, s < p → f_rank f s p = r s ∧ r s < 1000) : ∀ t, t ≤ p → f_firsts f p (nI m) t = f_or (fun s => cond (decide (r s < m)) (f_sl 1 (nI s)) 0) t := by
  intro t
  induction t with
  | zero => intro _; rfl
  | succ t ih =>
    intro ht
    have h := hr t (by omega)
    rw [f_firsts, f_or, ih (by omega), h.1]
    by_cases e : r t < m
    · rw [if_pos ((f_nIlt (by omega) (by omega)).mpr e), decide_eq_true e, cond_true]
    · rw [if_neg (fun z => e ((f_nIlt (by omega) (by omega)).mp z)), decide_eq_false e, cond_false]
      refine f_b_ext (fun k hk => ?_)
      rw [f_b_or, f_b_0, Bool.or_false]
theorem f_plM_le2 (o n s : Nat) : ∀ t, f_plM o n s t ≤ t := by
  intro t
  induction t with
  | zero => exact Nat.le_refl _
  | succ t ih => rw [f_plM]; have := Bool.toNat_le (!decide (t = s) && f_ahead o (nI t) (nI s) (nI (2 ^ (n - 1)))); omega
theorem f_firsts_M {n o m : Nat} {f : Nat → Int32} (hn : n ≤ 6) (hn0 : 0 < n) (ho : o < 4) (hf : ∀ j, j < 2 ^ n → f j = f_keyC n o (nI j)) (hm : m ≤ 2 ^ n) : f_firsts f (2 ^ n) (nI m) (2 ^ n) = f_fiM o n m := by
  have hp : 2 ^ n ≤ 64 := Nat.pow_le_pow_right (by decide) hn
  unfold f_fiM
  exact f_firsts_or hp (by omega) (fun s hs => ⟨f_rank_M hn hn0 ho hf hs _ (Nat.le_refl _), by have := f_plM_le2 o n s (2 ^ n); omega⟩) _ (Nat.le_refl _)
theorem f_fiM_in {n o m : Nat} (hn : n ≤ 6) : f_in (2 ^ n) (f_fiM o n m) := by
  have hp : 2 ^ n ≤ 64 := Nat.pow_le_pow_right (by decide) hn
  refine f_in_of (fun q hq hh => ?_)
  unfold f_fiM
  rw [f_or_self (c := fun s => decide (f_plM o n s (2 ^ n) < m)) hp hq, decide_eq_false (by omega), Bool.false_and]
theorem f_odM_hit {o n s : Nat} {y : Int32} : ∀ t q, q + t = 2 ^ n → q ≤ s → s < 2 ^ n → nI (f_plM o n s (2 ^ n)) = y → (∀ z, q ≤ z → z < s → ¬ nI (f_plM o n z (2 ^ n)) = y) → f_odM o n y t q = nI s := by
  intro t
  induction t with
  | zero => intro q h1 h2 h3; omega
  | succ t ih =>
    intro q h1 h2 h3 h4 h5
    rw [f_odM]
    by_cases e : q = s
    · subst e; rw [decide_eq_true h4, cond_true]
    · rw [decide_eq_false (h5 q (Nat.le_refl _) (by omega)), cond_false]
      exact ih (q + 1) (by omega) (by omega) h3 h4 (fun z a b => h5 z (by omega) b)
theorem f_odM_miss {o n : Nat} {y : Int32} : ∀ t q, q + t = 2 ^ n → (∀ z, q ≤ z → z < 2 ^ n → ¬ nI (f_plM o n z (2 ^ n)) = y) → f_odM o n y t q = -2 := by
  intro t
  induction t with
  | zero => intro q h1 h2; rfl
  | succ t ih =>
    intro q h1 h2
    rw [f_odM, decide_eq_false (h2 q (Nat.le_refl _) (by omega)), cond_false]
    exact ih (q + 1) (by omega) (fun z a b => h2 z (by omega) b)
/-- the grid's ranks -/
theorem f_nIsub {a b : Nat} (h : b ≤ a) : nI a - nI b = nI (a - b) := by
  obtain ⟨c, rfl⟩ : ∃ c, a = c + b := ⟨a - b, by omega⟩
  have e1 : nI (c + b) = nI c + nI b := Int32.ofNat_add _ _
  rw [e1, Int32.add_sub_cancel, Nat.add_sub_cancel]
theorem f_nIadd (a b : Nat) : nI a + nI b = nI (a + b) := (Int32.ofNat_add _ _).symm
theorem f_nImul (a b : Nat) : nI a * nI b = nI (a * b) := (Int32.ofNat_mul _ _).symm
theorem f_nIdiv : ∀ a, a < 64 → ∀ w, w < 9 → 0 < w → nI a / nI w = nI (a / w) := by decide +kernel
theorem f_keyG_N {w o c : Nat} (hw0 : 0 < w) (hw : w ≤ 8) (hc : c < 64) : f_keyG w o (nI c) = nI (match o with | 1 => (c % w + c / w) * 8 + c % w | 2 => (cond (decide (c % w < c / w)) (c / w) (c % w)) * 64 + c | _ => c) := by
  have h1 : nI c / nI w = nI (c / w) := f_nIdiv c hc w (by omega) hw0
  have h3 := Nat.div_add_mod c w
  have h2 : nI c - nI c / nI w * nI w = nI (c % w) := by
    rw [h1, f_nImul, f_nIsub (by rw [Nat.mul_comm]; omega)]
    congr 1
    rw [Nat.mul_comm]; omega
  have h4 := Nat.mod_lt c hw0
  have h5 := Nat.div_le_self c w
  match o with
  | 0 => rfl
  | 1 =>
    show (nI c - nI c / nI w * nI w + nI c / nI w) * 8 + (nI c - nI c / nI w * nI w) = _
    rw [h2, h1, f_nIadd, show (8 : Int32) = nI 8 from rfl, f_nImul, f_nIadd]; rfl
  | 2 =>
    show (if nI c - nI c / nI w * nI w < nI c / nI w then nI c / nI w else nI c - nI c / nI w * nI w) * 64 + nI c = _
    rw [h2, h1]
    by_cases e : c % w < c / w
    · rw [if_pos ((f_nIlt (by omega) (by omega)).mpr e), show (64 : Int32) = nI 64 from rfl, f_nImul, f_nIadd]
      congr 1
      rw [decide_eq_true e, cond_true]; rfl
    · rw [if_neg (fun z => e ((f_nIlt (by omega) (by omega)).mp z)), show (64 : Int32) = nI 64 from rfl, f_nImul, f_nIadd]
      congr 1
      rw [decide_eq_false e, cond_false]; rfl
  | o + 3 => rfl
theorem f_rkG {w o a b : Nat} (hw0 : 0 < w) (hw : w ≤ 8) (ho : o < 3) (ha : a < 64) (hb : b < 64) : decide (f_keyG w o (nI a) < f_keyG w o (nI b)) = decide (f_rkM w o a < f_rkM w o b) := by
  rw [f_keyG_N hw0 hw ha, f_keyG_N hw0 hw hb]
  have h1 := Nat.mod_lt a hw0
  have h2 := Nat.mod_lt b hw0
  have h3 := Nat.div_le_self a w
  have h4 := Nat.div_le_self b w
  match o, ho with
  | 0, _ => exact decide_eq_decide.mpr (f_nIlt (a := a) (b := b) (by omega) (by omega))
  | 1, _ =>
    refine decide_eq_decide.mpr (Iff.trans (f_nIlt (a := (a % w + a / w) * 8 + a % w) (b := (b % w + b / w) * 8 + b % w) (by omega) (by omega)) ?_)
    show _ ↔ 64 * (a % w + a / w) + a % w < 64 * (b % w + b / w) + b % w
    rcases Nat.lt_trichotomy (a % w + a / w) (b % w + b / w) with q | q | q <;> omega
  | 2, _ =>
    have e1 : cond (decide (a % w < a / w)) (a / w) (a % w) ≤ 64 := by cases decide (a % w < a / w) <;> simp only [cond_true, cond_false] <;> omega
    have e2 : cond (decide (b % w < b / w)) (b / w) (b % w) ≤ 64 := by cases decide (b % w < b / w) <;> simp only [cond_true, cond_false] <;> omega
    refine decide_eq_decide.mpr (Iff.trans (f_nIlt (a := (cond (decide (a % w < a / w)) (a / w) (a % w)) * 64 + a) (b := (cond (decide (b % w < b / w)) (b / w) (b % w)) * 64 + b) (by omega) (by omega)) ?_)
    show _ ↔ 64 * (cond (decide (a % w < a / w)) (a / w) (a % w)) + a < 64 * (cond (decide (b % w < b / w)) (b / w) (b % w)) + b
    omega
theorem f_rankG_M {w p o s : Nat} {f : Nat → Int32} (hw0 : 0 < w) (hw : w ≤ 8) (ho : o < 3) (hp : p ≤ 64) (hf : ∀ j, j < p → f j = f_keyG w o (nI j)) (hs : s < p) : ∀ t, t ≤ p → f_rank f s t = f_akM w o s t := by
  intro t
  induction t with
  | zero => intro _; rfl
  | succ t ih =>
    intro ht
    have h := f_rkG hw0 hw ho (a := t) (b := s) (by omega) (by omega)
    rw [f_rank, f_akM, ih (by omega), hf t (by omega), hf s hs, ← h]
    by_cases e : f_keyG w o (nI t) < f_keyG w o (nI s)
    · rw [if_pos e, decide_eq_true e]; rfl
    · rw [if_neg e, decide_eq_false e]; rfl
theorem f_akM_le2 (w o c : Nat) : ∀ t, f_akM w o c t ≤ t := by
  intro t
  induction t with
  | zero => exact Nat.le_refl _
  | succ t ih => rw [f_akM]; have := Bool.toNat_le (decide (f_rkM w o t < f_rkM w o c)); omega
theorem f_firstsG_M {w t o m : Nat} {f : Nat → Int32} (hw0 : 0 < w) (hw : w ≤ 8) (ho : o < 3) (hp : w * t ≤ 64) (hf : ∀ j, j < w * t → f j = f_keyG w o (nI j)) (hm : m ≤ w * t) : f_firsts f (w * t) (nI m) (w * t) = f_fcM w t o m := by
  unfold f_fcM
  exact f_firsts_or hp (by omega) (fun s hs => ⟨f_rankG_M hw0 hw ho hp hf hs _ (Nat.le_refl _), by have := f_akM_le2 w o s (w * t); omega⟩) _ (Nat.le_refl _)
