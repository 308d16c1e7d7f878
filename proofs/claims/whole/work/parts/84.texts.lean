/-! Both sides alike: lots, judge, scaled, what is written -/
theorem f_or0 (x : Int64) : x ||| 0 = x := f_b_ext (fun k _ => by rw [f_b_or, f_b_0, Bool.or_false])
/-- lots -/
theorem f_draw_M (p z : Int32) : ∀ t s, f_draw p t s (f_drM p s z).1 (f_drM p s z).2 = f_drM p (s + t) z := by
  intro t
  induction t with
  | zero => intro s; rfl
  | succ t ih =>
    intro s
    have h := ih (s + 1)
    rw [show s + 1 + t = s + (t + 1) by omega] at h
    rw [← h, f_draw]
    by_cases e : p ≤ ((f_drM p s z).1 * 1103515245 + 12345 &&& 2147483647) / 65536 - ((f_drM p s z).1 * 1103515245 + 12345 &&& 2147483647) / 65536 / 100 * 100
    · rw [if_pos e]
      have e1 : f_drM p (s + 1) z = ((f_drM p s z).1 * 1103515245 + 12345, (f_drM p s z).2) := by rw [f_drM, decide_eq_true e, cond_true, f_or0]
      rw [e1]
    · rw [if_neg e]
      have e1 : f_drM p (s + 1) z = ((f_drM p s z).1 * 1103515245 + 12345, (f_drM p s z).2 ||| f_sl 1 (nI s)) := by rw [f_drM, decide_eq_false e, cond_false]
      rw [e1]
theorem f_drM_in (p z : Int32) : ∀ k, k ≤ 64 → f_in k (f_drM p k z).2 := by
  intro k
  induction k with
  | zero => intro _ q _; exact f_b_0 q
  | succ k ih =>
    intro hk
    refine f_in_of (fun q hq hh => ?_)
    rw [f_drM, f_b_or, ih (by omega) q (by omega), Bool.false_or]
    cases decide (p ≤ ((f_drM p k z).1 * 1103515245 + 12345 &&& 2147483647) / 65536 - ((f_drM p k z).1 * 1103515245 + 12345 &&& 2147483647) / 65536 / 100 * 100)
    · rw [cond_false, f_b_one (by omega) hq, decide_eq_false (by omega)]
    · rw [cond_true, f_b_0]
theorem f_lots_M {p z : Int32} {g g2 : Int64 → Int32} {k : Nat} (hk : k ≤ 64) (hg : ∀ x, f_in k x → g x = g2 x) : ∀ t s, f_lots p g k t (f_ltM p g2 k s z).1 (f_ltM p g2 k s z).2 = (f_ltM p g2 k (s + t) z).2 := by
  intro t
  induction t with
  | zero => intro s; rfl
  | succ t ih =>
    intro s
    have h := ih (s + 1)
    rw [show s + 1 + t = s + (t + 1) by omega] at h
    rw [← h, f_lots]
    have hd := f_draw_M p (f_ltM p g2 k s z).1 k 0
    rw [Nat.zero_add] at hd
    have hd2 : f_draw p k 0 (f_ltM p g2 k s z).1 0 = f_drM p k (f_ltM p g2 k s z).1 := hd
    rw [hd2, hg _ (f_drM_in p _ k hk)]
    rfl
/-- judge -/
theorem f_judge_M {n mn : Nat} {f L : Nat → Int64} {x : Int64} (hn : n ≤ 6) (hx : f_in (2 ^ n) x) (hf : ∀ s, s < 20 → f s = L s) : ∀ t s, s + t ≤ 7 → f_judge mn f x t s = f_jdM mn (2 ^ n) L x t s := by
  intro t
  induction t with
  | zero => intro s _; rfl
  | succ t ih =>
    intro s h
    rw [f_judge, f_jdM, f_profile_M hn (by omega) hx, hf s (by omega), ih (s + 1) (by omega)]
/-- scaled -/
theorem f_scaled_M {a b : Nat} (h : a * b < 2 ^ 63) : (if 2147483647 < lN a * lN b then (-6 : Int32) else (lN a * lN b).toInt32) = cond (decide (lN a * lN b = (lN a * lN b).toInt32.toInt64)) (lN a * lN b).toInt32 (-6) := by
  rw [lN_mul, lN_i]
  by_cases e : a * b < 2 ^ 31
  · have h1 : ¬ (2147483647 : Int64) < lN (a * b) := fun z => by
      have := (pk_lLT (a := 2147483647) (b := a * b) (by omega) h).mp z; omega
    rw [if_neg h1, nI_l e, decide_eq_true rfl, cond_true]
  · have h1 : (2147483647 : Int64) < lN (a * b) := (pk_lLT (a := 2147483647) (b := a * b) (by omega) h).mpr (by omega)
    have h2 : ¬ lN (a * b) = (nI (a * b)).toInt64 := by
      intro z
      have h3 := congrArg Int64.toInt z
      rw [pk_lT h, Int32.toInt_toInt64] at h3
      have h4 := Int32.toInt_lt (nI (a * b))
      omega
    rw [if_pos h1, decide_eq_false h2, cond_false]
/-- write -/
theorem f_ub_ok : ∀ s, s < 64 → ∀ e, e < 6 → (decide (f_ub (nI s) e = 0) == !Nat.testBit s e) = true := by decide +kernel
theorem f_letters_M {s : Nat} (hs : s < 64) : ∀ t e, e + t ≤ 6 → f_lt2 s (e + t) = f_lt2 s e ++ f_letters (nI s) t e := by
  intro t
  induction t with
  | zero => intro e _; exact (List.append_nil _).symm
  | succ t ih =>
    intro e h
    have h1 := ih (e + 1) (by omega)
    rw [show e + 1 + t = e + (t + 1) by omega] at h1
    have h2 := eq_of_beq (f_ub_ok s hs e (by omega))
    rw [h1, f_letters, f_lt2]
    cases hb : Nat.testBit s e
    · rw [hb] at h2
      rw [cond_false, if_pos (of_decide_eq_true h2)]
    · rw [hb] at h2
      rw [cond_true, if_neg (of_decide_eq_false h2), List.append_assoc]; rfl
theorem f_pg_M {n : Nat} {x : Int64} (hn : n ≤ 6) : ∀ t s, s + t ≤ 64 → f_pg n x t s (f_wr2 n x s) = f_wr2 n x (s + t) := by
  intro t
  induction t with
  | zero => intro s _; rfl
  | succ t ih =>
    intro s h
    have h1 := ih (s + 1) (by omega)
    rw [show s + 1 + t = s + (t + 1) by omega] at h1
    rw [← h1, f_pg]
    have hx : (f_sr x (nI s) &&& 1 = 0) ↔ f_b x s = false := by
      have hh := f_has (x := x) (s := s) (by omega)
      constructor
      · intro e
        cases hxi : f_b x s
        · rfl
        · have := hh.mpr hxi; rw [e] at this; exact absurd this (by decide)
      · intro e
        refine f_b_ext (fun k hk => ?_)
        rw [f_b_and, f_b_sr (by omega), f_b_1, f_b_0]
        by_cases e0 : k = 0
        · subst e0; rw [Nat.add_zero, e]; rfl
        · rw [decide_eq_false e0, Bool.and_false]
    by_cases e : f_sr x (nI s) &&& 1 = 0
    · rw [if_pos e, f_wr2, hx.mp e, cond_false]
    · have hb : f_b x s = true := by
        cases hxi : f_b x s
        · exact absurd (hx.mpr hxi) e
        · rfl
      rw [if_neg e, f_wr2, hb, cond_true]
      congr 1
      have hl := f_letters_M (s := s) (by omega) n 0 (by omega)
      rw [Nat.zero_add] at hl
      have hl2 : f_lt2 s n = f_letters (nI s) n 0 := hl
      unfold f_ws f_ws2
      rw [hl2]
      rcases Nat.eq_zero_or_pos (f_wr2 n x s).length with q | q
      · rw [if_pos q, decide_eq_true (by omega), cond_true]
        by_cases e0 : s = 0
        · rw [if_pos e0, decide_eq_true e0, cond_true, List.nil_append, List.append_assoc]
        · rw [if_neg e0, decide_eq_false e0, cond_false, List.nil_append, List.nil_append, List.append_nil]
      · rw [if_neg (by omega), decide_eq_false (by omega), cond_false]
        by_cases e0 : s = 0
        · rw [if_pos e0, decide_eq_true e0, cond_true, List.append_assoc, List.append_assoc]
        · rw [if_neg e0, decide_eq_false e0, cond_false, List.nil_append, List.append_nil, List.append_assoc]
theorem f_text_M {n : Nat} {x : Int64} (hn : n ≤ 6) : f_pg n x (2 ^ n) 0 [] = f_wr2 n x (2 ^ n) := by
  have hp : 2 ^ n ≤ 64 := Nat.pow_le_pow_right (by decide) hn
  have := f_pg_M (n := n) (x := x) hn (2 ^ n) 0 (by omega)
  rw [Nat.zero_add] at this
  exact this
/-- the text's length -/
def f_wb3 (n : Nat) : Nat → Nat
  | 0 => 0
  | s + 1 => f_wb3 n s + (cond (decide (s = 0)) 1 1 + (cond (decide (s = 0)) 0 (f_lt2 s n).length))
theorem f_wb3_ok : ∀ n, n < 7 → f_wb3 n (2 ^ n) ≤ 256 ∧ (f_lt2 0 n).length = 0 := by decide +kernel
theorem f_wr2_len (n : Nat) (x : Int64) (h0 : (f_lt2 0 n).length = 0) : ∀ s, (f_wr2 n x s).length ≤ f_wb3 n s := by
  intro s
  induction s with
  | zero => exact Nat.le_refl _
  | succ s ih =>
    rw [f_wr2, f_wb3]
    cases f_b x s
    · rw [cond_false]; omega
    · rw [cond_true, f_ws2, List.length_append, List.length_append]
      rcases Nat.eq_zero_or_pos s with e | e
      · subst e
        show (cond (decide (([] : List Nat).length ≤ 0)) [] ([] ++ [44])).length + (cond (decide (0 = 0)) [48] []).length + (f_lt2 0 n).length ≤ _
        rw [h0]; show 0 + 1 + 0 ≤ 0 + (1 + 0); omega
      · rw [decide_eq_false (show ¬ s = 0 by omega), cond_false, cond_false, cond_false]
        have h1 : (cond (decide ((f_wr2 n x s).length ≤ 0)) (f_wr2 n x s) (f_wr2 n x s ++ [44])).length ≤ (f_wr2 n x s).length + 1 := by
          cases decide ((f_wr2 n x s).length ≤ 0)
          · rw [cond_false, List.length_append]; exact Nat.le_refl _
          · rw [cond_true]; omega
        show _ + ([] : List Nat).length + _ ≤ _
        rw [List.length_nil]; omega
theorem f_text_256 {n : Nat} {x : Int64} (hn : n ≤ 6) : (f_wr2 n x (2 ^ n)).length ≤ 256 := by
  have h := f_wb3_ok n (by omega)
  exact Nat.le_trans (f_wr2_len n x h.2 (2 ^ n)) h.1
