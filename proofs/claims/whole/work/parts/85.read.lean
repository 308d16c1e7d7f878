/-! Both sides alike: what is read -/
/-- the place of the fault, on naturals: 0 unbegun, 7 closed, else the last letter, from 1 on -/
def f_faN (n : Nat) (tp : Nat → Nat) : Nat → Nat → Nat → Option Nat
  | 0, s, l => if l = 0 then some s else none
  | t + 1, s, l => if tp s = 44 ∧ ¬ l = 0 then f_faN n tp t (s + 1) 0 else if tp s = 48 ∧ l = 0 then f_faN n tp t (s + 1) 7 else if 97 + l ≤ tp s ∧ tp s ≤ 96 + n then f_faN n tp t (s + 1) (tp s - 96) else some s
def f_faO (o : Option Nat) : Int32 := match o with
  | some p => nI p
  | none => -1
theorem f_lm1 {l : Nat} (hl : l < 100) : (nI l - 1 = -1) ↔ l = 0 := by
  constructor
  · intro h
    have h1 : (nI l - nI 1).toInt = (-1 : Int32).toInt := congrArg Int32.toInt h
    rw [pk_sub_toInt (by omega) (by omega)] at h1
    have h2 : (-1 : Int32).toInt = -1 := by decide
    omega
  · intro h; rw [h]; decide
theorem f_fa_N {n fed : Nat} {f : Nat → Int32} {tp : Nat → Nat} (hn : n ≤ 6) (hf : ∀ k, k < fed → f k = nI (tp k) ∧ tp k ≤ 126) : ∀ t s l, s + t = fed → l ≤ 7 → f_fa n f t s (nI l - 1) = f_faO (f_faN n tp t s l) := by
  intro t
  induction t with
  | zero =>
    intro s l _ hl
    rw [f_fa, f_faN]
    by_cases e : l = 0
    · rw [if_pos ((f_lm1 (by omega)).mpr e), if_pos e]; rfl
    · rw [if_neg (fun z => e ((f_lm1 (by omega)).mp z)), if_neg e]; rfl
  | succ t ih =>
    intro s l hs hl
    obtain ⟨e1, e2⟩ := hf s (by omega)
    obtain ⟨c, ec⟩ : ∃ c, c = tp s := ⟨_, rfl⟩
    rw [← ec] at e1 e2
    rw [f_fa, f_faN, e1, ← ec]
    have c44 : (nI c = 44 ∧ ¬ nI l - 1 = -1) ↔ (c = 44 ∧ ¬ l = 0) := by
      rw [f_lm1 (by omega)]
      constructor
      · rintro ⟨a, b⟩; exact ⟨f_nIinj (b := 44) (by omega) (by omega) a, b⟩
      · rintro ⟨a, b⟩; exact ⟨by rw [a]; rfl, b⟩
    have c48 : (nI c = 48 ∧ nI l - 1 = -1) ↔ (c = 48 ∧ l = 0) := by
      rw [f_lm1 (by omega)]
      constructor
      · rintro ⟨a, b⟩; exact ⟨f_nIinj (b := 48) (by omega) (by omega) a, b⟩
      · rintro ⟨a, b⟩; exact ⟨by rw [a]; rfl, b⟩
    have cl : (¬ nI c - 97 ≤ nI l - 1 ∧ nI c - 97 < nI n) ↔ (97 + l ≤ c ∧ c ≤ 96 + n) := by
      rw [Int32.le_iff_toInt_le, Int32.lt_iff_toInt_lt, show (97 : Int32) = nI 97 from rfl, show (1 : Int32) = nI 1 from rfl, pk_sub_toInt (by omega) (by omega), pk_sub_toInt (by omega) (by omega), nI_toInt (by omega)]
      omega
    by_cases h1 : c = 44 ∧ ¬ l = 0
    · rw [if_pos (c44.mpr h1), if_pos h1]
      exact ih (s + 1) 0 (by omega) (by omega)
    · rw [if_neg (fun z => h1 (c44.mp z)), if_neg h1]
      by_cases h2 : c = 48 ∧ l = 0
      · rw [if_pos (c48.mpr h2), if_pos h2]
        exact ih (s + 1) 7 (by omega) (by omega)
      · rw [if_neg (fun z => h2 (c48.mp z)), if_neg h2]
        by_cases h3 : 97 + l ≤ c ∧ c ≤ 96 + n
        · rw [if_pos (cl.mpr h3), if_pos h3]
          have e3 : nI c - 97 = nI (c - 96) - 1 := by
            rw [← f_l96 (by omega), show (97 : Int32) = nI 97 from rfl, pk_sub (by omega)]
          rw [e3]
          exact ih (s + 1) (c - 96) (by omega) (by omega)
        · rw [if_neg (fun z => h3 (cl.mp z)), if_neg h3]; rfl
/-- a run of letters -/
theorem f_rd_run {n fed : Nat} {f : Nat → Int32} {tp : Nat → Nat} (hn : n ≤ 6) (hf : ∀ k, k < fed → f k = nI (tp k) ∧ tp k ≤ 126) (d : Int64) : ∀ t set l a, a + t = fed → set < 64 → ∃ l2, f_faN n tp t a l = f_faN n tp (fed - (f_rdM n fed tp t set l a).2) (f_rdM n fed tp t set l a).2 l2 ∧ f_st f t a d (nI set) = f_st f (fed - (f_rdM n fed tp t set l a).2) (f_rdM n fed tp t set l a).2 d (nI (f_rdM n fed tp t set l a).1) ∧ a ≤ (f_rdM n fed tp t set l a).2 ∧ (f_rdM n fed tp t set l a).2 ≤ fed ∧ ((f_rdM n fed tp t set l a).2 < fed → ¬ (97 + l2 ≤ tp (f_rdM n fed tp t set l a).2 ∧ tp (f_rdM n fed tp t set l a).2 ≤ 96 + n)) ∧ ((f_rdM n fed tp t set l a = (set, a) ∧ l2 = l) ∨ (1 ≤ l2 ∧ l2 ≤ 6 ∧ ¬ (f_rdM n fed tp t set l a).1 = 0)) ∧ (¬ set = 0 → ¬ (f_rdM n fed tp t set l a).1 = 0) := by
  intro t
  induction t with
  | zero =>
    intro set l a ha hs
    refine ⟨l, ?_, ?_, Nat.le_refl _, by show a ≤ fed; omega, fun h => ?_, Or.inl ⟨rfl, rfl⟩, fun h => h⟩
    · show f_faN n tp 0 a l = f_faN n tp (fed - a) a l
      rw [show fed - a = 0 by omega]
    · show f_st f 0 a d (nI set) = f_st f (fed - a) a d (nI set)
      rw [show fed - a = 0 by omega]
    · have : a < fed := h
      omega
  | succ t ih =>
    intro set l a ha hs
    obtain ⟨e1, e2⟩ := hf a (by omega)
    by_cases h : 97 + l ≤ tp a ∧ tp a ≤ 96 + n
    · have eR : f_rdM n fed tp (t + 1) set l a = f_rdM n fed tp t (set ||| 2 ^ (tp a - 97)) (tp a - 96) (a + 1) := by
        rw [f_rdM, decide_eq_true (show a < fed by omega), decide_eq_true h.1, decide_eq_true h.2]; rfl
      have hp := Nat.two_pow_pos (tp a - 97)
      have hset : set ||| 2 ^ (tp a - 97) < 64 := Nat.or_lt_two_pow (n := 6) hs (Nat.pow_lt_pow_right (n := 6) (by decide) (by omega))
      have hne : ¬ (set ||| 2 ^ (tp a - 97)) = 0 := fun z => by
        have h9 : 2 ^ (tp a - 97) ≤ set ||| 2 ^ (tp a - 97) := Nat.right_le_or; omega
      obtain ⟨l2, q1, q2, q3, q4, q5, q6, q7⟩ := ih (set ||| 2 ^ (tp a - 97)) (tp a - 96) (a + 1) (by omega) hset
      rw [eR]
      refine ⟨l2, ?_, ?_, by omega, q4, q5, Or.inr ⟨?_, ?_, q7 hne⟩, fun _ => q7 hne⟩
      · rw [f_faN, if_neg (fun z => by omega), if_neg (fun z => by omega), if_pos h]; exact q1
      · rw [f_st, e1, if_neg (fun z => by have := f_nIinj (b := 44) (by omega) (by omega) z; omega), if_neg (fun z => by have := f_nIinj (b := 48) (by omega) (by omega) z; omega)]
        have e3 : nI set ||| (1 : Int32) <<< ((nI (tp a) - 97) &&& 31) = nI (set ||| 2 ^ (tp a - 97)) := by
          rw [show (97 : Int32) = nI 97 from rfl, pk_sub (by omega), f_shlI _ (by omega), nI_or]
        rw [e3]; exact q2
      · rcases q6 with ⟨_, z⟩ | ⟨z, _, _⟩ <;> omega
      · rcases q6 with ⟨_, z⟩ | ⟨_, z, _⟩ <;> omega
    · have eR : f_rdM n fed tp (t + 1) set l a = (set, a) := by
        have : (decide (97 + l ≤ tp a) && decide (tp a ≤ 96 + n)) = false := by rw [← Bool.decide_and]; exact decide_eq_false h
        rw [f_rdM, this, Bool.and_false, cond_false]
      rw [eR]
      exact ⟨l, by rw [show fed - a = t + 1 by omega], by rw [show fed - a = t + 1 by omega], Nat.le_refl _, by show a ≤ fed; omega, fun _ => h, Or.inl ⟨rfl, rfl⟩, fun h => h⟩
/-- what is known between two sets -/
def f_J (n fed : Nat) (f : Nat → Int32) (tp : Nat → Nat) (X : Option Nat) (Y : Int64) (st : Bool × Int64 × Nat) : Prop :=
  (st.1 = false ∧ X = some st.2.2) ∨ (st.1 = true ∧ ∃ (l2 : Nat) (d : Int64) (c : Nat), 1 ≤ l2 ∧ st.2.2 ≤ fed ∧ X = f_faN n tp (fed - st.2.2) st.2.2 l2 ∧ (st.2.2 < fed → ¬ (97 + l2 ≤ tp st.2.2 ∧ tp st.2.2 ≤ 96 + n)) ∧ Y = f_st f (fed - st.2.2) st.2.2 d (nI c) ∧ d ||| f_sl 1 (nI c) = st.2.1)
theorem f_J_set {n fed : Nat} {f : Nat → Int32} {tp : Nat → Nat} {X : Option Nat} {Y : Int64} (hn : n ≤ 6) (hf : ∀ k, k < fed → f k = nI (tp k) ∧ tp k ≤ 126) {a : Nat} {rs : Int64} (ha : a ≤ fed) (hX : X = f_faN n tp (fed - a) a 0) (hY : Y = f_st f (fed - a) a rs 0) : f_J n fed f tp X Y (f_rsS n fed tp a rs) := by
  by_cases h48 : a < fed ∧ tp a = 48
  · have eS : f_rsS n fed tp a rs = (true, rs ||| 1, a + 1) := by unfold f_rsS; rw [decide_eq_true h48.1, decide_eq_true h48.2]; rfl
    rw [eS]
    obtain ⟨e1, e2⟩ := hf a h48.1
    refine Or.inr ⟨rfl, 7, rs, 0, by omega, by show a + 1 ≤ fed; omega, ?_, fun _ z => by omega, ?_, rfl⟩
    · rw [hX, show fed - a = (fed - (a + 1)) + 1 by omega, f_faN, if_neg (fun z => absurd z.2 (by decide)), if_pos ⟨h48.2, rfl⟩]
    · rw [hY, show fed - a = (fed - (a + 1)) + 1 by omega, f_st, e1, h48.2, if_neg (by decide), if_pos (by rfl)]; rfl
  · have eS : f_rsS n fed tp a rs = (!decide ((f_rdM n fed tp (fed - a) 0 0 a).1 = 0), rs ||| cond (decide ((f_rdM n fed tp (fed - a) 0 0 a).1 = 0)) 0 (f_sl 1 (nI (f_rdM n fed tp (fed - a) 0 0 a).1)), (f_rdM n fed tp (fed - a) 0 0 a).2) := by
      have : (decide (a < fed) && decide (tp a = 48)) = false := by rw [← Bool.decide_and]; exact decide_eq_false h48
      unfold f_rsS; rw [this, cond_false]
    obtain ⟨l2, q1, q2, q3, q4, q5, q6, q7⟩ := f_rd_run hn hf rs (fed - a) 0 0 a (by omega) (by omega)
    rw [eS]
    rcases q6 with ⟨z1, z2⟩ | ⟨z1, z2, z3⟩
    · refine Or.inl ⟨?_, ?_⟩
      · rw [z1]; rfl
      · rw [z1] at q5 ⊢
        rw [z2] at q5
        show X = some a
        rw [hX]
        rcases Nat.lt_or_ge a fed with h | h
        · rw [show fed - a = (fed - (a + 1)) + 1 by omega, f_faN, if_neg (fun z => absurd rfl z.2), if_neg (fun z => h48 ⟨h, z.1⟩), if_neg (q5 h)]
        · rw [show fed - a = 0 by omega, f_faN, if_pos rfl]
    · refine Or.inr ⟨by rw [decide_eq_false z3]; rfl, l2, rs, (f_rdM n fed tp (fed - a) 0 0 a).1, z1, q4, ?_, q5, ?_, ?_⟩
      · rw [hX]; exact q1
      · rw [hY]; exact q2
      · rw [decide_eq_false z3, cond_false]
theorem f_J_all {n fed : Nat} {f : Nat → Int32} {tp : Nat → Nat} {X : Option Nat} {Y : Int64} (hn : n ≤ 6) (hf : ∀ k, k < fed → f k = nI (tp k) ∧ tp k ≤ 126) : ∀ t st, fed ≤ st.2.2 + t → f_J n fed f tp X Y st → (((f_rdA n fed tp t st).1 && decide ((f_rdA n fed tp t st).2.2 = fed)) = true → X = none ∧ Y = (f_rdA n fed tp t st).2.1) ∧ (((f_rdA n fed tp t st).1 && decide ((f_rdA n fed tp t st).2.2 = fed)) = false → X = some (f_rdA n fed tp t st).2.2) := by
  have stop : ∀ st, f_J n fed f tp X Y st → ¬ (st.1 = true ∧ st.2.2 < fed ∧ tp st.2.2 = 44) → ((st.1 && decide (st.2.2 = fed)) = true → X = none ∧ Y = st.2.1) ∧ ((st.1 && decide (st.2.2 = fed)) = false → X = some st.2.2) := by
    intro st hJ hno
    rcases hJ with ⟨h1, h2⟩ | ⟨h1, l2, d, c, q1, q2, q3, q4, q5, q6⟩
    · rw [h1]
      exact ⟨fun z => Bool.noConfusion z, fun _ => h2⟩
    · rw [h1, Bool.true_and]
      constructor
      · intro z
        have z2 := of_decide_eq_true z
        rw [z2, Nat.sub_self] at q3 q5
        rw [f_faN, if_neg (by omega)] at q3
        rw [f_st] at q5
        exact ⟨q3, by rw [q5]; exact q6⟩
      · intro z
        have z2 := of_decide_eq_false z
        have hlt : st.2.2 < fed := by omega
        rw [q3, show fed - st.2.2 = (fed - (st.2.2 + 1)) + 1 by omega, f_faN, if_neg (fun w => hno ⟨h1, hlt, w.1⟩), if_neg (fun w => by omega), if_neg (q4 hlt)]
  intro t
  induction t with
  | zero =>
    intro st h hJ
    exact stop st hJ (fun z => by omega)
  | succ t ih =>
    intro st h hJ
    by_cases hc : st.1 = true ∧ st.2.2 < fed ∧ tp st.2.2 = 44
    · have eA : f_rdA n fed tp (t + 1) st = f_rdA n fed tp t (f_rsS n fed tp (st.2.2 + 1) st.2.1) := by
        rw [f_rdA, hc.1, decide_eq_true hc.2.1, decide_eq_true hc.2.2]; rfl
      rw [eA]
      obtain ⟨e1, e2⟩ := hf st.2.2 hc.2.1
      have hge : st.2.2 + 1 ≤ (f_rsS n fed tp (st.2.2 + 1) st.2.1).2.2 := by
        by_cases h48 : st.2.2 + 1 < fed ∧ tp (st.2.2 + 1) = 48
        · have eS : f_rsS n fed tp (st.2.2 + 1) st.2.1 = (true, st.2.1 ||| 1, st.2.2 + 1 + 1) := by unfold f_rsS; rw [decide_eq_true h48.1, decide_eq_true h48.2]; rfl
          rw [eS]; show st.2.2 + 1 ≤ st.2.2 + 1 + 1; omega
        · have : (decide (st.2.2 + 1 < fed) && decide (tp (st.2.2 + 1) = 48)) = false := by rw [← Bool.decide_and]; exact decide_eq_false h48
          unfold f_rsS; rw [this, cond_false]
          obtain ⟨l2, q1, q2, q3, _⟩ := f_rd_run hn hf 0 (fed - (st.2.2 + 1)) 0 0 (st.2.2 + 1) (by omega) (by omega)
          exact q3
      refine ih _ (by omega) ?_
      rcases hJ with ⟨h1, h2⟩ | ⟨h1, l2, d, c, q1, q2, q3, q4, q5, q6⟩
      · rw [hc.1] at h1; exact Bool.noConfusion h1
      · refine f_J_set hn hf (by omega) ?_ ?_
        · rw [q3, show fed - st.2.2 = (fed - (st.2.2 + 1)) + 1 by omega, f_faN, if_pos ⟨hc.2.2, by omega⟩]
        · rw [q5, show fed - st.2.2 = (fed - (st.2.2 + 1)) + 1 by omega, f_st, e1, hc.2.2, if_pos (by rfl), q6]
    · have eA : f_rdA n fed tp (t + 1) st = st := by
        have : (st.1 && (decide (st.2.2 < fed) && decide (tp st.2.2 = 44))) = false := by
          rw [← Bool.decide_and]
          cases h1 : st.1
          · rfl
          · rw [Bool.true_and]
            exact decide_eq_false (fun z => hc ⟨h1, z.1, z.2⟩)
        rw [f_rdA, this, cond_false]
      rw [eA]
      exact stop st hJ hc
/-- read: both sides -/
theorem f_read_M {n fed : Nat} {f : Nat → Int32} {tp : Nat → Nat} (hn : n ≤ 6) (hf : ∀ k, k < fed → f k = nI (tp k) ∧ tp k ≤ 126) : (((f_rdA n fed tp fed (f_rsS n fed tp 0 0)).1 && decide ((f_rdA n fed tp fed (f_rsS n fed tp 0 0)).2.2 = fed)) = true → f_fa n f fed 0 (-1) = -1 ∧ f_st f fed 0 0 0 = (f_rdA n fed tp fed (f_rsS n fed tp 0 0)).2.1) ∧ (((f_rdA n fed tp fed (f_rsS n fed tp 0 0)).1 && decide ((f_rdA n fed tp fed (f_rsS n fed tp 0 0)).2.2 = fed)) = false → f_fa n f fed 0 (-1) = nI (f_rdA n fed tp fed (f_rsS n fed tp 0 0)).2.2) := by
  have hJ : f_J n fed f tp (f_faN n tp fed 0 0) (f_st f fed 0 0 0) (f_rsS n fed tp 0 0) := f_J_set hn hf (Nat.zero_le _) rfl rfl
  have h := f_J_all hn hf fed _ (by omega) hJ
  have hN := f_fa_N hn hf fed 0 0 (by omega) (by omega)
  have e0 : nI 0 - 1 = -1 := by decide
  rw [e0] at hN
  constructor
  · intro z
    have h1 := h.1 z
    rw [hN, h1.1]
    exact ⟨rfl, h1.2⟩
  · intro z
    rw [hN, h.2 z]; rfl
