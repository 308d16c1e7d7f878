/-! Both sides alike: sums, edges -/
theorem f_sm_ext {g h : Nat → Nat} : ∀ t, (∀ k, k < t → g k = h k) → f_sm g t = f_sm h t := by
  intro t
  induction t with
  | zero => intro _; rfl
  | succ t ih => intro e; rw [f_sm, f_sm, ih (fun k hk => e k (by omega)), e t (by omega)]
theorem f_sm_add {g h : Nat → Nat} : ∀ t, f_sm (fun k => g k + h k) t = f_sm g t + f_sm h t := by
  intro t
  induction t with
  | zero => rfl
  | succ t ih => rw [f_sm, f_sm, f_sm, ih]; omega
theorem f_sm_zero {g : Nat → Nat} : ∀ t, (∀ k, k < t → g k = 0) → f_sm g t = 0 := by
  intro t
  induction t with
  | zero => intro _; rfl
  | succ t ih => intro e; rw [f_sm, ih (fun k hk => e k (by omega)), e t (by omega)]
theorem f_sm_app (g : Nat → Nat) (a : Nat) : ∀ b, f_sm g (a + b) = f_sm g a + f_sm (fun k => g (a + k)) b := by
  intro b
  induction b with
  | zero => rfl
  | succ b ih => rw [← Nat.add_assoc, f_sm, ih, f_sm]; omega
theorem f_sm_le {g h : Nat → Nat} : ∀ t, (∀ k, k < t → g k ≤ h k) → f_sm g t ≤ f_sm h t := by
  intro t
  induction t with
  | zero => intro _; exact Nat.le_refl _
  | succ t ih => intro e; rw [f_sm, f_sm]; have := ih (fun k hk => e k (by omega)); have := e t (by omega); omega
theorem f_sm_swap (g : Nat → Nat → Nat) (a : Nat) : ∀ b, f_sm (fun s => f_sm (fun e => g s e) b) a = f_sm (fun e => f_sm (fun s => g s e) a) b := by
  intro b
  induction b with
  | zero => rw [f_sm]; exact f_sm_zero a (fun _ _ => rfl)
  | succ b ih =>
    rw [f_sm, ← ih, ← f_sm_add]
    exact f_sm_ext a (fun k _ => rfl)
theorem f_sm_first (g : Nat → Nat) : ∀ t, f_sm g (t + 1) = g 0 + f_sm (fun k => g (k + 1)) t := by
  intro t
  have := f_sm_app g 1 t
  rw [Nat.add_comm 1 t] at this
  rw [this]
  have e1 : f_sm (fun k => g (1 + k)) t = f_sm (fun k => g (k + 1)) t := f_sm_ext t (fun k _ => by rw [Nat.add_comm])
  rw [e1, f_sm, f_sm, Nat.zero_add]
theorem f_pc_sm : ∀ t n, f_pc t n = f_sm (fun k => (Nat.testBit n k).toNat) t := by
  intro t
  induction t with
  | zero => intro n; rfl
  | succ t ih =>
    intro n
    rw [f_pc, ih, f_sm_first, Nat.testBit_zero]
    have e1 : n % 2 = (decide (n % 2 = 1)).toNat := by
      rcases Nat.mod_two_eq_zero_or_one n with h | h <;> rw [h] <;> rfl
    have e2 : f_sm (fun k => (Nat.testBit (n / 2) k).toNat) t = f_sm (fun k => (Nat.testBit n (k + 1)).toNat) t := f_sm_ext t (fun k _ => by rw [Nat.testBit_div_two])
    rw [e2, ← e1]
theorem f_pop_sm (x : Int64) : f_pop x = f_sm (fun k => (f_b x k).toNat) 64 := f_pc_sm 64 _
theorem f_xhi {s n : Nat} (hs : s < 2 ^ n) : s ^^^ 2 ^ n = 2 ^ n + s := by
  apply Nat.eq_of_testBit_eq
  intro i
  have e1 := Nat.testBit_two_pow_mul_add 1 hs i
  rw [Nat.mul_one] at e1
  rw [e1, Nat.testBit_xor, Nat.testBit_two_pow]
  by_cases h : i < n
  · rw [if_pos h, decide_eq_false (by omega), Bool.xor_false]
  · rw [if_neg h]
    have e2 : s.testBit i = false := Nat.testBit_lt_two_pow (Nat.lt_of_lt_of_le hs (Nat.pow_le_pow_right (by decide) (by omega)))
    rw [e2, Bool.false_xor]
    by_cases h2 : n = i
    · subst h2; rw [Nat.sub_self]; simp
    · rw [decide_eq_false h2]
      have e3 : Nat.testBit 1 (i - n) = false := Nat.testBit_lt_two_pow (Nat.lt_of_lt_of_le (show 1 < 2 ^ 1 by decide) (Nat.pow_le_pow_right (by decide) (by omega)))
      rw [e3]
/-- sums over a cube don't mind a turned element -/
theorem f_sm_xor (e : Nat) : ∀ n, e < n → ∀ g : Nat → Nat, f_sm (fun s => g (s ^^^ 2 ^ e)) (2 ^ n) = f_sm g (2 ^ n) := by
  intro n
  induction n with
  | zero => intro h; exact absurd h (Nat.not_lt_zero e)
  | succ n ih =>
    intro he g
    rw [Nat.pow_succ, Nat.mul_two, f_sm_app, f_sm_app]
    have hlow : ∀ s, s < 2 ^ n → s ^^^ 2 ^ n = 2 ^ n + s := by
      intro s hs
      exact f_xhi hs
    by_cases h : e = n
    · subst h
      have e1 : f_sm (fun s => g (s ^^^ 2 ^ e)) (2 ^ e) = f_sm (fun k => g (2 ^ e + k)) (2 ^ e) := f_sm_ext _ (fun k hk => by rw [hlow k hk])
      have e2 : f_sm (fun k => g ((2 ^ e + k) ^^^ 2 ^ e)) (2 ^ e) = f_sm g (2 ^ e) := f_sm_ext _ (fun k hk => by rw [← hlow k hk, Nat.xor_assoc, Nat.xor_self, Nat.xor_zero])
      rw [e1, e2]; omega
    · rw [ih (by omega) g]
      have e2 : f_sm (fun k => g ((2 ^ n + k) ^^^ 2 ^ e)) (2 ^ n) = f_sm (fun k => (fun z => g (2 ^ n + z)) (k ^^^ 2 ^ e)) (2 ^ n) := by
        refine f_sm_ext _ (fun k hk => ?_)
        have h1 : k ^^^ 2 ^ e < 2 ^ n := Nat.xor_lt_two_pow hk (Nat.pow_lt_pow_right (by decide) (by omega))
        show g _ = g _
        rw [← hlow _ h1, ← hlow k hk, Nat.xor_assoc, Nat.xor_comm (2 ^ n), ← Nat.xor_assoc]
      rw [e2]
      exact congrArg (f_sm g (2 ^ n) + ·) (ih (by omega) (fun z => g (2 ^ n + z)))

theorem f_smF_sm (a : Nat) (g : Nat → Nat) : ∀ t, f_smF a g t = a + f_sm g t := by
  intro t
  induction t with
  | zero => rfl
  | succ t ih => rw [f_smF, f_sm, ih]; omega
theorem f_edM_sm (n : Nat) (x : Int64) : ∀ p, f_edM n x p = f_sm (fun s => f_sm (fun e => (f_b x s && !f_b x (s ^^^ 2 ^ e)).toNat) n) p := by
  intro p
  induction p with
  | zero => rfl
  | succ p ih =>
    rw [f_edM, f_sm, ← ih]
    cases f_b x p
    · rw [cond_false, f_sm_zero n (fun k _ => by rw [Bool.false_and]; rfl)]; omega
    · rw [cond_true, f_smF_sm]
      congr 1
def f_edE (n : Nat) (x : Int64) (e : Nat) : Nat := f_sm (fun s => (f_b x s && !f_b x (s ^^^ 2 ^ e)).toNat) (2 ^ n)
theorem f_pop_in {p : Nat} {y : Int64} (hp : p ≤ 64) (h : f_in p y) : f_pop y = f_sm (fun k => (f_b y k).toNat) p := by
  rw [f_pop_sm, show (64 : Nat) = p + (64 - p) by omega, f_sm_app]
  rw [f_sm_zero (64 - p) (fun k _ => by rw [h (p + k) (by omega)]; rfl)]
  omega
theorem f_edE_c {n e : Nat} {x : Int64} (hn : n ≤ 6) (he : e < n) : f_pop (((x ^^^ f_sr x (f_pw e)) &&& (f_hold e ^^^ (-1))) &&& f_all (2 ^ n)) = f_edE n x e := by
  have hp : 2 ^ n ≤ 64 := Nat.pow_le_pow_right (by decide) hn
  have h32 := f_p32 (i := e) (by omega)
  obtain ⟨y, ey⟩ : ∃ y, y = ((x ^^^ f_sr x (f_pw e)) &&& (f_hold e ^^^ (-1))) &&& f_all (2 ^ n) := ⟨_, rfl⟩
  have hb : ∀ k, k < 64 → f_b y k = (((f_b x k ^^ f_b x (k ^^^ 2 ^ e)) && !Nat.testBit k e) && decide (k < 2 ^ n)) := by
    intro k hk
    have h2 := f_up2 e (by omega) k hk
    rw [ey, f_b_and, f_b_all hk, f_b_and, f_b_xor, f_b_not hk, f_holdb e (by omega) k hk]
    have e1 : f_pw e = nI (2 ^ e) := f_shlI e (by omega)
    rw [e1, f_b_sr (by omega)]
    cases hq : Nat.testBit k e
    · rw [h2.2 hq]
    · simp
  have hin : f_in (2 ^ n) y := by
    intro k hk
    rcases Nat.lt_or_ge k 64 with q | q
    · rw [hb k q, decide_eq_false (by omega), Bool.and_false]
    · exact f_b_hi q
  rw [← ey, f_pop_in hp hin, f_edE]
  -- both sides as sums over the pairs
  have l1 : f_sm (fun s => (f_b x s && !f_b x (s ^^^ 2 ^ e)).toNat) (2 ^ n) = f_sm (fun s => ((f_b x s && !f_b x (s ^^^ 2 ^ e)) && !Nat.testBit s e).toNat) (2 ^ n) + f_sm (fun s => ((f_b x s && !f_b x (s ^^^ 2 ^ e)) && Nat.testBit s e).toNat) (2 ^ n) := by
    rw [← f_sm_add]
    exact f_sm_ext _ (fun k _ => by cases (f_b x k && !f_b x (k ^^^ 2 ^ e)) <;> cases Nat.testBit k e <;> rfl)
  have l2 : f_sm (fun s => ((f_b x s && !f_b x (s ^^^ 2 ^ e)) && Nat.testBit s e).toNat) (2 ^ n) = f_sm (fun s => ((f_b x (s ^^^ 2 ^ e) && !f_b x s) && !Nat.testBit s e).toNat) (2 ^ n) := by
    rw [← f_sm_xor e n he]
    refine f_sm_ext _ (fun k hk => ?_)
    show ((f_b x (k ^^^ 2 ^ e) && !f_b x (k ^^^ 2 ^ e ^^^ 2 ^ e)) && Nat.testBit (k ^^^ 2 ^ e) e).toNat = _
    rw [f_xx, (f_dn2 e (by omega) k (by omega)).2.2]
  rw [l1, l2, ← f_sm_add]
  refine f_sm_ext _ (fun k hk => ?_)
  rw [hb k (by omega), decide_eq_true hk]
  cases f_b x k <;> cases f_b x (k ^^^ 2 ^ e) <;> cases Nat.testBit k e <;> rfl
theorem f_edges_M {n : Nat} {x : Int64} (hn : n ≤ 6) : f_edges x n n = nI (f_edM n x (2 ^ n)) := by
  rw [f_edM_sm, f_sm_swap]
  have key : ∀ i, i ≤ n → f_edges x n i = nI (f_sm (fun e => f_edE n x e) i) := by
    intro i
    induction i with
    | zero => intro _; rfl
    | succ i ih =>
      intro h
      rw [f_edges, ih (by omega), f_bcL_pop, f_edE_c hn (by omega), f_sm]
      exact (Int32.ofNat_add _ _).symm
  exact key n (Nat.le_refl _)
