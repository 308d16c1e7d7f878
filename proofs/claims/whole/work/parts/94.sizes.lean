/-! both sides alike: sums of sizes -/
theorem f_popE : ∀ n, n < 7 → ∀ s, s < 2 ^ n → f_pop (nI s).toInt64 = f_sm (fun e => (Nat.testBit s e).toNat) n := by decide +kernel
theorem f_szN_sm (x : Int64) : ∀ n, f_szN x n = f_sm (fun e => f_pop (x &&& f_hold e)) n
  | 0 => rfl
  | i + 1 => by show f_szN x i + _ = f_sm _ i + _; rw [f_szN_sm x i]
theorem f_szM_sm (x : Int64) : ∀ t, f_szM x t = f_sm (fun s => cond (f_b x s) (f_pop (nI s).toInt64) 0) t
  | 0 => rfl
  | i + 1 => by show f_szM x i + _ = f_sm _ i + _; rw [f_szM_sm x i]
theorem f_sm_mul (b : Bool) (g : Nat → Nat) : ∀ t, cond b (f_sm g t) 0 = f_sm (fun e => cond b (g e) 0) t := by
  intro t
  cases b
  · exact (f_sm_zero t (fun _ _ => rfl)).symm
  · rfl
theorem f_szN_M {n : Nat} {x : Int64} (hn : n ≤ 6) (hx : f_in (2 ^ n) x) : f_szN x n = f_szM x (2 ^ n) := by
  have hp := f_2n hn
  rw [f_szN_sm, f_szM_sm]
  have e1 : f_sm (fun s => cond (f_b x s) (f_pop (nI s).toInt64) 0) (2 ^ n) = f_sm (fun s => f_sm (fun e => cond (f_b x s) (Nat.testBit s e).toNat 0) n) (2 ^ n) :=
    f_sm_ext _ (fun s hs => by
      show cond (f_b x s) (f_pop (nI s).toInt64) 0 = _
      rw [f_popE n (by omega) s hs, f_sm_mul])
  rw [e1, f_sm_swap]
  refine f_sm_ext _ (fun e he => ?_)
  show f_pop (x &&& f_hold e) = _
  have h2 : f_in (2 ^ n) (x &&& f_hold e) := fun k9 hk => by rw [f_b_and, hx k9 hk]; rfl
  rw [f_pop_in (by omega) h2]
  refine f_sm_ext _ (fun s hs => ?_)
  show (f_b (x &&& f_hold e) s).toNat = cond (f_b x s) (Nat.testBit s e).toNat 0
  rw [f_b_and]
  cases f_b x s
  · rfl
  · show (f_b (f_hold e) s).toNat = (Nat.testBit s e).toNat
    rw [f_holdb e (by omega) s (by omega)]
