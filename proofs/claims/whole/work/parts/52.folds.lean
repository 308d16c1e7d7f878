/-! loops, joints, bits of longs, folds -/
theorem g_sfx {G : g_G} {M : g_M} {d u v pc pc0 : Nat} {lv lv0 : List (Nat × Value)} {st st0 : List Value} {h h0 h' : List va_E} {r : Option Value} (k : g_A G M d u v pc lv st h r h' → g_A G M d u v pc0 lv0 st0 h0 r h') (w : g_A G M d u v pc lv st h r h') : g_A G M d u v pc0 lv0 st0 h0 r h' := k w
theorem g_for {G : g_G} {M : g_M} {d u v pc : Nat} {st : List Value} {h' : List va_E} {r : Option Value} {P : Nat → Prop} (N : Nat) (lv : Nat → List (Nat × Value)) (hp : Nat → List va_E) (p0 : P 0) (hs : ∀ i, i < N → P i → (P (i + 1) → g_A G M d u v pc (lv (i + 1)) st (hp (i + 1)) r h') → g_A G M d u v pc (lv i) st (hp i) r h') (hx : P N → g_A G M d u v pc (lv N) st (hp N) r h') : g_A G M d u v pc (lv 0) st (hp 0) r h' := by
  have key : ∀ j i, i + j = N → P i → g_A G M d u v pc (lv i) st (hp i) r h' := by
    intro j
    induction j with
    | zero => intro i hi hP; rw [show i = N by omega] at hP ⊢; exact hx hP
    | succ j ih => intro i hi hP; exact hs i (by omega) hP (ih (i + 1) (by omega))
  exact key N 0 (by omega) p0
theorem nI_and (a b : Nat) : nI a &&& nI b = nI (a &&& b) := by
  unfold nI
  apply Int32.toBitVec_inj.mp
  rw [Int32.toBitVec_and, Int32.toBitVec_ofNat', Int32.toBitVec_ofNat', Int32.toBitVec_ofNat', BitVec.ofNat_and]
theorem nI_or (a b : Nat) : nI a ||| nI b = nI (a ||| b) := by
  unfold nI
  apply Int32.toBitVec_inj.mp
  rw [Int32.toBitVec_or, Int32.toBitVec_ofNat', Int32.toBitVec_ofNat', Int32.toBitVec_ofNat', BitVec.ofNat_or]
theorem nI_xor (a b : Nat) : nI a ^^^ nI b = nI (a ^^^ b) := by
  unfold nI
  apply Int32.toBitVec_inj.mp
  rw [Int32.toBitVec_xor, Int32.toBitVec_ofNat', Int32.toBitVec_ofNat', Int32.toBitVec_ofNat', BitVec.ofNat_xor]
/-- a bit of a long -/
def f_b (x : Int64) (k : Nat) : Bool := x.toBitVec.getLsbD k
theorem f_b_ext {x y : Int64} (h : ∀ k, k < 64 → f_b x k = f_b y k) : x = y :=
  Int64.toBitVec_inj.mp (BitVec.eq_of_getLsbD_eq (fun i hi => h i hi))
theorem f_b_hi {x : Int64} {k : Nat} (h : 64 ≤ k) : f_b x k = false := BitVec.getLsbD_of_ge _ _ h
theorem f_b_0 (k : Nat) : f_b 0 k = false := by
  unfold f_b
  rw [Int64.toBitVec_zero]
  exact BitVec.getLsbD_zero
theorem f_b_or (x y : Int64) (k : Nat) : f_b (x ||| y) k = (f_b x k || f_b y k) := by
  unfold f_b; rw [Int64.toBitVec_or, BitVec.getLsbD_or]
theorem f_b_and (x y : Int64) (k : Nat) : f_b (x &&& y) k = (f_b x k && f_b y k) := by
  unfold f_b; rw [Int64.toBitVec_and, BitVec.getLsbD_and]
theorem f_b_xor (x y : Int64) (k : Nat) : f_b (x ^^^ y) k = (f_b x k ^^ f_b y k) := by
  unfold f_b; rw [Int64.toBitVec_xor, BitVec.getLsbD_xor]
theorem f_b_m1 {k : Nat} (hk : k < 64) : f_b (-1) k = true := by
  unfold f_b
  have e9 : (-1 : Int64).toBitVec = BitVec.allOnes 64 := by decide
  rw [e9, BitVec.getLsbD_allOnes, decide_eq_true hk]
theorem f_b_not {x : Int64} {k : Nat} (hk : k < 64) : f_b (x ^^^ (-1)) k = !f_b x k := by
  rw [f_b_xor, f_b_m1 hk, Bool.xor_true]
theorem f_sla : ∀ s, s < 64 → (((nI s).toInt64 &&& 63).toBitVec.smod 64) = BitVec.ofNat 64 s := by decide +kernel
theorem f_sra : ∀ s, s < 64 → (((nI s).toInt64.toUInt64 &&& Int64.toUInt64 63).toBitVec % 64) = BitVec.ofNat 64 s := by decide +kernel
theorem f_b_sl {x : Int64} {s k : Nat} (hs : s < 64) (hk : k < 64) : f_b (f_sl x (nI s)) k = (decide (s ≤ k) && f_b x (k - s)) := by
  unfold f_b f_sl
  rw [Int64.toBitVec_shiftLeft]
  have e9 := f_sla s hs
  show (x.toBitVec <<< (((nI s).toInt64 &&& 63).toBitVec.smod 64)).getLsbD k = _
  rw [e9, BitVec.shiftLeft_eq', BitVec.getLsbD_shiftLeft, BitVec.toNat_ofNat, Nat.mod_eq_of_lt (by omega), decide_eq_true hk]
  by_cases h : k < s
  · rw [decide_eq_true h, decide_eq_false (by omega)]; rfl
  · rw [decide_eq_false h, decide_eq_true (by omega)]; rfl
theorem f_b_sr {x : Int64} {s k : Nat} (hs : s < 64) : f_b (f_sr x (nI s)) k = f_b x (s + k) := by
  unfold f_b f_sr
  have e9 := f_sra s hs
  have e8 : ∀ u : UInt64, u.toInt64.toBitVec = u.toBitVec := fun u => rfl
  have e7 : ∀ u : Int64, u.toUInt64.toBitVec = u.toBitVec := fun u => rfl
  rw [e8, UInt64.toBitVec_shiftRight, e7]
  rw [e9, BitVec.ushiftRight_eq', BitVec.getLsbD_ushiftRight, BitVec.toNat_ofNat, Nat.mod_eq_of_lt (by omega)]
theorem f_b_1 (k : Nat) : f_b 1 k = decide (k = 0) := by
  unfold f_b
  rw [Int64.toBitVec_one, BitVec.getLsbD_one]
  simp
theorem f_b_one {s k : Nat} (hs : s < 64) (hk : k < 64) : f_b (f_sl 1 (nI s)) k = decide (k = s) := by
  rw [f_b_sl hs hk, f_b_1]
  by_cases h : k = s
  · subst h; simp
  · rw [decide_eq_false h]
    by_cases h2 : s ≤ k
    · rw [decide_eq_true h2, decide_eq_false (by omega)]; rfl
    · rw [decide_eq_false h2]; rfl
theorem f_b_all {p k : Nat} (hk : k < 64) : f_b (f_all p) k = decide (k < p) := by
  unfold f_all
  by_cases h : 64 ≤ p
  · rw [if_pos h, f_b_m1 hk, decide_eq_true (by omega)]
  · rw [if_neg h]
    have e9 : ∀ p, p < 64 → ∀ k, k < 64 → f_b (f_sl 1 (nI p) - 1) k = decide (k < p) := by decide +kernel
    exact e9 p (by omega) k hk
theorem f_has {x : Int64} {s : Nat} (hs : s < 64) : (f_sr x (nI s) &&& 1 = 1) ↔ f_b x s = true := by
  have e9 : f_b (f_sr x (nI s) &&& 1) 0 = f_b x s := by rw [f_b_and, f_b_sr hs, f_b_1]; simp
  constructor
  · intro h; rw [← e9, h]; rfl
  · intro h
    apply f_b_ext
    intro k hk
    rw [f_b_and, f_b_sr hs, f_b_1]
    by_cases h0 : k = 0
    · subst h0; rw [Nat.add_zero, h]; rfl
    · rw [decide_eq_false h0, Bool.and_false]
def f_i (b : Bool) : Int32 := if b = true then 1 else 0
theorem f_i_T {b : Bool} (h : b = true) : ¬ f_i b = 0 := by rw [h]; decide
theorem f_i_F {b : Bool} (h : b = false) : f_i b = 0 := by rw [h]; rfl
theorem f_i_T1 {b : Bool} (h : b = true) : f_i b = 1 := by rw [h]; rfl
theorem f_i_F1 {b : Bool} (h : b = false) : ¬ f_i b = 1 := by rw [h]; decide
theorem f_i_and (a b : Bool) : f_i a &&& f_i b = f_i (a && b) := by cases a <;> cases b <;> rfl
theorem f_i_ne1 {b : Bool} : (¬ f_i b = 0) ↔ b = true := by cases b <;> decide
theorem f_shlI : ∀ e, e < 31 → (1 : Int32) <<< (nI e &&& 31) = nI (2 ^ e) := by decide +kernel
theorem f_tbI {s e : Nat} (hs : s < 2 ^ 31) (he : e < 31) : (nI s >>> (nI e &&& 31)) &&& 1 = f_i (s.testBit e) := by
  have e1 : ∀ e, e < 31 → (((nI e &&& 31 : Int32)).toBitVec.smod 32) = BitVec.ofNat 32 e := by decide +kernel
  apply Int32.toBitVec_inj.mp
  rw [Int32.toBitVec_and, Int32.toBitVec_shiftRight]
  show (nI s).toBitVec.sshiftRight' (((nI e &&& 31 : Int32)).toBitVec.smod 32) &&& _ = _
  rw [e1 e he]
  apply BitVec.eq_of_getLsbD_eq
  intro i hi
  have e2 : (nI s).toBitVec.toNat = s := by
    unfold nI; rw [Int32.toBitVec_ofNat', BitVec.toNat_ofNat]; exact Nat.mod_eq_of_lt (by omega)
  have e3 : (nI s).toBitVec.msb = false := by
    rw [BitVec.msb_eq_decide, e2]; simp; omega
  rw [BitVec.getLsbD_and, Int32.toBitVec_one, BitVec.getLsbD_one]
  have e4 : ((nI s).toBitVec.sshiftRight' (BitVec.ofNat 32 e)).getLsbD 0 = s.testBit e := by
    rw [BitVec.getLsbD, BitVec.toNat_sshiftRight'_of_msb_false e3, e2, BitVec.toNat_ofNat, Nat.mod_eq_of_lt (by omega), Nat.testBit_shiftRight, Nat.add_zero]
  by_cases h0 : i = 0
  · subst h0
    rw [e4]
    cases s.testBit e <;> rfl
  · rw [show (decide (0 < 32) && decide (i = 0)) = false by simp [h0], Bool.and_false]
    cases s.testBit e
    · show false = (0 : Int32).toBitVec.getLsbD i
      rw [Int32.toBitVec_zero, BitVec.getLsbD_zero]
    · show false = (1 : Int32).toBitVec.getLsbD i
      rw [Int32.toBitVec_one, BitVec.getLsbD_one, decide_eq_false h0, Bool.and_false]
/-- folds -/
def f_or (g : Nat → Int64) : Nat → Int64
  | 0 => 0
  | t + 1 => f_or g t ||| g t
def f_sm (g : Nat → Nat) : Nat → Nat
  | 0 => 0
  | t + 1 => f_sm g t + g t
def f_al (c : Nat → Bool) : Nat → Bool
  | 0 => true
  | t + 1 => f_al c t && c t
def f_ex (c : Nat → Bool) : Nat → Bool
  | 0 => false
  | t + 1 => f_ex c t || c t
/-- the sets by a condition -/
def f_mk (c : Nat → Bool) (t : Nat) : Int64 := f_or (fun s => cond (c s) (f_sl 1 (nI s)) 0) t
theorem f_b_or_p {g : Nat → Int64} {k : Nat} : ∀ t, f_b (f_or g t) k = f_ex (fun s => f_b (g s) k) t := by
  intro t
  induction t with
  | zero => exact f_b_0 k
  | succ t ih => rw [f_or, f_b_or, ih, f_ex]
theorem f_ex_T {c : Nat → Bool} : ∀ t, f_ex c t = true ↔ ∃ s, s < t ∧ c s = true := by
  intro t
  induction t with
  | zero => refine ⟨fun h => Bool.noConfusion h, fun ⟨s, h, _⟩ => absurd h (Nat.not_lt_zero s)⟩
  | succ t ih =>
    rw [f_ex, Bool.or_eq_true, ih]
    constructor
    · rintro (⟨s, h1, h2⟩ | h)
      · exact ⟨s, by omega, h2⟩
      · exact ⟨t, by omega, h⟩
    · rintro ⟨s, h1, h2⟩
      by_cases h : s = t
      · subst h; exact Or.inr h2
      · exact Or.inl ⟨s, by omega, h2⟩
theorem f_al_T {c : Nat → Bool} : ∀ t, f_al c t = true ↔ ∀ s, s < t → c s = true := by
  intro t
  induction t with
  | zero => exact ⟨fun _ s h => absurd h (Nat.not_lt_zero s), fun _ => rfl⟩
  | succ t ih =>
    rw [f_al, Bool.and_eq_true, ih]
    constructor
    · rintro ⟨h1, h2⟩ s hs
      by_cases h : s = t
      · subst h; exact h2
      · exact h1 s (by omega)
    · intro h
      exact ⟨fun s hs => h s (by omega), h t (by omega)⟩
theorem f_b_mk {c : Nat → Bool} {k t : Nat} (ht : t ≤ 64) (hk : k < 64) : f_b (f_mk c t) k = (decide (k < t) && c k) := by
  unfold f_mk
  rw [f_b_or_p]
  apply Bool.eq_iff_iff.mpr
  rw [f_ex_T, Bool.and_eq_true, decide_eq_true_eq]
  constructor
  · rintro ⟨s, h1, h2⟩
    cases hc : c s with
    | false => rw [hc] at h2; exact absurd h2 (by rw [cond_false, f_b_0]; decide)
    | true =>
      rw [hc, cond_true, f_b_one (by omega) hk, decide_eq_true_eq] at h2
      subst h2; exact ⟨h1, hc⟩
  · rintro ⟨h1, h2⟩
    exact ⟨k, h1, by rw [h2, cond_true, f_b_one (by omega) hk]; exact decide_eq_true rfl⟩
theorem f_i_eqT {a b : Bool} (h : (a == b) = true) : f_i a = f_i b := by cases a <;> cases b <;> first | rfl | exact Bool.noConfusion h
theorem f_i_eqF {a b : Bool} (h : (a == b) = false) : ¬ f_i a = f_i b := by cases a <;> cases b <;> first | exact Bool.noConfusion h | decide
theorem f_i_nar (b : Bool) : narrow .boolean (.int (f_i b)) = .int (f_i b) := by cases b <;> rfl
theorem f_i_n (b : Bool) : f_i b = nI b.toNat := by cases b <;> rfl
theorem f_i_add (a : Nat) (b : Bool) : nI a + f_i b = nI (a + b.toNat) := by rw [f_i_n, nI_add]
theorem f_x64 {s e : Nat} (hs : s < 64) (he : e < 6) : s ^^^ 2 ^ e < 64 := Nat.xor_lt_two_pow (n := 6) hs (Nat.pow_lt_pow_right (by decide) he)
def f_orF (a : Int64) (g : Nat → Int64) : Nat → Int64
  | 0 => a
  | t + 1 => f_orF a g t ||| g t
def f_smF (a : Nat) (g : Nat → Nat) : Nat → Nat
  | 0 => a
  | t + 1 => f_smF a g t + g t
theorem f_pop_le (x : Int64) : f_pop x ≤ 64 := f_pc_le 64 _
section MB1
variable {G : g_G} {C : f_C} {M : f_M} {ob h : List va_E} {x : Int64} {s : Nat}
theorem r_hasB (hs : s < 64) : g_Run G mX12_has 1 0 0 [.long x, .int (nI s)] h (some (.int (f_i (f_b x s)))) h := by
  have w := r_has (G := G) (x := x) (y := nI s) (h := h)
  have e9 : (if f_sr x (nI s) &&& 1 = 1 then (1 : Int32) else 0) = f_i (f_b x s) := by
    by_cases e8 : f_sr x (nI s) &&& 1 = 1
    · rw [if_pos e8, (f_has hs).mp e8]; rfl
    · rw [if_neg e8, Bool.eq_false_iff.mpr (fun z => e8 ((f_has hs).mpr z))]; rfl
  rw [e9] at w
  exact w
end MB1
