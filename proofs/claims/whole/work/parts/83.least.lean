/-! Both sides alike: the least of all ways -/
theorem f_cn_true {c : Nat → Bool} (hc : ∀ s, c s = true) : ∀ t, f_cn c t = t := by
  intro t
  induction t with
  | zero => rfl
  | succ t ih => rw [f_cn, hc t, cond_true, ih]
theorem f_onN_true {c : Nat → Bool} (hc : ∀ s, c s = true) {p k : Nat} (h : k < p) : f_onN c p k = k := by
  have := f_onN_cn c h (hc k)
  rw [f_cn_true hc] at this
  exact this
theorem f_cost1 {n w : Nat} {O : Nat → Int32} {L : Nat → Int64} {c : Nat → Bool} (hn : n ≤ 6) (hc : ∀ s, c s = true) (hO : ∀ k, k < f_cn c (2 ^ n) → O k = nI (f_onN c (2 ^ n) k)) (hL : ∀ k, k < f_cn c (2 ^ n) → L k = f_lt 1 n (f_onN c (2 ^ n) k)) : f_edges (f_own w O (f_cn c (2 ^ n))) n n = nI (f_cost 1 w O L (f_cn c (2 ^ n))) := by
  have hp : 2 ^ n ≤ 64 := Nat.pow_le_pow_right (by decide) hn
  rw [f_edges_M hn]
  show nI _ = nI (f_sC w L (f_own w O (f_cn c (2 ^ n))) (f_cn c (2 ^ n)))
  rw [f_edM_sm, f_sC_sm]
  have hat : ∀ q, q < 2 ^ n → f_b (f_own w O (f_cn c (2 ^ n))) q = Nat.testBit w q := fun q hq => by
    rw [f_own_at hp hO (by omega), decide_eq_true hq, hc q, f_cn_true hc]; rfl
  obtain ⟨y, ey⟩ : ∃ y, y = f_own w O (f_cn c (2 ^ n)) := ⟨_, rfl⟩
  rw [← ey] at hat ⊢
  rw [f_cn_true hc]
  have key : f_sm (fun s => f_sm (fun e => (f_b y s && !f_b y (s ^^^ 2 ^ e)).toNat) n) (2 ^ n) = f_sm (fun k => cond (Nat.testBit w k) (f_pop (L k &&& (y ^^^ (-1)))) 0) (2 ^ n) := by
    refine f_sm_ext _ (fun s hs => ?_)
    rw [hL s (by rw [f_cn_true hc]; exact hs), f_onN_true hc hs, ← hat s hs, f_pop_nb hn hs]
    cases f_b y s
    · rw [cond_false]
      exact f_sm_zero n (fun k _ => by rw [Bool.false_and]; rfl)
    · rw [cond_true]
      exact f_sm_ext n (fun k _ => by rw [Bool.true_and])
  rw [key]
theorem f_costG0 {w t v : Nat} {O : Nat → Int32} {L : Nat → Int64} {c : Nat → Bool} (hw0 : 0 < w) (hw : w ≤ 8) (ht : t ≤ 8) (hc : ∀ s, c s = true) (hO : ∀ k, k < f_cn c (w * t) → O k = nI (f_onN c (w * t) k)) (hL : ∀ k, k < f_cn c (w * t) → L k = f_besM w t (f_onN c (w * t) k)) : f_bcL (f_borderG w t (f_own v O (f_cn c (w * t)))) = nI (f_cost 0 v O L (f_cn c (w * t))) := by
  have hp : w * t ≤ 64 := Nat.mul_le_mul hw ht
  rw [f_bcL_pop, f_borderG_M hw0 hw ht (f_own_inp hp hO)]
  show nI _ = nI (f_pop (f_tou v L (f_cn c (w * t)) &&& (f_own v O (f_cn c (w * t)) ^^^ (-1))))
  unfold f_boC
  have key : f_or (fun s => cond (f_b (f_own v O (f_cn c (w * t))) s) (f_besM w t s) 0) (w * t) = f_tou v L (f_cn c (w * t)) := by
    refine f_b_ext (fun q hq => Bool.eq_iff_iff.mpr ?_)
    rw [f_b_or_p, f_ex_T, f_tou_own (tc := f_besM w t) hp hO hL]
    constructor
    · rintro ⟨s, h1, h2⟩
      cases hx : f_b (f_own v O (f_cn c (w * t))) s
      · rw [hx, cond_false, f_b_0] at h2; exact Bool.noConfusion h2
      · rw [hx, cond_true] at h2; exact ⟨s, h1, hx, h2⟩
    · rintro ⟨s, h1, h2, h3⟩
      exact ⟨s, h1, by rw [h2, cond_true]; exact h3⟩
  rw [key]
theorem f_costG1 {w t v : Nat} {O : Nat → Int32} {L : Nat → Int64} {c : Nat → Bool} (hw0 : 0 < w) (ht0 : 0 < t) (hw : w ≤ 8) (ht : t ≤ 8) (hc : ∀ s, c s = true) (hO : ∀ k, k < f_cn c (w * t) → O k = nI (f_onN c (w * t) k)) (hL : ∀ k, k < f_cn c (w * t) → L k = f_besM w t (f_onN c (w * t) k)) : f_edgesG w t (f_own v O (f_cn c (w * t))) = nI (f_cost 1 v O L (f_cn c (w * t))) := by
  have hp : w * t ≤ 64 := Nat.mul_le_mul hw ht
  rw [f_edgesG_M hw0 ht0 hw ht (f_own_inp hp hO)]
  show nI _ = nI (f_sC v L (f_own v O (f_cn c (w * t))) (f_cn c (w * t)))
  rw [f_edC_sm, f_sC_sm]
  have hat : ∀ q, q < w * t → f_b (f_own v O (f_cn c (w * t))) q = Nat.testBit v q := fun q hq => by
    rw [f_own_at hp hO (by omega), decide_eq_true hq, hc q, f_cn_true hc]; rfl
  obtain ⟨y, ey⟩ : ∃ y, y = f_own v O (f_cn c (w * t)) := ⟨_, rfl⟩
  rw [← ey] at hat ⊢
  rw [f_cn_true hc]
  have key : f_sm (fun c => cond (f_b y c) (f_pop (f_besM w t c &&& (y ^^^ (-1)))) 0) (w * t) = f_sm (fun k => cond (Nat.testBit v k) (f_pop (L k &&& (y ^^^ (-1)))) 0) (w * t) := by
    refine f_sm_ext _ (fun s hs => ?_)
    rw [hL s (by rw [f_cn_true hc]; exact hs), f_onN_true hc hs, hat s hs]
  rw [key]
theorem f_pop64 (x : Int64) : f_pop x ≤ 64 := f_pop_le x
theorem f_sC_le (w : Nat) (L : Nat → Int64) (y : Int64) : ∀ t, f_sC w L y t ≤ 64 * t := by
  intro t
  induction t with
  | zero => exact Nat.le_refl _
  | succ t ih =>
    rw [f_sC]
    have := f_pop_le (L t &&& (y ^^^ (-1)))
    cases Nat.testBit w t
    · rw [cond_false]; omega
    · rw [cond_true]; omega
theorem f_cost_m2 {K w so : Nat} {O : Nat → Int32} {L : Nat → Int64} (h : so ≤ 64) : ¬ nI (f_cost K w O L so) = -2 := by
  refine f_m2 ?_
  have h1 := f_pop_le (f_tou w L so &&& (f_own w O so ^^^ (-1)))
  have h2 := f_pop_le (f_tou w L so)
  have h3 := f_sC_le w L (f_own w O so) so
  match K with
  | 0 => show f_pop _ < _; omega
  | 1 => show f_sC _ _ _ _ < _; omega
  | K + 2 => show f_pop _ < _; omega
theorem f_mask_all {p : Nat} {c : Nat → Bool} (hc : ∀ s, c s = true) : f_mask (f_all p) p c := fun q hq => by rw [f_b_all hq, hc q, Bool.and_true]
theorem f_mask_size {n k : Nat} (hk : k < 100) : f_mask (f_all (2 ^ n) &&& f_ofSize (nI k) 64) (2 ^ n) (f_lc 2 k) := fun q hq => by
  rw [f_b_and, f_b_all hq, f_ofSize_b hk hq 64 (Nat.le_refl _), decide_eq_true hq, Bool.true_and]; rfl
/-- the least of the cube, by borders and by edges -/
theorem f_least_M0 {n m : Nat} {O : Nat → Int32} {L : Nat → Int64} {ff : Int64} (hn : n ≤ 4) (hm : m ≤ 2 ^ n) : f_lo (fun x => f_bcL (f_border x n)) (nI m) (f_all (2 ^ n)) = (f_lf 0 n 0 (2 ^ n) m O L ff).2 ∧ f_bcL (f_border (f_lo (fun x => f_bcL (f_border x n)) (nI m) (f_all (2 ^ n))) n) = (f_lf 0 n 0 (2 ^ n) m O L ff).1 := by
  have hp16 : 2 ^ n ≤ 16 := show 2 ^ n ≤ 2 ^ 4 from Nat.pow_le_pow_right (by decide) hn
  have hcn := f_cn_all 0 0 (by decide) (2 ^ n)
  have hO := f_oR_at (f_lc 0 0) O (2 ^ n)
  have hL := f_tR_at (f_lc 0 0) (f_lt 0 n) L (2 ^ n)
  have hmask : f_mask (f_all (2 ^ n)) (2 ^ n) (f_lc 0 0) := f_mask_all (fun _ => rfl)
  have hlt : ∀ w, w < 2 ^ 2 ^ n → w < 2 ^ 63 := fun w h => Nat.lt_of_lt_of_le h (Nat.pow_le_pow_right (by decide) (by omega))
  unfold f_lf
  refine f_lo_M (g := fun x => f_bcL (f_border x n)) hp16 hm (by rw [f_mask_pop (by omega) hmask, hcn]) (fun w hw _ => ?_) (fun w hw _ => ⟨?_, f_cost_m2 (by omega)⟩)
  · have := f_spread_own (w := w) (by omega) hmask (hlt w hw) hO
    rw [hcn] at this; exact this
  · have := f_cost0 (n := n) (w := w) (by omega) hO hL
    rw [hcn] at this; exact this
theorem f_least_M1 {n m : Nat} {O : Nat → Int32} {L : Nat → Int64} {ff : Int64} (hn : n ≤ 4) (hm : m ≤ 2 ^ n) : f_lo (fun x => f_edges x n n) (nI m) (f_all (2 ^ n)) = (f_lf 1 n 0 (2 ^ n) m O L ff).2 ∧ f_edges (f_lo (fun x => f_edges x n n) (nI m) (f_all (2 ^ n))) n n = (f_lf 1 n 0 (2 ^ n) m O L ff).1 := by
  have hp16 : 2 ^ n ≤ 16 := show 2 ^ n ≤ 2 ^ 4 from Nat.pow_le_pow_right (by decide) hn
  have hcn := f_cn_all 1 0 (by decide) (2 ^ n)
  have hO := f_oR_at (f_lc 1 0) O (2 ^ n)
  have hL := f_tR_at (f_lc 1 0) (f_lt 1 n) L (2 ^ n)
  have hmask : f_mask (f_all (2 ^ n)) (2 ^ n) (f_lc 1 0) := f_mask_all (fun _ => rfl)
  have hlt : ∀ w, w < 2 ^ 2 ^ n → w < 2 ^ 63 := fun w h => Nat.lt_of_lt_of_le h (Nat.pow_le_pow_right (by decide) (by omega))
  unfold f_lf
  refine f_lo_M (g := fun x => f_edges x n n) hp16 hm (by rw [f_mask_pop (by omega) hmask, hcn]) (fun w hw _ => ?_) (fun w hw _ => ⟨?_, f_cost_m2 (by omega)⟩)
  · have := f_spread_own (w := w) (by omega) hmask (hlt w hw) hO
    rw [hcn] at this; exact this
  · have := f_cost1 (n := n) (w := w) (c := f_lc 1 0) (by omega) (fun _ => rfl) hO hL
    rw [hcn] at this; exact this
/-- the least of the sets of one size, by their shadows -/
theorem f_least_M2 {n k m : Nat} {O : Nat → Int32} {L : Nat → Int64} {ff : Int64} (hn : n ≤ 6) (hk : k ≤ n) (hb : f_bin n k ≤ 15) (hm : m ≤ f_bin n k) : f_lo (fun x => f_bcL (f_shadow x n)) (nI m) (f_all (2 ^ n) &&& f_ofSize (nI k) 64) = (f_lf 2 n k (f_bin n k) m O L ff).2 ∧ f_bcL (f_shadow (f_lo (fun x => f_bcL (f_shadow x n)) (nI m) (f_all (2 ^ n) &&& f_ofSize (nI k) 64)) n) = (f_lf 2 n k (f_bin n k) m O L ff).1 := by
  have hp : 2 ^ n ≤ 64 := Nat.pow_le_pow_right (by decide) hn
  have hcn := f_cn_bin n (by omega) k (by omega)
  have hO := f_oR_at (f_lc 2 k) O (2 ^ n)
  have hL := f_tR_at (f_lc 2 k) (f_lt 2 n) L (2 ^ n)
  have hmask := f_mask_size (n := n) (k := k) (by omega)
  have hlt : ∀ w, w < 2 ^ f_bin n k → w < 2 ^ 63 := fun w h => Nat.lt_of_lt_of_le h (Nat.pow_le_pow_right (by decide) (by omega))
  unfold f_lf
  refine f_lo_M (g := fun x => f_bcL (f_shadow x n)) (by omega) hm (by rw [f_mask_pop hp hmask, hcn]) (fun w hw _ => ?_) (fun w hw _ => ⟨?_, f_cost_m2 (by omega)⟩)
  · have := f_spread_own (w := w) hp hmask (hlt w hw) hO
    rw [hcn] at this; exact this
  · have := f_cost2 (n := n) (w := w) hn hO hL
    rw [hcn] at this; exact this
theorem f_ocR_at (O : Nat → Int32) : ∀ t k, k < t → f_ocR O t k = nI k := by
  intro t
  induction t with
  | zero => intro k h; exact absurd h (Nat.not_lt_zero k)
  | succ t ih =>
    intro k h
    rw [f_ocR]
    by_cases e : k = t
    · subst e; exact pk_us
    · rw [pk_un e]; exact ih k (by omega)
theorem f_tcR_at (w t9 : Nat) (L : Nat → Int64) : ∀ t k, k < t → f_tcR w t9 L t k = f_besM w t9 k := by
  intro t
  induction t with
  | zero => intro k h; exact absurd h (Nat.not_lt_zero k)
  | succ t ih =>
    intro k h
    rw [f_tcR]
    by_cases e : k = t
    · subst e; exact pk_uLs
    · rw [pk_uLn e]; exact ih k (by omega)
theorem f_leastG_M0 {w t m : Nat} {O : Nat → Int32} {L : Nat → Int64} {ff : Int64} (hw0 : 0 < w) (hw : w ≤ 8) (ht : t ≤ 8) (hp : w * t ≤ 16) (hm : m ≤ w * t) : f_lo (fun x => f_bcL (f_borderG w t x)) (nI m) (f_all (w * t)) = (f_lcf w t 0 m O L ff).2 ∧ f_bcL (f_borderG w t (f_lo (fun x => f_bcL (f_borderG w t x)) (nI m) (f_all (w * t)))) = (f_lcf w t 0 m O L ff).1 := by
  have hcn := f_cn_true (c := f_lc 0 0) (fun _ => rfl) (w * t)
  have hO : ∀ k, k < f_cn (f_lc 0 0) (w * t) → f_ocR O (w * t) k = nI (f_onN (f_lc 0 0) (w * t) k) := fun k hk => by
    rw [hcn] at hk; rw [f_onN_true (c := f_lc 0 0) (fun _ => rfl) hk]; exact f_ocR_at O (w * t) k hk
  have hL : ∀ k, k < f_cn (f_lc 0 0) (w * t) → f_tcR w t L (w * t) k = f_besM w t (f_onN (f_lc 0 0) (w * t) k) := fun k hk => by
    rw [hcn] at hk; rw [f_onN_true (c := f_lc 0 0) (fun _ => rfl) hk]; exact f_tcR_at w t L (w * t) k hk
  have hmask : f_mask (f_all (w * t)) (w * t) (f_lc 0 0) := f_mask_all (fun _ => rfl)
  have hlt : ∀ v, v < 2 ^ (w * t) → v < 2 ^ 63 := fun v h => Nat.lt_of_lt_of_le h (Nat.pow_le_pow_right (by decide) (by omega))
  unfold f_lcf
  refine f_lo_M (g := fun x => f_bcL (f_borderG w t x)) hp hm (by rw [f_mask_pop (by omega) hmask, hcn]) (fun v hv _ => ?_) (fun v hv _ => ⟨?_, f_cost_m2 (by omega)⟩)
  · have := f_spread_own (w := v) (by omega) hmask (hlt v hv) hO
    rw [hcn] at this; exact this
  · have := f_costG0 (v := v) (c := f_lc 0 0) hw0 hw ht (fun _ => rfl) hO hL
    rw [hcn] at this; exact this
theorem f_leastG_M1 {w t m : Nat} {O : Nat → Int32} {L : Nat → Int64} {ff : Int64} (hw0 : 0 < w) (ht0 : 0 < t) (hw : w ≤ 8) (ht : t ≤ 8) (hp : w * t ≤ 16) (hm : m ≤ w * t) : f_lo (f_edgesG w t) (nI m) (f_all (w * t)) = (f_lcf w t 1 m O L ff).2 ∧ f_edgesG w t (f_lo (f_edgesG w t) (nI m) (f_all (w * t))) = (f_lcf w t 1 m O L ff).1 := by
  have hcn := f_cn_true (c := f_lc 1 0) (fun _ => rfl) (w * t)
  have hO : ∀ k, k < f_cn (f_lc 1 0) (w * t) → f_ocR O (w * t) k = nI (f_onN (f_lc 1 0) (w * t) k) := fun k hk => by
    rw [hcn] at hk; rw [f_onN_true (c := f_lc 1 0) (fun _ => rfl) hk]; exact f_ocR_at O (w * t) k hk
  have hL : ∀ k, k < f_cn (f_lc 1 0) (w * t) → f_tcR w t L (w * t) k = f_besM w t (f_onN (f_lc 1 0) (w * t) k) := fun k hk => by
    rw [hcn] at hk; rw [f_onN_true (c := f_lc 1 0) (fun _ => rfl) hk]; exact f_tcR_at w t L (w * t) k hk
  have hmask : f_mask (f_all (w * t)) (w * t) (f_lc 1 0) := f_mask_all (fun _ => rfl)
  have hlt : ∀ v, v < 2 ^ (w * t) → v < 2 ^ 63 := fun v h => Nat.lt_of_lt_of_le h (Nat.pow_le_pow_right (by decide) (by omega))
  unfold f_lcf
  refine f_lo_M (g := f_edgesG w t) hp hm (by rw [f_mask_pop (by omega) hmask, hcn]) (fun v hv _ => ?_) (fun v hv _ => ⟨?_, f_cost_m2 (by omega)⟩)
  · have := f_spread_own (w := v) (by omega) hmask (hlt v hv) hO
    rw [hcn] at this; exact this
  · have := f_costG1 (v := v) (c := f_lc 1 0) hw0 ht0 hw ht (fun _ => rfl) hO hL
    rw [hcn] at this; exact this
