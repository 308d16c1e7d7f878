/-! places of a shelf come to another one: both sides answer alike -/
section VH1
variable {G : g_G} {C : f_C} {M : f_M} {ob ob2 : List va_E} {y y2 y3 y4 y5 : Int32} {x : Int64}
theorem v_sfR (M : f_M) (o m o2 q : Nat) : f_mvM3 (f_tkM3 M o m) o2 q = f_mL (f_mI (f_mI (f_mL (f_mI (f_mI M 13 (f_tkI (M.2.2.2.1 13) (M.2.2.2.1 11) o m)) 14 (f_tkI (M.2.2.2.1 14) (M.2.2.2.1 12) o m)) 4 (f_tkL (M.2.2.2.2 4) (M.2.2.2.2 3) o m)) 11 (f_mvI (M.2.2.2.1 11) (f_tkI (M.2.2.2.1 13) (M.2.2.2.1 11) o m) o2 q)) 12 (f_mvI (M.2.2.2.1 12) (f_tkI (M.2.2.2.1 14) (M.2.2.2.1 12) o m) o2 q)) 3 (f_mvL (M.2.2.2.2 3) (f_tkL (M.2.2.2.2 4) (M.2.2.2.2 3) o m) o2 q) := rfl
/-- the kind in a place, if there is one -/
def v_kk (A : Nat → Int32) (o : Nat) : Nat → Option Nat := fun q => if A (o + q) = -1 then none else some (A (o + q)).toNatClampNeg
theorem v_kk_n {A : Nat → Int32} {o i k : Nat} (h : A (o + i) = nI k) (hk : k < 6) : v_kk A o i = some k := by
  unfold v_kk
  rw [h, if_neg (v_nm1 (by omega)), g_cl (by omega)]
theorem v_kk_0 {A : Nat → Int32} {o i : Nat} (h : A (o + i) = -1) : v_kk A o i = none := if_pos h
theorem v_kk_at {R : Nat → Option Nat} {A B : Nat → Int32} {D : Nat → Int64} {i o : Nat} (h : v_Jsp G ob R A B D i o) : g_at G (g_hp G C (g_hm G M ++ ob)) (R i) (v_kk A o i) := by
  rcases h with ⟨h1, h2⟩ | ⟨T, ⟨o9, e1, e2⟩, m1, m2, m3, m4, m5⟩
  · rw [v_kk_0 h2]; exact h1
  · rw [v_kk_n m1 m4]
    refine ⟨63 + o9, nI T.2.1, T.2.2, e1, ?_, m4⟩
    rw [← v_38]
    exact g_hp_at.trans (v_ob_at.trans e2)
theorem v_kk_T {R : Nat → Option Nat} {A B : Nat → Int32} {D : Nat → Int64} {i o s : Nat} (h : v_Jsp G ob R A B D i o) (hm : f_mayo s (v_kk A o i) = true) : A (o + i) < 0 ∨ ∃ kk, kk < 6 ∧ A (o + i) = nI kk ∧ f_may s kk = true := by
  rcases h with ⟨h1, h2⟩ | ⟨T, ⟨o9, e1, e2⟩, m1, m2, m3, m4, m5⟩
  · left; rw [h2]; decide
  · right
    rw [v_kk_n m1 m4] at hm
    exact ⟨T.1, m4, m1, hm⟩
theorem v_kk_F {R : Nat → Option Nat} {A B : Nat → Int32} {D : Nat → Int64} {i o s : Nat} (h : v_Jsp G ob R A B D i o) (hm : f_mayo s (v_kk A o i) = false) : ∃ kk, kk < 6 ∧ A (o + i) = nI kk ∧ f_may s kk = false := by
  rcases h with ⟨h1, h2⟩ | ⟨T, ⟨o9, e1, e2⟩, m1, m2, m3, m4, m5⟩
  · rw [v_kk_0 h2] at hm; cases hm
  · rw [v_kk_n m1 m4] at hm
    exact ⟨T.1, m4, m1, hm⟩
theorem v_lead {s : Nat} {kk : Nat → Option Nat} : ∀ t i, f_lead s kk t i ≤ t ∧ (∀ r, r < f_lead s kk t i → f_mayo s (kk (i + r)) = true) ∧ (f_lead s kk t i < t → f_mayo s (kk (i + f_lead s kk t i)) = false)
  | 0, i => ⟨Nat.le_refl _, fun r hr => absurd hr (Nat.not_lt_zero r), fun h => absurd h (Nat.not_lt_zero _)⟩
  | t + 1, i => by
    obtain ⟨h1, h2, h3⟩ := v_lead (s := s) (kk := kk) t (i + 1)
    rw [f_lead]
    cases hm : f_mayo s (kk i) with
    | true =>
      rw [if_pos rfl]
      refine ⟨by omega, fun r hr => ?_, fun h => ?_⟩
      · match r, hr with
        | 0, _ => exact hm
        | r + 1, hr =>
          have := h2 r (by omega)
          rw [show i + 1 + r = i + (r + 1) by omega] at this
          exact this
      · have := h3 (by omega)
        rw [show i + 1 + f_lead s kk t (i + 1) = i + (f_lead s kk t (i + 1) + 1) by omega] at this
        exact this
    | false =>
      rw [if_neg Bool.false_ne_true]
      exact ⟨Nat.zero_le _, fun r hr => absurd hr (Nat.not_lt_zero r), fun _ => hm⟩
theorem v_Js.shift {th so so2 ma : Int32} {p pa o oa i9 j9 q : Nat} {R Ra R2 : Nat → Option Nat} {A B A2 B2 : Nat → Int32} {D D2 : Nat → Int64} (h : v_Js G ob th so p R so2 ma A B D o) (ha : ∀ i, i < pa → v_Jsp G ob Ra A B D i oa) (hq : i9 + q ≤ pa) (hR : ∀ r, R2 r = if j9 ≤ r ∧ r < j9 + q then Ra (i9 + (r - j9)) else R r) (hA : ∀ r, A2 r = if o + j9 ≤ r ∧ r < o + j9 + q then A (oa + i9 + (r - (o + j9))) else A r) (hB : ∀ r, B2 r = if o + j9 ≤ r ∧ r < o + j9 + q then B (oa + i9 + (r - (o + j9))) else B r) (hD : ∀ r, D2 r = if o + j9 ≤ r ∧ r < o + j9 + q then D (oa + i9 + (r - (o + j9))) else D r) : v_Js G ob th so p R2 so2 ma A2 B2 D2 o := by
  refine h.imp id (fun ⟨q1, q2, q3, q4, q5⟩ => ⟨q1, q2, q3, q4, fun i hi => ?_⟩)
  by_cases e : j9 ≤ i ∧ i < j9 + q
  · refine (ha (i9 + (i - j9)) (by omega)).cg ((hR i).trans (if_pos e)) ?_ ?_ ?_
    · rw [hA, if_pos (by omega)]; exact congrArg A (by omega)
    · rw [hB, if_pos (by omega)]; exact congrArg B (by omega)
    · rw [hD, if_pos (by omega)]; exact congrArg D (by omega)
  · refine (q5 i hi).cg ((hR i).trans (if_neg e)) ?_ ?_ ?_
    · rw [hA, if_neg (by omega)]
    · rw [hB, if_neg (by omega)]
    · rw [hD, if_neg (by omega)]
theorem v_sub6 {p n : Nat} (hp : p ≤ 6) (hn : n < 2 ^ 31) : (nI p - nI n).toInt = (p : Int) - n := by
  rw [Int32.toInt_sub, nI_toInt (by omega), nI_toInt hn]
  exact Int.bmod_eq_of_le (by omega) (by omega)
/-- an int that isn't below 0 -/
theorem v_nn {z : Int32} (h : ¬ z < 0) : ∃ j : Nat, j < 2 ^ 31 ∧ z = nI j := nI_of h
theorem v_sfo1 {p : Nat} (hp : p ≤ 6) (hno : ¬ ∃ i n, y2 = nI i ∧ y5 = nI n ∧ i + n ≤ p) : y5 < 0 ∨ y2 < 0 ∨ nI p - y5 < y2 := by
  by_cases h5 : y5 < 0
  · exact Or.inl h5
  · by_cases h2 : y2 < 0
    · exact Or.inr (Or.inl h2)
    · right; right
      obtain ⟨n, hn, rfl⟩ := v_nn h5
      obtain ⟨i, hi, rfl⟩ := v_nn h2
      rw [v_it, v_sub6 hp hn, nI_toInt hi]
      by_cases hle : i + n ≤ p
      · exact absurd ⟨i, n, rfl, rfl, hle⟩ hno
      · omega
theorem v_sfo2 {p n : Nat} (hp : p ≤ 6) (hn : n ≤ 6) (hno : ¬ ∃ j, y4 = nI j ∧ j + n ≤ p) : y4 < 0 ∨ ¬ y4 ≤ nI p - nI n := by
  by_cases h4 : y4 < 0
  · exact Or.inl h4
  · right
    obtain ⟨j, hj, rfl⟩ := v_nn h4
    rw [v_il, v_sub6 hp (by omega), nI_toInt hj]
    by_cases hle : j + n ≤ p
    · exact absurd ⟨j, rfl, hle⟩ hno
    · omega
theorem v_shift00 (hJ : v_J G C M ob) : v_Ok Value.int mX11_shift mX12_shift [.int 0, .int y2, .int 0, .int y4, .int y5] G C M ob := by
  have hJ0 := hJ
  have hq := hJ.qs
  obtain ⟨F, ja, jb, jg, jc, ji, jt, jp, jr, js, jl, jq⟩ := hJ
  have j0 : v_Js G ob (C.2.1 3) (C.2.1 6) (C.1 12) (C.2.2.2.2.2 6) (M.2.2.2.1 9 0) (M.2.2.2.1 10 0) (M.2.2.2.1 11) (M.2.2.2.1 12) (M.2.2.2.2 3) (6 * 0) := js.1
  have j1 : v_Js G ob (C.2.1 3) (C.2.1 6) (C.1 12) (C.2.2.2.2.2 6) (M.2.2.2.1 9 0) (M.2.2.2.1 10 0) (M.2.2.2.1 11) (M.2.2.2.1 12) (M.2.2.2.2 3) (6 * 0) := js.1
  have j2 := j1
  rcases j0 with ⟨h1, h2, h3, h4⟩ | ⟨h1, h2, h3, ⟨s0, hs0, h4, h5⟩, h6⟩
  · exact v_ok hJ0 (r_X11_shift00_miss hq (Or.inl h1)) (r_sfM_m1 (s := 0) (o := 0) (by omega) (by omega) (by rw [h3]; decide)) rfl
  · have n0 : ¬ M.2.2.2.1 9 0 < 0 := by rw [h5]; exact nI_pos (by omega)
    rcases j1 with ⟨k1, k2, k3, k4⟩ | ⟨k1, k2, k3, ⟨s9, hs9, k4, k5⟩, k6⟩
    · exact v_ok hJ0 (r_X11_shift00_miss hq (Or.inr k1)) (r_sfM_m2 (s := 0) (o := 0) (by omega) (by omega) n0 (by rw [k3]; decide)) rfl
    · have g1 : 0 ≤ M.2.2.2.1 9 0 := by rw [k5]; exact nI_pos' (by omega)
      by_cases hA : ∃ i n, y2 = nI i ∧ y5 = nI n ∧ i + n ≤ C.1 12
      · obtain ⟨i, n, rfl, rfl, hin⟩ := hA
        by_cases hB : ∃ j, y4 = nI j ∧ j + n ≤ C.1 12
        · obtain ⟨j, rfl, hjn⟩ := hB
          obtain ⟨c2, f2, hf2, a9⟩ := r_X11_shift00 (G := G) (C := C) (tl := g_hm G M ++ ob) (i9 := i) (j9 := j) (n9 := n) (s9 := s9) (kk := v_kk (M.2.2.2.1 11) (6 * 0)) hq h1 k1 h2 k2 hin hjn k4 hs9 (fun q hq9 => v_kk_at (h6 q hq9))
          obtain ⟨l1, l2, l3⟩ := v_lead (s := s9) (kk := v_kk (M.2.2.2.1 11) (6 * 0)) n i
          obtain ⟨q, eq9⟩ : ∃ q, q = f_lead s9 (v_kk (M.2.2.2.1 11) (6 * 0)) n i := ⟨_, rfl⟩
          rw [← eq9] at l1 l2 l3 hf2 a9
          have w1 : v_Js G ob (C.2.1 3) (C.2.1 6) (C.1 12) f2 (M.2.2.2.1 9 0) (M.2.2.2.1 10 0) (f_mvI (M.2.2.2.1 11) (f_tkI (M.2.2.2.1 13) (M.2.2.2.1 11) (6 * 0 + i) n) (6 * 0 + j) q) (f_mvI (M.2.2.2.1 12) (f_tkI (M.2.2.2.1 14) (M.2.2.2.1 12) (6 * 0 + i) n) (6 * 0 + j) q) (f_mvL (M.2.2.2.2 3) (f_tkL (M.2.2.2.2 4) (M.2.2.2.2 3) (6 * 0 + i) n) (6 * 0 + j) q) (6 * 0) := v_Js.shift j2 h6 (by omega) hf2 (fun r => v_mtI l1) (fun r => v_mtI l1) (fun r => v_mtL l1)
          have u1 : v_Js G ob (C.2.1 4) (C.2.1 7) (C.1 13) (C.2.2.2.2.2 7) (M.2.2.2.1 9 1) (M.2.2.2.1 10 1) (f_mvI (M.2.2.2.1 11) (f_tkI (M.2.2.2.1 13) (M.2.2.2.1 11) (6 * 0 + i) n) (6 * 0 + j) q) (f_mvI (M.2.2.2.1 12) (f_tkI (M.2.2.2.1 14) (M.2.2.2.1 12) (6 * 0 + i) n) (6 * 0 + j) q) (f_mvL (M.2.2.2.2 3) (f_tkL (M.2.2.2.2 4) (M.2.2.2.2 3) (6 * 0 + i) n) (6 * 0 + j) q) (6 * 1) := v_Js.oth js.2.1 (fun i hi => v_mtI_out l1 (by omega)) (fun i hi => v_mtI_out l1 (by omega)) (fun i hi => v_mtL_out l1 (by omega))
          have u2 : v_Js G ob (C.2.1 5) (C.2.1 8) (C.1 14) (C.2.2.2.2.2 8) (M.2.2.2.1 9 2) (M.2.2.2.1 10 2) (f_mvI (M.2.2.2.1 11) (f_tkI (M.2.2.2.1 13) (M.2.2.2.1 11) (6 * 0 + i) n) (6 * 0 + j) q) (f_mvI (M.2.2.2.1 12) (f_tkI (M.2.2.2.1 14) (M.2.2.2.1 12) (6 * 0 + i) n) (6 * 0 + j) q) (f_mvL (M.2.2.2.2 3) (f_tkL (M.2.2.2.2 4) (M.2.2.2.2 3) (6 * 0 + i) n) (6 * 0 + j) q) (6 * 2) := v_Js.oth js.2.2 (fun i hi => v_mtI_out l1 (by omega)) (fun i hi => v_mtI_out l1 (by omega)) (fun i hi => v_mtL_out l1 (by omega))
          have c1 : ¬ M.2.2.2.1 10 0 - nI n < nI i := by rw [h3, v_it, v_sub6 h2 (by omega), nI_toInt (by omega)]; omega
          have c3 : nI j ≤ M.2.2.2.1 10 0 - nI n := by rw [k3, v_il, v_sub6 k2 (by omega), nI_toInt (by omega)]; omega
          have hall : ∀ t, t < q → M.2.2.2.1 11 (6 * 0 + i + t) < 0 ∨ ∃ kk, kk < 6 ∧ M.2.2.2.1 11 (6 * 0 + i + t) = nI kk ∧ f_may s9 kk = true := fun t ht => by
            have := v_kk_T (h6 (i + t) (by omega)) (l2 t ht)
            rw [← Nat.add_assoc] at this
            exact this
          by_cases hl : q = n
          · have b9 := r_sfM_ok (G := G) (C := f_uR (f_uR C 9 c2) 6 f2) (M := M) (ob := ob) (s := 0) (o := 0) (so := s9) (i := i) (j := j) (m := n) (by omega) (by omega) n0 k5 hs9 (by omega) (by omega) c1 c3 (fun t ht => hall t (by omega))
            rw [v_sfR] at b9
            rw [if_pos hl] at a9
            subst hl
            refine v_ok (C2 := f_uR (f_uR C 9 c2) 6 f2) ?_ a9 b9 rfl
            exact ⟨F, ja, jb, jg, jc, ji, jt, jp, jr, ⟨w1, u1, u2⟩, jl, jq⟩
          · have b9 := r_sfM_oth (G := G) (C := f_uR (f_uR C 9 c2) 6 f2) (M := M) (ob := ob) (s := 0) (o := 0) (so := s9) (i := i) (j := j) (m := n) (q := q) (by omega) (by omega) n0 k5 hs9 (by omega) (by omega) c1 c3 (by omega) hall (by
              have := v_kk_F (h6 (i + q) (by omega)) (l3 (by omega))
              rw [← Nat.add_assoc] at this
              exact this)
            rw [v_sfR] at b9
            rw [if_neg hl] at a9
            refine v_ok (C2 := f_uR (f_uR C 9 c2) 6 f2) ?_ a9 b9 rfl
            exact ⟨F, ja, jb, jg, jc, ji, jt, jp, jr, ⟨w1, u1, u2⟩, jl, jq⟩
        · refine v_ok hJ0 (r_X11_shift00_out2 (i9 := i) (n9 := n) hq h1 k1 h2 k2 hin (fun i7 n7 e1 e2 hle => hB ⟨i7, e1, ?_⟩)) (r_sfM_out (s := 0) (o := 0) (by omega) (by omega) n0 g1 ?_) rfl
          · have : n = n7 := nI_inj9 (by omega) (by omega) e2
            omega
          · rw [k3]
            rcases v_sfo2 k2 (by omega) hB with z | z
            · exact Or.inr (Or.inr (Or.inl z))
            · exact Or.inr (Or.inr (Or.inr (Or.inr z)))
      · refine v_ok hJ0 (r_X11_shift00_out1 hq h1 k1 h2 (fun i9 n9 e1 e2 hle => hA ⟨i9, n9, e1, e2, hle⟩)) (r_sfM_out (s := 0) (o := 0) (by omega) (by omega) n0 g1 ?_) rfl
        rw [h3]
        rcases v_sfo1 h2 hA with z | z | z
        · exact Or.inl z
        · exact Or.inr (Or.inl z)
        · exact Or.inr (Or.inr (Or.inr (Or.inl z)))
theorem v_shift01 (hJ : v_J G C M ob) : v_Ok Value.int mX11_shift mX12_shift [.int 0, .int y2, .int 1, .int y4, .int y5] G C M ob := by
  have hJ0 := hJ
  have hq := hJ.qs
  obtain ⟨F, ja, jb, jg, jc, ji, jt, jp, jr, js, jl, jq⟩ := hJ
  have j0 : v_Js G ob (C.2.1 3) (C.2.1 6) (C.1 12) (C.2.2.2.2.2 6) (M.2.2.2.1 9 0) (M.2.2.2.1 10 0) (M.2.2.2.1 11) (M.2.2.2.1 12) (M.2.2.2.2 3) (6 * 0) := js.1
  have j1 : v_Js G ob (C.2.1 4) (C.2.1 7) (C.1 13) (C.2.2.2.2.2 7) (M.2.2.2.1 9 1) (M.2.2.2.1 10 1) (M.2.2.2.1 11) (M.2.2.2.1 12) (M.2.2.2.2 3) (6 * 1) := js.2.1
  have j2 := j1
  rcases j0 with ⟨h1, h2, h3, h4⟩ | ⟨h1, h2, h3, ⟨s0, hs0, h4, h5⟩, h6⟩
  · exact v_ok hJ0 (r_X11_shift01_miss hq (Or.inl h1)) (r_sfM_m1 (s := 0) (o := 1) (by omega) (by omega) (by rw [h3]; decide)) rfl
  · have n0 : ¬ M.2.2.2.1 9 0 < 0 := by rw [h5]; exact nI_pos (by omega)
    rcases j1 with ⟨k1, k2, k3, k4⟩ | ⟨k1, k2, k3, ⟨s9, hs9, k4, k5⟩, k6⟩
    · exact v_ok hJ0 (r_X11_shift01_miss hq (Or.inr k1)) (r_sfM_m2 (s := 0) (o := 1) (by omega) (by omega) n0 (by rw [k3]; decide)) rfl
    · have g1 : 0 ≤ M.2.2.2.1 9 1 := by rw [k5]; exact nI_pos' (by omega)
      by_cases hA : ∃ i n, y2 = nI i ∧ y5 = nI n ∧ i + n ≤ C.1 12
      · obtain ⟨i, n, rfl, rfl, hin⟩ := hA
        by_cases hB : ∃ j, y4 = nI j ∧ j + n ≤ C.1 13
        · obtain ⟨j, rfl, hjn⟩ := hB
          obtain ⟨c2, f2, hf2, a9⟩ := r_X11_shift01 (G := G) (C := C) (tl := g_hm G M ++ ob) (i9 := i) (j9 := j) (n9 := n) (s9 := s9) (kk := v_kk (M.2.2.2.1 11) (6 * 0)) hq h1 k1 h2 k2 hin hjn k4 hs9 (fun q hq9 => v_kk_at (h6 q hq9))
          obtain ⟨l1, l2, l3⟩ := v_lead (s := s9) (kk := v_kk (M.2.2.2.1 11) (6 * 0)) n i
          obtain ⟨q, eq9⟩ : ∃ q, q = f_lead s9 (v_kk (M.2.2.2.1 11) (6 * 0)) n i := ⟨_, rfl⟩
          rw [← eq9] at l1 l2 l3 hf2 a9
          have w1 : v_Js G ob (C.2.1 4) (C.2.1 7) (C.1 13) f2 (M.2.2.2.1 9 1) (M.2.2.2.1 10 1) (f_mvI (M.2.2.2.1 11) (f_tkI (M.2.2.2.1 13) (M.2.2.2.1 11) (6 * 0 + i) n) (6 * 1 + j) q) (f_mvI (M.2.2.2.1 12) (f_tkI (M.2.2.2.1 14) (M.2.2.2.1 12) (6 * 0 + i) n) (6 * 1 + j) q) (f_mvL (M.2.2.2.2 3) (f_tkL (M.2.2.2.2 4) (M.2.2.2.2 3) (6 * 0 + i) n) (6 * 1 + j) q) (6 * 1) := v_Js.shift j2 h6 (by omega) hf2 (fun r => v_mtI l1) (fun r => v_mtI l1) (fun r => v_mtL l1)
          have u0 : v_Js G ob (C.2.1 3) (C.2.1 6) (C.1 12) (C.2.2.2.2.2 6) (M.2.2.2.1 9 0) (M.2.2.2.1 10 0) (f_mvI (M.2.2.2.1 11) (f_tkI (M.2.2.2.1 13) (M.2.2.2.1 11) (6 * 0 + i) n) (6 * 1 + j) q) (f_mvI (M.2.2.2.1 12) (f_tkI (M.2.2.2.1 14) (M.2.2.2.1 12) (6 * 0 + i) n) (6 * 1 + j) q) (f_mvL (M.2.2.2.2 3) (f_tkL (M.2.2.2.2 4) (M.2.2.2.2 3) (6 * 0 + i) n) (6 * 1 + j) q) (6 * 0) := v_Js.oth js.1 (fun i hi => v_mtI_out l1 (by omega)) (fun i hi => v_mtI_out l1 (by omega)) (fun i hi => v_mtL_out l1 (by omega))
          have u2 : v_Js G ob (C.2.1 5) (C.2.1 8) (C.1 14) (C.2.2.2.2.2 8) (M.2.2.2.1 9 2) (M.2.2.2.1 10 2) (f_mvI (M.2.2.2.1 11) (f_tkI (M.2.2.2.1 13) (M.2.2.2.1 11) (6 * 0 + i) n) (6 * 1 + j) q) (f_mvI (M.2.2.2.1 12) (f_tkI (M.2.2.2.1 14) (M.2.2.2.1 12) (6 * 0 + i) n) (6 * 1 + j) q) (f_mvL (M.2.2.2.2 3) (f_tkL (M.2.2.2.2 4) (M.2.2.2.2 3) (6 * 0 + i) n) (6 * 1 + j) q) (6 * 2) := v_Js.oth js.2.2 (fun i hi => v_mtI_out l1 (by omega)) (fun i hi => v_mtI_out l1 (by omega)) (fun i hi => v_mtL_out l1 (by omega))
          have c1 : ¬ M.2.2.2.1 10 0 - nI n < nI i := by rw [h3, v_it, v_sub6 h2 (by omega), nI_toInt (by omega)]; omega
          have c3 : nI j ≤ M.2.2.2.1 10 1 - nI n := by rw [k3, v_il, v_sub6 k2 (by omega), nI_toInt (by omega)]; omega
          have hall : ∀ t, t < q → M.2.2.2.1 11 (6 * 0 + i + t) < 0 ∨ ∃ kk, kk < 6 ∧ M.2.2.2.1 11 (6 * 0 + i + t) = nI kk ∧ f_may s9 kk = true := fun t ht => by
            have := v_kk_T (h6 (i + t) (by omega)) (l2 t ht)
            rw [← Nat.add_assoc] at this
            exact this
          by_cases hl : q = n
          · have b9 := r_sfM_ok (G := G) (C := f_uR (f_uR C 10 c2) 7 f2) (M := M) (ob := ob) (s := 0) (o := 1) (so := s9) (i := i) (j := j) (m := n) (by omega) (by omega) n0 k5 hs9 (by omega) (by omega) c1 c3 (fun t ht => hall t (by omega))
            rw [v_sfR] at b9
            rw [if_pos hl] at a9
            subst hl
            refine v_ok (C2 := f_uR (f_uR C 10 c2) 7 f2) ?_ a9 b9 rfl
            exact ⟨F, ja, jb, jg, jc, ji, jt, jp, jr, ⟨u0, w1, u2⟩, jl, jq⟩
          · have b9 := r_sfM_oth (G := G) (C := f_uR (f_uR C 10 c2) 7 f2) (M := M) (ob := ob) (s := 0) (o := 1) (so := s9) (i := i) (j := j) (m := n) (q := q) (by omega) (by omega) n0 k5 hs9 (by omega) (by omega) c1 c3 (by omega) hall (by
              have := v_kk_F (h6 (i + q) (by omega)) (l3 (by omega))
              rw [← Nat.add_assoc] at this
              exact this)
            rw [v_sfR] at b9
            rw [if_neg hl] at a9
            refine v_ok (C2 := f_uR (f_uR C 10 c2) 7 f2) ?_ a9 b9 rfl
            exact ⟨F, ja, jb, jg, jc, ji, jt, jp, jr, ⟨u0, w1, u2⟩, jl, jq⟩
        · refine v_ok hJ0 (r_X11_shift01_out2 (i9 := i) (n9 := n) hq h1 k1 h2 k2 hin (fun i7 n7 e1 e2 hle => hB ⟨i7, e1, ?_⟩)) (r_sfM_out (s := 0) (o := 1) (by omega) (by omega) n0 g1 ?_) rfl
          · have : n = n7 := nI_inj9 (by omega) (by omega) e2
            omega
          · rw [k3]
            rcases v_sfo2 k2 (by omega) hB with z | z
            · exact Or.inr (Or.inr (Or.inl z))
            · exact Or.inr (Or.inr (Or.inr (Or.inr z)))
      · refine v_ok hJ0 (r_X11_shift01_out1 hq h1 k1 h2 (fun i9 n9 e1 e2 hle => hA ⟨i9, n9, e1, e2, hle⟩)) (r_sfM_out (s := 0) (o := 1) (by omega) (by omega) n0 g1 ?_) rfl
        rw [h3]
        rcases v_sfo1 h2 hA with z | z | z
        · exact Or.inl z
        · exact Or.inr (Or.inl z)
        · exact Or.inr (Or.inr (Or.inr (Or.inl z)))
theorem v_shift02 (hJ : v_J G C M ob) : v_Ok Value.int mX11_shift mX12_shift [.int 0, .int y2, .int 2, .int y4, .int y5] G C M ob := by
  have hJ0 := hJ
  have hq := hJ.qs
  obtain ⟨F, ja, jb, jg, jc, ji, jt, jp, jr, js, jl, jq⟩ := hJ
  have j0 : v_Js G ob (C.2.1 3) (C.2.1 6) (C.1 12) (C.2.2.2.2.2 6) (M.2.2.2.1 9 0) (M.2.2.2.1 10 0) (M.2.2.2.1 11) (M.2.2.2.1 12) (M.2.2.2.2 3) (6 * 0) := js.1
  have j1 : v_Js G ob (C.2.1 5) (C.2.1 8) (C.1 14) (C.2.2.2.2.2 8) (M.2.2.2.1 9 2) (M.2.2.2.1 10 2) (M.2.2.2.1 11) (M.2.2.2.1 12) (M.2.2.2.2 3) (6 * 2) := js.2.2
  have j2 := j1
  rcases j0 with ⟨h1, h2, h3, h4⟩ | ⟨h1, h2, h3, ⟨s0, hs0, h4, h5⟩, h6⟩
  · exact v_ok hJ0 (r_X11_shift02_miss hq (Or.inl h1)) (r_sfM_m1 (s := 0) (o := 2) (by omega) (by omega) (by rw [h3]; decide)) rfl
  · have n0 : ¬ M.2.2.2.1 9 0 < 0 := by rw [h5]; exact nI_pos (by omega)
    rcases j1 with ⟨k1, k2, k3, k4⟩ | ⟨k1, k2, k3, ⟨s9, hs9, k4, k5⟩, k6⟩
    · exact v_ok hJ0 (r_X11_shift02_miss hq (Or.inr k1)) (r_sfM_m2 (s := 0) (o := 2) (by omega) (by omega) n0 (by rw [k3]; decide)) rfl
    · have g1 : 0 ≤ M.2.2.2.1 9 2 := by rw [k5]; exact nI_pos' (by omega)
      by_cases hA : ∃ i n, y2 = nI i ∧ y5 = nI n ∧ i + n ≤ C.1 12
      · obtain ⟨i, n, rfl, rfl, hin⟩ := hA
        by_cases hB : ∃ j, y4 = nI j ∧ j + n ≤ C.1 14
        · obtain ⟨j, rfl, hjn⟩ := hB
          obtain ⟨c2, f2, hf2, a9⟩ := r_X11_shift02 (G := G) (C := C) (tl := g_hm G M ++ ob) (i9 := i) (j9 := j) (n9 := n) (s9 := s9) (kk := v_kk (M.2.2.2.1 11) (6 * 0)) hq h1 k1 h2 k2 hin hjn k4 hs9 (fun q hq9 => v_kk_at (h6 q hq9))
          obtain ⟨l1, l2, l3⟩ := v_lead (s := s9) (kk := v_kk (M.2.2.2.1 11) (6 * 0)) n i
          obtain ⟨q, eq9⟩ : ∃ q, q = f_lead s9 (v_kk (M.2.2.2.1 11) (6 * 0)) n i := ⟨_, rfl⟩
          rw [← eq9] at l1 l2 l3 hf2 a9
          have w1 : v_Js G ob (C.2.1 5) (C.2.1 8) (C.1 14) f2 (M.2.2.2.1 9 2) (M.2.2.2.1 10 2) (f_mvI (M.2.2.2.1 11) (f_tkI (M.2.2.2.1 13) (M.2.2.2.1 11) (6 * 0 + i) n) (6 * 2 + j) q) (f_mvI (M.2.2.2.1 12) (f_tkI (M.2.2.2.1 14) (M.2.2.2.1 12) (6 * 0 + i) n) (6 * 2 + j) q) (f_mvL (M.2.2.2.2 3) (f_tkL (M.2.2.2.2 4) (M.2.2.2.2 3) (6 * 0 + i) n) (6 * 2 + j) q) (6 * 2) := v_Js.shift j2 h6 (by omega) hf2 (fun r => v_mtI l1) (fun r => v_mtI l1) (fun r => v_mtL l1)
          have u0 : v_Js G ob (C.2.1 3) (C.2.1 6) (C.1 12) (C.2.2.2.2.2 6) (M.2.2.2.1 9 0) (M.2.2.2.1 10 0) (f_mvI (M.2.2.2.1 11) (f_tkI (M.2.2.2.1 13) (M.2.2.2.1 11) (6 * 0 + i) n) (6 * 2 + j) q) (f_mvI (M.2.2.2.1 12) (f_tkI (M.2.2.2.1 14) (M.2.2.2.1 12) (6 * 0 + i) n) (6 * 2 + j) q) (f_mvL (M.2.2.2.2 3) (f_tkL (M.2.2.2.2 4) (M.2.2.2.2 3) (6 * 0 + i) n) (6 * 2 + j) q) (6 * 0) := v_Js.oth js.1 (fun i hi => v_mtI_out l1 (by omega)) (fun i hi => v_mtI_out l1 (by omega)) (fun i hi => v_mtL_out l1 (by omega))
          have u1 : v_Js G ob (C.2.1 4) (C.2.1 7) (C.1 13) (C.2.2.2.2.2 7) (M.2.2.2.1 9 1) (M.2.2.2.1 10 1) (f_mvI (M.2.2.2.1 11) (f_tkI (M.2.2.2.1 13) (M.2.2.2.1 11) (6 * 0 + i) n) (6 * 2 + j) q) (f_mvI (M.2.2.2.1 12) (f_tkI (M.2.2.2.1 14) (M.2.2.2.1 12) (6 * 0 + i) n) (6 * 2 + j) q) (f_mvL (M.2.2.2.2 3) (f_tkL (M.2.2.2.2 4) (M.2.2.2.2 3) (6 * 0 + i) n) (6 * 2 + j) q) (6 * 1) := v_Js.oth js.2.1 (fun i hi => v_mtI_out l1 (by omega)) (fun i hi => v_mtI_out l1 (by omega)) (fun i hi => v_mtL_out l1 (by omega))
          have c1 : ¬ M.2.2.2.1 10 0 - nI n < nI i := by rw [h3, v_it, v_sub6 h2 (by omega), nI_toInt (by omega)]; omega
          have c3 : nI j ≤ M.2.2.2.1 10 2 - nI n := by rw [k3, v_il, v_sub6 k2 (by omega), nI_toInt (by omega)]; omega
          have hall : ∀ t, t < q → M.2.2.2.1 11 (6 * 0 + i + t) < 0 ∨ ∃ kk, kk < 6 ∧ M.2.2.2.1 11 (6 * 0 + i + t) = nI kk ∧ f_may s9 kk = true := fun t ht => by
            have := v_kk_T (h6 (i + t) (by omega)) (l2 t ht)
            rw [← Nat.add_assoc] at this
            exact this
          by_cases hl : q = n
          · have b9 := r_sfM_ok (G := G) (C := f_uR (f_uR C 11 c2) 8 f2) (M := M) (ob := ob) (s := 0) (o := 2) (so := s9) (i := i) (j := j) (m := n) (by omega) (by omega) n0 k5 hs9 (by omega) (by omega) c1 c3 (fun t ht => hall t (by omega))
            rw [v_sfR] at b9
            rw [if_pos hl] at a9
            subst hl
            refine v_ok (C2 := f_uR (f_uR C 11 c2) 8 f2) ?_ a9 b9 rfl
            exact ⟨F, ja, jb, jg, jc, ji, jt, jp, jr, ⟨u0, u1, w1⟩, jl, jq⟩
          · have b9 := r_sfM_oth (G := G) (C := f_uR (f_uR C 11 c2) 8 f2) (M := M) (ob := ob) (s := 0) (o := 2) (so := s9) (i := i) (j := j) (m := n) (q := q) (by omega) (by omega) n0 k5 hs9 (by omega) (by omega) c1 c3 (by omega) hall (by
              have := v_kk_F (h6 (i + q) (by omega)) (l3 (by omega))
              rw [← Nat.add_assoc] at this
              exact this)
            rw [v_sfR] at b9
            rw [if_neg hl] at a9
            refine v_ok (C2 := f_uR (f_uR C 11 c2) 8 f2) ?_ a9 b9 rfl
            exact ⟨F, ja, jb, jg, jc, ji, jt, jp, jr, ⟨u0, u1, w1⟩, jl, jq⟩
        · refine v_ok hJ0 (r_X11_shift02_out2 (i9 := i) (n9 := n) hq h1 k1 h2 k2 hin (fun i7 n7 e1 e2 hle => hB ⟨i7, e1, ?_⟩)) (r_sfM_out (s := 0) (o := 2) (by omega) (by omega) n0 g1 ?_) rfl
          · have : n = n7 := nI_inj9 (by omega) (by omega) e2
            omega
          · rw [k3]
            rcases v_sfo2 k2 (by omega) hB with z | z
            · exact Or.inr (Or.inr (Or.inl z))
            · exact Or.inr (Or.inr (Or.inr (Or.inr z)))
      · refine v_ok hJ0 (r_X11_shift02_out1 hq h1 k1 h2 (fun i9 n9 e1 e2 hle => hA ⟨i9, n9, e1, e2, hle⟩)) (r_sfM_out (s := 0) (o := 2) (by omega) (by omega) n0 g1 ?_) rfl
        rw [h3]
        rcases v_sfo1 h2 hA with z | z | z
        · exact Or.inl z
        · exact Or.inr (Or.inl z)
        · exact Or.inr (Or.inr (Or.inr (Or.inl z)))
theorem v_shift10 (hJ : v_J G C M ob) : v_Ok Value.int mX11_shift mX12_shift [.int 1, .int y2, .int 0, .int y4, .int y5] G C M ob := by
  have hJ0 := hJ
  have hq := hJ.qs
  obtain ⟨F, ja, jb, jg, jc, ji, jt, jp, jr, js, jl, jq⟩ := hJ
  have j0 : v_Js G ob (C.2.1 4) (C.2.1 7) (C.1 13) (C.2.2.2.2.2 7) (M.2.2.2.1 9 1) (M.2.2.2.1 10 1) (M.2.2.2.1 11) (M.2.2.2.1 12) (M.2.2.2.2 3) (6 * 1) := js.2.1
  have j1 : v_Js G ob (C.2.1 3) (C.2.1 6) (C.1 12) (C.2.2.2.2.2 6) (M.2.2.2.1 9 0) (M.2.2.2.1 10 0) (M.2.2.2.1 11) (M.2.2.2.1 12) (M.2.2.2.2 3) (6 * 0) := js.1
  have j2 := j1
  rcases j0 with ⟨h1, h2, h3, h4⟩ | ⟨h1, h2, h3, ⟨s0, hs0, h4, h5⟩, h6⟩
  · exact v_ok hJ0 (r_X11_shift10_miss hq (Or.inl h1)) (r_sfM_m1 (s := 1) (o := 0) (by omega) (by omega) (by rw [h3]; decide)) rfl
  · have n0 : ¬ M.2.2.2.1 9 1 < 0 := by rw [h5]; exact nI_pos (by omega)
    rcases j1 with ⟨k1, k2, k3, k4⟩ | ⟨k1, k2, k3, ⟨s9, hs9, k4, k5⟩, k6⟩
    · exact v_ok hJ0 (r_X11_shift10_miss hq (Or.inr k1)) (r_sfM_m2 (s := 1) (o := 0) (by omega) (by omega) n0 (by rw [k3]; decide)) rfl
    · have g1 : 0 ≤ M.2.2.2.1 9 0 := by rw [k5]; exact nI_pos' (by omega)
      by_cases hA : ∃ i n, y2 = nI i ∧ y5 = nI n ∧ i + n ≤ C.1 13
      · obtain ⟨i, n, rfl, rfl, hin⟩ := hA
        by_cases hB : ∃ j, y4 = nI j ∧ j + n ≤ C.1 12
        · obtain ⟨j, rfl, hjn⟩ := hB
          obtain ⟨c2, f2, hf2, a9⟩ := r_X11_shift10 (G := G) (C := C) (tl := g_hm G M ++ ob) (i9 := i) (j9 := j) (n9 := n) (s9 := s9) (kk := v_kk (M.2.2.2.1 11) (6 * 1)) hq h1 k1 h2 k2 hin hjn k4 hs9 (fun q hq9 => v_kk_at (h6 q hq9))
          obtain ⟨l1, l2, l3⟩ := v_lead (s := s9) (kk := v_kk (M.2.2.2.1 11) (6 * 1)) n i
          obtain ⟨q, eq9⟩ : ∃ q, q = f_lead s9 (v_kk (M.2.2.2.1 11) (6 * 1)) n i := ⟨_, rfl⟩
          rw [← eq9] at l1 l2 l3 hf2 a9
          have w1 : v_Js G ob (C.2.1 3) (C.2.1 6) (C.1 12) f2 (M.2.2.2.1 9 0) (M.2.2.2.1 10 0) (f_mvI (M.2.2.2.1 11) (f_tkI (M.2.2.2.1 13) (M.2.2.2.1 11) (6 * 1 + i) n) (6 * 0 + j) q) (f_mvI (M.2.2.2.1 12) (f_tkI (M.2.2.2.1 14) (M.2.2.2.1 12) (6 * 1 + i) n) (6 * 0 + j) q) (f_mvL (M.2.2.2.2 3) (f_tkL (M.2.2.2.2 4) (M.2.2.2.2 3) (6 * 1 + i) n) (6 * 0 + j) q) (6 * 0) := v_Js.shift j2 h6 (by omega) hf2 (fun r => v_mtI l1) (fun r => v_mtI l1) (fun r => v_mtL l1)
          have u1 : v_Js G ob (C.2.1 4) (C.2.1 7) (C.1 13) (C.2.2.2.2.2 7) (M.2.2.2.1 9 1) (M.2.2.2.1 10 1) (f_mvI (M.2.2.2.1 11) (f_tkI (M.2.2.2.1 13) (M.2.2.2.1 11) (6 * 1 + i) n) (6 * 0 + j) q) (f_mvI (M.2.2.2.1 12) (f_tkI (M.2.2.2.1 14) (M.2.2.2.1 12) (6 * 1 + i) n) (6 * 0 + j) q) (f_mvL (M.2.2.2.2 3) (f_tkL (M.2.2.2.2 4) (M.2.2.2.2 3) (6 * 1 + i) n) (6 * 0 + j) q) (6 * 1) := v_Js.oth js.2.1 (fun i hi => v_mtI_out l1 (by omega)) (fun i hi => v_mtI_out l1 (by omega)) (fun i hi => v_mtL_out l1 (by omega))
          have u2 : v_Js G ob (C.2.1 5) (C.2.1 8) (C.1 14) (C.2.2.2.2.2 8) (M.2.2.2.1 9 2) (M.2.2.2.1 10 2) (f_mvI (M.2.2.2.1 11) (f_tkI (M.2.2.2.1 13) (M.2.2.2.1 11) (6 * 1 + i) n) (6 * 0 + j) q) (f_mvI (M.2.2.2.1 12) (f_tkI (M.2.2.2.1 14) (M.2.2.2.1 12) (6 * 1 + i) n) (6 * 0 + j) q) (f_mvL (M.2.2.2.2 3) (f_tkL (M.2.2.2.2 4) (M.2.2.2.2 3) (6 * 1 + i) n) (6 * 0 + j) q) (6 * 2) := v_Js.oth js.2.2 (fun i hi => v_mtI_out l1 (by omega)) (fun i hi => v_mtI_out l1 (by omega)) (fun i hi => v_mtL_out l1 (by omega))
          have c1 : ¬ M.2.2.2.1 10 1 - nI n < nI i := by rw [h3, v_it, v_sub6 h2 (by omega), nI_toInt (by omega)]; omega
          have c3 : nI j ≤ M.2.2.2.1 10 0 - nI n := by rw [k3, v_il, v_sub6 k2 (by omega), nI_toInt (by omega)]; omega
          have hall : ∀ t, t < q → M.2.2.2.1 11 (6 * 1 + i + t) < 0 ∨ ∃ kk, kk < 6 ∧ M.2.2.2.1 11 (6 * 1 + i + t) = nI kk ∧ f_may s9 kk = true := fun t ht => by
            have := v_kk_T (h6 (i + t) (by omega)) (l2 t ht)
            rw [← Nat.add_assoc] at this
            exact this
          by_cases hl : q = n
          · have b9 := r_sfM_ok (G := G) (C := f_uR (f_uR C 9 c2) 6 f2) (M := M) (ob := ob) (s := 1) (o := 0) (so := s9) (i := i) (j := j) (m := n) (by omega) (by omega) n0 k5 hs9 (by omega) (by omega) c1 c3 (fun t ht => hall t (by omega))
            rw [v_sfR] at b9
            rw [if_pos hl] at a9
            subst hl
            refine v_ok (C2 := f_uR (f_uR C 9 c2) 6 f2) ?_ a9 b9 rfl
            exact ⟨F, ja, jb, jg, jc, ji, jt, jp, jr, ⟨w1, u1, u2⟩, jl, jq⟩
          · have b9 := r_sfM_oth (G := G) (C := f_uR (f_uR C 9 c2) 6 f2) (M := M) (ob := ob) (s := 1) (o := 0) (so := s9) (i := i) (j := j) (m := n) (q := q) (by omega) (by omega) n0 k5 hs9 (by omega) (by omega) c1 c3 (by omega) hall (by
              have := v_kk_F (h6 (i + q) (by omega)) (l3 (by omega))
              rw [← Nat.add_assoc] at this
              exact this)
            rw [v_sfR] at b9
            rw [if_neg hl] at a9
            refine v_ok (C2 := f_uR (f_uR C 9 c2) 6 f2) ?_ a9 b9 rfl
            exact ⟨F, ja, jb, jg, jc, ji, jt, jp, jr, ⟨w1, u1, u2⟩, jl, jq⟩
        · refine v_ok hJ0 (r_X11_shift10_out2 (i9 := i) (n9 := n) hq h1 k1 h2 k2 hin (fun i7 n7 e1 e2 hle => hB ⟨i7, e1, ?_⟩)) (r_sfM_out (s := 1) (o := 0) (by omega) (by omega) n0 g1 ?_) rfl
          · have : n = n7 := nI_inj9 (by omega) (by omega) e2
            omega
          · rw [k3]
            rcases v_sfo2 k2 (by omega) hB with z | z
            · exact Or.inr (Or.inr (Or.inl z))
            · exact Or.inr (Or.inr (Or.inr (Or.inr z)))
      · refine v_ok hJ0 (r_X11_shift10_out1 hq h1 k1 h2 (fun i9 n9 e1 e2 hle => hA ⟨i9, n9, e1, e2, hle⟩)) (r_sfM_out (s := 1) (o := 0) (by omega) (by omega) n0 g1 ?_) rfl
        rw [h3]
        rcases v_sfo1 h2 hA with z | z | z
        · exact Or.inl z
        · exact Or.inr (Or.inl z)
        · exact Or.inr (Or.inr (Or.inr (Or.inl z)))
theorem v_shift11 (hJ : v_J G C M ob) : v_Ok Value.int mX11_shift mX12_shift [.int 1, .int y2, .int 1, .int y4, .int y5] G C M ob := by
  have hJ0 := hJ
  have hq := hJ.qs
  obtain ⟨F, ja, jb, jg, jc, ji, jt, jp, jr, js, jl, jq⟩ := hJ
  have j0 : v_Js G ob (C.2.1 4) (C.2.1 7) (C.1 13) (C.2.2.2.2.2 7) (M.2.2.2.1 9 1) (M.2.2.2.1 10 1) (M.2.2.2.1 11) (M.2.2.2.1 12) (M.2.2.2.2 3) (6 * 1) := js.2.1
  have j1 : v_Js G ob (C.2.1 4) (C.2.1 7) (C.1 13) (C.2.2.2.2.2 7) (M.2.2.2.1 9 1) (M.2.2.2.1 10 1) (M.2.2.2.1 11) (M.2.2.2.1 12) (M.2.2.2.2 3) (6 * 1) := js.2.1
  have j2 := j1
  rcases j0 with ⟨h1, h2, h3, h4⟩ | ⟨h1, h2, h3, ⟨s0, hs0, h4, h5⟩, h6⟩
  · exact v_ok hJ0 (r_X11_shift11_miss hq (Or.inl h1)) (r_sfM_m1 (s := 1) (o := 1) (by omega) (by omega) (by rw [h3]; decide)) rfl
  · have n0 : ¬ M.2.2.2.1 9 1 < 0 := by rw [h5]; exact nI_pos (by omega)
    rcases j1 with ⟨k1, k2, k3, k4⟩ | ⟨k1, k2, k3, ⟨s9, hs9, k4, k5⟩, k6⟩
    · exact v_ok hJ0 (r_X11_shift11_miss hq (Or.inr k1)) (r_sfM_m2 (s := 1) (o := 1) (by omega) (by omega) n0 (by rw [k3]; decide)) rfl
    · have g1 : 0 ≤ M.2.2.2.1 9 1 := by rw [k5]; exact nI_pos' (by omega)
      by_cases hA : ∃ i n, y2 = nI i ∧ y5 = nI n ∧ i + n ≤ C.1 13
      · obtain ⟨i, n, rfl, rfl, hin⟩ := hA
        by_cases hB : ∃ j, y4 = nI j ∧ j + n ≤ C.1 13
        · obtain ⟨j, rfl, hjn⟩ := hB
          obtain ⟨c2, f2, hf2, a9⟩ := r_X11_shift11 (G := G) (C := C) (tl := g_hm G M ++ ob) (i9 := i) (j9 := j) (n9 := n) (s9 := s9) (kk := v_kk (M.2.2.2.1 11) (6 * 1)) hq h1 k1 h2 k2 hin hjn k4 hs9 (fun q hq9 => v_kk_at (h6 q hq9))
          obtain ⟨l1, l2, l3⟩ := v_lead (s := s9) (kk := v_kk (M.2.2.2.1 11) (6 * 1)) n i
          obtain ⟨q, eq9⟩ : ∃ q, q = f_lead s9 (v_kk (M.2.2.2.1 11) (6 * 1)) n i := ⟨_, rfl⟩
          rw [← eq9] at l1 l2 l3 hf2 a9
          have w1 : v_Js G ob (C.2.1 4) (C.2.1 7) (C.1 13) f2 (M.2.2.2.1 9 1) (M.2.2.2.1 10 1) (f_mvI (M.2.2.2.1 11) (f_tkI (M.2.2.2.1 13) (M.2.2.2.1 11) (6 * 1 + i) n) (6 * 1 + j) q) (f_mvI (M.2.2.2.1 12) (f_tkI (M.2.2.2.1 14) (M.2.2.2.1 12) (6 * 1 + i) n) (6 * 1 + j) q) (f_mvL (M.2.2.2.2 3) (f_tkL (M.2.2.2.2 4) (M.2.2.2.2 3) (6 * 1 + i) n) (6 * 1 + j) q) (6 * 1) := v_Js.shift j2 h6 (by omega) hf2 (fun r => v_mtI l1) (fun r => v_mtI l1) (fun r => v_mtL l1)
          have u0 : v_Js G ob (C.2.1 3) (C.2.1 6) (C.1 12) (C.2.2.2.2.2 6) (M.2.2.2.1 9 0) (M.2.2.2.1 10 0) (f_mvI (M.2.2.2.1 11) (f_tkI (M.2.2.2.1 13) (M.2.2.2.1 11) (6 * 1 + i) n) (6 * 1 + j) q) (f_mvI (M.2.2.2.1 12) (f_tkI (M.2.2.2.1 14) (M.2.2.2.1 12) (6 * 1 + i) n) (6 * 1 + j) q) (f_mvL (M.2.2.2.2 3) (f_tkL (M.2.2.2.2 4) (M.2.2.2.2 3) (6 * 1 + i) n) (6 * 1 + j) q) (6 * 0) := v_Js.oth js.1 (fun i hi => v_mtI_out l1 (by omega)) (fun i hi => v_mtI_out l1 (by omega)) (fun i hi => v_mtL_out l1 (by omega))
          have u2 : v_Js G ob (C.2.1 5) (C.2.1 8) (C.1 14) (C.2.2.2.2.2 8) (M.2.2.2.1 9 2) (M.2.2.2.1 10 2) (f_mvI (M.2.2.2.1 11) (f_tkI (M.2.2.2.1 13) (M.2.2.2.1 11) (6 * 1 + i) n) (6 * 1 + j) q) (f_mvI (M.2.2.2.1 12) (f_tkI (M.2.2.2.1 14) (M.2.2.2.1 12) (6 * 1 + i) n) (6 * 1 + j) q) (f_mvL (M.2.2.2.2 3) (f_tkL (M.2.2.2.2 4) (M.2.2.2.2 3) (6 * 1 + i) n) (6 * 1 + j) q) (6 * 2) := v_Js.oth js.2.2 (fun i hi => v_mtI_out l1 (by omega)) (fun i hi => v_mtI_out l1 (by omega)) (fun i hi => v_mtL_out l1 (by omega))
          have c1 : ¬ M.2.2.2.1 10 1 - nI n < nI i := by rw [h3, v_it, v_sub6 h2 (by omega), nI_toInt (by omega)]; omega
          have c3 : nI j ≤ M.2.2.2.1 10 1 - nI n := by rw [k3, v_il, v_sub6 k2 (by omega), nI_toInt (by omega)]; omega
          have hall : ∀ t, t < q → M.2.2.2.1 11 (6 * 1 + i + t) < 0 ∨ ∃ kk, kk < 6 ∧ M.2.2.2.1 11 (6 * 1 + i + t) = nI kk ∧ f_may s9 kk = true := fun t ht => by
            have := v_kk_T (h6 (i + t) (by omega)) (l2 t ht)
            rw [← Nat.add_assoc] at this
            exact this
          by_cases hl : q = n
          · have b9 := r_sfM_ok (G := G) (C := f_uR (f_uR C 10 c2) 7 f2) (M := M) (ob := ob) (s := 1) (o := 1) (so := s9) (i := i) (j := j) (m := n) (by omega) (by omega) n0 k5 hs9 (by omega) (by omega) c1 c3 (fun t ht => hall t (by omega))
            rw [v_sfR] at b9
            rw [if_pos hl] at a9
            subst hl
            refine v_ok (C2 := f_uR (f_uR C 10 c2) 7 f2) ?_ a9 b9 rfl
            exact ⟨F, ja, jb, jg, jc, ji, jt, jp, jr, ⟨u0, w1, u2⟩, jl, jq⟩
          · have b9 := r_sfM_oth (G := G) (C := f_uR (f_uR C 10 c2) 7 f2) (M := M) (ob := ob) (s := 1) (o := 1) (so := s9) (i := i) (j := j) (m := n) (q := q) (by omega) (by omega) n0 k5 hs9 (by omega) (by omega) c1 c3 (by omega) hall (by
              have := v_kk_F (h6 (i + q) (by omega)) (l3 (by omega))
              rw [← Nat.add_assoc] at this
              exact this)
            rw [v_sfR] at b9
            rw [if_neg hl] at a9
            refine v_ok (C2 := f_uR (f_uR C 10 c2) 7 f2) ?_ a9 b9 rfl
            exact ⟨F, ja, jb, jg, jc, ji, jt, jp, jr, ⟨u0, w1, u2⟩, jl, jq⟩
        · refine v_ok hJ0 (r_X11_shift11_out2 (i9 := i) (n9 := n) hq h1 k1 h2 k2 hin (fun i7 n7 e1 e2 hle => hB ⟨i7, e1, ?_⟩)) (r_sfM_out (s := 1) (o := 1) (by omega) (by omega) n0 g1 ?_) rfl
          · have : n = n7 := nI_inj9 (by omega) (by omega) e2
            omega
          · rw [k3]
            rcases v_sfo2 k2 (by omega) hB with z | z
            · exact Or.inr (Or.inr (Or.inl z))
            · exact Or.inr (Or.inr (Or.inr (Or.inr z)))
      · refine v_ok hJ0 (r_X11_shift11_out1 hq h1 k1 h2 (fun i9 n9 e1 e2 hle => hA ⟨i9, n9, e1, e2, hle⟩)) (r_sfM_out (s := 1) (o := 1) (by omega) (by omega) n0 g1 ?_) rfl
        rw [h3]
        rcases v_sfo1 h2 hA with z | z | z
        · exact Or.inl z
        · exact Or.inr (Or.inl z)
        · exact Or.inr (Or.inr (Or.inr (Or.inl z)))
theorem v_shift12 (hJ : v_J G C M ob) : v_Ok Value.int mX11_shift mX12_shift [.int 1, .int y2, .int 2, .int y4, .int y5] G C M ob := by
  have hJ0 := hJ
  have hq := hJ.qs
  obtain ⟨F, ja, jb, jg, jc, ji, jt, jp, jr, js, jl, jq⟩ := hJ
  have j0 : v_Js G ob (C.2.1 4) (C.2.1 7) (C.1 13) (C.2.2.2.2.2 7) (M.2.2.2.1 9 1) (M.2.2.2.1 10 1) (M.2.2.2.1 11) (M.2.2.2.1 12) (M.2.2.2.2 3) (6 * 1) := js.2.1
  have j1 : v_Js G ob (C.2.1 5) (C.2.1 8) (C.1 14) (C.2.2.2.2.2 8) (M.2.2.2.1 9 2) (M.2.2.2.1 10 2) (M.2.2.2.1 11) (M.2.2.2.1 12) (M.2.2.2.2 3) (6 * 2) := js.2.2
  have j2 := j1
  rcases j0 with ⟨h1, h2, h3, h4⟩ | ⟨h1, h2, h3, ⟨s0, hs0, h4, h5⟩, h6⟩
  · exact v_ok hJ0 (r_X11_shift12_miss hq (Or.inl h1)) (r_sfM_m1 (s := 1) (o := 2) (by omega) (by omega) (by rw [h3]; decide)) rfl
  · have n0 : ¬ M.2.2.2.1 9 1 < 0 := by rw [h5]; exact nI_pos (by omega)
    rcases j1 with ⟨k1, k2, k3, k4⟩ | ⟨k1, k2, k3, ⟨s9, hs9, k4, k5⟩, k6⟩
    · exact v_ok hJ0 (r_X11_shift12_miss hq (Or.inr k1)) (r_sfM_m2 (s := 1) (o := 2) (by omega) (by omega) n0 (by rw [k3]; decide)) rfl
    · have g1 : 0 ≤ M.2.2.2.1 9 2 := by rw [k5]; exact nI_pos' (by omega)
      by_cases hA : ∃ i n, y2 = nI i ∧ y5 = nI n ∧ i + n ≤ C.1 13
      · obtain ⟨i, n, rfl, rfl, hin⟩ := hA
        by_cases hB : ∃ j, y4 = nI j ∧ j + n ≤ C.1 14
        · obtain ⟨j, rfl, hjn⟩ := hB
          obtain ⟨c2, f2, hf2, a9⟩ := r_X11_shift12 (G := G) (C := C) (tl := g_hm G M ++ ob) (i9 := i) (j9 := j) (n9 := n) (s9 := s9) (kk := v_kk (M.2.2.2.1 11) (6 * 1)) hq h1 k1 h2 k2 hin hjn k4 hs9 (fun q hq9 => v_kk_at (h6 q hq9))
          obtain ⟨l1, l2, l3⟩ := v_lead (s := s9) (kk := v_kk (M.2.2.2.1 11) (6 * 1)) n i
          obtain ⟨q, eq9⟩ : ∃ q, q = f_lead s9 (v_kk (M.2.2.2.1 11) (6 * 1)) n i := ⟨_, rfl⟩
          rw [← eq9] at l1 l2 l3 hf2 a9
          have w1 : v_Js G ob (C.2.1 5) (C.2.1 8) (C.1 14) f2 (M.2.2.2.1 9 2) (M.2.2.2.1 10 2) (f_mvI (M.2.2.2.1 11) (f_tkI (M.2.2.2.1 13) (M.2.2.2.1 11) (6 * 1 + i) n) (6 * 2 + j) q) (f_mvI (M.2.2.2.1 12) (f_tkI (M.2.2.2.1 14) (M.2.2.2.1 12) (6 * 1 + i) n) (6 * 2 + j) q) (f_mvL (M.2.2.2.2 3) (f_tkL (M.2.2.2.2 4) (M.2.2.2.2 3) (6 * 1 + i) n) (6 * 2 + j) q) (6 * 2) := v_Js.shift j2 h6 (by omega) hf2 (fun r => v_mtI l1) (fun r => v_mtI l1) (fun r => v_mtL l1)
          have u0 : v_Js G ob (C.2.1 3) (C.2.1 6) (C.1 12) (C.2.2.2.2.2 6) (M.2.2.2.1 9 0) (M.2.2.2.1 10 0) (f_mvI (M.2.2.2.1 11) (f_tkI (M.2.2.2.1 13) (M.2.2.2.1 11) (6 * 1 + i) n) (6 * 2 + j) q) (f_mvI (M.2.2.2.1 12) (f_tkI (M.2.2.2.1 14) (M.2.2.2.1 12) (6 * 1 + i) n) (6 * 2 + j) q) (f_mvL (M.2.2.2.2 3) (f_tkL (M.2.2.2.2 4) (M.2.2.2.2 3) (6 * 1 + i) n) (6 * 2 + j) q) (6 * 0) := v_Js.oth js.1 (fun i hi => v_mtI_out l1 (by omega)) (fun i hi => v_mtI_out l1 (by omega)) (fun i hi => v_mtL_out l1 (by omega))
          have u1 : v_Js G ob (C.2.1 4) (C.2.1 7) (C.1 13) (C.2.2.2.2.2 7) (M.2.2.2.1 9 1) (M.2.2.2.1 10 1) (f_mvI (M.2.2.2.1 11) (f_tkI (M.2.2.2.1 13) (M.2.2.2.1 11) (6 * 1 + i) n) (6 * 2 + j) q) (f_mvI (M.2.2.2.1 12) (f_tkI (M.2.2.2.1 14) (M.2.2.2.1 12) (6 * 1 + i) n) (6 * 2 + j) q) (f_mvL (M.2.2.2.2 3) (f_tkL (M.2.2.2.2 4) (M.2.2.2.2 3) (6 * 1 + i) n) (6 * 2 + j) q) (6 * 1) := v_Js.oth js.2.1 (fun i hi => v_mtI_out l1 (by omega)) (fun i hi => v_mtI_out l1 (by omega)) (fun i hi => v_mtL_out l1 (by omega))
          have c1 : ¬ M.2.2.2.1 10 1 - nI n < nI i := by rw [h3, v_it, v_sub6 h2 (by omega), nI_toInt (by omega)]; omega
          have c3 : nI j ≤ M.2.2.2.1 10 2 - nI n := by rw [k3, v_il, v_sub6 k2 (by omega), nI_toInt (by omega)]; omega
          have hall : ∀ t, t < q → M.2.2.2.1 11 (6 * 1 + i + t) < 0 ∨ ∃ kk, kk < 6 ∧ M.2.2.2.1 11 (6 * 1 + i + t) = nI kk ∧ f_may s9 kk = true := fun t ht => by
            have := v_kk_T (h6 (i + t) (by omega)) (l2 t ht)
            rw [← Nat.add_assoc] at this
            exact this
          by_cases hl : q = n
          · have b9 := r_sfM_ok (G := G) (C := f_uR (f_uR C 11 c2) 8 f2) (M := M) (ob := ob) (s := 1) (o := 2) (so := s9) (i := i) (j := j) (m := n) (by omega) (by omega) n0 k5 hs9 (by omega) (by omega) c1 c3 (fun t ht => hall t (by omega))
            rw [v_sfR] at b9
            rw [if_pos hl] at a9
            subst hl
            refine v_ok (C2 := f_uR (f_uR C 11 c2) 8 f2) ?_ a9 b9 rfl
            exact ⟨F, ja, jb, jg, jc, ji, jt, jp, jr, ⟨u0, u1, w1⟩, jl, jq⟩
          · have b9 := r_sfM_oth (G := G) (C := f_uR (f_uR C 11 c2) 8 f2) (M := M) (ob := ob) (s := 1) (o := 2) (so := s9) (i := i) (j := j) (m := n) (q := q) (by omega) (by omega) n0 k5 hs9 (by omega) (by omega) c1 c3 (by omega) hall (by
              have := v_kk_F (h6 (i + q) (by omega)) (l3 (by omega))
              rw [← Nat.add_assoc] at this
              exact this)
            rw [v_sfR] at b9
            rw [if_neg hl] at a9
            refine v_ok (C2 := f_uR (f_uR C 11 c2) 8 f2) ?_ a9 b9 rfl
            exact ⟨F, ja, jb, jg, jc, ji, jt, jp, jr, ⟨u0, u1, w1⟩, jl, jq⟩
        · refine v_ok hJ0 (r_X11_shift12_out2 (i9 := i) (n9 := n) hq h1 k1 h2 k2 hin (fun i7 n7 e1 e2 hle => hB ⟨i7, e1, ?_⟩)) (r_sfM_out (s := 1) (o := 2) (by omega) (by omega) n0 g1 ?_) rfl
          · have : n = n7 := nI_inj9 (by omega) (by omega) e2
            omega
          · rw [k3]
            rcases v_sfo2 k2 (by omega) hB with z | z
            · exact Or.inr (Or.inr (Or.inl z))
            · exact Or.inr (Or.inr (Or.inr (Or.inr z)))
      · refine v_ok hJ0 (r_X11_shift12_out1 hq h1 k1 h2 (fun i9 n9 e1 e2 hle => hA ⟨i9, n9, e1, e2, hle⟩)) (r_sfM_out (s := 1) (o := 2) (by omega) (by omega) n0 g1 ?_) rfl
        rw [h3]
        rcases v_sfo1 h2 hA with z | z | z
        · exact Or.inl z
        · exact Or.inr (Or.inl z)
        · exact Or.inr (Or.inr (Or.inr (Or.inl z)))
theorem v_shift20 (hJ : v_J G C M ob) : v_Ok Value.int mX11_shift mX12_shift [.int 2, .int y2, .int 0, .int y4, .int y5] G C M ob := by
  have hJ0 := hJ
  have hq := hJ.qs
  obtain ⟨F, ja, jb, jg, jc, ji, jt, jp, jr, js, jl, jq⟩ := hJ
  have j0 : v_Js G ob (C.2.1 5) (C.2.1 8) (C.1 14) (C.2.2.2.2.2 8) (M.2.2.2.1 9 2) (M.2.2.2.1 10 2) (M.2.2.2.1 11) (M.2.2.2.1 12) (M.2.2.2.2 3) (6 * 2) := js.2.2
  have j1 : v_Js G ob (C.2.1 3) (C.2.1 6) (C.1 12) (C.2.2.2.2.2 6) (M.2.2.2.1 9 0) (M.2.2.2.1 10 0) (M.2.2.2.1 11) (M.2.2.2.1 12) (M.2.2.2.2 3) (6 * 0) := js.1
  have j2 := j1
  rcases j0 with ⟨h1, h2, h3, h4⟩ | ⟨h1, h2, h3, ⟨s0, hs0, h4, h5⟩, h6⟩
  · exact v_ok hJ0 (r_X11_shift20_miss hq (Or.inl h1)) (r_sfM_m1 (s := 2) (o := 0) (by omega) (by omega) (by rw [h3]; decide)) rfl
  · have n0 : ¬ M.2.2.2.1 9 2 < 0 := by rw [h5]; exact nI_pos (by omega)
    rcases j1 with ⟨k1, k2, k3, k4⟩ | ⟨k1, k2, k3, ⟨s9, hs9, k4, k5⟩, k6⟩
    · exact v_ok hJ0 (r_X11_shift20_miss hq (Or.inr k1)) (r_sfM_m2 (s := 2) (o := 0) (by omega) (by omega) n0 (by rw [k3]; decide)) rfl
    · have g1 : 0 ≤ M.2.2.2.1 9 0 := by rw [k5]; exact nI_pos' (by omega)
      by_cases hA : ∃ i n, y2 = nI i ∧ y5 = nI n ∧ i + n ≤ C.1 14
      · obtain ⟨i, n, rfl, rfl, hin⟩ := hA
        by_cases hB : ∃ j, y4 = nI j ∧ j + n ≤ C.1 12
        · obtain ⟨j, rfl, hjn⟩ := hB
          obtain ⟨c2, f2, hf2, a9⟩ := r_X11_shift20 (G := G) (C := C) (tl := g_hm G M ++ ob) (i9 := i) (j9 := j) (n9 := n) (s9 := s9) (kk := v_kk (M.2.2.2.1 11) (6 * 2)) hq h1 k1 h2 k2 hin hjn k4 hs9 (fun q hq9 => v_kk_at (h6 q hq9))
          obtain ⟨l1, l2, l3⟩ := v_lead (s := s9) (kk := v_kk (M.2.2.2.1 11) (6 * 2)) n i
          obtain ⟨q, eq9⟩ : ∃ q, q = f_lead s9 (v_kk (M.2.2.2.1 11) (6 * 2)) n i := ⟨_, rfl⟩
          rw [← eq9] at l1 l2 l3 hf2 a9
          have w1 : v_Js G ob (C.2.1 3) (C.2.1 6) (C.1 12) f2 (M.2.2.2.1 9 0) (M.2.2.2.1 10 0) (f_mvI (M.2.2.2.1 11) (f_tkI (M.2.2.2.1 13) (M.2.2.2.1 11) (6 * 2 + i) n) (6 * 0 + j) q) (f_mvI (M.2.2.2.1 12) (f_tkI (M.2.2.2.1 14) (M.2.2.2.1 12) (6 * 2 + i) n) (6 * 0 + j) q) (f_mvL (M.2.2.2.2 3) (f_tkL (M.2.2.2.2 4) (M.2.2.2.2 3) (6 * 2 + i) n) (6 * 0 + j) q) (6 * 0) := v_Js.shift j2 h6 (by omega) hf2 (fun r => v_mtI l1) (fun r => v_mtI l1) (fun r => v_mtL l1)
          have u1 : v_Js G ob (C.2.1 4) (C.2.1 7) (C.1 13) (C.2.2.2.2.2 7) (M.2.2.2.1 9 1) (M.2.2.2.1 10 1) (f_mvI (M.2.2.2.1 11) (f_tkI (M.2.2.2.1 13) (M.2.2.2.1 11) (6 * 2 + i) n) (6 * 0 + j) q) (f_mvI (M.2.2.2.1 12) (f_tkI (M.2.2.2.1 14) (M.2.2.2.1 12) (6 * 2 + i) n) (6 * 0 + j) q) (f_mvL (M.2.2.2.2 3) (f_tkL (M.2.2.2.2 4) (M.2.2.2.2 3) (6 * 2 + i) n) (6 * 0 + j) q) (6 * 1) := v_Js.oth js.2.1 (fun i hi => v_mtI_out l1 (by omega)) (fun i hi => v_mtI_out l1 (by omega)) (fun i hi => v_mtL_out l1 (by omega))
          have u2 : v_Js G ob (C.2.1 5) (C.2.1 8) (C.1 14) (C.2.2.2.2.2 8) (M.2.2.2.1 9 2) (M.2.2.2.1 10 2) (f_mvI (M.2.2.2.1 11) (f_tkI (M.2.2.2.1 13) (M.2.2.2.1 11) (6 * 2 + i) n) (6 * 0 + j) q) (f_mvI (M.2.2.2.1 12) (f_tkI (M.2.2.2.1 14) (M.2.2.2.1 12) (6 * 2 + i) n) (6 * 0 + j) q) (f_mvL (M.2.2.2.2 3) (f_tkL (M.2.2.2.2 4) (M.2.2.2.2 3) (6 * 2 + i) n) (6 * 0 + j) q) (6 * 2) := v_Js.oth js.2.2 (fun i hi => v_mtI_out l1 (by omega)) (fun i hi => v_mtI_out l1 (by omega)) (fun i hi => v_mtL_out l1 (by omega))
          have c1 : ¬ M.2.2.2.1 10 2 - nI n < nI i := by rw [h3, v_it, v_sub6 h2 (by omega), nI_toInt (by omega)]; omega
          have c3 : nI j ≤ M.2.2.2.1 10 0 - nI n := by rw [k3, v_il, v_sub6 k2 (by omega), nI_toInt (by omega)]; omega
          have hall : ∀ t, t < q → M.2.2.2.1 11 (6 * 2 + i + t) < 0 ∨ ∃ kk, kk < 6 ∧ M.2.2.2.1 11 (6 * 2 + i + t) = nI kk ∧ f_may s9 kk = true := fun t ht => by
            have := v_kk_T (h6 (i + t) (by omega)) (l2 t ht)
            rw [← Nat.add_assoc] at this
            exact this
          by_cases hl : q = n
          · have b9 := r_sfM_ok (G := G) (C := f_uR (f_uR C 9 c2) 6 f2) (M := M) (ob := ob) (s := 2) (o := 0) (so := s9) (i := i) (j := j) (m := n) (by omega) (by omega) n0 k5 hs9 (by omega) (by omega) c1 c3 (fun t ht => hall t (by omega))
            rw [v_sfR] at b9
            rw [if_pos hl] at a9
            subst hl
            refine v_ok (C2 := f_uR (f_uR C 9 c2) 6 f2) ?_ a9 b9 rfl
            exact ⟨F, ja, jb, jg, jc, ji, jt, jp, jr, ⟨w1, u1, u2⟩, jl, jq⟩
          · have b9 := r_sfM_oth (G := G) (C := f_uR (f_uR C 9 c2) 6 f2) (M := M) (ob := ob) (s := 2) (o := 0) (so := s9) (i := i) (j := j) (m := n) (q := q) (by omega) (by omega) n0 k5 hs9 (by omega) (by omega) c1 c3 (by omega) hall (by
              have := v_kk_F (h6 (i + q) (by omega)) (l3 (by omega))
              rw [← Nat.add_assoc] at this
              exact this)
            rw [v_sfR] at b9
            rw [if_neg hl] at a9
            refine v_ok (C2 := f_uR (f_uR C 9 c2) 6 f2) ?_ a9 b9 rfl
            exact ⟨F, ja, jb, jg, jc, ji, jt, jp, jr, ⟨w1, u1, u2⟩, jl, jq⟩
        · refine v_ok hJ0 (r_X11_shift20_out2 (i9 := i) (n9 := n) hq h1 k1 h2 k2 hin (fun i7 n7 e1 e2 hle => hB ⟨i7, e1, ?_⟩)) (r_sfM_out (s := 2) (o := 0) (by omega) (by omega) n0 g1 ?_) rfl
          · have : n = n7 := nI_inj9 (by omega) (by omega) e2
            omega
          · rw [k3]
            rcases v_sfo2 k2 (by omega) hB with z | z
            · exact Or.inr (Or.inr (Or.inl z))
            · exact Or.inr (Or.inr (Or.inr (Or.inr z)))
      · refine v_ok hJ0 (r_X11_shift20_out1 hq h1 k1 h2 (fun i9 n9 e1 e2 hle => hA ⟨i9, n9, e1, e2, hle⟩)) (r_sfM_out (s := 2) (o := 0) (by omega) (by omega) n0 g1 ?_) rfl
        rw [h3]
        rcases v_sfo1 h2 hA with z | z | z
        · exact Or.inl z
        · exact Or.inr (Or.inl z)
        · exact Or.inr (Or.inr (Or.inr (Or.inl z)))
theorem v_shift21 (hJ : v_J G C M ob) : v_Ok Value.int mX11_shift mX12_shift [.int 2, .int y2, .int 1, .int y4, .int y5] G C M ob := by
  have hJ0 := hJ
  have hq := hJ.qs
  obtain ⟨F, ja, jb, jg, jc, ji, jt, jp, jr, js, jl, jq⟩ := hJ
  have j0 : v_Js G ob (C.2.1 5) (C.2.1 8) (C.1 14) (C.2.2.2.2.2 8) (M.2.2.2.1 9 2) (M.2.2.2.1 10 2) (M.2.2.2.1 11) (M.2.2.2.1 12) (M.2.2.2.2 3) (6 * 2) := js.2.2
  have j1 : v_Js G ob (C.2.1 4) (C.2.1 7) (C.1 13) (C.2.2.2.2.2 7) (M.2.2.2.1 9 1) (M.2.2.2.1 10 1) (M.2.2.2.1 11) (M.2.2.2.1 12) (M.2.2.2.2 3) (6 * 1) := js.2.1
  have j2 := j1
  rcases j0 with ⟨h1, h2, h3, h4⟩ | ⟨h1, h2, h3, ⟨s0, hs0, h4, h5⟩, h6⟩
  · exact v_ok hJ0 (r_X11_shift21_miss hq (Or.inl h1)) (r_sfM_m1 (s := 2) (o := 1) (by omega) (by omega) (by rw [h3]; decide)) rfl
  · have n0 : ¬ M.2.2.2.1 9 2 < 0 := by rw [h5]; exact nI_pos (by omega)
    rcases j1 with ⟨k1, k2, k3, k4⟩ | ⟨k1, k2, k3, ⟨s9, hs9, k4, k5⟩, k6⟩
    · exact v_ok hJ0 (r_X11_shift21_miss hq (Or.inr k1)) (r_sfM_m2 (s := 2) (o := 1) (by omega) (by omega) n0 (by rw [k3]; decide)) rfl
    · have g1 : 0 ≤ M.2.2.2.1 9 1 := by rw [k5]; exact nI_pos' (by omega)
      by_cases hA : ∃ i n, y2 = nI i ∧ y5 = nI n ∧ i + n ≤ C.1 14
      · obtain ⟨i, n, rfl, rfl, hin⟩ := hA
        by_cases hB : ∃ j, y4 = nI j ∧ j + n ≤ C.1 13
        · obtain ⟨j, rfl, hjn⟩ := hB
          obtain ⟨c2, f2, hf2, a9⟩ := r_X11_shift21 (G := G) (C := C) (tl := g_hm G M ++ ob) (i9 := i) (j9 := j) (n9 := n) (s9 := s9) (kk := v_kk (M.2.2.2.1 11) (6 * 2)) hq h1 k1 h2 k2 hin hjn k4 hs9 (fun q hq9 => v_kk_at (h6 q hq9))
          obtain ⟨l1, l2, l3⟩ := v_lead (s := s9) (kk := v_kk (M.2.2.2.1 11) (6 * 2)) n i
          obtain ⟨q, eq9⟩ : ∃ q, q = f_lead s9 (v_kk (M.2.2.2.1 11) (6 * 2)) n i := ⟨_, rfl⟩
          rw [← eq9] at l1 l2 l3 hf2 a9
          have w1 : v_Js G ob (C.2.1 4) (C.2.1 7) (C.1 13) f2 (M.2.2.2.1 9 1) (M.2.2.2.1 10 1) (f_mvI (M.2.2.2.1 11) (f_tkI (M.2.2.2.1 13) (M.2.2.2.1 11) (6 * 2 + i) n) (6 * 1 + j) q) (f_mvI (M.2.2.2.1 12) (f_tkI (M.2.2.2.1 14) (M.2.2.2.1 12) (6 * 2 + i) n) (6 * 1 + j) q) (f_mvL (M.2.2.2.2 3) (f_tkL (M.2.2.2.2 4) (M.2.2.2.2 3) (6 * 2 + i) n) (6 * 1 + j) q) (6 * 1) := v_Js.shift j2 h6 (by omega) hf2 (fun r => v_mtI l1) (fun r => v_mtI l1) (fun r => v_mtL l1)
          have u0 : v_Js G ob (C.2.1 3) (C.2.1 6) (C.1 12) (C.2.2.2.2.2 6) (M.2.2.2.1 9 0) (M.2.2.2.1 10 0) (f_mvI (M.2.2.2.1 11) (f_tkI (M.2.2.2.1 13) (M.2.2.2.1 11) (6 * 2 + i) n) (6 * 1 + j) q) (f_mvI (M.2.2.2.1 12) (f_tkI (M.2.2.2.1 14) (M.2.2.2.1 12) (6 * 2 + i) n) (6 * 1 + j) q) (f_mvL (M.2.2.2.2 3) (f_tkL (M.2.2.2.2 4) (M.2.2.2.2 3) (6 * 2 + i) n) (6 * 1 + j) q) (6 * 0) := v_Js.oth js.1 (fun i hi => v_mtI_out l1 (by omega)) (fun i hi => v_mtI_out l1 (by omega)) (fun i hi => v_mtL_out l1 (by omega))
          have u2 : v_Js G ob (C.2.1 5) (C.2.1 8) (C.1 14) (C.2.2.2.2.2 8) (M.2.2.2.1 9 2) (M.2.2.2.1 10 2) (f_mvI (M.2.2.2.1 11) (f_tkI (M.2.2.2.1 13) (M.2.2.2.1 11) (6 * 2 + i) n) (6 * 1 + j) q) (f_mvI (M.2.2.2.1 12) (f_tkI (M.2.2.2.1 14) (M.2.2.2.1 12) (6 * 2 + i) n) (6 * 1 + j) q) (f_mvL (M.2.2.2.2 3) (f_tkL (M.2.2.2.2 4) (M.2.2.2.2 3) (6 * 2 + i) n) (6 * 1 + j) q) (6 * 2) := v_Js.oth js.2.2 (fun i hi => v_mtI_out l1 (by omega)) (fun i hi => v_mtI_out l1 (by omega)) (fun i hi => v_mtL_out l1 (by omega))
          have c1 : ¬ M.2.2.2.1 10 2 - nI n < nI i := by rw [h3, v_it, v_sub6 h2 (by omega), nI_toInt (by omega)]; omega
          have c3 : nI j ≤ M.2.2.2.1 10 1 - nI n := by rw [k3, v_il, v_sub6 k2 (by omega), nI_toInt (by omega)]; omega
          have hall : ∀ t, t < q → M.2.2.2.1 11 (6 * 2 + i + t) < 0 ∨ ∃ kk, kk < 6 ∧ M.2.2.2.1 11 (6 * 2 + i + t) = nI kk ∧ f_may s9 kk = true := fun t ht => by
            have := v_kk_T (h6 (i + t) (by omega)) (l2 t ht)
            rw [← Nat.add_assoc] at this
            exact this
          by_cases hl : q = n
          · have b9 := r_sfM_ok (G := G) (C := f_uR (f_uR C 10 c2) 7 f2) (M := M) (ob := ob) (s := 2) (o := 1) (so := s9) (i := i) (j := j) (m := n) (by omega) (by omega) n0 k5 hs9 (by omega) (by omega) c1 c3 (fun t ht => hall t (by omega))
            rw [v_sfR] at b9
            rw [if_pos hl] at a9
            subst hl
            refine v_ok (C2 := f_uR (f_uR C 10 c2) 7 f2) ?_ a9 b9 rfl
            exact ⟨F, ja, jb, jg, jc, ji, jt, jp, jr, ⟨u0, w1, u2⟩, jl, jq⟩
          · have b9 := r_sfM_oth (G := G) (C := f_uR (f_uR C 10 c2) 7 f2) (M := M) (ob := ob) (s := 2) (o := 1) (so := s9) (i := i) (j := j) (m := n) (q := q) (by omega) (by omega) n0 k5 hs9 (by omega) (by omega) c1 c3 (by omega) hall (by
              have := v_kk_F (h6 (i + q) (by omega)) (l3 (by omega))
              rw [← Nat.add_assoc] at this
              exact this)
            rw [v_sfR] at b9
            rw [if_neg hl] at a9
            refine v_ok (C2 := f_uR (f_uR C 10 c2) 7 f2) ?_ a9 b9 rfl
            exact ⟨F, ja, jb, jg, jc, ji, jt, jp, jr, ⟨u0, w1, u2⟩, jl, jq⟩
        · refine v_ok hJ0 (r_X11_shift21_out2 (i9 := i) (n9 := n) hq h1 k1 h2 k2 hin (fun i7 n7 e1 e2 hle => hB ⟨i7, e1, ?_⟩)) (r_sfM_out (s := 2) (o := 1) (by omega) (by omega) n0 g1 ?_) rfl
          · have : n = n7 := nI_inj9 (by omega) (by omega) e2
            omega
          · rw [k3]
            rcases v_sfo2 k2 (by omega) hB with z | z
            · exact Or.inr (Or.inr (Or.inl z))
            · exact Or.inr (Or.inr (Or.inr (Or.inr z)))
      · refine v_ok hJ0 (r_X11_shift21_out1 hq h1 k1 h2 (fun i9 n9 e1 e2 hle => hA ⟨i9, n9, e1, e2, hle⟩)) (r_sfM_out (s := 2) (o := 1) (by omega) (by omega) n0 g1 ?_) rfl
        rw [h3]
        rcases v_sfo1 h2 hA with z | z | z
        · exact Or.inl z
        · exact Or.inr (Or.inl z)
        · exact Or.inr (Or.inr (Or.inr (Or.inl z)))
theorem v_shift22 (hJ : v_J G C M ob) : v_Ok Value.int mX11_shift mX12_shift [.int 2, .int y2, .int 2, .int y4, .int y5] G C M ob := by
  have hJ0 := hJ
  have hq := hJ.qs
  obtain ⟨F, ja, jb, jg, jc, ji, jt, jp, jr, js, jl, jq⟩ := hJ
  have j0 : v_Js G ob (C.2.1 5) (C.2.1 8) (C.1 14) (C.2.2.2.2.2 8) (M.2.2.2.1 9 2) (M.2.2.2.1 10 2) (M.2.2.2.1 11) (M.2.2.2.1 12) (M.2.2.2.2 3) (6 * 2) := js.2.2
  have j1 : v_Js G ob (C.2.1 5) (C.2.1 8) (C.1 14) (C.2.2.2.2.2 8) (M.2.2.2.1 9 2) (M.2.2.2.1 10 2) (M.2.2.2.1 11) (M.2.2.2.1 12) (M.2.2.2.2 3) (6 * 2) := js.2.2
  have j2 := j1
  rcases j0 with ⟨h1, h2, h3, h4⟩ | ⟨h1, h2, h3, ⟨s0, hs0, h4, h5⟩, h6⟩
  · exact v_ok hJ0 (r_X11_shift22_miss hq (Or.inl h1)) (r_sfM_m1 (s := 2) (o := 2) (by omega) (by omega) (by rw [h3]; decide)) rfl
  · have n0 : ¬ M.2.2.2.1 9 2 < 0 := by rw [h5]; exact nI_pos (by omega)
    rcases j1 with ⟨k1, k2, k3, k4⟩ | ⟨k1, k2, k3, ⟨s9, hs9, k4, k5⟩, k6⟩
    · exact v_ok hJ0 (r_X11_shift22_miss hq (Or.inr k1)) (r_sfM_m2 (s := 2) (o := 2) (by omega) (by omega) n0 (by rw [k3]; decide)) rfl
    · have g1 : 0 ≤ M.2.2.2.1 9 2 := by rw [k5]; exact nI_pos' (by omega)
      by_cases hA : ∃ i n, y2 = nI i ∧ y5 = nI n ∧ i + n ≤ C.1 14
      · obtain ⟨i, n, rfl, rfl, hin⟩ := hA
        by_cases hB : ∃ j, y4 = nI j ∧ j + n ≤ C.1 14
        · obtain ⟨j, rfl, hjn⟩ := hB
          obtain ⟨c2, f2, hf2, a9⟩ := r_X11_shift22 (G := G) (C := C) (tl := g_hm G M ++ ob) (i9 := i) (j9 := j) (n9 := n) (s9 := s9) (kk := v_kk (M.2.2.2.1 11) (6 * 2)) hq h1 k1 h2 k2 hin hjn k4 hs9 (fun q hq9 => v_kk_at (h6 q hq9))
          obtain ⟨l1, l2, l3⟩ := v_lead (s := s9) (kk := v_kk (M.2.2.2.1 11) (6 * 2)) n i
          obtain ⟨q, eq9⟩ : ∃ q, q = f_lead s9 (v_kk (M.2.2.2.1 11) (6 * 2)) n i := ⟨_, rfl⟩
          rw [← eq9] at l1 l2 l3 hf2 a9
          have w1 : v_Js G ob (C.2.1 5) (C.2.1 8) (C.1 14) f2 (M.2.2.2.1 9 2) (M.2.2.2.1 10 2) (f_mvI (M.2.2.2.1 11) (f_tkI (M.2.2.2.1 13) (M.2.2.2.1 11) (6 * 2 + i) n) (6 * 2 + j) q) (f_mvI (M.2.2.2.1 12) (f_tkI (M.2.2.2.1 14) (M.2.2.2.1 12) (6 * 2 + i) n) (6 * 2 + j) q) (f_mvL (M.2.2.2.2 3) (f_tkL (M.2.2.2.2 4) (M.2.2.2.2 3) (6 * 2 + i) n) (6 * 2 + j) q) (6 * 2) := v_Js.shift j2 h6 (by omega) hf2 (fun r => v_mtI l1) (fun r => v_mtI l1) (fun r => v_mtL l1)
          have u0 : v_Js G ob (C.2.1 3) (C.2.1 6) (C.1 12) (C.2.2.2.2.2 6) (M.2.2.2.1 9 0) (M.2.2.2.1 10 0) (f_mvI (M.2.2.2.1 11) (f_tkI (M.2.2.2.1 13) (M.2.2.2.1 11) (6 * 2 + i) n) (6 * 2 + j) q) (f_mvI (M.2.2.2.1 12) (f_tkI (M.2.2.2.1 14) (M.2.2.2.1 12) (6 * 2 + i) n) (6 * 2 + j) q) (f_mvL (M.2.2.2.2 3) (f_tkL (M.2.2.2.2 4) (M.2.2.2.2 3) (6 * 2 + i) n) (6 * 2 + j) q) (6 * 0) := v_Js.oth js.1 (fun i hi => v_mtI_out l1 (by omega)) (fun i hi => v_mtI_out l1 (by omega)) (fun i hi => v_mtL_out l1 (by omega))
          have u1 : v_Js G ob (C.2.1 4) (C.2.1 7) (C.1 13) (C.2.2.2.2.2 7) (M.2.2.2.1 9 1) (M.2.2.2.1 10 1) (f_mvI (M.2.2.2.1 11) (f_tkI (M.2.2.2.1 13) (M.2.2.2.1 11) (6 * 2 + i) n) (6 * 2 + j) q) (f_mvI (M.2.2.2.1 12) (f_tkI (M.2.2.2.1 14) (M.2.2.2.1 12) (6 * 2 + i) n) (6 * 2 + j) q) (f_mvL (M.2.2.2.2 3) (f_tkL (M.2.2.2.2 4) (M.2.2.2.2 3) (6 * 2 + i) n) (6 * 2 + j) q) (6 * 1) := v_Js.oth js.2.1 (fun i hi => v_mtI_out l1 (by omega)) (fun i hi => v_mtI_out l1 (by omega)) (fun i hi => v_mtL_out l1 (by omega))
          have c1 : ¬ M.2.2.2.1 10 2 - nI n < nI i := by rw [h3, v_it, v_sub6 h2 (by omega), nI_toInt (by omega)]; omega
          have c3 : nI j ≤ M.2.2.2.1 10 2 - nI n := by rw [k3, v_il, v_sub6 k2 (by omega), nI_toInt (by omega)]; omega
          have hall : ∀ t, t < q → M.2.2.2.1 11 (6 * 2 + i + t) < 0 ∨ ∃ kk, kk < 6 ∧ M.2.2.2.1 11 (6 * 2 + i + t) = nI kk ∧ f_may s9 kk = true := fun t ht => by
            have := v_kk_T (h6 (i + t) (by omega)) (l2 t ht)
            rw [← Nat.add_assoc] at this
            exact this
          by_cases hl : q = n
          · have b9 := r_sfM_ok (G := G) (C := f_uR (f_uR C 11 c2) 8 f2) (M := M) (ob := ob) (s := 2) (o := 2) (so := s9) (i := i) (j := j) (m := n) (by omega) (by omega) n0 k5 hs9 (by omega) (by omega) c1 c3 (fun t ht => hall t (by omega))
            rw [v_sfR] at b9
            rw [if_pos hl] at a9
            subst hl
            refine v_ok (C2 := f_uR (f_uR C 11 c2) 8 f2) ?_ a9 b9 rfl
            exact ⟨F, ja, jb, jg, jc, ji, jt, jp, jr, ⟨u0, u1, w1⟩, jl, jq⟩
          · have b9 := r_sfM_oth (G := G) (C := f_uR (f_uR C 11 c2) 8 f2) (M := M) (ob := ob) (s := 2) (o := 2) (so := s9) (i := i) (j := j) (m := n) (q := q) (by omega) (by omega) n0 k5 hs9 (by omega) (by omega) c1 c3 (by omega) hall (by
              have := v_kk_F (h6 (i + q) (by omega)) (l3 (by omega))
              rw [← Nat.add_assoc] at this
              exact this)
            rw [v_sfR] at b9
            rw [if_neg hl] at a9
            refine v_ok (C2 := f_uR (f_uR C 11 c2) 8 f2) ?_ a9 b9 rfl
            exact ⟨F, ja, jb, jg, jc, ji, jt, jp, jr, ⟨u0, u1, w1⟩, jl, jq⟩
        · refine v_ok hJ0 (r_X11_shift22_out2 (i9 := i) (n9 := n) hq h1 k1 h2 k2 hin (fun i7 n7 e1 e2 hle => hB ⟨i7, e1, ?_⟩)) (r_sfM_out (s := 2) (o := 2) (by omega) (by omega) n0 g1 ?_) rfl
          · have : n = n7 := nI_inj9 (by omega) (by omega) e2
            omega
          · rw [k3]
            rcases v_sfo2 k2 (by omega) hB with z | z
            · exact Or.inr (Or.inr (Or.inl z))
            · exact Or.inr (Or.inr (Or.inr (Or.inr z)))
      · refine v_ok hJ0 (r_X11_shift22_out1 hq h1 k1 h2 (fun i9 n9 e1 e2 hle => hA ⟨i9, n9, e1, e2, hle⟩)) (r_sfM_out (s := 2) (o := 2) (by omega) (by omega) n0 g1 ?_) rfl
        rw [h3]
        rcases v_sfo1 h2 hA with z | z | z
        · exact Or.inl z
        · exact Or.inr (Or.inl z)
        · exact Or.inr (Or.inr (Or.inr (Or.inl z)))
theorem v_shift (hJ : v_J G C M ob) : v_Ok Value.int mX11_shift mX12_shift [.int y, .int y2, .int y3, .int y4, .int y5] G C M ob := by
  have hq := hJ.qs
  rcases v_c2 y with hy | rfl | rfl | rfl
  · rcases v_c2 y3 with hz | rfl | rfl | rfl
    · exact v_ok hJ (r_X11_shift_bad (v_b3 hy).1 (v_b3 hz).1) (r_sfM_b0 (v_b3 hy).2) rfl
    · exact v_ok hJ (r_X11_shift_bad1_0 hq (v_b3 hy).1) (r_sfM_b0 (v_b3 hy).2) rfl
    · exact v_ok hJ (r_X11_shift_bad1_1 hq (v_b3 hy).1) (r_sfM_b0 (v_b3 hy).2) rfl
    · exact v_ok hJ (r_X11_shift_bad1_2 hq (v_b3 hy).1) (r_sfM_b0 (v_b3 hy).2) rfl
  · rcases v_c2 y3 with hz | rfl | rfl | rfl
    · exact v_ok hJ (r_X11_shift_bad2_0 hq (v_b3 hz).1) (r_sfM_b1 (s := 0) (by omega) (v_b3 hz).2) rfl
    · exact v_shift00 hJ
    · exact v_shift01 hJ
    · exact v_shift02 hJ
  · rcases v_c2 y3 with hz | rfl | rfl | rfl
    · exact v_ok hJ (r_X11_shift_bad2_1 hq (v_b3 hz).1) (r_sfM_b1 (s := 1) (by omega) (v_b3 hz).2) rfl
    · exact v_shift10 hJ
    · exact v_shift11 hJ
    · exact v_shift12 hJ
  · rcases v_c2 y3 with hz | rfl | rfl | rfl
    · exact v_ok hJ (r_X11_shift_bad2_2 hq (v_b3 hz).1) (r_sfM_b1 (s := 2) (by omega) (v_b3 hz).2) rfl
    · exact v_shift20 hJ
    · exact v_shift21 hJ
    · exact v_shift22 hJ
end VH1
