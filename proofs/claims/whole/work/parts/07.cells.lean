/-! short names for cells, small rows on numbers -/
abbrev c_I (G : g_G) (n : Nat) (f : Nat → Int32) : va_E := .inl (g_ci G 0, n, .inl f)
abbrev c_L (G : g_G) (n : Nat) (f : Nat → Int64) : va_E := .inl (g_ci G 1, n, .inr (.inl f))
abbrev c_B (G : g_G) (n : Nat) (f : Nat → Int32) : va_E := .inl (g_ci G 2, n, .inl f)
abbrev c_Q (G : g_G) (t n : Nat) (f : Nat → Option Nat) : va_E := .inl (g_ci G t, n, .inr (.inr (.inr (.inr f))))
abbrev c_O (c : Nat) (fs : List Value) : va_E := .inr (c, fs)
theorem g_out_ge {x : Int32} {n : Nat} (hi : ¬ vp_in x n) (h0 : ¬ x < 0) (hn : n < 2 ^ 31) : nI n ≤ x := by
  obtain ⟨j, hj, rfl⟩ := nI_of h0
  rcases Nat.lt_or_ge j n with q | q
  · exact absurd (vp_in_nI q hn) hi
  · exact nI_le q hj
theorem g_cl {j : Nat} (h : j < 2 ^ 31) : (nI j).toNatClampNeg = j := nI_clamp h
theorem g_cmp_ne {x y : Int64} : ¬ lg_cmp x y = 0 ↔ ¬ x = y := by
  unfold lg_cmp
  by_cases h1 : y < x
  · simp [h1]
    intro e
    subst e
    simp at h1
  · by_cases h2 : x = y
    · simp [h1, h2]
    · simp [h1, h2]
theorem g_cmp_lt {x y : Int64} : lg_cmp x y < 0 ↔ x < y := by
  unfold lg_cmp
  by_cases h1 : y < x
  · simp only [h1, if_true]
    refine ⟨fun h => absurd h (by decide), fun h => ?_⟩
    exact absurd (Int64.lt_trans h h1) (by simp)
  · by_cases h2 : x = y
    · subst h2
      simp
    · simp only [h1, h2, if_false]
      refine ⟨fun _ => ?_, fun _ => by decide⟩
      rw [Int64.lt_iff_toInt_lt] at h1 ⊢
      have h3 : x.toInt ≠ y.toInt := fun q => h2 (Int64.toInt_inj.mp q)
      omega
theorem g_cmp_gt {x y : Int64} : 0 < lg_cmp x y ↔ y < x := by
  unfold lg_cmp
  by_cases h1 : y < x
  · simp only [h1, if_true]
    exact ⟨fun _ => trivial, fun _ => by decide⟩
  · by_cases h2 : x = y
    · simp [h1, h2]
    · simp only [h1, h2, if_false]
      exact ⟨fun h => absurd h (by decide), fun h => h.elim⟩
theorem g_cmp_eq {x y : Int64} : lg_cmp x y = 0 ↔ x = y := by
  have := @g_cmp_ne x y
  exact ⟨fun h => Decidable.not_not.mp fun q => (this.mpr q) h, fun h => Decidable.not_not.mp fun q => (this.mp q) h⟩
theorem g_cmp_ge {x y : Int64} : 0 ≤ lg_cmp x y ↔ y ≤ x := by
  have := @g_cmp_lt x y
  rw [← Int32.not_lt, this, Int64.not_lt]
theorem g_cmp_le {x y : Int64} : lg_cmp x y ≤ 0 ↔ x ≤ y := by
  have := @g_cmp_gt x y
  rw [← Int32.not_lt, this, Int64.not_lt]
theorem g_set_self {h : List va_E} {k : Nat} {e : va_E} (he : h[k]? = some e) : h.set k e = h := by
  apply List.ext_getElem?
  intro i
  rw [List.getElem?_set]
  by_cases hi : k = i
  · subst hi
    rw [if_pos rfl, if_pos (g_lt he), he]
  · rw [if_neg hi]
