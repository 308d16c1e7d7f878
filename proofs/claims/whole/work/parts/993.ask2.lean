/-! calls that ask of orders, least ones, cascades, the grid, lots, lists: both sides answer alike -/
section VB1
variable {G : g_G} {C : f_C} {M : f_M} {ob : List va_E} {y y2 y3 y4 y5 : Int32} {x : Int64}
theorem v_J.key0 {f : Nat → Int32} (h : v_J G C M ob) : v_J G (f_uI C 0 f) M ob := by
  obtain ⟨F, ja, jb, jg, jc, ji, jt, jp, jr, js, jl, jq⟩ := h
  exact ⟨F, ja, jb, jg, jc, ji, jt, jp, jr, js, jl, jq⟩
theorem v_J.key1 {f : Nat → Int32} (h : v_J G C M ob) : v_J G (f_uI C 1 f) M ob := by
  obtain ⟨F, ja, jb, jg, jc, ji, jt, jp, jr, js, jl, jq⟩ := h
  exact ⟨F, ja, jb, jg, jc, ji, jt, jp, jr, js, jl, jq⟩
theorem v_J.leR {K k so m : Nat} (h : v_J G C M ob) : v_J G C (f_leR M K k so m) ob := by
  obtain ⟨F, ja, jb, jg, jc, ji, jt, jp, jr, js, jl, jq⟩ := h
  exact ⟨F, ja, jb, jg, jc, ji, jt, jp, jr, js, jl, jq⟩
theorem v_J.lcR {K m : Nat} (h : v_J G C M ob) : v_J G C (f_lcR M K m) ob := by
  obtain ⟨F, ja, jb, jg, jc, ji, jt, jp, jr, js, jl, jq⟩ := h
  exact ⟨F, ja, jb, jg, jc, ji, jt, jp, jr, js, jl, jq⟩
theorem v_J.caC {m k : Nat} (h : v_J G C M ob) : v_J G (f_caC C m k) M ob := by
  obtain ⟨F, ja, jb, jg, jc, ji, jt, jp, jr, js, jl, jq⟩ := h
  exact ⟨F, ja, jb, jg, jc, ji, jt, jp, jr, js, jl, jq⟩
theorem v_J.caM {m k : Nat} (h : v_J G C M ob) : v_J G C (f_caM M m k) ob := by
  obtain ⟨F, ja, jb, jg, jc, ji, jt, jp, jr, js, jl, jq⟩ := h
  exact ⟨F, ja, jb, jg, jc, ji, jt, jp, jr, js, jl, jq⟩
theorem v_ordered (hJ : v_J G C M ob) : v_Ok Value.int mX11_ordered mX12_ordered [.int y, .int y2] G C M ob := by
  obtain ⟨hn, hp, h6, hp9, h69⟩ := hJ.cube
  have p64 : 2 ^ M.1 0 ≤ 64 := Nat.pow_le_pow_right (n := 2) (by decide) h6
  have p0 : 0 < 2 ^ M.1 0 := Nat.two_pow_pos _
  have hk : (nI (2 ^ M.1 0)).toInt = ((2 ^ M.1 0 : Nat) : Int) := nI_toInt (by omega)
  rcases v_sp 3 (by omega) y with hy | ⟨o9, ho, rfl⟩
  · exact v_ok hJ (r_X11_ordered_out (by simp only [v_it, v_il, v_zm1, v_z0, v_z1, v_z2, v_z3, v_z4, v_z5, v_z6, v_z8, v_z9, v_z12, v_z20, v_z32, v_z80, v_z100, v_z126, v_z2000000000] ; show y.toInt < 0 ∨ ¬ y.toInt < (4 : Int32).toInt; rw [show (4 : Int32).toInt = 4 from rfl]; omega)) (r_odM_bad (fun z => by simp only [v_it, v_il, v_zm1, v_z0, v_z1, v_z2, v_z3, v_z4, v_z5, v_z6, v_z8, v_z9, v_z12, v_z20, v_z32, v_z80, v_z100, v_z126, v_z2000000000] at z; omega)) rfl
  · obtain ⟨f2, k2, a1, a2⟩ := r_X11_ordered (G := G) (C := C) (tl := g_hm G M ++ ob) (y2 := y2) h69 (o9 := o9) (by omega)
    rw [hn] at k2 a1 a2
    have hr : ∀ s, s < 2 ^ M.1 0 → f_rank f2 s (2 ^ M.1 0) = f_plM o9 (M.1 0) s (2 ^ M.1 0) := fun s hs => f_rank_M h6 hp (by omega) k2 hs _ (Nat.le_refl _)
    rcases v_least (P := fun q => nI (f_plM o9 (M.1 0) q (2 ^ M.1 0)) = y2) (fun q => Classical.em _) (2 ^ M.1 0) with hno | ⟨s9, h1, h2, h3⟩
    · exact v_ok hJ.key0 (a2 (fun q hq => by rw [hr q hq]; exact hno q hq)) (r_odM h6 hp (by omega)) (f_odM_miss (2 ^ M.1 0) 0 (by omega) (fun z _ hz => hno z hz)).symm
    · exact v_ok hJ.key0 (a1 s9 h1 (by rw [hr s9 h1]; exact h2) (fun q hq => by rw [hr q (by omega)]; exact h3 q hq)) (r_odM h6 hp (by omega)) (f_odM_hit (2 ^ M.1 0) 0 (by omega) (Nat.zero_le _) h1 h2 (fun z _ hz => h3 z hz)).symm
theorem v_ref1 {p : Nat} (hp : p ≤ 64) (y y2 : Int32) : (¬ (((0 : Int32) ≤ y ∧ y ≤ 1) ∧ ((0 : Int32) ≤ y2 ∧ y2 ≤ nI p)) ∧ f_ref1 p y y2 = -1) ∨ ((((0 : Int32) ≤ y ∧ y ≤ 1) ∧ ((0 : Int32) ≤ y2 ∧ y2 ≤ nI p)) ∧ ((16 < p ∧ f_ref1 p y y2 = -5) ∨ (p ≤ 16 ∧ f_ref1 p y y2 = 0 ∧ (y = 0 ∨ y = 1) ∧ ∃ m, m ≤ p ∧ y2 = nI m))) := by
  have hk : (nI p).toInt = (p : Int) := nI_toInt (by omega)
  by_cases hc : (0 ≤ y.toInt ∧ y.toInt ≤ 1) ∧ 0 ≤ y2.toInt ∧ y2.toInt ≤ p
  · right
    refine ⟨by simp only [v_it, v_il, v_zm1, v_z0, v_z1, v_z2, v_z3, v_z4, v_z5, v_z6, v_z8, v_z9, v_z12, v_z20, v_z32, v_z80, v_z100, v_z126, v_z2000000000, hk]; exact hc, ?_⟩
    have hno : ¬ (y < 0 ∨ 1 < y ∨ y2 < 0 ∨ ¬ y2 ≤ nI p) := by simp only [v_it, v_il, v_zm1, v_z0, v_z1, v_z2, v_z3, v_z4, v_z5, v_z6, v_z8, v_z9, v_z12, v_z20, v_z32, v_z80, v_z100, v_z126, v_z2000000000, hk]; omega
    by_cases h16 : 16 < p
    · left; exact ⟨h16, by unfold f_ref1; rw [if_neg hno, if_pos h16]⟩
    · right
      refine ⟨by omega, by unfold f_ref1; rw [if_neg hno, if_neg h16], ?_, ?_⟩
      · rcases v_c1 y with hy | hy
        · exact absurd hy (by omega)
        · exact hy
      · obtain ⟨m, hm, e⟩ := v_n (y := y2) (n := p) (by omega) hc.2.1 hc.2.2
        exact ⟨m, hm, e⟩
  · left
    refine ⟨by simp only [v_it, v_il, v_zm1, v_z0, v_z1, v_z2, v_z3, v_z4, v_z5, v_z6, v_z8, v_z9, v_z12, v_z20, v_z32, v_z80, v_z100, v_z126, v_z2000000000, hk]; exact hc, ?_⟩
    unfold f_ref1
    rw [if_pos]
    simp only [v_it, v_il, v_zm1, v_z0, v_z1, v_z2, v_z3, v_z4, v_z5, v_z6, v_z8, v_z9, v_z12, v_z20, v_z32, v_z80, v_z100, v_z126, v_z2000000000, hk]
    omega
theorem v_fi_in {c : Nat → Bool} {p : Nat} (hp : p ≤ 64) : f_in p (f_or (fun s => cond (c s) (f_sl 1 (nI s)) 0) p) := f_in_of (fun q hq hh => by rw [f_or_self hp hq, decide_eq_false (by omega), Bool.false_and])
theorem v_ifi {a1 a2 b1 b2 : Int32} (e1 : a1 = b1) (e2 : a2 = b2) : (if a1 = a2 then (1 : Int32) else 0) = f_i (decide (b1 = b2)) := by
  subst e1; subst e2
  exact f_isI (b := true) decide_eq_true_iff.symm
theorem v_meets (hJ : v_J G C M ob) : v_Ok Value.int mX11_meets mX12_meets [.int y, .int y2, .int y3] G C M ob := by
  obtain ⟨hn, hp, h6, hp9, h69⟩ := hJ.cube
  have p64 : 2 ^ M.1 0 ≤ 64 := Nat.pow_le_pow_right (n := 2) (by decide) h6
  have p0 : 0 < 2 ^ M.1 0 := Nat.two_pow_pos _
  have hk : (nI (2 ^ M.1 0)).toInt = ((2 ^ M.1 0 : Nat) : Int) := nI_toInt (by omega)
  rcases v_sp 3 (by omega) y with hy | ⟨o9, ho, rfl⟩
  · exact v_ok hJ (r_X11_meets_out (by simp only [v_it, v_il, v_zm1, v_z0, v_z1, v_z2, v_z3, v_z4, v_z5, v_z6, v_z8, v_z9, v_z12, v_z20, v_z32, v_z80, v_z100, v_z126, v_z2000000000]; show y.toInt < 0 ∨ ¬ y.toInt < (4 : Int32).toInt; rw [show (4 : Int32).toInt = 4 from rfl]; omega)) (r_meetsM_bad h6 (fun z => by simp only [v_it, v_il, v_zm1, v_z0, v_z1, v_z2, v_z3, v_z4, v_z5, v_z6, v_z8, v_z9, v_z12, v_z20, v_z32, v_z80, v_z100, v_z126, v_z2000000000] at z; omega)) rfl
  · have ho9 : (nI o9).toInt = (o9 : Int) := nI_toInt (by omega)
    have hoo : (0 : Int32) ≤ nI o9 ∧ nI o9 ≤ 3 := by simp only [v_it, v_il, v_zm1, v_z0, v_z1, v_z2, v_z3, v_z4, v_z5, v_z6, v_z8, v_z9, v_z12, v_z20, v_z32, v_z80, v_z100, v_z126, v_z2000000000, ho9]; omega
    have hc0 : ¬ nI o9 < 0 := by simp only [v_it, v_il, v_zm1, v_z0, v_z1, v_z2, v_z3, v_z4, v_z5, v_z6, v_z8, v_z9, v_z12, v_z20, v_z32, v_z80, v_z100, v_z126, v_z2000000000, ho9]; omega
    have hc4 : nI o9 < 4 := by rw [v_it, ho9, show (4 : Int32).toInt = 4 from rfl]; omega
    rcases v_ref1 p64 y2 y3 with ⟨hb, e⟩ | ⟨hg, ⟨h16, e⟩ | ⟨h16, e, hw, m, hm, rfl⟩⟩
    · exact v_ok hJ (r_X11_meets_ref h69 hc0 hc4 (by rw [hn, e]; decide)) (r_meetsM_bad h6 (fun z => hb z.2)) (by rw [hn, e])
    · exact v_ok hJ (r_X11_meets_ref h69 hc0 hc4 (by rw [hn, e]; decide)) (r_meetsM_st h6 (Nat.lt_of_not_le (fun z => absurd (Nat.pow_le_pow_right (n := 2) (by decide) z) (by omega))) ⟨hoo, hg⟩) (by rw [hn, e])
    · have h4 : M.1 0 ≤ 4 := Nat.le_of_not_lt (fun z => absurd (Nat.pow_le_pow_right (n := 2) (by decide) z) (by omega))
      rcases hw with rfl | rfl
      · obtain ⟨f2, k2, a1⟩ := r_X11_meets0 (G := G) (C := C) (tl := g_hm G M ++ ob) (y3 := nI m) h69 (o9 := o9) (by omega) (by rw [hn]; exact e)
        refine v_ok hJ.key0.leR a1 (r_meetsM0 h4 hp (by omega) hm) ?_
        rw [hn] at k2 ⊢
        have hin : f_in (2 ^ M.1 0) (f_fiM o9 (M.1 0) m) := v_fi_in p64
        dsimp only
        refine v_ifi ?_ (f_least_M0 (O := M.2.2.2.1 5) (L := M.2.2.2.2 2) (ff := M.2.2.1 0) h4 hm).2
        rw [f_firsts_M h6 hp (by omega) k2 hm, f_border_M h6 hin]
        exact f_bcL_pop _
      · obtain ⟨f2, k2, a1⟩ := r_X11_meets1 (G := G) (C := C) (tl := g_hm G M ++ ob) (y3 := nI m) h69 (o9 := o9) (by omega) (by rw [hn]; exact e)
        refine v_ok hJ.key0.leR a1 (r_meetsM1 h4 hp (by omega) hm) ?_
        rw [hn] at k2 ⊢
        dsimp only
        refine v_ifi ?_ (f_least_M1 (O := M.2.2.2.1 5) (L := M.2.2.2.2 2) (ff := M.2.2.1 0) h4 hm).2
        rw [f_firsts_M h6 hp (by omega) k2 hm]
        exact f_edges_M h6
theorem v_bc2 {n k : Nat} (hn : n ≤ 6) (hk : k ≤ n) : f_bcL (f_am n 2 (nI k)) = nI (f_bin n k) := by
  have hp : 2 ^ n ≤ 64 := Nat.pow_le_pow_right (n := 2) (by decide) hn
  show f_bcL (f_all (2 ^ n) &&& f_ofSize (nI k) 64) = _
  rw [f_mask_pop hp (f_mask_size (n := n) (k := k) (by omega)), f_cn_bin n (by omega) k (by omega)]
theorem v_leR_ff {K k so m : Nat} : (f_leR M K k so m).2.2.1 0 = (f_lf K (M.1 0) k so m (M.2.2.2.1 5) (M.2.2.2.2 2) (M.2.2.1 0)).2 := rfl
theorem v_smF {a : Nat} {c : Nat → Bool} : ∀ t, f_smF a (fun e => Bool.toNat (c e)) t ≤ a + t
  | 0 => Nat.le_refl _
  | t + 1 => by
    have h := v_smF (a := a) (c := c) t
    have h2 := Bool.toNat_le (c t)
    show f_smF a (fun e => Bool.toNat (c e)) t + Bool.toNat (c t) ≤ _
    omega
theorem v_edM {n : Nat} {x : Int64} : ∀ p, f_edM n x p ≤ p * n
  | 0 => Nat.zero_le _
  | p + 1 => by
    have h := v_edM (n := n) (x := x) p
    have h2 := v_smF (a := f_edM n x p) (c := fun e => !f_b x (p ^^^ 2 ^ e)) n
    rw [f_edM, Nat.succ_mul]
    cases f_b x p
    · show f_edM n x p ≤ _; omega
    · show f_smF (f_edM n x p) (fun e => Bool.toNat (!f_b x (p ^^^ 2 ^ e))) n ≤ _; omega
theorem v_edM_lt {n p : Nat} {x : Int64} (hp : 2 ^ n ≤ 64) : f_edM n x (2 ^ n) < 2 ^ 31 := by
  have h := v_edM (n := n) (x := x) (2 ^ n)
  have h1 : n < 2 ^ n := Nat.lt_two_pow_self
  have h2 : 2 ^ n * n ≤ 64 * 64 := Nat.mul_le_mul hp (by omega)
  omega
/-- the ways of least and leastSets: both refuse with r, or the model comes to M2 with both answers -/
theorem v_lst (hJ : v_J G C M ob) (y y2 y3 : Int32) : (∃ r : Int32, ¬ f_ref2 (C.1 0) y y2 y3 = 0 ∧ f_ref2 (C.1 0) y y2 y3 = r ∧ r < 0 ∧ g_Run G mX12_leastOf 5 0 0 [.ref (g_ad G 38), .int y, .int y2, .int y3] (g_hp G C (g_hm G M ++ ob)) (some (.int r)) (g_hp G C (g_hm G M ++ ob))) ∨ (f_ref2 (C.1 0) y y2 y3 = 0 ∧ ∃ (r : Int32) (b : Int64) (M2 : f_M), v_J G C M2 ob ∧ 0 ≤ r ∧ M2.2.2.1 0 = b ∧ g_Run G mX12_leastOf 5 0 0 [.ref (g_ad G 38), .int y, .int y2, .int y3] (g_hp G C (g_hm G M ++ ob)) (some (.int r)) (g_hp G C (g_hm G M2 ++ ob)) ∧ g_Run G mX11_least 6 0 0 [.ref (g_ad G 0), .int y, .int y2, .int y3] (g_hp G C (g_hm G M ++ ob)) (some (.int r)) (g_hp G C (g_hm G M ++ ob)) ∧ g_Run G mX11_leastSets 6 0 0 [.ref (g_ad G 0), .int y, .int y2, .int y3] (g_hp G C (g_hm G M ++ ob)) (some (.long b)) (g_hp G C (g_hm G M ++ ob))) := by
  obtain ⟨hn, hp, h6, hp9, h69⟩ := hJ.cube
  have p64 : 2 ^ M.1 0 ≤ 64 := Nat.pow_le_pow_right (n := 2) (by decide) h6
  have p0 : 0 < 2 ^ M.1 0 := Nat.two_pow_pos _
  have hk : (nI (2 ^ M.1 0)).toInt = ((2 ^ M.1 0 : Nat) : Int) := nI_toInt (by omega)
  have hkn : (nI (M.1 0)).toInt = M.1 0 := nI_toInt (by omega)
  by_cases h2 : y = 2
  · subst h2
    have er : ∀ z, f_ref2 (C.1 0) 2 y2 y3 = z ↔ (if y2 < 0 ∨ y3 < 0 ∨ ¬ y3 ≤ nI (M.1 0) ∨ ¬ y2 ≤ f_bcL (f_am (M.1 0) 2 y3) then (-1 : Int32) else if f_bcL (f_am (M.1 0) 2 y3) ≤ 15 then 0 else -5) = z := fun z => by rw [hn]; exact Iff.rfl
    rcases v_sp (M.1 0) (by omega) y3 with hy | ⟨k, hk9, rfl⟩
    · have e1 : f_ref2 (C.1 0) 2 y2 y3 = -1 := (er _).mpr (if_pos (by
        rcases hy with hy | hy
        · exact Or.inr (Or.inl (by rw [v_it, v_z0]; exact hy))
        · exact Or.inr (Or.inr (Or.inl (by rw [v_il, hkn]; omega)))))
      exact Or.inl ⟨-1, by rw [e1]; decide, e1, by decide, r_leM_b1 (fun z => by simp only [v_it, v_il, v_zm1, v_z0, v_z1, v_z2, v_z3, v_z4, v_z5, v_z6, v_z8, v_z9, v_z12, v_z20, v_z32, v_z80, v_z100, v_z126, v_z2000000000, hkn] at z; omega)⟩
    · have hkk : (nI k).toInt = (k : Int) := nI_toInt (by omega)
      have hbc := v_bc2 h6 hk9
      have hb20 := f_bin_20 (M.1 0) (by omega) k (by omega)
      have hbi : (nI (f_bin (M.1 0) k)).toInt = (f_bin (M.1 0) k : Int) := nI_toInt (by omega)
      rw [hbc] at er
      have hn3 : ¬ nI k < 0 ∧ nI k ≤ nI (M.1 0) := by simp only [v_it, v_il, v_zm1, v_z0, v_z1, v_z2, v_z3, v_z4, v_z5, v_z6, v_z8, v_z9, v_z12, v_z20, v_z32, v_z80, v_z100, v_z126, v_z2000000000, hkk, hkn]; omega
      rcases v_sp (f_bin (M.1 0) k) (by omega) y2 with hy | ⟨m, hm9, rfl⟩
      · have e1 : f_ref2 (C.1 0) 2 y2 (nI k) = -1 := (er _).mpr (if_pos (by
          rcases hy with hy | hy
          · exact Or.inl (by rw [v_it, v_z0]; exact hy)
          · exact Or.inr (Or.inr (Or.inr (by rw [v_il, hbi]; omega)))))
        exact Or.inl ⟨-1, by rw [e1]; decide, e1, by decide, r_leM_b3 h6 hk9 (fun z => by simp only [v_it, v_il, v_zm1, v_z0, v_z1, v_z2, v_z3, v_z4, v_z5, v_z6, v_z8, v_z9, v_z12, v_z20, v_z32, v_z80, v_z100, v_z126, v_z2000000000, hbi] at z; omega)⟩
      · have hmi : (nI m).toInt = (m : Int) := nI_toInt (by omega)
        have hno : ¬ (nI m < 0 ∨ nI k < 0 ∨ ¬ nI k ≤ nI (M.1 0) ∨ ¬ nI m ≤ nI (f_bin (M.1 0) k)) := by simp only [v_it, v_il, v_zm1, v_z0, v_z1, v_z2, v_z3, v_z4, v_z5, v_z6, v_z8, v_z9, v_z12, v_z20, v_z32, v_z80, v_z100, v_z126, v_z2000000000, hkk, hkn, hmi, hbi]; omega
        by_cases h15 : f_bin (M.1 0) k ≤ 15
        · have e1 : f_ref2 (C.1 0) 2 (nI m) (nI k) = 0 := (er _).mpr (by rw [if_neg hno, if_pos (by rw [v_il, hbi, show (15 : Int32).toInt = 15 from rfl]; omega)])
          have w := f_least_M2 (O := M.2.2.2.1 5) (L := M.2.2.2.2 2) (ff := M.2.2.1 0) h6 hk9 h15 hm9
          refine Or.inr ⟨e1, _, _, f_leR M 2 k (f_bin (M.1 0) k) m, hJ.leR, ?_, rfl, r_leM2 h6 hp hk9 hm9 h15, ?_, ?_⟩
          · rw [← w.2, f_bcL_pop]; exact nI_pos' (Nat.lt_of_le_of_lt (f_pop64 _) (by omega))
          · have a := r_X11_least2 (G := G) (C := C) (tl := g_hm G M ++ ob) h69 e1
            dsimp only at a
            rw [hn, show f_am (M.1 0) 2 (nI k) = f_all (2 ^ M.1 0) &&& f_ofSize (nI k) 64 from rfl, w.2] at a
            exact a
          · have a := r_X11_leastSets2 (G := G) (C := C) (tl := g_hm G M ++ ob) h69 e1
            rw [hn, show f_am (M.1 0) 2 (nI k) = f_all (2 ^ M.1 0) &&& f_ofSize (nI k) 64 from rfl, w.1] at a
            exact a
        · have e1 : f_ref2 (C.1 0) 2 (nI m) (nI k) = -5 := (er _).mpr (by rw [if_neg hno, if_neg (by rw [v_il, hbi, show (15 : Int32).toInt = 15 from rfl]; omega)])
          exact Or.inl ⟨-5, by rw [e1]; decide, e1, by decide, r_leM_st2 h6 hk9 (by simp only [v_it, v_il, v_zm1, v_z0, v_z1, v_z2, v_z3, v_z4, v_z5, v_z6, v_z8, v_z9, v_z12, v_z20, v_z32, v_z80, v_z100, v_z126, v_z2000000000, hmi, hbi]; omega) (by omega)⟩
  · have er : f_ref2 (C.1 0) y y2 y3 = f_ref1 (2 ^ M.1 0) y y2 := by unfold f_ref2; rw [if_neg h2, hn]
    rcases v_ref1 p64 y y2 with ⟨hb, e⟩ | ⟨hg, ⟨h16, e⟩ | ⟨h16, e, hw, m, hm, rfl⟩⟩
    · left
      refine ⟨-1, by rw [er, e]; decide, by rw [er, e], by decide, ?_⟩
      rcases v_c1 y with hy | rfl | rfl
      · refine r_leM_b0 (fun z => ?_)
        rcases v_c2 y with hz | rfl | rfl | rfl
        · simp only [v_it, v_il, v_zm1, v_z0, v_z1, v_z2, v_z3, v_z4, v_z5, v_z6, v_z8, v_z9, v_z12, v_z20, v_z32, v_z80, v_z100, v_z126, v_z2000000000] at z; omega
        · exact absurd hy (by decide)
        · exact absurd hy (by decide)
        · exact h2 rfl
      · exact r_leM_b2_0 h6 (fun z => hb ⟨by decide, z⟩)
      · exact r_leM_b2_1 h6 (fun z => hb ⟨by decide, z⟩)
    · left
      have h4 : 4 < M.1 0 := Nat.lt_of_not_le (fun z => absurd (Nat.pow_le_pow_right (n := 2) (by decide) z) (by omega))
      refine ⟨-5, by rw [er, e]; decide, by rw [er, e], by decide, ?_⟩
      rcases v_c1 y with hy | rfl | rfl
      · have := hg.1
        simp only [v_it, v_il, v_zm1, v_z0, v_z1, v_z2, v_z3, v_z4, v_z5, v_z6, v_z8, v_z9, v_z12, v_z20, v_z32, v_z80, v_z100, v_z126, v_z2000000000] at this; omega
      · exact r_leM_st_0 h6 h4 hg.2
      · exact r_leM_st_1 h6 h4 hg.2
    · have h4 : M.1 0 ≤ 4 := Nat.le_of_not_lt (fun z => absurd (Nat.pow_le_pow_right (n := 2) (by decide) z) (by omega))
      rcases hw with rfl | rfl
      · have e1 : f_ref2 (C.1 0) 0 (nI m) y3 = 0 := by rw [er, e]
        have w := f_least_M0 (O := M.2.2.2.1 5) (L := M.2.2.2.2 2) (ff := M.2.2.1 0) h4 hm
        refine Or.inr ⟨e1, _, _, f_leR M 0 0 (2 ^ M.1 0) m, hJ.leR, ?_, rfl, r_leM0 h4 hp hm, ?_, ?_⟩
        · rw [← w.2, f_bcL_pop]; exact nI_pos' (Nat.lt_of_le_of_lt (f_pop64 _) (by omega))
        · have a := r_X11_least0 (G := G) (C := C) (tl := g_hm G M ++ ob) h69 e1
          dsimp only at a
          rw [hn, show f_am (M.1 0) 0 y3 = f_all (2 ^ M.1 0) from rfl, w.2] at a
          exact a
        · have a := r_X11_leastSets0 (G := G) (C := C) (tl := g_hm G M ++ ob) h69 e1
          rw [hn, show f_am (M.1 0) 0 y3 = f_all (2 ^ M.1 0) from rfl, w.1] at a
          exact a
      · have e1 : f_ref2 (C.1 0) 1 (nI m) y3 = 0 := by rw [er, e]
        have w := f_least_M1 (O := M.2.2.2.1 5) (L := M.2.2.2.2 2) (ff := M.2.2.1 0) h4 hm
        refine Or.inr ⟨e1, _, _, f_leR M 1 0 (2 ^ M.1 0) m, hJ.leR, ?_, rfl, r_leM1 h4 hp hm, ?_, ?_⟩
        · rw [← w.2, f_edges_M h6]; exact nI_pos' (v_edM_lt (p := 0) p64)
        · have a := r_X11_least1 (G := G) (C := C) (tl := g_hm G M ++ ob) h69 e1
          dsimp only at a
          rw [hn, show f_am (M.1 0) 1 y3 = f_all (2 ^ M.1 0) from rfl, w.2] at a
          exact a
        · have a := r_X11_leastSets1 (G := G) (C := C) (tl := g_hm G M ++ ob) h69 e1
          rw [hn, show f_am (M.1 0) 1 y3 = f_all (2 ^ M.1 0) from rfl, w.1] at a
          exact a
theorem v_least_ (hJ : v_J G C M ob) : v_Ok Value.int mX11_least mX12_least [.int y, .int y2, .int y3] G C M ob := by
  have h69 := hJ.cube.2.2.2.2
  rcases v_lst hJ y y2 y3 with ⟨r, h1, h2, h3, h4⟩ | ⟨h1, r, b, M2, hJ2, h2, h3, h4, h5, h7⟩
  · exact v_ok hJ (r_X11_least_ref h69 h1) (r_leastM h4) h2
  · exact v_ok hJ2 h5 (r_leastM h4) rfl
theorem v_leastSets (hJ : v_J G C M ob) : v_Ok Value.long mX11_leastSets mX12_leastSets [.int y, .int y2, .int y3] G C M ob := by
  have h69 := hJ.cube.2.2.2.2
  rcases v_lst hJ y y2 y3 with ⟨r, h1, h2, h3, h4⟩ | ⟨h1, r, b, M2, hJ2, h2, h3, h4, h5, h7⟩
  · exact v_ok hJ (r_X11_leastSets_ref h69 h1) (r_leastSetsM h4) (by rw [decide_eq_false (Int32.not_le.mpr h3)]; rfl)
  · exact v_ok hJ2 h7 (r_leastSetsM h4) (by rw [decide_eq_true h2, h3]; rfl)
theorem v_ck (y y2 : Int32) : (¬ (((0 : Int32) ≤ y ∧ y ≤ 2000000000) ∧ ((1 : Int32) ≤ y2 ∧ y2 ≤ 12)) ∧ (y < 0 ∨ 2000000000 < y ∨ y2 < 1 ∨ ¬ y2 ≤ 12)) ∨ ∃ m k, m ≤ 2000000000 ∧ 1 ≤ k ∧ k ≤ 12 ∧ y = nI m ∧ y2 = nI k := by
  by_cases hc : (0 ≤ y.toInt ∧ y.toInt ≤ 2000000000) ∧ 1 ≤ y2.toInt ∧ y2.toInt ≤ 12
  · right
    obtain ⟨m, hm, rfl⟩ := v_n (y := y) (n := 2000000000) (by omega) hc.1.1 hc.1.2
    obtain ⟨k, hk, rfl⟩ := v_n (y := y2) (n := 12) (by omega) (by omega) hc.2.2
    rw [nI_toInt (by omega), nI_toInt (by omega)] at hc
    exact ⟨m, k, hm, by omega, hk, rfl, rfl⟩
  · left
    simp only [v_it, v_il, v_zm1, v_z0, v_z1, v_z2, v_z3, v_z4, v_z5, v_z6, v_z8, v_z9, v_z12, v_z20, v_z32, v_z80, v_z100, v_z126, v_z2000000000]
    omega
theorem v_bound (hJ : v_J G C M ob) : v_Ok Value.int mX11_bound mX12_bound [.int y, .int y2] G C M ob := by
  rcases v_ck y y2 with ⟨h1, h2⟩ | ⟨m, k, hm, hk0, hk, rfl, rfl⟩
  · exact v_ok hJ (r_X11_bound_out h2) (r_bndM_bad h1) rfl
  · exact v_ok hJ.caC.caM (r_X11_bound hm hk0 hk) (r_bndM hm hk0 hk) rfl
theorem v_cascade (hJ : v_J G C M ob) : v_Ok Value.int mX11_cascade mX12_cascade [.int y, .int y2, .int y3] G C M ob := by
  rcases v_ck y y2 with ⟨h1, h2⟩ | ⟨m, k, hm, hk0, hk, rfl, rfl⟩
  · exact v_ok hJ (r_X11_cascade_out1 h2) (r_cascM_bad h1) rfl
  · by_cases hc : (-1 : Int32) ≤ y3
    · by_cases h0 : y3 = -1
      · subst h0
        exact v_ok hJ.caC.caM (r_X11_cascadeN hm hk0 hk) (r_cascM_N hm hk0 hk trivial) rfl
      · have hl := f_cas_len k m
        have h3 : 0 ≤ y3.toInt := by
          rw [v_il, v_zm1] at hc
          by_cases h5 : y3.toInt = -1
          · exact absurd (Int32.toInt_inj.mp (h5.trans v_zm1.symm)) h0
          · omega
        by_cases hj : vp_in y3 (f_cas k m).length
        · obtain ⟨j, hj9, rfl⟩ := vp_in_of hj (by omega)
          exact v_ok hJ.caC.caM (r_X11_cascade_in hm hk0 hk hj9) (r_cascM_in hm hk0 hk hj9) rfl
        · exact v_ok hJ.caC.caM (r_X11_cascade_at hm hk0 hk hc h0 hj) (r_cascM_out hm hk0 hk (by rw [v_il, v_z0]; exact h3) (by rw [v_il, nI_toInt (by omega)]; rw [vp_in_iff] at hj; omega)) rfl
    · exact v_ok hJ.caM (r_X11_cascade_out2 hm hk0 hk hc) (r_cascM_b1 hm hk0 hk hc) rfl
theorem v_cab_mul {m k b : Nat} (hm : m ≤ 2000000000) (hk : k ≤ 12) (hb : b ≤ 2000000000) : f_cab k m * b < 2 ^ 63 := by
  have h1 := f_cab_small k m hk hm
  have h2 : k * 4194304 ≤ 12 * 4194304 := Nat.mul_le_mul_right _ hk
  have h3 : f_cab k m * b ≤ 2060000000 * 2000000000 := Nat.mul_le_mul (by omega) hb
  exact Nat.lt_of_le_of_lt h3 (by decide)
theorem v_scaled (hJ : v_J G C M ob) : v_Ok Value.int mX11_scaled mX12_scaled [.int y, .int y2, .int y3] G C M ob := by
  rcases v_ck y y2 with ⟨h1, h2⟩ | ⟨m, k, hm, hk0, hk, rfl, rfl⟩
  · exact v_ok hJ (r_X11_scaled_out1 h2) (r_sclM_bad h1) rfl
  · by_cases hc : 1 ≤ y3.toInt ∧ y3.toInt ≤ 2000000000
    · obtain ⟨b, hb, rfl⟩ := v_n (y := y3) (n := 2000000000) (by omega) (by omega) hc.2
      rw [nI_toInt (by omega)] at hc
      exact v_ok hJ.caC.caM (r_X11_scaled hm hk0 hk (by omega) hb) (r_sclM hm hk0 hk (by omega) hb) (f_scaled_M (v_cab_mul hm hk hb))
    · exact v_ok hJ.caM (r_X11_scaled_out2 hm hk0 hk (by simp only [v_it, v_il, v_zm1, v_z0, v_z1, v_z2, v_z3, v_z4, v_z5, v_z6, v_z8, v_z9, v_z12, v_z20, v_z32, v_z80, v_z100, v_z126, v_z2000000000]; omega)) (r_sclM_b1 hm hk0 hk (fun z => by simp only [v_it, v_il, v_zm1, v_z0, v_z1, v_z2, v_z3, v_z4, v_z5, v_z6, v_z8, v_z9, v_z12, v_z20, v_z32, v_z80, v_z100, v_z126, v_z2000000000] at z; omega)) rfl
theorem v_cells (hJ : v_J G C M ob) : v_Ok Value.int mX11_cells mX12_cells [.long x, .int y] G C M ob := by
  obtain ⟨hw, ht, w0, w8, t0, t8, wt⟩ := hJ.grid
  obtain ⟨cw0, cw8, ct0, ct8, cwt⟩ := hJ.gridC
  by_cases hx : x &&& (f_all (M.1 7 * M.1 8) ^^^ (-1)) = 0
  · have hxC : x &&& (f_all (C.1 1 * C.1 2) ^^^ (-1)) = 0 := by rw [hw, ht]; exact hx
    rcases v_c1 y with hy | rfl | rfl
    · exact v_ok hJ (r_X11_cells_out cwt (Or.inr (by simp only [v_it, v_il, v_zm1, v_z0, v_z1, v_z2, v_z3, v_z4, v_z5, v_z6, v_z8, v_z9, v_z12, v_z20, v_z32, v_z80, v_z100, v_z126, v_z2000000000]; omega))) (r_cellM_b1 wt hx (fun z => by simp only [v_it, v_il, v_zm1, v_z0, v_z1, v_z2, v_z3, v_z4, v_z5, v_z6, v_z8, v_z9, v_z12, v_z20, v_z32, v_z80, v_z100, v_z126, v_z2000000000] at z; omega)) rfl
    · exact v_ok hJ (r_X11_cells0 cwt ct8 hxC) (r_cellM0 w0 w8 t8 hx) (by show f_bcL (f_borderG (C.1 1) (C.1 2) x) = _; rw [hw, ht, f_borderG_M w0 w8 t8 (v_in_of hx)]; exact f_bcL_pop _)
    · exact v_ok hJ (r_X11_cells1 cwt ct8 hxC) (r_cellM1 w0 w8 t8 hx) (by rw [hw, ht]; exact f_edgesG_M w0 t0 w8 t8 (v_in_of hx))
  · exact v_ok hJ (r_X11_cells_out cwt (Or.inl (by rw [hw, ht]; exact hx))) (r_cellM_b0 wt hx) rfl
theorem v_border (hJ : v_J G C M ob) : v_Ok Value.long mX11_border mX12_border [.long x] G C M ob := by
  obtain ⟨hw, ht, w0, w8, t0, t8, wt⟩ := hJ.grid
  obtain ⟨cw0, cw8, ct0, ct8, cwt⟩ := hJ.gridC
  by_cases hx : x &&& (f_all (M.1 7 * M.1 8) ^^^ (-1)) = 0
  · have hxC : x &&& (f_all (C.1 1 * C.1 2) ^^^ (-1)) = 0 := by rw [hw, ht]; exact hx
    exact v_ok hJ (r_X11_border cwt ct8 hxC) (r_bordM w0 w8 t8 hx) (by rw [hw, ht]; exact f_borderG_M w0 w8 t8 (v_in_of hx))
  · exact v_ok hJ (r_X11_border_out cwt (by rw [hw, ht]; exact hx)) (r_bordM_b wt hx) rfl
theorem v_firstCells (hJ : v_J G C M ob) : v_Ok Value.long mX11_firstCells mX12_firstCells [.int y, .int y2] G C M ob := by
  obtain ⟨hw, ht, w0, w8, t0, t8, wt⟩ := hJ.grid
  obtain ⟨cw0, cw8, ct0, ct8, cwt⟩ := hJ.gridC
  have hk : (nI (M.1 7 * M.1 8)).toInt = ((M.1 7 * M.1 8 : Nat) : Int) := nI_toInt (by omega)
  by_cases hc : (0 ≤ y.toInt ∧ y.toInt ≤ 2) ∧ 0 ≤ y2.toInt ∧ y2.toInt ≤ ((M.1 7 * M.1 8 : Nat) : Int)
  · obtain ⟨o9, ho, rfl⟩ := v_n (y := y) (n := 2) (by omega) hc.1.1 hc.1.2
    obtain ⟨m, hm, rfl⟩ := v_n (y := y2) (n := M.1 7 * M.1 8) (by omega) hc.2.1 hc.2.2
    obtain ⟨f2, k2, a1⟩ := r_X11_firstCells (G := G) (C := C) (tl := g_hm G M ++ ob) cwt cw0 cw8 (o9 := o9) (m9 := m) (by omega) (by rw [hw, ht]; exact hm)
    refine v_ok hJ.key1 a1 (r_fcsM (by omega) w0 w8 t8 hm) ?_
    rw [hw, ht] at k2 ⊢
    exact f_firstsG_M w0 w8 (by omega) wt k2 hm
  · exact v_ok hJ (r_X11_firstCells_out (by rw [hw, ht]; simp only [v_it, v_il, v_zm1, v_z0, v_z1, v_z2, v_z3, v_z4, v_z5, v_z6, v_z8, v_z9, v_z12, v_z20, v_z32, v_z80, v_z100, v_z126, v_z2000000000, hk]; omega)) (r_fcsM_bad (fun z => by simp only [v_it, v_il, v_zm1, v_z0, v_z1, v_z2, v_z3, v_z4, v_z5, v_z6, v_z8, v_z9, v_z12, v_z20, v_z32, v_z80, v_z100, v_z126, v_z2000000000, hk] at z; omega)) rfl
theorem v_leastCells (hJ : v_J G C M ob) : v_Ok Value.int mX11_leastCells mX12_leastCells [.int y, .int y2] G C M ob := by
  obtain ⟨hw, ht, w0, w8, t0, t8, wt⟩ := hJ.grid
  obtain ⟨cw0, cw8, ct0, ct8, cwt⟩ := hJ.gridC
  rcases v_ref1 wt y y2 with ⟨hb, e⟩ | ⟨hg, ⟨h16, e⟩ | ⟨h16, e, h01, m, hm, rfl⟩⟩
  · exact v_ok hJ (r_X11_leastCells_ref cwt (by rw [hw, ht, e]; decide)) (r_lcM_bad hb) (by rw [hw, ht, e])
  · exact v_ok hJ (r_X11_leastCells_ref cwt (by rw [hw, ht, e]; decide)) (r_lcM_st hg wt h16) (by rw [hw, ht, e])
  · rcases h01 with rfl | rfl
    · have w := f_leastG_M0 (O := M.2.2.2.1 5) (L := M.2.2.2.2 2) (ff := M.2.2.1 0) w0 w8 t8 h16 hm
      exact v_ok hJ.lcR (r_X11_leastCells0 cwt ct8 (by rw [hw, ht]; exact e)) (r_lcM0 w0 w8 t8 h16 hm) (by rw [hw, ht]; exact w.2)
    · have w := f_leastG_M1 (O := M.2.2.2.1 5) (L := M.2.2.2.2 2) (ff := M.2.2.1 0) w0 t0 w8 t8 h16 hm
      exact v_ok hJ.lcR (r_X11_leastCells1 cwt ct8 (by rw [hw, ht]; exact e)) (r_lcM1 w0 w8 t8 h16 hm) (by rw [hw, ht]; exact w.2)
theorem v_eG (w t : Nat) (x : Int64) : (0 : Int32) ≤ f_edgesG w t x := by
  unfold f_edgesG
  rw [f_bcL_pop, f_bcL_pop, nI_add]
  have a := f_pop_le ((x ^^^ f_sr x 1) &&& (f_column w (nI w - 1) t ^^^ (-1)) &&& f_all (w * t))
  have b := f_pop_le ((x ^^^ f_sr x (nI w)) &&& f_sr (f_all (w * t)) (nI w))
  exact nI_pos' (by omega)
theorem v_meetsCells (hJ : v_J G C M ob) : v_Ok Value.int mX11_meetsCells mX12_meetsCells [.int y, .int y2, .int y3] G C M ob := by
  obtain ⟨hw, ht, w0, w8, t0, t8, wt⟩ := hJ.grid
  obtain ⟨cw0, cw8, ct0, ct8, cwt⟩ := hJ.gridC
  rcases v_sp 2 (by omega) y with hy | ⟨o9, ho, rfl⟩
  · exact v_ok hJ (r_X11_meetsCells_out (by simp only [v_it, v_il, v_zm1, v_z0, v_z1, v_z2, v_z3, v_z4, v_z5, v_z6, v_z8, v_z9, v_z12, v_z20, v_z32, v_z80, v_z100, v_z126, v_z2000000000]; omega)) (r_mcM_bad (fun z => by simp only [v_it, v_il, v_zm1, v_z0, v_z1, v_z2, v_z3, v_z4, v_z5, v_z6, v_z8, v_z9, v_z12, v_z20, v_z32, v_z80, v_z100, v_z126, v_z2000000000] at z; omega)) rfl
  · have ho9 : (nI o9).toInt = (o9 : Int) := nI_toInt (by omega)
    have hc0 : ¬ nI o9 < 0 := by simp only [v_it, v_il, v_zm1, v_z0, v_z1, v_z2, v_z3, v_z4, v_z5, v_z6, v_z8, v_z9, v_z12, v_z20, v_z32, v_z80, v_z100, v_z126, v_z2000000000, ho9]; omega
    have hc3 : nI o9 < 3 := by simp only [v_it, v_il, v_zm1, v_z0, v_z1, v_z2, v_z3, v_z4, v_z5, v_z6, v_z8, v_z9, v_z12, v_z20, v_z32, v_z80, v_z100, v_z126, v_z2000000000, ho9]; omega
    rcases v_ref1 wt y2 y3 with ⟨hb, e⟩ | ⟨hg, ⟨h16, e⟩ | ⟨h16, e, h01, m, hm, rfl⟩⟩
    · exact v_ok hJ (r_X11_meetsCells_ref cwt hc0 hc3 (by rw [hw, ht, e]; decide)) (r_mcM_neg (by omega) (by decide) (r_lcM_bad hb)) (by rw [hw, ht, e])
    · exact v_ok hJ (r_X11_meetsCells_ref cwt hc0 hc3 (by rw [hw, ht, e]; decide)) (r_mcM_neg (by omega) (by decide) (r_lcM_st hg wt h16)) (by rw [hw, ht, e])
    · rcases h01 with rfl | rfl
      · have w := f_leastG_M0 (O := M.2.2.2.1 5) (L := M.2.2.2.2 2) (ff := M.2.2.1 0) w0 w8 t8 h16 hm
        obtain ⟨f2, k2, a1⟩ := r_X11_meetsCells0 (G := G) (C := C) (tl := g_hm G M ++ ob) (y3 := nI m) cwt ct8 cw0 cw8 (o9 := o9) (by omega) (by rw [hw, ht]; exact e)
        have hge : (0 : Int32) ≤ (f_lcf (M.1 7) (M.1 8) 0 m (M.2.2.2.1 5) (M.2.2.2.2 2) (M.2.2.1 0)).1 := by
          rw [← w.2, f_bcL_pop]; exact nI_pos' (Nat.lt_of_le_of_lt (f_pop64 _) (by omega))
        refine v_ok hJ.key1.lcR a1 (r_mcM0 (M2 := f_lcR M 0 m) (by omega) hge (by omega) w0 w8 t8 (r_lcM0 w0 w8 t8 h16 hm)) ?_
        rw [hw, ht] at k2 ⊢
        have hin : f_in (M.1 7 * M.1 8) (f_fcM (M.1 7) (M.1 8) o9 m) := v_fi_in wt
        dsimp only
        refine v_ifi ?_ w.2
        rw [f_firstsG_M w0 w8 (by omega) wt k2 hm, f_borderG_M w0 w8 t8 hin]
        exact f_bcL_pop _
      · have w := f_leastG_M1 (O := M.2.2.2.1 5) (L := M.2.2.2.2 2) (ff := M.2.2.1 0) w0 t0 w8 t8 h16 hm
        obtain ⟨f2, k2, a1⟩ := r_X11_meetsCells1 (G := G) (C := C) (tl := g_hm G M ++ ob) (y3 := nI m) cwt ct8 cw0 cw8 (o9 := o9) (by omega) (by rw [hw, ht]; exact e)
        have hge : (0 : Int32) ≤ (f_lcf (M.1 7) (M.1 8) 1 m (M.2.2.2.1 5) (M.2.2.2.2 2) (M.2.2.1 0)).1 := by rw [← w.2]; exact v_eG _ _ _
        refine v_ok hJ.key1.lcR a1 (r_mcM1 (M2 := f_lcR M 1 m) (by omega) hge (by omega) w0 w8 t8 (r_lcM1 w0 w8 t8 h16 hm)) ?_
        rw [hw, ht] at k2 ⊢
        have hin : f_in (M.1 7 * M.1 8) (f_fcM (M.1 7) (M.1 8) o9 m) := v_fi_in wt
        refine v_ifi ?_ w.2
        rw [f_firstsG_M w0 w8 (by omega) wt k2 hm]
        exact f_edgesG_M w0 t0 w8 t8 hin
theorem v_grid (hJ : v_J G C M ob) : v_Ok Value.int mX11_grid mX12_grid [.int y, .int y2] G C M ob := by
  obtain ⟨hw, ht, w0, w8, t0, t8, wt⟩ := hJ.grid
  obtain ⟨cw0, cw8, ct0, ct8, cwt⟩ := hJ.gridC
  by_cases hc : (1 ≤ y.toInt ∧ y.toInt ≤ 8) ∧ 1 ≤ y2.toInt ∧ y2.toInt ≤ 8
  · obtain ⟨a, ha, rfl⟩ := v_n (y := y) (n := 8) (by omega) (by omega) hc.1.2
    obtain ⟨b, hb, rfl⟩ := v_n (y := y2) (n := 8) (by omega) (by omega) hc.2.2
    rw [nI_toInt (by omega), nI_toInt (by omega)] at hc
    refine v_ok (C2 := f_un (f_un C 1 a) 2 b) (M2 := f_mn (f_mn M 7 a) 8 b) ?_ (r_X11_grid (by omega) ha (by omega) hb) (r_gridM (by omega) ha (by omega) hb) ?_
    · obtain ⟨F, ja, jb, jg, jc, ji, jt, jp, jr, js, jl, jq⟩ := hJ
      exact ⟨F, ja, jb, ⟨rfl, rfl, by show 1 ≤ a; omega, ha, by show 1 ≤ b; omega, hb⟩, jc, ji, jt, jp, jr, js, jl, jq⟩
    · rw [hw, ht, show (10 : Int32) = nI 10 from rfl, pk_mul, nI_add]
  · exact v_ok hJ (r_X11_grid_out (by simp only [v_it, v_il, v_zm1, v_z0, v_z1, v_z2, v_z3, v_z4, v_z5, v_z6, v_z8, v_z9, v_z12, v_z20, v_z32, v_z80, v_z100, v_z126, v_z2000000000]; omega)) (r_gridM_bad (fun z => by simp only [v_it, v_il, v_zm1, v_z0, v_z1, v_z2, v_z3, v_z4, v_z5, v_z6, v_z8, v_z9, v_z12, v_z20, v_z32, v_z80, v_z100, v_z126, v_z2000000000] at z; omega)) rfl
theorem v_lots (hJ : v_J G C M ob) : v_Ok Value.int mX11_lots mX12_lots [.int y, .int y2, .int y3, .int y4] G C M ob := by
  obtain ⟨hn, hp, h6, hp9, h69⟩ := hJ.cube
  have p64 : 2 ^ M.1 0 ≤ 64 := Nat.pow_le_pow_right (n := 2) (by decide) h6
  have p0 : 0 < 2 ^ M.1 0 := Nat.two_pow_pos _
  have hk : (nI (2 ^ M.1 0)).toInt = ((2 ^ M.1 0 : Nat) : Int) := nI_toInt (by omega)
  by_cases hc : (1 ≤ y.toInt ∧ y.toInt ≤ 20) ∧ (0 ≤ y2.toInt ∧ y2.toInt ≤ 100) ∧ 0 ≤ y4.toInt ∧ y4.toInt ≤ 1
  · obtain ⟨t9, ht, rfl⟩ := v_n (y := y) (n := 20) (by omega) (by omega) hc.1.2
    rw [nI_toInt (by omega)] at hc
    have q1 : ¬ y2 < 0 := by simp only [v_it, v_il, v_zm1, v_z0, v_z1, v_z2, v_z3, v_z4, v_z5, v_z6, v_z8, v_z9, v_z12, v_z20, v_z32, v_z80, v_z100, v_z126, v_z2000000000]; omega
    have q2 : ¬ 100 < y2 := by simp only [v_it, v_il, v_zm1, v_z0, v_z1, v_z2, v_z3, v_z4, v_z5, v_z6, v_z8, v_z9, v_z12, v_z20, v_z32, v_z80, v_z100, v_z126, v_z2000000000]; omega
    have q3 : (0 : Int32) ≤ y2 ∧ y2 ≤ 100 := by simp only [v_it, v_il, v_zm1, v_z0, v_z1, v_z2, v_z3, v_z4, v_z5, v_z6, v_z8, v_z9, v_z12, v_z20, v_z32, v_z80, v_z100, v_z126, v_z2000000000]; omega
    rcases v_c1 y4 with hy | rfl | rfl
    · exact absurd hy (by omega)
    · refine v_ok hJ (r_X11_lots0 h69 (by omega) ht q1 q2) (r_loM0 h6 hp (by omega) ht q3) ?_
      have w := f_lots_M (p := y2) (z := y3) (k := 2 ^ M.1 0) (g := fun x => f_bcL (f_border x (M.1 0))) (g2 := fun x => nI (f_pop (f_boM (M.1 0) x))) p64 (fun x hx => by show f_bcL (f_border x (M.1 0)) = _; rw [f_bcL_pop, f_border_M h6 hx]) t9 0
      rw [Nat.zero_add] at w
      rw [hn]
      exact w
    · refine v_ok hJ (r_X11_lots1 h69 (by omega) ht q1 q2) (r_loM1 h6 hp (by omega) ht q3) ?_
      have w := f_lots_M (p := y2) (z := y3) (k := 2 ^ M.1 0) (g := fun x => f_edges x (M.1 0) (M.1 0)) (g2 := fun x => nI (f_edM (M.1 0) x (2 ^ M.1 0))) p64 (fun x hx => f_edges_M h6) t9 0
      rw [Nat.zero_add] at w
      rw [hn]
      exact w
  · exact v_ok hJ (r_X11_lots_out (by simp only [v_it, v_il, v_zm1, v_z0, v_z1, v_z2, v_z3, v_z4, v_z5, v_z6, v_z8, v_z9, v_z12, v_z20, v_z32, v_z80, v_z100, v_z126, v_z2000000000]; omega)) (r_loM_bad (fun z => by simp only [v_it, v_il, v_zm1, v_z0, v_z1, v_z2, v_z3, v_z4, v_z5, v_z6, v_z8, v_z9, v_z12, v_z20, v_z32, v_z80, v_z100, v_z126, v_z2000000000] at z; omega)) rfl
end VB1
