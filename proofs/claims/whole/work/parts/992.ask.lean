/-! calls that ask of a family: both sides answer alike -/
theorem v_zm1 : (-1 : Int32).toInt = -1 := by decide
theorem v_z0 : (0 : Int32).toInt = 0 := by decide
theorem v_z1 : (1 : Int32).toInt = 1 := by decide
theorem v_z2 : (2 : Int32).toInt = 2 := by decide
theorem v_z3 : (3 : Int32).toInt = 3 := by decide
theorem v_z4 : (4 : Int32).toInt = 4 := by decide
theorem v_z5 : (5 : Int32).toInt = 5 := by decide
theorem v_z6 : (6 : Int32).toInt = 6 := by decide
theorem v_z8 : (8 : Int32).toInt = 8 := by decide
theorem v_z9 : (9 : Int32).toInt = 9 := by decide
theorem v_z12 : (12 : Int32).toInt = 12 := by decide
theorem v_z20 : (20 : Int32).toInt = 20 := by decide
theorem v_z32 : (32 : Int32).toInt = 32 := by decide
theorem v_z80 : (80 : Int32).toInt = 80 := by decide
theorem v_z100 : (100 : Int32).toInt = 100 := by decide
theorem v_z126 : (126 : Int32).toInt = 126 := by decide
theorem v_z2000000000 : (2000000000 : Int32).toInt = 2000000000 := by decide
section VA1
variable {G : g_G} {C : f_C} {M : f_M} {ob : List va_E} {y y2 y3 y4 y5 : Int32} {x : Int64}
theorem v_in_of {p : Nat} (hx : x &&& (f_all p ^^^ (-1)) = 0) : f_in p x := f_in_of (fun k hk hh => by
  cases e : f_b x k with
  | false => rfl
  | true =>
    have w := f_and0.mp hx k hk e
    rw [f_b_not hk, f_b_all hk, decide_eq_false (by omega)] at w
    cases w)
/-- the least of those below p, if there is one -/
theorem v_least {P : Nat → Prop} (hd : ∀ q, P q ∨ ¬ P q) : ∀ p, (∀ q, q < p → ¬ P q) ∨ ∃ s, s < p ∧ P s ∧ ∀ q, q < s → ¬ P q
  | 0 => Or.inl (fun q hq => absurd hq (Nat.not_lt_zero q))
  | p + 1 => by
    rcases v_least hd p with h | ⟨s, h1, h2, h3⟩
    · rcases hd p with e | e
      · exact Or.inr ⟨p, Nat.lt_succ_self p, e, h⟩
      · refine Or.inl (fun q hq => ?_)
        rcases Nat.lt_succ_iff_lt_or_eq.mp hq with z | z
        · exact h q z
        · subst z; exact e
    · exact Or.inr ⟨s, by omega, h2, h3⟩
theorem v_sets (hJ : v_J G C M ob) : v_Ok Value.long mX11_sets mX12_sets [.int y, .int y2] G C M ob := by
  obtain ⟨hn, hp, h6, hp9, h69⟩ := hJ.cube
  obtain ⟨hm, h8, h89⟩ := hJ.many
  rcases v_fam hJ y with ⟨b1, b2⟩ | ⟨j, o, T, rfl, hf, hi, ho⟩
  · exact v_ok hJ (r_X11_sets_bad h89 b1) (r_setsM_out h8 b2) rfl
  · obtain ⟨e1, e2⟩ := v_so hJ hi
    rcases v_c4 y2 with hy | rfl | rfl | rfl | rfl | rfl
    · exact v_ok hJ (r_X11_sets_out hf h69 hy) (r_setsM_bad h6 hi hy) rfl
    · exact v_ok hJ (r_X11_sets0 hf h69) (r_setsM0 h6 hp hi) e1
    · exact v_ok hJ (r_X11_sets1 hf h69) (r_setsM1 h6 hp hi) rfl
    · exact v_ok hJ (r_X11_sets2 hf h69) (r_setsM2 h6 hp hi) (by rw [e1, hn]; exact f_shadow_M h6 e2)
    · exact v_ok hJ (r_X11_sets3 hf h69) (r_setsM3 h6 hp hi) (by rw [e1, hn]; exact f_upper_M h6 e2)
    · exact v_ok hJ (r_X11_sets4 hf h69) (r_setsM4 h6 hp hi) (by rw [e1, hn]; exact f_border_M h6 e2)
theorem v_of (hJ : v_J G C M ob) : v_Ok Value.int mX11_of mX12_of [.int y, .int y2] G C M ob := by
  obtain ⟨hn, hp, h6, hp9, h69⟩ := hJ.cube
  obtain ⟨hm, h8, h89⟩ := hJ.many
  rcases v_fam hJ y with ⟨b1, b2⟩ | ⟨j, o, T, rfl, hf, hi, ho⟩
  · exact v_ok hJ (r_X11_of_bad h89 b1) (r_ofM_out h8 b2) rfl
  · obtain ⟨e1, e2⟩ := v_so hJ hi
    rcases v_c6 y2 with hy | rfl | rfl | rfl | rfl | rfl | rfl | rfl
    · exact v_ok hJ (r_X11_of_out hf h69 hy) (r_ofM_bad h6 hi hy) rfl
    · exact v_ok hJ (r_X11_of0 hf h69) (r_ofM0 h6 hp hi) rfl
    · exact v_ok hJ (r_X11_of1 hf h69) (r_ofM1 h6 hp hi) rfl
    · exact v_ok hJ (r_X11_of2 hf h69) (r_ofM2 h6 hp hi) (by rw [e1]; exact f_bcL_pop _)
    · exact v_ok hJ (r_X11_of3 hf h69) (r_ofM3 h6 hp hi) (by rw [e1, hn, f_shadow_M h6 e2]; exact f_bcL_pop _)
    · exact v_ok hJ (r_X11_of4 hf h69) (r_ofM4 h6 hp hi) (by rw [e1, hn, f_upper_M h6 e2]; exact f_bcL_pop _)
    · exact v_ok hJ (r_X11_of5 hf h69) (r_ofM5 h6 hp hi) (by rw [e1, hn, f_border_M h6 e2]; exact f_bcL_pop _)
    · exact v_ok hJ (r_X11_of6 hf h69) (r_ofM6 h6 hp hi) (by rw [e1, hn]; exact f_edges_M h6)
theorem v_is (hJ : v_J G C M ob) : v_Ok Value.int mX11_is mX12_is [.int y, .int y2] G C M ob := by
  obtain ⟨hn, hp, h6, hp9, h69⟩ := hJ.cube
  obtain ⟨hm, h8, h89⟩ := hJ.many
  rcases v_fam hJ y with ⟨b1, b2⟩ | ⟨j, o, T, rfl, hf, hi, ho⟩
  · exact v_ok hJ (r_X11_is_bad h89 b1) (r_isM_out h8 b2) rfl
  · obtain ⟨e1, e2⟩ := v_so hJ hi
    rcases v_c3 y2 with hy | rfl | rfl | rfl | rfl
    · exact v_ok hJ (r_X11_is_out hf h69 hy) (r_isM_bad h8 hi.1 (fun z => by simp only [v_it, v_il, v_zm1, v_z0, v_z1, v_z2, v_z3, v_z4, v_z5, v_z6, v_z8, v_z9, v_z12, v_z20, v_z32, v_z80, v_z100, v_z126, v_z2000000000] at z; omega)) rfl
    · exact v_ok hJ (r_X11_is0 hf h69) (r_isM0 h6 hp hi) (by rw [e1, hn]; exact f_isI (b := true) (f_is0_M h6 e2))
    · exact v_ok hJ (r_X11_is1 hf h69) (r_isM1 h6 hp hi) (by rw [e1, hn]; exact f_isI (b := true) (f_is1_M h6 e2))
    · exact v_ok hJ (r_X11_is2 hf hp9 h69) (r_isM2 h6 hp hi) (by rw [e1, hn]; exact f_isI (b := true) (f_is2_M h6 e2))
    · exact v_ok hJ (r_X11_is3 hf hp9 h69) (r_isM3 h6 hp hi) (by rw [e1, hn]; exact f_isI (b := true) (f_ar_iff h6 hp e2).symm)
theorem v_profile (hJ : v_J G C M ob) : v_Ok Value.int mX11_profile mX12_profile [.int y, .int y2] G C M ob := by
  obtain ⟨hn, hp, h6, hp9, h69⟩ := hJ.cube
  obtain ⟨hm, h8, h89⟩ := hJ.many
  have hk : (nI (M.1 0)).toInt = M.1 0 := nI_toInt (by omega)
  rcases v_fam hJ y with ⟨b1, b2⟩ | ⟨j, o, T, rfl, hf, hi, ho⟩
  · exact v_ok hJ (r_X11_profile_bad h89 b1) (r_proM_out h8 b2) rfl
  · obtain ⟨e1, e2⟩ := v_so hJ hi
    rcases v_sp (M.1 0) (by omega) y2 with hy | ⟨z, hz, rfl⟩
    · exact v_ok hJ (r_X11_profile_out hf (by rw [hn]; simp only [v_it, v_il, v_zm1, v_z0, v_z1, v_z2, v_z3, v_z4, v_z5, v_z6, v_z8, v_z9, v_z12, v_z20, v_z32, v_z80, v_z100, v_z126, v_z2000000000, hk]; omega)) (r_proM_bad h8 hi.1 (fun z => by simp only [v_it, v_il, v_zm1, v_z0, v_z1, v_z2, v_z3, v_z4, v_z5, v_z6, v_z8, v_z9, v_z12, v_z20, v_z32, v_z80, v_z100, v_z126, v_z2000000000, hk] at z; omega)) rfl
    · exact v_ok hJ (r_X11_profile hf h69 (nI_pos (by omega)) (by rw [hn]; exact nI_le hz (by omega))) (r_proM h6 hi hz) (by rw [e1]; exact f_profile_M h6 (by omega) e2)
theorem v_pressed (hJ : v_J G C M ob) : v_Ok Value.long mX11_pressed mX12_pressed [.int y, .int y2, .int y3] G C M ob := by
  obtain ⟨hn, hp, h6, hp9, h69⟩ := hJ.cube
  obtain ⟨hm, h8, h89⟩ := hJ.many
  have hk : (nI (M.1 0)).toInt = M.1 0 := nI_toInt (by omega)
  have hk1 : (nI (M.1 0 - 1)).toInt = ((M.1 0 - 1 : Nat) : Int) := nI_toInt (by omega)
  rcases v_fam hJ y with ⟨b1, b2⟩ | ⟨j, o, T, rfl, hf, hi, ho⟩
  · exact v_ok hJ (r_X11_pressed_bad h89 b1) (r_pressM_out h8 b2) rfl
  · obtain ⟨e1, e2⟩ := v_so hJ hi
    by_cases hc : 0 ≤ y2.toInt ∧ y2.toInt < y3.toInt ∧ y3.toInt < M.1 0
    · obtain ⟨i9, h1, rfl⟩ := v_n (n := M.1 0) (by omega) hc.1 (by omega)
      obtain ⟨j9, h2, rfl⟩ := v_n (y := y3) (n := M.1 0) (by omega) (by omega) (by omega)
      rw [nI_toInt (by omega), nI_toInt (by omega)] at hc
      exact v_ok hJ (r_X11_pressed hf h69 (i9 := i9) (j9 := j9) (by omega) (by omega)) (r_pressM h6 (by omega) (by omega) hi) (by rw [e1]; exact f_pressed_M h6 e2 (by omega) (by omega))
    · refine v_ok hJ (r_X11_pressed_out hf (by rw [hn]; simp only [v_it, v_il, v_zm1, v_z0, v_z1, v_z2, v_z3, v_z4, v_z5, v_z6, v_z8, v_z9, v_z12, v_z20, v_z32, v_z80, v_z100, v_z126, v_z2000000000, hk]; omega)) (r_pressM_bad h8 hi.1 hp (fun z => ?_)) rfl
      obtain ⟨⟨z1, z2⟩, z3, z4⟩ := z
      simp only [v_it, v_il, v_zm1, v_z0, v_z1, v_z2, v_z3, v_z4, v_z5, v_z6, v_z8, v_z9, v_z12, v_z20, v_z32, v_z80, v_z100, v_z126, v_z2000000000, hk1] at z1 z2 z3 z4
      obtain ⟨j9, h2, rfl⟩ := v_n (y := y3) (n := M.1 0 - 1) (by omega) z1 z2
      rw [show (1 : Int32) = nI 1 from rfl, pk_sub_toInt (by omega) (by omega)] at z4
      rw [nI_toInt (by omega)] at hc
      omega
theorem v_J.mi1 {v : Int32} (h : v_J G C M ob) : v_J G C (f_mi M 1 v) ob := by
  obtain ⟨F, ja, jb, jg, jc, ji, jt, jp, jr, js, jl, jq⟩ := h
  exact ⟨F, ja, jb, jg, jc, ji, jt, jp, jr, js, jl, jq⟩
theorem v_rounds (hJ : v_J G C M ob) : v_Ok Value.int mX11_rounds mX12_rounds [.int y] G C M ob := by
  obtain ⟨hn, hp, h6, hp9, h69⟩ := hJ.cube
  obtain ⟨hm, h8, h89⟩ := hJ.many
  rcases v_fam hJ y with ⟨b1, b2⟩ | ⟨j, o, T, rfl, hf, hi, ho⟩
  · exact v_ok hJ (r_X11_rounds_bad h89 b1) (r_roM_out h8 b2) rfl
  · obtain ⟨e1, e2⟩ := v_so hJ hi
    have w := f_rest_M h6 hp 4096 (f_mso M T) 0 e2 (Nat.le_trans (f_phi_le _) (by omega))
    exact v_ok hJ.mi1 (r_X11_rounds hf hp9 h69) (r_roM (t := 4096) h6 hp hi w.2.1) (by rw [e1, hn]; exact w.2.2.1)
theorem v_bits (hJ : v_J G C M ob) : v_Ok Value.long mX11_bits mX12_bits_ [.int y, .int y2] G C M ob := by
  obtain ⟨hn, hp, h6, hp9, h69⟩ := hJ.cube
  obtain ⟨hm, h8, h89⟩ := hJ.many
  rcases v_fam hJ y with ⟨b1, b2⟩ | ⟨j, o, T, rfl, hf, hi, ho⟩
  · exact v_ok hJ (r_X11_bits_bad h89 b1) (r_bitsM_out h8 b2) rfl
  · obtain ⟨e1, e2⟩ := v_so hJ hi
    rcases v_c2 y2 with hy | rfl | rfl | rfl
    · exact v_ok hJ (r_X11_bits_out hf h69 hy) (r_bitsM_bad h8 hi.1 (fun z => by simp only [v_it, v_il, v_zm1, v_z0, v_z1, v_z2, v_z3, v_z4, v_z5, v_z6, v_z8, v_z9, v_z12, v_z20, v_z32, v_z80, v_z100, v_z126, v_z2000000000] at z; omega)) rfl
    · exact v_ok hJ (r_X11_bits0 hf h69) (r_bitsM_0 h6 hi trivial) (by rw [e1, hn])
    · by_cases hz : f_mso M T = 0
      · exact v_ok hJ (r_X11_bits1z hf h69 (e1.trans hz)) (r_bitsM_1z h6 hi hz) rfl
      · exact v_ok hJ (r_X11_bits1 hf h69 (fun z => hz (e1.symm.trans z))) (r_bitsM_1 h6 hi hz) (by rw [e1, hn, f_szN_M h6 e2])
    · exact v_ok hJ (r_X11_bits2 hf h69) (r_bitsM_2 h6 hi trivial) (by rw [e1, hn])
theorem v_weight (hJ : v_J G C M ob) : v_Ok Value.long mX11_weight mX12_weight [.int y] G C M ob := by
  obtain ⟨hn, hp, h6, hp9, h69⟩ := hJ.cube
  obtain ⟨hm, h8, h89⟩ := hJ.many
  rcases v_fam hJ y with ⟨b1, b2⟩ | ⟨j, o, T, rfl, hf, hi, ho⟩
  · exact v_ok hJ (r_X11_weight_bad h89 b1) (r_weightM_out h8 b2) rfl
  · obtain ⟨e1, e2⟩ := v_so hJ hi
    exact v_ok hJ (r_X11_weight hf h69) (r_weightM h6 hi) (by rw [e1, hn])
theorem v_taken (hJ : v_J G C M ob) : v_Ok Value.int mX11_taken mX12_taken [.int y, .int y2] G C M ob := by
  obtain ⟨hn, hp, h6, hp9, h69⟩ := hJ.cube
  obtain ⟨hm, h8, h89⟩ := hJ.many
  rcases v_fam hJ y with ⟨b1, b2⟩ | ⟨j, o, T, rfl, hf, hi, ho⟩
  · exact v_ok hJ (r_X11_taken_bad h89 b1) (r_takM_out h8 b2) rfl
  · rcases v_sp 5 (by omega) y2 with hy | ⟨q, hq, rfl⟩
    · exact v_ok hJ (r_X11_taken_out hf (by simp only [v_it, v_il, v_zm1, v_z0, v_z1, v_z2, v_z3, v_z4, v_z5, v_z6, v_z8, v_z9, v_z12, v_z20, v_z32, v_z80, v_z100, v_z126, v_z2000000000]; omega)) (r_takM_bad h8 hi.1 (fun z => by simp only [v_it, v_il, v_zm1, v_z0, v_z1, v_z2, v_z3, v_z4, v_z5, v_z6, v_z8, v_z9, v_z12, v_z20, v_z32, v_z80, v_z100, v_z126, v_z2000000000] at z; omega)) rfl
    · refine v_ok hJ (r_X11_taken hf (k9 := q) (by omega)) (r_takM hi (by omega)) ?_
      unfold f_tkM
      cases f_under T.1 q with
      | true => rfl
      | false => rfl
theorem v_trace (hJ : v_J G C M ob) : v_Ok Value.int mX11_trace mX12_trace [.int y] G C M ob := by
  have hJ2 := hJ
  obtain ⟨F, -, -, -, -, -, -, -, ⟨e1, e2, e3⟩, -⟩ := hJ2
  by_cases hi : vp_in y (M.1 12)
  · obtain ⟨j, hj, rfl⟩ := vp_in_of hi (by omega)
    exact v_ok hJ (r_X11_trace (by omega) (by omega)) (r_trcM hj e2) (e3 j hj)
  · exact v_ok hJ (r_X11_trace_out (by omega) (by rw [e1]; exact hi)) (r_trcM_out hi e2) rfl
theorem v_paper (hJ : v_J G C M ob) : v_Ok Value.int mX11_paper mX12_paper [.int y] G C M ob := by
  have hJ2 := hJ
  obtain ⟨F, -, -, -, -, -, -, ⟨e1, e2, e3⟩, -⟩ := hJ2
  by_cases hi : vp_in y (M.1 10)
  · obtain ⟨j, hj, rfl⟩ := vp_in_of hi (by omega)
    exact v_ok hJ (r_X11_paper (by omega) (by omega)) (r_papM hj (by omega)) (e3 j hj)
  · exact v_ok hJ (r_X11_paper_out (by omega) (by rw [e1]; exact hi)) (r_papM_out hi (by omega)) rfl
end VA1
