/-! lists, told profiles: both sides answer alike -/
section VE1
variable {G : g_G} {C : f_C} {M : f_M} {ob ob2 : List va_E} {y y2 y3 y4 y5 : Int32} {x : Int64}
theorem v_clL {R : Nat → Int64} {o : Nat} : ∀ m t, f_clL R o m t = if o ≤ t ∧ t < o + m then 0 else R t
  | 0, t => by rw [if_neg (by omega)]; rfl
  | m + 1, t => by
    rw [f_clL]
    by_cases e : t = o + m
    · rw [e, pk_uLs, if_pos (by omega)]
    · rw [pk_uLn e, v_clL m t]
      by_cases e2 : o ≤ t ∧ t < o + m
      · rw [if_pos e2, if_pos (by omega)]
      · rw [if_neg e2, if_neg (by omega)]
theorem v_clL_out {R : Nat → Int64} {o m t : Nat} (h : t < o ∨ o + m ≤ t) : f_clL R o m t = R t := by rw [v_clL, if_neg (by omega)]
theorem v_Jl.oth {th so so2 ma : Int32} {p o : Nat} {L L2 L3 : Nat → Int64} (h : v_Jl th so p L so2 ma L2 o) (he : ∀ z, z < 20 → L3 (o + z) = L2 (o + z)) : v_Jl th so p L so2 ma L3 o := h.imp id (fun ⟨h1, h2, h3, h4, h5⟩ => ⟨h1, h2, h3, h4, fun z hz => (h5 z hz).trans (he z hz).symm⟩)
theorem v_Jl.p {th so so2 ma : Int32} {p o : Nat} {L L2 : Nat → Int64} (h : v_Jl th so p L so2 ma L2 o) : p ≤ 20 ∧ ma = nI p := by
  rcases h with ⟨h1, h2, h3, h4⟩ | ⟨h1, h2, h3, -⟩
  · exact ⟨by omega, by rw [h2]; exact h4⟩
  · exact ⟨h2, h3⟩
theorem v_nm1 {k9 : Nat} (hk : k9 < 2 ^ 31) : ¬ nI k9 = -1 := fun z => f_nm1 hk (by rw [z]; decide)
theorem v_list0 (hJ : v_J G C M ob) : v_Ok Value.int mX11_list mX12_list [.int 0, .int y2, .int y3] G C M ob := by
  have hJ0 := hJ
  have hq := hJ.qs
  have z9 : (nI 0 : Int32) = 0 := by decide
  obtain ⟨F, ja, jb, jg, jc, ji, jt, jp, jr, js, jl, jq⟩ := hJ
  by_cases hc : -1 ≤ y2.toInt ∧ y2.toInt ≤ 1
  · have q1 : ¬ y2 < -1 := by simp only [v_it, v_il, v_zm1, v_z0, v_z1, v_z2, v_z3, v_z4, v_z5, v_z6, v_z8, v_z9, v_z12, v_z20, v_z32, v_z80, v_z100, v_z126, v_z2000000000]; omega
    have q2 : y2 < 2 := by simp only [v_it, v_il, v_zm1, v_z0, v_z1, v_z2, v_z3, v_z4, v_z5, v_z6, v_z8, v_z9, v_z12, v_z20, v_z32, v_z80, v_z100, v_z126, v_z2000000000]; omega
    by_cases em : y2 = -1
    · subst em
      have w1 : v_Jl 0 (C.2.1 12) 0 (C.2.2.2.2.1 0) (upd (M.2.2.2.1 15) 0 (-1) 0) (upd (M.2.2.2.1 16) 0 (nI 0) 0) (f_clL (M.2.2.2.2 5) (20 * 0) 20) (20 * 0) := Or.inl ⟨rfl, rfl, pk_us, pk_us⟩
      exact v_ok (C2 := f_un (f_ui C 9 0) 15 0) (M2 := f_lsM M 0 (-1) 0) ⟨F, ja, jb, jg, jc, ji, jt, jp, jr, js, ⟨w1, v_Jl.oth jl.2.1 (fun z hz => v_clL_out (by omega)), v_Jl.oth jl.2.2 (fun z hz => v_clL_out (by omega))⟩, jq⟩ (r_X11_list0_rem hq) (r_liM_rm (s := 0) (by omega) y3) rfl
    · have q0 : 0 ≤ y2.toInt := by
        by_cases e5 : y2.toInt = -1
        · exact absurd (Int32.toInt_inj.mp (e5.trans v_zm1.symm)) em
        · omega
      have q3 : (-1 : Int32) ≤ y2 ∧ y2 ≤ 1 := by simp only [v_it, v_il, v_zm1, v_z0, v_z1, v_z2, v_z3, v_z4, v_z5, v_z6, v_z8, v_z9, v_z12, v_z20, v_z32, v_z80, v_z100, v_z126, v_z2000000000]; omega
      have q4 : ¬ y2 < 0 := by simp only [v_it, v_il, v_zm1, v_z0, v_z1, v_z2, v_z3, v_z4, v_z5, v_z6, v_z8, v_z9, v_z12, v_z20, v_z32, v_z80, v_z100, v_z126, v_z2000000000]; omega
      rcases v_sp 20 (by omega) y3 with hy | ⟨m, hm, rfl⟩
      · by_cases h5 : y3.toInt < 0
        · have r1 : y3 ≤ 20 := by simp only [v_it, v_il, v_zm1, v_z0, v_z1, v_z2, v_z3, v_z4, v_z5, v_z6, v_z8, v_z9, v_z12, v_z20, v_z32, v_z80, v_z100, v_z126, v_z2000000000]; omega
          have r2 : ¬ 0 ≤ y3 := by simp only [v_it, v_il, v_zm1, v_z0, v_z1, v_z2, v_z3, v_z4, v_z5, v_z6, v_z8, v_z9, v_z12, v_z20, v_z32, v_z80, v_z100, v_z126, v_z2000000000]; omega
          exact v_ok hJ0 (r_X11_list0_few hq q1 q2 em r1 r2) (r_liM_neg (s := 0) (by omega) q3 q4 r1 r2) rfl
        · have r1 : ¬ y3 ≤ 20 := by simp only [v_it, v_il, v_zm1, v_z0, v_z1, v_z2, v_z3, v_z4, v_z5, v_z6, v_z8, v_z9, v_z12, v_z20, v_z32, v_z80, v_z100, v_z126, v_z2000000000]; omega
          exact v_ok hJ0 (r_X11_list0_much hq q1 q2 em r1) (r_liM_b2 (s := 0) (by omega) q3 q4 r1) rfl
      · obtain ⟨so, hso, rfl⟩ := v_n (y := y2) (n := 1) (by omega) q0 (by omega)
        obtain ⟨f2, hf2, a⟩ := r_X11_list0 (G := G) (C := C) (tl := g_hm G M ++ ob) (n9 := m) hq q1 q2 em hm
        have w1 : v_Jl 1 (nI so) m f2 (upd (M.2.2.2.1 15) 0 (nI so) 0) (upd (M.2.2.2.1 16) 0 (nI m) 0) (f_clL (M.2.2.2.2 5) (20 * 0) 20) (20 * 0) := Or.inr ⟨by decide, hm, pk_us, ⟨so, by omega, rfl, pk_us⟩, fun z hz => by rw [hf2 z hz, v_clL, if_pos (by omega)]⟩
        exact v_ok (C2 := f_uL (f_un (f_ui (f_ui C 9 1) 12 (nI so)) 15 m) 0 f2) (M2 := f_lsM M 0 (nI so) m) ⟨F, ja, jb, jg, jc, ji, jt, jp, jr, js, ⟨w1, v_Jl.oth jl.2.1 (fun z hz => v_clL_out (by omega)), v_Jl.oth jl.2.2 (fun z hz => v_clL_out (by omega))⟩, jq⟩ a (r_liM_ok (s := 0) (by omega) (by omega) hm) rfl
  · exact v_ok hJ0 (r_X11_list0_out hq (by simp only [v_it, v_il, v_zm1, v_z0, v_z1, v_z2, v_z3, v_z4, v_z5, v_z6, v_z8, v_z9, v_z12, v_z20, v_z32, v_z80, v_z100, v_z126, v_z2000000000]; omega)) (r_liM_b1 (s := 0) (by omega) (fun z => by simp only [v_it, v_il, v_zm1, v_z0, v_z1, v_z2, v_z3, v_z4, v_z5, v_z6, v_z8, v_z9, v_z12, v_z20, v_z32, v_z80, v_z100, v_z126, v_z2000000000] at z; omega)) rfl
theorem v_put0 (hJ : v_J G C M ob) : v_Ok Value.int mX11_put mX12_put [.int 0, .int y2, .long x] G C M ob := by
  have hJ0 := hJ
  have hq := hJ.qs
  obtain ⟨F, ja, jb, jg, jc, ji, jt, jp, jr, js, jl, jq⟩ := hJ
  have j0 : v_Jl (C.2.1 9) (C.2.1 12) (C.1 15) (C.2.2.2.2.1 0) (M.2.2.2.1 15 0) (M.2.2.2.1 16 0) (M.2.2.2.2 5) (20 * 0) := jl.1
  rcases j0 with ⟨h1, h2, h3, h4⟩ | ⟨h1, h2, h3, ⟨s9, hs9, h4, h5⟩, h6⟩
  · exact v_ok hJ0 (r_X11_put0_miss hq h1) (r_ptM_miss (s := 0) (by omega) (by rw [h3]; decide)) rfl
  · have hge : 0 ≤ M.2.2.2.1 15 0 := by rw [h5]; exact nI_pos' (by omega)
    by_cases hi : vp_in y2 (C.1 15)
    · have hy := (f_isF (by omega)).mpr hi
      rw [← h3] at hy
      obtain ⟨j, hj, rfl⟩ := vp_in_of hi (by omega)
      have ev : (if C.2.1 12 = 0 then x.toInt32.toInt64 else x) = cond (decide (M.2.2.2.1 15 0 = 0)) x.toInt32.toInt64 x := by
        rw [h4, h5]
        by_cases e : nI s9 = 0
        · rw [if_pos e, decide_eq_true e]; rfl
        · rw [if_neg e, decide_eq_false e]; rfl
      have w1 : v_Jl (C.2.1 9) (C.2.1 12) (C.1 15) (vp_updL (C.2.2.2.2.1 0) j (if C.2.1 12 = 0 then x.toInt32.toInt64 else x)) (M.2.2.2.1 15 0) (M.2.2.2.1 16 0) (vp_updL (M.2.2.2.2 5) (20 * 0 + j) (cond (decide (M.2.2.2.1 15 0 = 0)) x.toInt32.toInt64 x)) (20 * 0) := Or.inr ⟨h1, h2, h3, ⟨s9, hs9, h4, h5⟩, fun z hz => by
        by_cases e : z = j
        · rw [e, pk_uLs, pk_uLs, ev]
        · rw [pk_uLn e, pk_uLn (by omega)]; exact h6 z hz⟩
      exact v_ok (C2 := f_uL C 0 (vp_updL (C.2.2.2.2.1 0) j (if C.2.1 12 = 0 then x.toInt32.toInt64 else x))) (M2 := f_mL M 5 (vp_updL (M.2.2.2.2 5) (20 * 0 + j) (cond (decide (M.2.2.2.1 15 0 = 0)) x.toInt32.toInt64 x))) ⟨F, ja, jb, jg, jc, ji, jt, jp, jr, js, ⟨w1, v_Jl.oth jl.2.1 (fun z hz => pk_uLn (by omega)), v_Jl.oth jl.2.2 (fun z hz => pk_uLn (by omega))⟩, jq⟩ (r_X11_put0 hq h1 h2 hj) (r_ptM (s := 0) (i := j) (by omega) (by omega) hge hy) rfl
    · exact v_ok hJ0 (r_X11_put0_out hq h1 h2 hi) (r_ptM_out (s := 0) (by omega) hge (fun z => hi ((f_isF (by omega)).mp (by rw [h3] at z; exact z)))) rfl
theorem v_get0 (hJ : v_J G C M ob) : v_Ok Value.long mX11_get mX12_get [.int 0, .int y2] G C M ob := by
  have hJ0 := hJ
  have hq := hJ.qs
  obtain ⟨F, ja, jb, jg, jc, ji, jt, jp, jr, js, jl, jq⟩ := hJ
  have j0 : v_Jl (C.2.1 9) (C.2.1 12) (C.1 15) (C.2.2.2.2.1 0) (M.2.2.2.1 15 0) (M.2.2.2.1 16 0) (M.2.2.2.2 5) (20 * 0) := jl.1
  obtain ⟨p1, p2⟩ := j0.p
  by_cases hi : vp_in y2 (C.1 15)
  · have hy := (f_isF (by omega)).mpr hi
    rw [← p2] at hy
    obtain ⟨j, hj, rfl⟩ := vp_in_of hi (by omega)
    refine v_ok hJ0 (r_X11_get0 hq p1 hj) (r_gtM (s := 0) (i := j) (by omega) (by omega) hy) ?_
    rcases j0 with ⟨h1, h2, h3, h4⟩ | ⟨h1, h2, h3, ⟨s9, hs9, h4, h5⟩, h6⟩
    · exact absurd hj (by omega)
    · exact h6 j (by omega)
  · exact v_ok hJ0 (r_X11_get0_out hq p1 hi) (r_gtM_b1 (s := 0) (by omega) (fun z => hi ((f_isF (by omega)).mp (by rw [p2] at z; exact z)))) rfl
theorem v_judge0 (hJ : v_J G C M ob) : v_Ok Value.int mX11_judge mX12_judge [.int 0, .int y2] G C M ob := by
  have hJ0 := hJ
  have hq := hJ.qs
  obtain ⟨hn, hp, h6, hp9, h69⟩ := hJ.cube
  obtain ⟨hm, h8, h89⟩ := hJ.many
  obtain ⟨F, ja, jb, jg, jc, ji, jt, jp, jr, js, jl, jq⟩ := hJ
  have j0 : v_Jl (C.2.1 9) (C.2.1 12) (C.1 15) (C.2.2.2.2.1 0) (M.2.2.2.1 15 0) (M.2.2.2.1 16 0) (M.2.2.2.2 5) (20 * 0) := jl.1
  rcases v_fam hJ0 y2 with ⟨b1, b2⟩ | ⟨j, o, T, rfl, hf, hi, ho⟩
  · exact v_ok hJ0 (r_X11_judge0_bad hq h89 b1) (r_jdM_b1 (s := 0) (by omega) h8 b2) rfl
  · obtain ⟨e1, e2⟩ := v_so hJ0 hi
    rcases j0 with ⟨h1, h2, h3, h4⟩ | ⟨h1, h2, h3, ⟨s9, hs9, h4, h5⟩, h7⟩
    · exact v_ok hJ0 (r_X11_judge0_miss hq hf h1) (r_jdM_miss (s := 0) (by omega) h8 hi.1 h3) rfl
    · refine v_ok hJ0 (r_X11_judge0 hq hf h69 h1 h2) (r_jdM (s := 0) (mm := C.1 15) (by omega) h6 hi (by rw [h5]; exact v_nm1 (by omega)) h3 h2) ?_
      rw [e1, hn]
      exact f_judge_M (L := fun z => M.2.2.2.2 5 (20 * 0 + z)) h6 e2 h7 _ _ (by omega)
theorem v_list1 (hJ : v_J G C M ob) : v_Ok Value.int mX11_list mX12_list [.int 1, .int y2, .int y3] G C M ob := by
  have hJ0 := hJ
  have hq := hJ.qs
  have z9 : (nI 1 : Int32) = 1 := by decide
  obtain ⟨F, ja, jb, jg, jc, ji, jt, jp, jr, js, jl, jq⟩ := hJ
  by_cases hc : -1 ≤ y2.toInt ∧ y2.toInt ≤ 1
  · have q1 : ¬ y2 < -1 := by simp only [v_it, v_il, v_zm1, v_z0, v_z1, v_z2, v_z3, v_z4, v_z5, v_z6, v_z8, v_z9, v_z12, v_z20, v_z32, v_z80, v_z100, v_z126, v_z2000000000]; omega
    have q2 : y2 < 2 := by simp only [v_it, v_il, v_zm1, v_z0, v_z1, v_z2, v_z3, v_z4, v_z5, v_z6, v_z8, v_z9, v_z12, v_z20, v_z32, v_z80, v_z100, v_z126, v_z2000000000]; omega
    by_cases em : y2 = -1
    · subst em
      have w1 : v_Jl 0 (C.2.1 13) 0 (C.2.2.2.2.1 1) (upd (M.2.2.2.1 15) 1 (-1) 1) (upd (M.2.2.2.1 16) 1 (nI 0) 1) (f_clL (M.2.2.2.2 5) (20 * 1) 20) (20 * 1) := Or.inl ⟨rfl, rfl, pk_us, pk_us⟩
      exact v_ok (C2 := f_un (f_ui C 10 0) 16 0) (M2 := f_lsM M 1 (-1) 0) ⟨F, ja, jb, jg, jc, ji, jt, jp, jr, js, ⟨v_Jl.oth jl.1 (fun z hz => v_clL_out (by omega)), w1, v_Jl.oth jl.2.2 (fun z hz => v_clL_out (by omega))⟩, jq⟩ (r_X11_list1_rem hq) (r_liM_rm (s := 1) (by omega) y3) rfl
    · have q0 : 0 ≤ y2.toInt := by
        by_cases e5 : y2.toInt = -1
        · exact absurd (Int32.toInt_inj.mp (e5.trans v_zm1.symm)) em
        · omega
      have q3 : (-1 : Int32) ≤ y2 ∧ y2 ≤ 1 := by simp only [v_it, v_il, v_zm1, v_z0, v_z1, v_z2, v_z3, v_z4, v_z5, v_z6, v_z8, v_z9, v_z12, v_z20, v_z32, v_z80, v_z100, v_z126, v_z2000000000]; omega
      have q4 : ¬ y2 < 0 := by simp only [v_it, v_il, v_zm1, v_z0, v_z1, v_z2, v_z3, v_z4, v_z5, v_z6, v_z8, v_z9, v_z12, v_z20, v_z32, v_z80, v_z100, v_z126, v_z2000000000]; omega
      rcases v_sp 20 (by omega) y3 with hy | ⟨m, hm, rfl⟩
      · by_cases h5 : y3.toInt < 0
        · have r1 : y3 ≤ 20 := by simp only [v_it, v_il, v_zm1, v_z0, v_z1, v_z2, v_z3, v_z4, v_z5, v_z6, v_z8, v_z9, v_z12, v_z20, v_z32, v_z80, v_z100, v_z126, v_z2000000000]; omega
          have r2 : ¬ 0 ≤ y3 := by simp only [v_it, v_il, v_zm1, v_z0, v_z1, v_z2, v_z3, v_z4, v_z5, v_z6, v_z8, v_z9, v_z12, v_z20, v_z32, v_z80, v_z100, v_z126, v_z2000000000]; omega
          exact v_ok hJ0 (r_X11_list1_few hq q1 q2 em r1 r2) (r_liM_neg (s := 1) (by omega) q3 q4 r1 r2) rfl
        · have r1 : ¬ y3 ≤ 20 := by simp only [v_it, v_il, v_zm1, v_z0, v_z1, v_z2, v_z3, v_z4, v_z5, v_z6, v_z8, v_z9, v_z12, v_z20, v_z32, v_z80, v_z100, v_z126, v_z2000000000]; omega
          exact v_ok hJ0 (r_X11_list1_much hq q1 q2 em r1) (r_liM_b2 (s := 1) (by omega) q3 q4 r1) rfl
      · obtain ⟨so, hso, rfl⟩ := v_n (y := y2) (n := 1) (by omega) q0 (by omega)
        obtain ⟨f2, hf2, a⟩ := r_X11_list1 (G := G) (C := C) (tl := g_hm G M ++ ob) (n9 := m) hq q1 q2 em hm
        have w1 : v_Jl 1 (nI so) m f2 (upd (M.2.2.2.1 15) 1 (nI so) 1) (upd (M.2.2.2.1 16) 1 (nI m) 1) (f_clL (M.2.2.2.2 5) (20 * 1) 20) (20 * 1) := Or.inr ⟨by decide, hm, pk_us, ⟨so, by omega, rfl, pk_us⟩, fun z hz => by rw [hf2 z hz, v_clL, if_pos (by omega)]⟩
        exact v_ok (C2 := f_uL (f_un (f_ui (f_ui C 10 1) 13 (nI so)) 16 m) 1 f2) (M2 := f_lsM M 1 (nI so) m) ⟨F, ja, jb, jg, jc, ji, jt, jp, jr, js, ⟨v_Jl.oth jl.1 (fun z hz => v_clL_out (by omega)), w1, v_Jl.oth jl.2.2 (fun z hz => v_clL_out (by omega))⟩, jq⟩ a (r_liM_ok (s := 1) (by omega) (by omega) hm) rfl
  · exact v_ok hJ0 (r_X11_list1_out hq (by simp only [v_it, v_il, v_zm1, v_z0, v_z1, v_z2, v_z3, v_z4, v_z5, v_z6, v_z8, v_z9, v_z12, v_z20, v_z32, v_z80, v_z100, v_z126, v_z2000000000]; omega)) (r_liM_b1 (s := 1) (by omega) (fun z => by simp only [v_it, v_il, v_zm1, v_z0, v_z1, v_z2, v_z3, v_z4, v_z5, v_z6, v_z8, v_z9, v_z12, v_z20, v_z32, v_z80, v_z100, v_z126, v_z2000000000] at z; omega)) rfl
theorem v_put1 (hJ : v_J G C M ob) : v_Ok Value.int mX11_put mX12_put [.int 1, .int y2, .long x] G C M ob := by
  have hJ0 := hJ
  have hq := hJ.qs
  obtain ⟨F, ja, jb, jg, jc, ji, jt, jp, jr, js, jl, jq⟩ := hJ
  have j0 : v_Jl (C.2.1 10) (C.2.1 13) (C.1 16) (C.2.2.2.2.1 1) (M.2.2.2.1 15 1) (M.2.2.2.1 16 1) (M.2.2.2.2 5) (20 * 1) := jl.2.1
  rcases j0 with ⟨h1, h2, h3, h4⟩ | ⟨h1, h2, h3, ⟨s9, hs9, h4, h5⟩, h6⟩
  · exact v_ok hJ0 (r_X11_put1_miss hq h1) (r_ptM_miss (s := 1) (by omega) (by rw [h3]; decide)) rfl
  · have hge : 0 ≤ M.2.2.2.1 15 1 := by rw [h5]; exact nI_pos' (by omega)
    by_cases hi : vp_in y2 (C.1 16)
    · have hy := (f_isF (by omega)).mpr hi
      rw [← h3] at hy
      obtain ⟨j, hj, rfl⟩ := vp_in_of hi (by omega)
      have ev : (if C.2.1 13 = 0 then x.toInt32.toInt64 else x) = cond (decide (M.2.2.2.1 15 1 = 0)) x.toInt32.toInt64 x := by
        rw [h4, h5]
        by_cases e : nI s9 = 0
        · rw [if_pos e, decide_eq_true e]; rfl
        · rw [if_neg e, decide_eq_false e]; rfl
      have w1 : v_Jl (C.2.1 10) (C.2.1 13) (C.1 16) (vp_updL (C.2.2.2.2.1 1) j (if C.2.1 13 = 0 then x.toInt32.toInt64 else x)) (M.2.2.2.1 15 1) (M.2.2.2.1 16 1) (vp_updL (M.2.2.2.2 5) (20 * 1 + j) (cond (decide (M.2.2.2.1 15 1 = 0)) x.toInt32.toInt64 x)) (20 * 1) := Or.inr ⟨h1, h2, h3, ⟨s9, hs9, h4, h5⟩, fun z hz => by
        by_cases e : z = j
        · rw [e, pk_uLs, pk_uLs, ev]
        · rw [pk_uLn e, pk_uLn (by omega)]; exact h6 z hz⟩
      exact v_ok (C2 := f_uL C 1 (vp_updL (C.2.2.2.2.1 1) j (if C.2.1 13 = 0 then x.toInt32.toInt64 else x))) (M2 := f_mL M 5 (vp_updL (M.2.2.2.2 5) (20 * 1 + j) (cond (decide (M.2.2.2.1 15 1 = 0)) x.toInt32.toInt64 x))) ⟨F, ja, jb, jg, jc, ji, jt, jp, jr, js, ⟨v_Jl.oth jl.1 (fun z hz => pk_uLn (by omega)), w1, v_Jl.oth jl.2.2 (fun z hz => pk_uLn (by omega))⟩, jq⟩ (r_X11_put1 hq h1 h2 hj) (r_ptM (s := 1) (i := j) (by omega) (by omega) hge hy) rfl
    · exact v_ok hJ0 (r_X11_put1_out hq h1 h2 hi) (r_ptM_out (s := 1) (by omega) hge (fun z => hi ((f_isF (by omega)).mp (by rw [h3] at z; exact z)))) rfl
theorem v_get1 (hJ : v_J G C M ob) : v_Ok Value.long mX11_get mX12_get [.int 1, .int y2] G C M ob := by
  have hJ0 := hJ
  have hq := hJ.qs
  obtain ⟨F, ja, jb, jg, jc, ji, jt, jp, jr, js, jl, jq⟩ := hJ
  have j0 : v_Jl (C.2.1 10) (C.2.1 13) (C.1 16) (C.2.2.2.2.1 1) (M.2.2.2.1 15 1) (M.2.2.2.1 16 1) (M.2.2.2.2 5) (20 * 1) := jl.2.1
  obtain ⟨p1, p2⟩ := j0.p
  by_cases hi : vp_in y2 (C.1 16)
  · have hy := (f_isF (by omega)).mpr hi
    rw [← p2] at hy
    obtain ⟨j, hj, rfl⟩ := vp_in_of hi (by omega)
    refine v_ok hJ0 (r_X11_get1 hq p1 hj) (r_gtM (s := 1) (i := j) (by omega) (by omega) hy) ?_
    rcases j0 with ⟨h1, h2, h3, h4⟩ | ⟨h1, h2, h3, ⟨s9, hs9, h4, h5⟩, h6⟩
    · exact absurd hj (by omega)
    · exact h6 j (by omega)
  · exact v_ok hJ0 (r_X11_get1_out hq p1 hi) (r_gtM_b1 (s := 1) (by omega) (fun z => hi ((f_isF (by omega)).mp (by rw [p2] at z; exact z)))) rfl
theorem v_judge1 (hJ : v_J G C M ob) : v_Ok Value.int mX11_judge mX12_judge [.int 1, .int y2] G C M ob := by
  have hJ0 := hJ
  have hq := hJ.qs
  obtain ⟨hn, hp, h6, hp9, h69⟩ := hJ.cube
  obtain ⟨hm, h8, h89⟩ := hJ.many
  obtain ⟨F, ja, jb, jg, jc, ji, jt, jp, jr, js, jl, jq⟩ := hJ
  have j0 : v_Jl (C.2.1 10) (C.2.1 13) (C.1 16) (C.2.2.2.2.1 1) (M.2.2.2.1 15 1) (M.2.2.2.1 16 1) (M.2.2.2.2 5) (20 * 1) := jl.2.1
  rcases v_fam hJ0 y2 with ⟨b1, b2⟩ | ⟨j, o, T, rfl, hf, hi, ho⟩
  · exact v_ok hJ0 (r_X11_judge1_bad hq h89 b1) (r_jdM_b1 (s := 1) (by omega) h8 b2) rfl
  · obtain ⟨e1, e2⟩ := v_so hJ0 hi
    rcases j0 with ⟨h1, h2, h3, h4⟩ | ⟨h1, h2, h3, ⟨s9, hs9, h4, h5⟩, h7⟩
    · exact v_ok hJ0 (r_X11_judge1_miss hq hf h1) (r_jdM_miss (s := 1) (by omega) h8 hi.1 h3) rfl
    · refine v_ok hJ0 (r_X11_judge1 hq hf h69 h1 h2) (r_jdM (s := 1) (mm := C.1 16) (by omega) h6 hi (by rw [h5]; exact v_nm1 (by omega)) h3 h2) ?_
      rw [e1, hn]
      exact f_judge_M (L := fun z => M.2.2.2.2 5 (20 * 1 + z)) h6 e2 h7 _ _ (by omega)
theorem v_list2 (hJ : v_J G C M ob) : v_Ok Value.int mX11_list mX12_list [.int 2, .int y2, .int y3] G C M ob := by
  have hJ0 := hJ
  have hq := hJ.qs
  have z9 : (nI 2 : Int32) = 2 := by decide
  obtain ⟨F, ja, jb, jg, jc, ji, jt, jp, jr, js, jl, jq⟩ := hJ
  by_cases hc : -1 ≤ y2.toInt ∧ y2.toInt ≤ 1
  · have q1 : ¬ y2 < -1 := by simp only [v_it, v_il, v_zm1, v_z0, v_z1, v_z2, v_z3, v_z4, v_z5, v_z6, v_z8, v_z9, v_z12, v_z20, v_z32, v_z80, v_z100, v_z126, v_z2000000000]; omega
    have q2 : y2 < 2 := by simp only [v_it, v_il, v_zm1, v_z0, v_z1, v_z2, v_z3, v_z4, v_z5, v_z6, v_z8, v_z9, v_z12, v_z20, v_z32, v_z80, v_z100, v_z126, v_z2000000000]; omega
    by_cases em : y2 = -1
    · subst em
      have w1 : v_Jl 0 (C.2.1 14) 0 (C.2.2.2.2.1 2) (upd (M.2.2.2.1 15) 2 (-1) 2) (upd (M.2.2.2.1 16) 2 (nI 0) 2) (f_clL (M.2.2.2.2 5) (20 * 2) 20) (20 * 2) := Or.inl ⟨rfl, rfl, pk_us, pk_us⟩
      exact v_ok (C2 := f_un (f_ui C 11 0) 17 0) (M2 := f_lsM M 2 (-1) 0) ⟨F, ja, jb, jg, jc, ji, jt, jp, jr, js, ⟨v_Jl.oth jl.1 (fun z hz => v_clL_out (by omega)), v_Jl.oth jl.2.1 (fun z hz => v_clL_out (by omega)), w1⟩, jq⟩ (r_X11_list2_rem hq) (r_liM_rm (s := 2) (by omega) y3) rfl
    · have q0 : 0 ≤ y2.toInt := by
        by_cases e5 : y2.toInt = -1
        · exact absurd (Int32.toInt_inj.mp (e5.trans v_zm1.symm)) em
        · omega
      have q3 : (-1 : Int32) ≤ y2 ∧ y2 ≤ 1 := by simp only [v_it, v_il, v_zm1, v_z0, v_z1, v_z2, v_z3, v_z4, v_z5, v_z6, v_z8, v_z9, v_z12, v_z20, v_z32, v_z80, v_z100, v_z126, v_z2000000000]; omega
      have q4 : ¬ y2 < 0 := by simp only [v_it, v_il, v_zm1, v_z0, v_z1, v_z2, v_z3, v_z4, v_z5, v_z6, v_z8, v_z9, v_z12, v_z20, v_z32, v_z80, v_z100, v_z126, v_z2000000000]; omega
      rcases v_sp 20 (by omega) y3 with hy | ⟨m, hm, rfl⟩
      · by_cases h5 : y3.toInt < 0
        · have r1 : y3 ≤ 20 := by simp only [v_it, v_il, v_zm1, v_z0, v_z1, v_z2, v_z3, v_z4, v_z5, v_z6, v_z8, v_z9, v_z12, v_z20, v_z32, v_z80, v_z100, v_z126, v_z2000000000]; omega
          have r2 : ¬ 0 ≤ y3 := by simp only [v_it, v_il, v_zm1, v_z0, v_z1, v_z2, v_z3, v_z4, v_z5, v_z6, v_z8, v_z9, v_z12, v_z20, v_z32, v_z80, v_z100, v_z126, v_z2000000000]; omega
          exact v_ok hJ0 (r_X11_list2_few hq q1 q2 em r1 r2) (r_liM_neg (s := 2) (by omega) q3 q4 r1 r2) rfl
        · have r1 : ¬ y3 ≤ 20 := by simp only [v_it, v_il, v_zm1, v_z0, v_z1, v_z2, v_z3, v_z4, v_z5, v_z6, v_z8, v_z9, v_z12, v_z20, v_z32, v_z80, v_z100, v_z126, v_z2000000000]; omega
          exact v_ok hJ0 (r_X11_list2_much hq q1 q2 em r1) (r_liM_b2 (s := 2) (by omega) q3 q4 r1) rfl
      · obtain ⟨so, hso, rfl⟩ := v_n (y := y2) (n := 1) (by omega) q0 (by omega)
        obtain ⟨f2, hf2, a⟩ := r_X11_list2 (G := G) (C := C) (tl := g_hm G M ++ ob) (n9 := m) hq q1 q2 em hm
        have w1 : v_Jl 1 (nI so) m f2 (upd (M.2.2.2.1 15) 2 (nI so) 2) (upd (M.2.2.2.1 16) 2 (nI m) 2) (f_clL (M.2.2.2.2 5) (20 * 2) 20) (20 * 2) := Or.inr ⟨by decide, hm, pk_us, ⟨so, by omega, rfl, pk_us⟩, fun z hz => by rw [hf2 z hz, v_clL, if_pos (by omega)]⟩
        exact v_ok (C2 := f_uL (f_un (f_ui (f_ui C 11 1) 14 (nI so)) 17 m) 2 f2) (M2 := f_lsM M 2 (nI so) m) ⟨F, ja, jb, jg, jc, ji, jt, jp, jr, js, ⟨v_Jl.oth jl.1 (fun z hz => v_clL_out (by omega)), v_Jl.oth jl.2.1 (fun z hz => v_clL_out (by omega)), w1⟩, jq⟩ a (r_liM_ok (s := 2) (by omega) (by omega) hm) rfl
  · exact v_ok hJ0 (r_X11_list2_out hq (by simp only [v_it, v_il, v_zm1, v_z0, v_z1, v_z2, v_z3, v_z4, v_z5, v_z6, v_z8, v_z9, v_z12, v_z20, v_z32, v_z80, v_z100, v_z126, v_z2000000000]; omega)) (r_liM_b1 (s := 2) (by omega) (fun z => by simp only [v_it, v_il, v_zm1, v_z0, v_z1, v_z2, v_z3, v_z4, v_z5, v_z6, v_z8, v_z9, v_z12, v_z20, v_z32, v_z80, v_z100, v_z126, v_z2000000000] at z; omega)) rfl
theorem v_put2 (hJ : v_J G C M ob) : v_Ok Value.int mX11_put mX12_put [.int 2, .int y2, .long x] G C M ob := by
  have hJ0 := hJ
  have hq := hJ.qs
  obtain ⟨F, ja, jb, jg, jc, ji, jt, jp, jr, js, jl, jq⟩ := hJ
  have j0 : v_Jl (C.2.1 11) (C.2.1 14) (C.1 17) (C.2.2.2.2.1 2) (M.2.2.2.1 15 2) (M.2.2.2.1 16 2) (M.2.2.2.2 5) (20 * 2) := jl.2.2
  rcases j0 with ⟨h1, h2, h3, h4⟩ | ⟨h1, h2, h3, ⟨s9, hs9, h4, h5⟩, h6⟩
  · exact v_ok hJ0 (r_X11_put2_miss hq h1) (r_ptM_miss (s := 2) (by omega) (by rw [h3]; decide)) rfl
  · have hge : 0 ≤ M.2.2.2.1 15 2 := by rw [h5]; exact nI_pos' (by omega)
    by_cases hi : vp_in y2 (C.1 17)
    · have hy := (f_isF (by omega)).mpr hi
      rw [← h3] at hy
      obtain ⟨j, hj, rfl⟩ := vp_in_of hi (by omega)
      have ev : (if C.2.1 14 = 0 then x.toInt32.toInt64 else x) = cond (decide (M.2.2.2.1 15 2 = 0)) x.toInt32.toInt64 x := by
        rw [h4, h5]
        by_cases e : nI s9 = 0
        · rw [if_pos e, decide_eq_true e]; rfl
        · rw [if_neg e, decide_eq_false e]; rfl
      have w1 : v_Jl (C.2.1 11) (C.2.1 14) (C.1 17) (vp_updL (C.2.2.2.2.1 2) j (if C.2.1 14 = 0 then x.toInt32.toInt64 else x)) (M.2.2.2.1 15 2) (M.2.2.2.1 16 2) (vp_updL (M.2.2.2.2 5) (20 * 2 + j) (cond (decide (M.2.2.2.1 15 2 = 0)) x.toInt32.toInt64 x)) (20 * 2) := Or.inr ⟨h1, h2, h3, ⟨s9, hs9, h4, h5⟩, fun z hz => by
        by_cases e : z = j
        · rw [e, pk_uLs, pk_uLs, ev]
        · rw [pk_uLn e, pk_uLn (by omega)]; exact h6 z hz⟩
      exact v_ok (C2 := f_uL C 2 (vp_updL (C.2.2.2.2.1 2) j (if C.2.1 14 = 0 then x.toInt32.toInt64 else x))) (M2 := f_mL M 5 (vp_updL (M.2.2.2.2 5) (20 * 2 + j) (cond (decide (M.2.2.2.1 15 2 = 0)) x.toInt32.toInt64 x))) ⟨F, ja, jb, jg, jc, ji, jt, jp, jr, js, ⟨v_Jl.oth jl.1 (fun z hz => pk_uLn (by omega)), v_Jl.oth jl.2.1 (fun z hz => pk_uLn (by omega)), w1⟩, jq⟩ (r_X11_put2 hq h1 h2 hj) (r_ptM (s := 2) (i := j) (by omega) (by omega) hge hy) rfl
    · exact v_ok hJ0 (r_X11_put2_out hq h1 h2 hi) (r_ptM_out (s := 2) (by omega) hge (fun z => hi ((f_isF (by omega)).mp (by rw [h3] at z; exact z)))) rfl
theorem v_get2 (hJ : v_J G C M ob) : v_Ok Value.long mX11_get mX12_get [.int 2, .int y2] G C M ob := by
  have hJ0 := hJ
  have hq := hJ.qs
  obtain ⟨F, ja, jb, jg, jc, ji, jt, jp, jr, js, jl, jq⟩ := hJ
  have j0 : v_Jl (C.2.1 11) (C.2.1 14) (C.1 17) (C.2.2.2.2.1 2) (M.2.2.2.1 15 2) (M.2.2.2.1 16 2) (M.2.2.2.2 5) (20 * 2) := jl.2.2
  obtain ⟨p1, p2⟩ := j0.p
  by_cases hi : vp_in y2 (C.1 17)
  · have hy := (f_isF (by omega)).mpr hi
    rw [← p2] at hy
    obtain ⟨j, hj, rfl⟩ := vp_in_of hi (by omega)
    refine v_ok hJ0 (r_X11_get2 hq p1 hj) (r_gtM (s := 2) (i := j) (by omega) (by omega) hy) ?_
    rcases j0 with ⟨h1, h2, h3, h4⟩ | ⟨h1, h2, h3, ⟨s9, hs9, h4, h5⟩, h6⟩
    · exact absurd hj (by omega)
    · exact h6 j (by omega)
  · exact v_ok hJ0 (r_X11_get2_out hq p1 hi) (r_gtM_b1 (s := 2) (by omega) (fun z => hi ((f_isF (by omega)).mp (by rw [p2] at z; exact z)))) rfl
theorem v_judge2 (hJ : v_J G C M ob) : v_Ok Value.int mX11_judge mX12_judge [.int 2, .int y2] G C M ob := by
  have hJ0 := hJ
  have hq := hJ.qs
  obtain ⟨hn, hp, h6, hp9, h69⟩ := hJ.cube
  obtain ⟨hm, h8, h89⟩ := hJ.many
  obtain ⟨F, ja, jb, jg, jc, ji, jt, jp, jr, js, jl, jq⟩ := hJ
  have j0 : v_Jl (C.2.1 11) (C.2.1 14) (C.1 17) (C.2.2.2.2.1 2) (M.2.2.2.1 15 2) (M.2.2.2.1 16 2) (M.2.2.2.2 5) (20 * 2) := jl.2.2
  rcases v_fam hJ0 y2 with ⟨b1, b2⟩ | ⟨j, o, T, rfl, hf, hi, ho⟩
  · exact v_ok hJ0 (r_X11_judge2_bad hq h89 b1) (r_jdM_b1 (s := 2) (by omega) h8 b2) rfl
  · obtain ⟨e1, e2⟩ := v_so hJ0 hi
    rcases j0 with ⟨h1, h2, h3, h4⟩ | ⟨h1, h2, h3, ⟨s9, hs9, h4, h5⟩, h7⟩
    · exact v_ok hJ0 (r_X11_judge2_miss hq hf h1) (r_jdM_miss (s := 2) (by omega) h8 hi.1 h3) rfl
    · refine v_ok hJ0 (r_X11_judge2 hq hf h69 h1 h2) (r_jdM (s := 2) (mm := C.1 17) (by omega) h6 hi (by rw [h5]; exact v_nm1 (by omega)) h3 h2) ?_
      rw [e1, hn]
      exact f_judge_M (L := fun z => M.2.2.2.2 5 (20 * 2 + z)) h6 e2 h7 _ _ (by omega)
theorem v_list (hJ : v_J G C M ob) : v_Ok Value.int mX11_list mX12_list [.int y, .int y2, .int y3] G C M ob := by
  rcases v_c2 y with hy | rfl | rfl | rfl
  · exact v_ok hJ (r_X11_list_bad (by rw [vp_in_iff]; omega)) (r_liM_b0 (fun z => by simp only [v_it, v_il, v_zm1, v_z0, v_z1, v_z2, v_z3, v_z4, v_z5, v_z6, v_z8, v_z9, v_z12, v_z20, v_z32, v_z80, v_z100, v_z126, v_z2000000000] at z; omega)) rfl
  · exact v_list0 hJ
  · exact v_list1 hJ
  · exact v_list2 hJ
theorem v_put (hJ : v_J G C M ob) : v_Ok Value.int mX11_put mX12_put [.int y, .int y2, .long x] G C M ob := by
  rcases v_c2 y with hy | rfl | rfl | rfl
  · exact v_ok hJ (r_X11_put_bad (by rw [vp_in_iff]; omega)) (r_ptM_b0 (fun z => by simp only [v_it, v_il, v_zm1, v_z0, v_z1, v_z2, v_z3, v_z4, v_z5, v_z6, v_z8, v_z9, v_z12, v_z20, v_z32, v_z80, v_z100, v_z126, v_z2000000000] at z; omega)) rfl
  · exact v_put0 hJ
  · exact v_put1 hJ
  · exact v_put2 hJ
theorem v_get (hJ : v_J G C M ob) : v_Ok Value.long mX11_get mX12_get [.int y, .int y2] G C M ob := by
  rcases v_c2 y with hy | rfl | rfl | rfl
  · exact v_ok hJ (r_X11_get_bad (by rw [vp_in_iff]; omega)) (r_gtM_b0 (fun z => by simp only [v_it, v_il, v_zm1, v_z0, v_z1, v_z2, v_z3, v_z4, v_z5, v_z6, v_z8, v_z9, v_z12, v_z20, v_z32, v_z80, v_z100, v_z126, v_z2000000000] at z; omega)) rfl
  · exact v_get0 hJ
  · exact v_get1 hJ
  · exact v_get2 hJ
theorem v_judge (hJ : v_J G C M ob) : v_Ok Value.int mX11_judge mX12_judge [.int y, .int y2] G C M ob := by
  obtain ⟨hm, h8, h89⟩ := hJ.many
  rcases v_c2 y with hy | rfl | rfl | rfl
  · rcases v_fam hJ y2 with ⟨b1, b2⟩ | ⟨j, o, T, rfl, hf, hi, ho⟩
    · exact v_ok hJ (r_X11_judge_bad1 (by rw [vp_in_iff]; omega) h89 b1) (r_jdM_b0 (fun z => by simp only [v_it, v_il, v_zm1, v_z0, v_z1, v_z2, v_z3, v_z4, v_z5, v_z6, v_z8, v_z9, v_z12, v_z20, v_z32, v_z80, v_z100, v_z126, v_z2000000000] at z; omega)) rfl
    · exact v_ok hJ (r_X11_judge_bad2 (by rw [vp_in_iff]; omega) hf) (r_jdM_b0 (fun z => by simp only [v_it, v_il, v_zm1, v_z0, v_z1, v_z2, v_z3, v_z4, v_z5, v_z6, v_z8, v_z9, v_z12, v_z20, v_z32, v_z80, v_z100, v_z126, v_z2000000000] at z; omega)) rfl
  · exact v_judge0 hJ
  · exact v_judge1 hJ
  · exact v_judge2 hJ
theorem v_act_len {k w9 : Nat} (hk : k < 6) (hw : w9 < 3) : (l_act k w9).length ≤ 24 := by
  have h : ∀ k, k < 6 → ∀ w, w < 3 → (l_act k w).length ≤ 24 := by decide +kernel
  exact h k hk w9 hw
theorem v_act (hJ : v_J G C M ob) : v_Ok Value.int mX11_act mX12_act [.int y, .int y2, .int y3] G C M ob := by
  have hJ0 := hJ
  obtain ⟨hm, h8, h89⟩ := hJ.many
  rcases v_fam hJ y with ⟨b1, b2⟩ | ⟨j, o, T, rfl, hf, hi, ho⟩
  · exact v_ok hJ (r_X11_act_bad h89 b1) (r_actM_out h8 b2) rfl
  · rcases v_c2 y2 with hy | hw
    · exact v_ok hJ (r_X11_act_out hf (by simp only [v_it, v_il, v_zm1, v_z0, v_z1, v_z2, v_z3, v_z4, v_z5, v_z6, v_z8, v_z9, v_z12, v_z20, v_z32, v_z80, v_z100, v_z126, v_z2000000000]; omega)) (r_actM_bad h8 hi.1 (fun z => by simp only [v_it, v_il, v_zm1, v_z0, v_z1, v_z2, v_z3, v_z4, v_z5, v_z6, v_z8, v_z9, v_z12, v_z20, v_z32, v_z80, v_z100, v_z126, v_z2000000000] at z; omega)) rfl
    · have key : ∀ w9, w9 < 3 → y2 = nI w9 → (∀ C2 : f_C, g_Run G mX12_act 13 0 0 [.ref (g_ad G 38), .int (nI j), .int y2, .int y3] (g_hp G C2 (g_hm G M ++ ob)) (some (.int (f_act T.1 w9 y3 (nI j) (nI T.2.1)))) (g_hp G C2 (g_hm G (f_acM M (l_act T.1 w9)) ++ ob))) → v_Ok Value.int mX11_act mX12_act [.int (nI j), .int y2, .int y3] G C M ob := fun w9 h9 e b => by
        subst e
        obtain ⟨f2, ⟨-, hx⟩, a⟩ := r_X11_act (G := G) (C := C) (tl := g_hm G M ++ ob) (y3 := y3) hf h9
        obtain ⟨F, ja, jb, jg, jc, ji, jt, jp, jr, js, jl, jq⟩ := hJ
        have hlen : (l_act T.1 w9).length ≤ 24 := v_act_len hi.2.2.2.2.2.1 h9
        have jr2 : v_Jp (l_act T.1 w9).length (l_act T.1 w9).length 24 f2 (f_lay (M.2.2.2.1 17) 0 (l_act T.1 w9)) := ⟨rfl, hlen, fun k hk => by
          have w1 := hx k _ (List.getElem?_eq_getElem hk)
          have w2 := f_lay_at (l_act T.1 w9) (M.2.2.2.1 17) 0 k _ (List.getElem?_eq_getElem hk)
          rw [Nat.zero_add] at w1 w2
          exact w1.trans w2.symm⟩
        exact v_ok (C2 := f_ui (f_ui (f_un (f_un (f_uI C 3 f2) 8 (l_act T.1 w9).length) 9 T.1) 0 (nI j)) 1 (nI T.2.1)) (M2 := f_acM M (l_act T.1 w9)) ⟨F, ja, jb, jg, jc, ji, jt, jp, jr2, js, jl, jq⟩ a (b _) rfl
      rcases hw with rfl | rfl | rfl
      · exact key 0 (by omega) rfl (fun _ => r_actM0 hi)
      · exact key 1 (by omega) rfl (fun _ => r_actM1 hi)
      · exact key 2 (by omega) rfl (fun _ => r_actM2 hi)
end VE1
