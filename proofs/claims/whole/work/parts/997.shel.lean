/-! shelves: both sides answer alike -/
section VF1
variable {G : g_G} {C : f_C} {M : f_M} {ob ob2 : List va_E} {y y2 y3 y4 y5 : Int32} {x : Int64}
theorem v_clR {R : Nat → Int32} {o : Nat} : ∀ m t, f_clR R o m t = if o ≤ t ∧ t < o + m then -1 else R t
  | 0, t => by rw [if_neg (by omega)]; rfl
  | m + 1, t => by
    rw [f_clR]
    by_cases e : t = o + m
    · rw [e, pk_us, if_pos (by omega)]
    · rw [pk_un e, v_clR m t]
      by_cases e2 : o ≤ t ∧ t < o + m
      · rw [if_pos e2, if_pos (by omega)]
      · rw [if_neg e2, if_neg (by omega)]
theorem v_clR_out {R : Nat → Int32} {o m t : Nat} (h : t < o ∨ o + m ≤ t) : f_clR R o m t = R t := by rw [v_clR, if_neg (by omega)]
theorem v_mvI {A B : Nat → Int32} {o : Nat} : ∀ m t, f_mvI A B o m t = if o ≤ t ∧ t < o + m then B (t - o) else A t
  | 0, t => by rw [if_neg (by omega)]; rfl
  | m + 1, t => by
    rw [f_mvI]
    by_cases e : t = o + m
    · rw [e, pk_us, if_pos (by omega), Nat.add_sub_cancel_left]
    · rw [pk_un e, v_mvI m t]
      by_cases e2 : o ≤ t ∧ t < o + m
      · rw [if_pos e2, if_pos (by omega)]
      · rw [if_neg e2, if_neg (by omega)]
theorem v_mvL {A B : Nat → Int64} {o : Nat} : ∀ m t, f_mvL A B o m t = if o ≤ t ∧ t < o + m then B (t - o) else A t
  | 0, t => by rw [if_neg (by omega)]; rfl
  | m + 1, t => by
    rw [f_mvL]
    by_cases e : t = o + m
    · rw [e, pk_uLs, if_pos (by omega), Nat.add_sub_cancel_left]
    · rw [pk_uLn e, v_mvL m t]
      by_cases e2 : o ≤ t ∧ t < o + m
      · rw [if_pos e2, if_pos (by omega)]
      · rw [if_neg e2, if_neg (by omega)]
theorem v_tkL {A B : Nat → Int64} {o : Nat} : ∀ m t, t < m → f_tkL A B o m t = B (o + t)
  | 0, t, h => absurd h (Nat.not_lt_zero t)
  | m + 1, t, h => by
    rw [f_tkL]
    by_cases e : t = m
    · rw [e]; exact pk_uLs
    · rw [pk_uLn e]; exact v_tkL m t (by omega)
/-- what is moved: places o2 .. become what stood at o .. -/
theorem v_mtI {A T : Nat → Int32} {o o2 m q t : Nat} (hq : q ≤ m) : f_mvI A (f_tkI T A o m) o2 q t = if o2 ≤ t ∧ t < o2 + q then A (o + (t - o2)) else A t := by
  rw [v_mvI]
  by_cases e : o2 ≤ t ∧ t < o2 + q
  · rw [if_pos e, if_pos e, f_tkI_at m _ (by omega)]
  · rw [if_neg e, if_neg e]
theorem v_mtL {A T : Nat → Int64} {o o2 m q t : Nat} (hq : q ≤ m) : f_mvL A (f_tkL T A o m) o2 q t = if o2 ≤ t ∧ t < o2 + q then A (o + (t - o2)) else A t := by
  rw [v_mvL]
  by_cases e : o2 ≤ t ∧ t < o2 + q
  · rw [if_pos e, if_pos e, v_tkL m _ (by omega)]
  · rw [if_neg e, if_neg e]
theorem v_mtI_out {A T : Nat → Int32} {o o2 m q t : Nat} (hq : q ≤ m) (h : t < o2 ∨ o2 + q ≤ t) : f_mvI A (f_tkI T A o m) o2 q t = A t := by rw [v_mtI hq, if_neg (by omega)]
theorem v_mtL_out {A T : Nat → Int64} {o o2 m q t : Nat} (hq : q ≤ m) (h : t < o2 ∨ o2 + q ≤ t) : f_mvL A (f_tkL T A o m) o2 q t = A t := by rw [v_mtL hq, if_neg (by omega)]
theorem v_mtI_in {A T : Nat → Int32} {o o2 m q t : Nat} (hq : q ≤ m) (h : t < q) : f_mvI A (f_tkI T A o m) o2 q (o2 + t) = A (o + t) := by rw [v_mtI hq, if_pos (by omega), Nat.add_sub_cancel_left]
theorem v_mtL_in {A T : Nat → Int64} {o o2 m q t : Nat} (hq : q ≤ m) (h : t < q) : f_mvL A (f_tkL T A o m) o2 q (o2 + t) = A (o + t) := by rw [v_mtL hq, if_pos (by omega), Nat.add_sub_cancel_left]
theorem v_Jsp.cg {R R2 : Nat → Option Nat} {A B A2 B2 : Nat → Int32} {D D2 : Nat → Int64} {i o i2 o2 : Nat} (h : v_Jsp G ob R A B D i o) (e0 : R2 i2 = R i) (e1 : A2 (o2 + i2) = A (o + i)) (e2 : B2 (o2 + i2) = B (o + i)) (e3 : D2 (o2 + i2) = D (o + i)) : v_Jsp G ob R2 A2 B2 D2 i2 o2 := by
  rcases h with ⟨h1, h2⟩ | ⟨T, h1, h2, h3, h4, h5⟩
  · exact Or.inl ⟨e0.trans h1, e1.trans h2⟩
  · exact Or.inr ⟨T, by rw [e0]; exact h1, e1.trans h2, e2.trans h3, e3.trans h4, h5⟩
theorem v_Js.oth {th so so2 ma : Int32} {p o : Nat} {R : Nat → Option Nat} {A B A2 B2 : Nat → Int32} {D D2 : Nat → Int64} (h : v_Js G ob th so p R so2 ma A B D o) (h1 : ∀ i, i < 6 → A2 (o + i) = A (o + i)) (h2 : ∀ i, i < 6 → B2 (o + i) = B (o + i)) (h3 : ∀ i, i < 6 → D2 (o + i) = D (o + i)) : v_Js G ob th so p R so2 ma A2 B2 D2 o := h.imp id (fun ⟨q1, q2, q3, q4, q5⟩ => ⟨q1, q2, q3, q4, fun i hi => (q5 i hi).cg rfl (h1 i (by omega)) (h2 i (by omega)) (h3 i (by omega))⟩)
theorem v_Js.p {th so so2 ma : Int32} {p o : Nat} {R : Nat → Option Nat} {A B : Nat → Int32} {D : Nat → Int64} (h : v_Js G ob th so p R so2 ma A B D o) : p ≤ 6 ∧ ma = nI p := by
  rcases h with ⟨h1, h2, h3, h4⟩ | ⟨h1, h2, h3, -⟩
  · exact ⟨by omega, by rw [h2]; exact h4⟩
  · exact ⟨h2, h3⟩
theorem v_Jsp.fo {R : Nat → Option Nat} {A B : Nat → Int32} {D : Nat → Int64} {i o : Nat} (h : v_Jsp G ob R A B D i o) : v_fo G ob (R i) := by
  rcases h with ⟨h1, -⟩ | ⟨T, h1, -⟩
  · exact Or.inl h1
  · exact h1.fo
theorem v_shelf0 (hJ : v_J G C M ob) : v_Ok Value.int mX11_shelf mX12_shelf [.int 0, .int y2, .int y3] G C M ob := by
  have hJ0 := hJ
  have hq := hJ.qs
  obtain ⟨F, ja, jb, jg, jc, ji, jt, jp, jr, js, jl, jq⟩ := hJ
  by_cases hc : -1 ≤ y2.toInt ∧ y2.toInt ≤ 2
  · have q1 : ¬ y2 < -1 := by simp only [v_it, v_il, v_zm1, v_z0, v_z1, v_z2, v_z3, v_z4, v_z5, v_z6, v_z8, v_z9, v_z12, v_z20, v_z32, v_z80, v_z100, v_z126, v_z2000000000]; omega
    have q2 : y2 < 3 := by simp only [v_it, v_il, v_zm1, v_z0, v_z1, v_z2, v_z3, v_z4, v_z5, v_z6, v_z8, v_z9, v_z12, v_z20, v_z32, v_z80, v_z100, v_z126, v_z2000000000]; omega
    by_cases em : y2 = -1
    · subst em
      have w1 : v_Js G ob 0 (C.2.1 6) 0 (C.2.2.2.2.2 6) (upd (M.2.2.2.1 9) 0 (-1) 0) (upd (M.2.2.2.1 10) 0 (nI 0) 0) (f_clR (M.2.2.2.1 11) (6 * 0) 6) (M.2.2.2.1 12) (M.2.2.2.2 3) (6 * 0) := Or.inl ⟨rfl, rfl, pk_us, pk_us⟩
      exact v_ok (C2 := f_un (f_ui C 3 0) 12 0) (M2 := f_slM M 0 (-1) 0) ⟨F, ja, jb, jg, jc, ji, jt, jp, jr, ⟨w1, v_Js.oth js.2.1 (fun i hi => v_clR_out (by omega)) (fun i hi => rfl) (fun i hi => rfl), v_Js.oth js.2.2 (fun i hi => v_clR_out (by omega)) (fun i hi => rfl) (fun i hi => rfl)⟩, jl, jq⟩ (r_X11_shelf0_rem hq) (r_shM_rm (s := 0) (by omega) y3) rfl
    · have q0 : 0 ≤ y2.toInt := by
        by_cases e5 : y2.toInt = -1
        · exact absurd (Int32.toInt_inj.mp (e5.trans v_zm1.symm)) em
        · omega
      have q3 : (-1 : Int32) ≤ y2 ∧ y2 ≤ 2 := by simp only [v_it, v_il, v_zm1, v_z0, v_z1, v_z2, v_z3, v_z4, v_z5, v_z6, v_z8, v_z9, v_z12, v_z20, v_z32, v_z80, v_z100, v_z126, v_z2000000000]; omega
      have q4 : ¬ y2 < 0 := by simp only [v_it, v_il, v_zm1, v_z0, v_z1, v_z2, v_z3, v_z4, v_z5, v_z6, v_z8, v_z9, v_z12, v_z20, v_z32, v_z80, v_z100, v_z126, v_z2000000000]; omega
      rcases v_sp 6 (by omega) y3 with hy | ⟨m, hm, rfl⟩
      · by_cases h5 : y3.toInt < 0
        · have r1 : y3 ≤ 6 := by simp only [v_it, v_il, v_zm1, v_z0, v_z1, v_z2, v_z3, v_z4, v_z5, v_z6, v_z8, v_z9, v_z12, v_z20, v_z32, v_z80, v_z100, v_z126, v_z2000000000]; omega
          have r2 : ¬ 0 ≤ y3 := by simp only [v_it, v_il, v_zm1, v_z0, v_z1, v_z2, v_z3, v_z4, v_z5, v_z6, v_z8, v_z9, v_z12, v_z20, v_z32, v_z80, v_z100, v_z126, v_z2000000000]; omega
          exact v_ok hJ0 (r_X11_shelf0_few hq q1 q2 em r1 r2) (r_shM_neg (s := 0) (by omega) q3 q4 r1 r2) rfl
        · have r1 : ¬ y3 ≤ 6 := by simp only [v_it, v_il, v_zm1, v_z0, v_z1, v_z2, v_z3, v_z4, v_z5, v_z6, v_z8, v_z9, v_z12, v_z20, v_z32, v_z80, v_z100, v_z126, v_z2000000000]; omega
          exact v_ok hJ0 (r_X11_shelf0_much hq q1 q2 em r1) (r_shM_b2 (s := 0) (by omega) q3 q4 r1) rfl
      · obtain ⟨so, hso, rfl⟩ := v_n (y := y2) (n := 2) (by omega) q0 (by omega)
        obtain ⟨f2, hf2, a⟩ := r_X11_shelf0 (G := G) (C := C) (tl := g_hm G M ++ ob) (n9 := m) hq q1 q2 em hm
        have w1 : v_Js G ob 1 (nI so) m f2 (upd (M.2.2.2.1 9) 0 (nI so) 0) (upd (M.2.2.2.1 10) 0 (nI m) 0) (f_clR (M.2.2.2.1 11) (6 * 0) 6) (M.2.2.2.1 12) (M.2.2.2.2 3) (6 * 0) := Or.inr ⟨by decide, hm, pk_us, ⟨so, by omega, rfl, pk_us⟩, fun i hi => Or.inl ⟨hf2 i (by omega), by rw [v_clR, if_pos (by omega)]⟩⟩
        exact v_ok (C2 := f_uR (f_un (f_ui (f_ui C 3 1) 6 (nI so)) 12 m) 6 f2) (M2 := f_slM M 0 (nI so) m) ⟨F, ja, jb, jg, jc, ji, jt, jp, jr, ⟨w1, v_Js.oth js.2.1 (fun i hi => v_clR_out (by omega)) (fun i hi => rfl) (fun i hi => rfl), v_Js.oth js.2.2 (fun i hi => v_clR_out (by omega)) (fun i hi => rfl) (fun i hi => rfl)⟩, jl, jq⟩ a (r_shM_ok (s := 0) (by omega) (by omega) hm) rfl
  · exact v_ok hJ0 (r_X11_shelf0_out hq (by simp only [v_it, v_il, v_zm1, v_z0, v_z1, v_z2, v_z3, v_z4, v_z5, v_z6, v_z8, v_z9, v_z12, v_z20, v_z32, v_z80, v_z100, v_z126, v_z2000000000]; omega)) (r_shM_b1 (s := 0) (by omega) (fun z => by simp only [v_it, v_il, v_zm1, v_z0, v_z1, v_z2, v_z3, v_z4, v_z5, v_z6, v_z8, v_z9, v_z12, v_z20, v_z32, v_z80, v_z100, v_z126, v_z2000000000] at z; omega)) rfl
theorem v_keep0 (hJ : v_J G C M ob) : v_Ok Value.int mX11_keep mX12_keep [.int 0, .int y2, .int y3] G C M ob := by
  have hJ0 := hJ
  have hq := hJ.qs
  obtain ⟨hm, h8, h89⟩ := hJ.many
  obtain ⟨F, ja, jb, jg, jc, ji, jt, jp, jr, js, jl, jq⟩ := hJ
  have j0 : v_Js G ob (C.2.1 3) (C.2.1 6) (C.1 12) (C.2.2.2.2.2 6) (M.2.2.2.1 9 0) (M.2.2.2.1 10 0) (M.2.2.2.1 11) (M.2.2.2.1 12) (M.2.2.2.2 3) (6 * 0) := js.1
  rcases v_fam hJ0 y3 with ⟨b1, b2⟩ | ⟨j, o, T, rfl, hf, hi, ho⟩
  · exact v_ok hJ0 (r_X11_keep0_bad hq h89 b1) (r_keM_b1 (s := 0) (by omega) h8 b2) rfl
  · rcases j0 with ⟨h1, h2, h3, h4⟩ | ⟨h1, h2, h3, ⟨s9, hs9, h4, h5⟩, h6⟩
    · exact v_ok hJ0 (r_X11_keep0_miss hq hf h1) (r_keM_miss (s := 0) (by omega) h8 hi.1 (by rw [h3]; decide)) rfl
    · have hge : 0 ≤ M.2.2.2.1 9 0 := by rw [h5]; exact nI_pos' (by omega)
      by_cases hv : vp_in y2 (C.1 12)
      · have hy := (f_isF (by omega)).mpr hv
        rw [← h3] at hy
        obtain ⟨i, hi6, rfl⟩ := vp_in_of hv (by omega)
        obtain ⟨hj, -, m1, m2, m3, m4, m5⟩ := id hi
        have a := r_X11_keep0 (G := G) (C := C) (tl := g_hm G M ++ ob) hq hf h1 h2 hi6 h4 hs9
        cases hb : f_may s9 T.1 with
        | true =>
          rw [hb, if_pos rfl, if_pos rfl, v_38] at a
          have w1 : v_Js G ob (C.2.1 3) (C.2.1 6) (C.1 12) (va_up (C.2.2.2.2.2 6) i (some (g_ad G (63 + o)))) (M.2.2.2.1 9 0) (M.2.2.2.1 10 0) (upd (M.2.2.2.1 11) (6 * 0 + i) (M.2.2.2.1 0 j)) (upd (M.2.2.2.1 12) (6 * 0 + i) (M.2.2.2.1 1 j)) (vp_updL (M.2.2.2.2 3) (6 * 0 + i) (M.2.2.2.2 0 j)) (6 * 0) := Or.inr ⟨h1, h2, h3, ⟨s9, hs9, h4, h5⟩, fun z hz => by
            by_cases e : z = i
            · subst e
              exact Or.inr ⟨T, by rw [v_ups]; exact ⟨o, rfl, ho⟩, pk_us.trans m1, pk_us.trans m2, pk_uLs.trans m3, m4, m5⟩
            · exact (h6 z hz).cg (v_upn e) (pk_un (by omega)) (pk_un (by omega)) (pk_uLn (by omega))⟩
          exact v_ok (C2 := f_uR C 6 (va_up (C.2.2.2.2.2 6) i (some (g_ad G (63 + o))))) (M2 := f_kpM M 0 i j) ⟨F, ja, jb, jg, jc, ji, jt, jp, jr, ⟨w1, v_Js.oth js.2.1 (fun i hi => pk_un (by omega)) (fun i hi => pk_un (by omega)) (fun i hi => pk_uLn (by omega)), v_Js.oth js.2.2 (fun i hi => pk_un (by omega)) (fun i hi => pk_un (by omega)) (fun i hi => pk_uLn (by omega))⟩, jl, jq⟩ a (r_keM_ok (s := 0) (by omega) h8 hj (by omega) h5 hs9 hy m1 m4 hb) rfl
        | false =>
          rw [hb, if_neg Bool.false_ne_true, if_neg Bool.false_ne_true] at a
          exact v_ok hJ0 a (r_keM_oth (s := 0) (by omega) h8 hj (by omega) h5 hs9 hy m1 m4 hb) rfl
      · refine v_ok hJ0 (r_X11_keep0_out hq hf h1 h2 (fun i9 n9 e1 e2 hle => hv ?_)) (r_keM_out (s := 0) (by omega) h8 hi.1 hge (fun z => hv ((f_isF (by omega)).mp (by rw [h3] at z; exact z)))) rfl
        have e3 : 1 = n9 := nI_inj9 (by omega) (by omega) e2
        rw [e1]
        exact vp_in_nI (by omega) (by omega)
theorem v_kept0 (hJ : v_J G C M ob) : v_Ok Value.long mX11_kept mX12_kept [.int 0, .int y2] G C M ob := by
  have hJ0 := hJ
  have hq := hJ.qs
  obtain ⟨hn, hp, h69, hp9, h699⟩ := hJ.cube
  obtain ⟨F, ja, jb, jg, jc, ji, jt, jp, jr, js, jl, jq⟩ := hJ
  have j0 : v_Js G ob (C.2.1 3) (C.2.1 6) (C.1 12) (C.2.2.2.2.2 6) (M.2.2.2.1 9 0) (M.2.2.2.1 10 0) (M.2.2.2.1 11) (M.2.2.2.1 12) (M.2.2.2.2 3) (6 * 0) := js.1
  obtain ⟨p1, p2⟩ := j0.p
  by_cases hv : vp_in y2 (C.1 12)
  · have hy := (f_isF (by omega)).mpr hv
    rw [← p2] at hy
    obtain ⟨i, hi6, rfl⟩ := vp_in_of hv (by omega)
    rcases j0 with ⟨h1, h2, h3, h4⟩ | ⟨h1, h2, h3, ⟨s9, hs9, h4, h5⟩, h6⟩
    · exact absurd hi6 (by omega)
    · rcases h6 i hi6 with ⟨e1, e2⟩ | ⟨T, ⟨o, e1, ho⟩, m1, m2, m3, m4, m5⟩
      · exact v_ok hJ0 (r_X11_kept0_none hq p1 hi6 e1) (r_ktM_none (s := 0) (i := i) (by omega) (by omega) hy (by rw [e2]; decide)) rfl
      · refine v_ok hJ0 (r_X11_kept0 (o := 25 + o) (T := T) hq h699 p1 hi6 (by rw [e1, v_38]) (by rw [v_ob_at]; exact ho) m4) (r_ktM (s := 0) (i := i) (by omega) (by omega) h69 hy m1 m4 m2 m5 m3) ?_
        show f_setsOf (C.1 0) T.1 (nI T.2.1) T.2.2 = _
        rw [hn]
        exact (f_setsOf_M h69 m4 m5).1
  · exact v_ok hJ0 (r_X11_kept0_out hq p1 hv) (r_ktM_b1 (s := 0) (by omega) (fun z => hv ((f_isF (by omega)).mp (by rw [p2] at z; exact z)))) rfl
theorem v_shelf1 (hJ : v_J G C M ob) : v_Ok Value.int mX11_shelf mX12_shelf [.int 1, .int y2, .int y3] G C M ob := by
  have hJ0 := hJ
  have hq := hJ.qs
  obtain ⟨F, ja, jb, jg, jc, ji, jt, jp, jr, js, jl, jq⟩ := hJ
  by_cases hc : -1 ≤ y2.toInt ∧ y2.toInt ≤ 2
  · have q1 : ¬ y2 < -1 := by simp only [v_it, v_il, v_zm1, v_z0, v_z1, v_z2, v_z3, v_z4, v_z5, v_z6, v_z8, v_z9, v_z12, v_z20, v_z32, v_z80, v_z100, v_z126, v_z2000000000]; omega
    have q2 : y2 < 3 := by simp only [v_it, v_il, v_zm1, v_z0, v_z1, v_z2, v_z3, v_z4, v_z5, v_z6, v_z8, v_z9, v_z12, v_z20, v_z32, v_z80, v_z100, v_z126, v_z2000000000]; omega
    by_cases em : y2 = -1
    · subst em
      have w1 : v_Js G ob 0 (C.2.1 7) 0 (C.2.2.2.2.2 7) (upd (M.2.2.2.1 9) 1 (-1) 1) (upd (M.2.2.2.1 10) 1 (nI 0) 1) (f_clR (M.2.2.2.1 11) (6 * 1) 6) (M.2.2.2.1 12) (M.2.2.2.2 3) (6 * 1) := Or.inl ⟨rfl, rfl, pk_us, pk_us⟩
      exact v_ok (C2 := f_un (f_ui C 4 0) 13 0) (M2 := f_slM M 1 (-1) 0) ⟨F, ja, jb, jg, jc, ji, jt, jp, jr, ⟨v_Js.oth js.1 (fun i hi => v_clR_out (by omega)) (fun i hi => rfl) (fun i hi => rfl), w1, v_Js.oth js.2.2 (fun i hi => v_clR_out (by omega)) (fun i hi => rfl) (fun i hi => rfl)⟩, jl, jq⟩ (r_X11_shelf1_rem hq) (r_shM_rm (s := 1) (by omega) y3) rfl
    · have q0 : 0 ≤ y2.toInt := by
        by_cases e5 : y2.toInt = -1
        · exact absurd (Int32.toInt_inj.mp (e5.trans v_zm1.symm)) em
        · omega
      have q3 : (-1 : Int32) ≤ y2 ∧ y2 ≤ 2 := by simp only [v_it, v_il, v_zm1, v_z0, v_z1, v_z2, v_z3, v_z4, v_z5, v_z6, v_z8, v_z9, v_z12, v_z20, v_z32, v_z80, v_z100, v_z126, v_z2000000000]; omega
      have q4 : ¬ y2 < 0 := by simp only [v_it, v_il, v_zm1, v_z0, v_z1, v_z2, v_z3, v_z4, v_z5, v_z6, v_z8, v_z9, v_z12, v_z20, v_z32, v_z80, v_z100, v_z126, v_z2000000000]; omega
      rcases v_sp 6 (by omega) y3 with hy | ⟨m, hm, rfl⟩
      · by_cases h5 : y3.toInt < 0
        · have r1 : y3 ≤ 6 := by simp only [v_it, v_il, v_zm1, v_z0, v_z1, v_z2, v_z3, v_z4, v_z5, v_z6, v_z8, v_z9, v_z12, v_z20, v_z32, v_z80, v_z100, v_z126, v_z2000000000]; omega
          have r2 : ¬ 0 ≤ y3 := by simp only [v_it, v_il, v_zm1, v_z0, v_z1, v_z2, v_z3, v_z4, v_z5, v_z6, v_z8, v_z9, v_z12, v_z20, v_z32, v_z80, v_z100, v_z126, v_z2000000000]; omega
          exact v_ok hJ0 (r_X11_shelf1_few hq q1 q2 em r1 r2) (r_shM_neg (s := 1) (by omega) q3 q4 r1 r2) rfl
        · have r1 : ¬ y3 ≤ 6 := by simp only [v_it, v_il, v_zm1, v_z0, v_z1, v_z2, v_z3, v_z4, v_z5, v_z6, v_z8, v_z9, v_z12, v_z20, v_z32, v_z80, v_z100, v_z126, v_z2000000000]; omega
          exact v_ok hJ0 (r_X11_shelf1_much hq q1 q2 em r1) (r_shM_b2 (s := 1) (by omega) q3 q4 r1) rfl
      · obtain ⟨so, hso, rfl⟩ := v_n (y := y2) (n := 2) (by omega) q0 (by omega)
        obtain ⟨f2, hf2, a⟩ := r_X11_shelf1 (G := G) (C := C) (tl := g_hm G M ++ ob) (n9 := m) hq q1 q2 em hm
        have w1 : v_Js G ob 1 (nI so) m f2 (upd (M.2.2.2.1 9) 1 (nI so) 1) (upd (M.2.2.2.1 10) 1 (nI m) 1) (f_clR (M.2.2.2.1 11) (6 * 1) 6) (M.2.2.2.1 12) (M.2.2.2.2 3) (6 * 1) := Or.inr ⟨by decide, hm, pk_us, ⟨so, by omega, rfl, pk_us⟩, fun i hi => Or.inl ⟨hf2 i (by omega), by rw [v_clR, if_pos (by omega)]⟩⟩
        exact v_ok (C2 := f_uR (f_un (f_ui (f_ui C 4 1) 7 (nI so)) 13 m) 7 f2) (M2 := f_slM M 1 (nI so) m) ⟨F, ja, jb, jg, jc, ji, jt, jp, jr, ⟨v_Js.oth js.1 (fun i hi => v_clR_out (by omega)) (fun i hi => rfl) (fun i hi => rfl), w1, v_Js.oth js.2.2 (fun i hi => v_clR_out (by omega)) (fun i hi => rfl) (fun i hi => rfl)⟩, jl, jq⟩ a (r_shM_ok (s := 1) (by omega) (by omega) hm) rfl
  · exact v_ok hJ0 (r_X11_shelf1_out hq (by simp only [v_it, v_il, v_zm1, v_z0, v_z1, v_z2, v_z3, v_z4, v_z5, v_z6, v_z8, v_z9, v_z12, v_z20, v_z32, v_z80, v_z100, v_z126, v_z2000000000]; omega)) (r_shM_b1 (s := 1) (by omega) (fun z => by simp only [v_it, v_il, v_zm1, v_z0, v_z1, v_z2, v_z3, v_z4, v_z5, v_z6, v_z8, v_z9, v_z12, v_z20, v_z32, v_z80, v_z100, v_z126, v_z2000000000] at z; omega)) rfl
theorem v_keep1 (hJ : v_J G C M ob) : v_Ok Value.int mX11_keep mX12_keep [.int 1, .int y2, .int y3] G C M ob := by
  have hJ0 := hJ
  have hq := hJ.qs
  obtain ⟨hm, h8, h89⟩ := hJ.many
  obtain ⟨F, ja, jb, jg, jc, ji, jt, jp, jr, js, jl, jq⟩ := hJ
  have j0 : v_Js G ob (C.2.1 4) (C.2.1 7) (C.1 13) (C.2.2.2.2.2 7) (M.2.2.2.1 9 1) (M.2.2.2.1 10 1) (M.2.2.2.1 11) (M.2.2.2.1 12) (M.2.2.2.2 3) (6 * 1) := js.2.1
  rcases v_fam hJ0 y3 with ⟨b1, b2⟩ | ⟨j, o, T, rfl, hf, hi, ho⟩
  · exact v_ok hJ0 (r_X11_keep1_bad hq h89 b1) (r_keM_b1 (s := 1) (by omega) h8 b2) rfl
  · rcases j0 with ⟨h1, h2, h3, h4⟩ | ⟨h1, h2, h3, ⟨s9, hs9, h4, h5⟩, h6⟩
    · exact v_ok hJ0 (r_X11_keep1_miss hq hf h1) (r_keM_miss (s := 1) (by omega) h8 hi.1 (by rw [h3]; decide)) rfl
    · have hge : 0 ≤ M.2.2.2.1 9 1 := by rw [h5]; exact nI_pos' (by omega)
      by_cases hv : vp_in y2 (C.1 13)
      · have hy := (f_isF (by omega)).mpr hv
        rw [← h3] at hy
        obtain ⟨i, hi6, rfl⟩ := vp_in_of hv (by omega)
        obtain ⟨hj, -, m1, m2, m3, m4, m5⟩ := id hi
        have a := r_X11_keep1 (G := G) (C := C) (tl := g_hm G M ++ ob) hq hf h1 h2 hi6 h4 hs9
        cases hb : f_may s9 T.1 with
        | true =>
          rw [hb, if_pos rfl, if_pos rfl, v_38] at a
          have w1 : v_Js G ob (C.2.1 4) (C.2.1 7) (C.1 13) (va_up (C.2.2.2.2.2 7) i (some (g_ad G (63 + o)))) (M.2.2.2.1 9 1) (M.2.2.2.1 10 1) (upd (M.2.2.2.1 11) (6 * 1 + i) (M.2.2.2.1 0 j)) (upd (M.2.2.2.1 12) (6 * 1 + i) (M.2.2.2.1 1 j)) (vp_updL (M.2.2.2.2 3) (6 * 1 + i) (M.2.2.2.2 0 j)) (6 * 1) := Or.inr ⟨h1, h2, h3, ⟨s9, hs9, h4, h5⟩, fun z hz => by
            by_cases e : z = i
            · subst e
              exact Or.inr ⟨T, by rw [v_ups]; exact ⟨o, rfl, ho⟩, pk_us.trans m1, pk_us.trans m2, pk_uLs.trans m3, m4, m5⟩
            · exact (h6 z hz).cg (v_upn e) (pk_un (by omega)) (pk_un (by omega)) (pk_uLn (by omega))⟩
          exact v_ok (C2 := f_uR C 7 (va_up (C.2.2.2.2.2 7) i (some (g_ad G (63 + o))))) (M2 := f_kpM M 1 i j) ⟨F, ja, jb, jg, jc, ji, jt, jp, jr, ⟨v_Js.oth js.1 (fun i hi => pk_un (by omega)) (fun i hi => pk_un (by omega)) (fun i hi => pk_uLn (by omega)), w1, v_Js.oth js.2.2 (fun i hi => pk_un (by omega)) (fun i hi => pk_un (by omega)) (fun i hi => pk_uLn (by omega))⟩, jl, jq⟩ a (r_keM_ok (s := 1) (by omega) h8 hj (by omega) h5 hs9 hy m1 m4 hb) rfl
        | false =>
          rw [hb, if_neg Bool.false_ne_true, if_neg Bool.false_ne_true] at a
          exact v_ok hJ0 a (r_keM_oth (s := 1) (by omega) h8 hj (by omega) h5 hs9 hy m1 m4 hb) rfl
      · refine v_ok hJ0 (r_X11_keep1_out hq hf h1 h2 (fun i9 n9 e1 e2 hle => hv ?_)) (r_keM_out (s := 1) (by omega) h8 hi.1 hge (fun z => hv ((f_isF (by omega)).mp (by rw [h3] at z; exact z)))) rfl
        have e3 : 1 = n9 := nI_inj9 (by omega) (by omega) e2
        rw [e1]
        exact vp_in_nI (by omega) (by omega)
theorem v_kept1 (hJ : v_J G C M ob) : v_Ok Value.long mX11_kept mX12_kept [.int 1, .int y2] G C M ob := by
  have hJ0 := hJ
  have hq := hJ.qs
  obtain ⟨hn, hp, h69, hp9, h699⟩ := hJ.cube
  obtain ⟨F, ja, jb, jg, jc, ji, jt, jp, jr, js, jl, jq⟩ := hJ
  have j0 : v_Js G ob (C.2.1 4) (C.2.1 7) (C.1 13) (C.2.2.2.2.2 7) (M.2.2.2.1 9 1) (M.2.2.2.1 10 1) (M.2.2.2.1 11) (M.2.2.2.1 12) (M.2.2.2.2 3) (6 * 1) := js.2.1
  obtain ⟨p1, p2⟩ := j0.p
  by_cases hv : vp_in y2 (C.1 13)
  · have hy := (f_isF (by omega)).mpr hv
    rw [← p2] at hy
    obtain ⟨i, hi6, rfl⟩ := vp_in_of hv (by omega)
    rcases j0 with ⟨h1, h2, h3, h4⟩ | ⟨h1, h2, h3, ⟨s9, hs9, h4, h5⟩, h6⟩
    · exact absurd hi6 (by omega)
    · rcases h6 i hi6 with ⟨e1, e2⟩ | ⟨T, ⟨o, e1, ho⟩, m1, m2, m3, m4, m5⟩
      · exact v_ok hJ0 (r_X11_kept1_none hq p1 hi6 e1) (r_ktM_none (s := 1) (i := i) (by omega) (by omega) hy (by rw [e2]; decide)) rfl
      · refine v_ok hJ0 (r_X11_kept1 (o := 25 + o) (T := T) hq h699 p1 hi6 (by rw [e1, v_38]) (by rw [v_ob_at]; exact ho) m4) (r_ktM (s := 1) (i := i) (by omega) (by omega) h69 hy m1 m4 m2 m5 m3) ?_
        show f_setsOf (C.1 0) T.1 (nI T.2.1) T.2.2 = _
        rw [hn]
        exact (f_setsOf_M h69 m4 m5).1
  · exact v_ok hJ0 (r_X11_kept1_out hq p1 hv) (r_ktM_b1 (s := 1) (by omega) (fun z => hv ((f_isF (by omega)).mp (by rw [p2] at z; exact z)))) rfl
theorem v_shelf2 (hJ : v_J G C M ob) : v_Ok Value.int mX11_shelf mX12_shelf [.int 2, .int y2, .int y3] G C M ob := by
  have hJ0 := hJ
  have hq := hJ.qs
  obtain ⟨F, ja, jb, jg, jc, ji, jt, jp, jr, js, jl, jq⟩ := hJ
  by_cases hc : -1 ≤ y2.toInt ∧ y2.toInt ≤ 2
  · have q1 : ¬ y2 < -1 := by simp only [v_it, v_il, v_zm1, v_z0, v_z1, v_z2, v_z3, v_z4, v_z5, v_z6, v_z8, v_z9, v_z12, v_z20, v_z32, v_z80, v_z100, v_z126, v_z2000000000]; omega
    have q2 : y2 < 3 := by simp only [v_it, v_il, v_zm1, v_z0, v_z1, v_z2, v_z3, v_z4, v_z5, v_z6, v_z8, v_z9, v_z12, v_z20, v_z32, v_z80, v_z100, v_z126, v_z2000000000]; omega
    by_cases em : y2 = -1
    · subst em
      have w1 : v_Js G ob 0 (C.2.1 8) 0 (C.2.2.2.2.2 8) (upd (M.2.2.2.1 9) 2 (-1) 2) (upd (M.2.2.2.1 10) 2 (nI 0) 2) (f_clR (M.2.2.2.1 11) (6 * 2) 6) (M.2.2.2.1 12) (M.2.2.2.2 3) (6 * 2) := Or.inl ⟨rfl, rfl, pk_us, pk_us⟩
      exact v_ok (C2 := f_un (f_ui C 5 0) 14 0) (M2 := f_slM M 2 (-1) 0) ⟨F, ja, jb, jg, jc, ji, jt, jp, jr, ⟨v_Js.oth js.1 (fun i hi => v_clR_out (by omega)) (fun i hi => rfl) (fun i hi => rfl), v_Js.oth js.2.1 (fun i hi => v_clR_out (by omega)) (fun i hi => rfl) (fun i hi => rfl), w1⟩, jl, jq⟩ (r_X11_shelf2_rem hq) (r_shM_rm (s := 2) (by omega) y3) rfl
    · have q0 : 0 ≤ y2.toInt := by
        by_cases e5 : y2.toInt = -1
        · exact absurd (Int32.toInt_inj.mp (e5.trans v_zm1.symm)) em
        · omega
      have q3 : (-1 : Int32) ≤ y2 ∧ y2 ≤ 2 := by simp only [v_it, v_il, v_zm1, v_z0, v_z1, v_z2, v_z3, v_z4, v_z5, v_z6, v_z8, v_z9, v_z12, v_z20, v_z32, v_z80, v_z100, v_z126, v_z2000000000]; omega
      have q4 : ¬ y2 < 0 := by simp only [v_it, v_il, v_zm1, v_z0, v_z1, v_z2, v_z3, v_z4, v_z5, v_z6, v_z8, v_z9, v_z12, v_z20, v_z32, v_z80, v_z100, v_z126, v_z2000000000]; omega
      rcases v_sp 6 (by omega) y3 with hy | ⟨m, hm, rfl⟩
      · by_cases h5 : y3.toInt < 0
        · have r1 : y3 ≤ 6 := by simp only [v_it, v_il, v_zm1, v_z0, v_z1, v_z2, v_z3, v_z4, v_z5, v_z6, v_z8, v_z9, v_z12, v_z20, v_z32, v_z80, v_z100, v_z126, v_z2000000000]; omega
          have r2 : ¬ 0 ≤ y3 := by simp only [v_it, v_il, v_zm1, v_z0, v_z1, v_z2, v_z3, v_z4, v_z5, v_z6, v_z8, v_z9, v_z12, v_z20, v_z32, v_z80, v_z100, v_z126, v_z2000000000]; omega
          exact v_ok hJ0 (r_X11_shelf2_few hq q1 q2 em r1 r2) (r_shM_neg (s := 2) (by omega) q3 q4 r1 r2) rfl
        · have r1 : ¬ y3 ≤ 6 := by simp only [v_it, v_il, v_zm1, v_z0, v_z1, v_z2, v_z3, v_z4, v_z5, v_z6, v_z8, v_z9, v_z12, v_z20, v_z32, v_z80, v_z100, v_z126, v_z2000000000]; omega
          exact v_ok hJ0 (r_X11_shelf2_much hq q1 q2 em r1) (r_shM_b2 (s := 2) (by omega) q3 q4 r1) rfl
      · obtain ⟨so, hso, rfl⟩ := v_n (y := y2) (n := 2) (by omega) q0 (by omega)
        obtain ⟨f2, hf2, a⟩ := r_X11_shelf2 (G := G) (C := C) (tl := g_hm G M ++ ob) (n9 := m) hq q1 q2 em hm
        have w1 : v_Js G ob 1 (nI so) m f2 (upd (M.2.2.2.1 9) 2 (nI so) 2) (upd (M.2.2.2.1 10) 2 (nI m) 2) (f_clR (M.2.2.2.1 11) (6 * 2) 6) (M.2.2.2.1 12) (M.2.2.2.2 3) (6 * 2) := Or.inr ⟨by decide, hm, pk_us, ⟨so, by omega, rfl, pk_us⟩, fun i hi => Or.inl ⟨hf2 i (by omega), by rw [v_clR, if_pos (by omega)]⟩⟩
        exact v_ok (C2 := f_uR (f_un (f_ui (f_ui C 5 1) 8 (nI so)) 14 m) 8 f2) (M2 := f_slM M 2 (nI so) m) ⟨F, ja, jb, jg, jc, ji, jt, jp, jr, ⟨v_Js.oth js.1 (fun i hi => v_clR_out (by omega)) (fun i hi => rfl) (fun i hi => rfl), v_Js.oth js.2.1 (fun i hi => v_clR_out (by omega)) (fun i hi => rfl) (fun i hi => rfl), w1⟩, jl, jq⟩ a (r_shM_ok (s := 2) (by omega) (by omega) hm) rfl
  · exact v_ok hJ0 (r_X11_shelf2_out hq (by simp only [v_it, v_il, v_zm1, v_z0, v_z1, v_z2, v_z3, v_z4, v_z5, v_z6, v_z8, v_z9, v_z12, v_z20, v_z32, v_z80, v_z100, v_z126, v_z2000000000]; omega)) (r_shM_b1 (s := 2) (by omega) (fun z => by simp only [v_it, v_il, v_zm1, v_z0, v_z1, v_z2, v_z3, v_z4, v_z5, v_z6, v_z8, v_z9, v_z12, v_z20, v_z32, v_z80, v_z100, v_z126, v_z2000000000] at z; omega)) rfl
theorem v_keep2 (hJ : v_J G C M ob) : v_Ok Value.int mX11_keep mX12_keep [.int 2, .int y2, .int y3] G C M ob := by
  have hJ0 := hJ
  have hq := hJ.qs
  obtain ⟨hm, h8, h89⟩ := hJ.many
  obtain ⟨F, ja, jb, jg, jc, ji, jt, jp, jr, js, jl, jq⟩ := hJ
  have j0 : v_Js G ob (C.2.1 5) (C.2.1 8) (C.1 14) (C.2.2.2.2.2 8) (M.2.2.2.1 9 2) (M.2.2.2.1 10 2) (M.2.2.2.1 11) (M.2.2.2.1 12) (M.2.2.2.2 3) (6 * 2) := js.2.2
  rcases v_fam hJ0 y3 with ⟨b1, b2⟩ | ⟨j, o, T, rfl, hf, hi, ho⟩
  · exact v_ok hJ0 (r_X11_keep2_bad hq h89 b1) (r_keM_b1 (s := 2) (by omega) h8 b2) rfl
  · rcases j0 with ⟨h1, h2, h3, h4⟩ | ⟨h1, h2, h3, ⟨s9, hs9, h4, h5⟩, h6⟩
    · exact v_ok hJ0 (r_X11_keep2_miss hq hf h1) (r_keM_miss (s := 2) (by omega) h8 hi.1 (by rw [h3]; decide)) rfl
    · have hge : 0 ≤ M.2.2.2.1 9 2 := by rw [h5]; exact nI_pos' (by omega)
      by_cases hv : vp_in y2 (C.1 14)
      · have hy := (f_isF (by omega)).mpr hv
        rw [← h3] at hy
        obtain ⟨i, hi6, rfl⟩ := vp_in_of hv (by omega)
        obtain ⟨hj, -, m1, m2, m3, m4, m5⟩ := id hi
        have a := r_X11_keep2 (G := G) (C := C) (tl := g_hm G M ++ ob) hq hf h1 h2 hi6 h4 hs9
        cases hb : f_may s9 T.1 with
        | true =>
          rw [hb, if_pos rfl, if_pos rfl, v_38] at a
          have w1 : v_Js G ob (C.2.1 5) (C.2.1 8) (C.1 14) (va_up (C.2.2.2.2.2 8) i (some (g_ad G (63 + o)))) (M.2.2.2.1 9 2) (M.2.2.2.1 10 2) (upd (M.2.2.2.1 11) (6 * 2 + i) (M.2.2.2.1 0 j)) (upd (M.2.2.2.1 12) (6 * 2 + i) (M.2.2.2.1 1 j)) (vp_updL (M.2.2.2.2 3) (6 * 2 + i) (M.2.2.2.2 0 j)) (6 * 2) := Or.inr ⟨h1, h2, h3, ⟨s9, hs9, h4, h5⟩, fun z hz => by
            by_cases e : z = i
            · subst e
              exact Or.inr ⟨T, by rw [v_ups]; exact ⟨o, rfl, ho⟩, pk_us.trans m1, pk_us.trans m2, pk_uLs.trans m3, m4, m5⟩
            · exact (h6 z hz).cg (v_upn e) (pk_un (by omega)) (pk_un (by omega)) (pk_uLn (by omega))⟩
          exact v_ok (C2 := f_uR C 8 (va_up (C.2.2.2.2.2 8) i (some (g_ad G (63 + o))))) (M2 := f_kpM M 2 i j) ⟨F, ja, jb, jg, jc, ji, jt, jp, jr, ⟨v_Js.oth js.1 (fun i hi => pk_un (by omega)) (fun i hi => pk_un (by omega)) (fun i hi => pk_uLn (by omega)), v_Js.oth js.2.1 (fun i hi => pk_un (by omega)) (fun i hi => pk_un (by omega)) (fun i hi => pk_uLn (by omega)), w1⟩, jl, jq⟩ a (r_keM_ok (s := 2) (by omega) h8 hj (by omega) h5 hs9 hy m1 m4 hb) rfl
        | false =>
          rw [hb, if_neg Bool.false_ne_true, if_neg Bool.false_ne_true] at a
          exact v_ok hJ0 a (r_keM_oth (s := 2) (by omega) h8 hj (by omega) h5 hs9 hy m1 m4 hb) rfl
      · refine v_ok hJ0 (r_X11_keep2_out hq hf h1 h2 (fun i9 n9 e1 e2 hle => hv ?_)) (r_keM_out (s := 2) (by omega) h8 hi.1 hge (fun z => hv ((f_isF (by omega)).mp (by rw [h3] at z; exact z)))) rfl
        have e3 : 1 = n9 := nI_inj9 (by omega) (by omega) e2
        rw [e1]
        exact vp_in_nI (by omega) (by omega)
theorem v_kept2 (hJ : v_J G C M ob) : v_Ok Value.long mX11_kept mX12_kept [.int 2, .int y2] G C M ob := by
  have hJ0 := hJ
  have hq := hJ.qs
  obtain ⟨hn, hp, h69, hp9, h699⟩ := hJ.cube
  obtain ⟨F, ja, jb, jg, jc, ji, jt, jp, jr, js, jl, jq⟩ := hJ
  have j0 : v_Js G ob (C.2.1 5) (C.2.1 8) (C.1 14) (C.2.2.2.2.2 8) (M.2.2.2.1 9 2) (M.2.2.2.1 10 2) (M.2.2.2.1 11) (M.2.2.2.1 12) (M.2.2.2.2 3) (6 * 2) := js.2.2
  obtain ⟨p1, p2⟩ := j0.p
  by_cases hv : vp_in y2 (C.1 14)
  · have hy := (f_isF (by omega)).mpr hv
    rw [← p2] at hy
    obtain ⟨i, hi6, rfl⟩ := vp_in_of hv (by omega)
    rcases j0 with ⟨h1, h2, h3, h4⟩ | ⟨h1, h2, h3, ⟨s9, hs9, h4, h5⟩, h6⟩
    · exact absurd hi6 (by omega)
    · rcases h6 i hi6 with ⟨e1, e2⟩ | ⟨T, ⟨o, e1, ho⟩, m1, m2, m3, m4, m5⟩
      · exact v_ok hJ0 (r_X11_kept2_none hq p1 hi6 e1) (r_ktM_none (s := 2) (i := i) (by omega) (by omega) hy (by rw [e2]; decide)) rfl
      · refine v_ok hJ0 (r_X11_kept2 (o := 25 + o) (T := T) hq h699 p1 hi6 (by rw [e1, v_38]) (by rw [v_ob_at]; exact ho) m4) (r_ktM (s := 2) (i := i) (by omega) (by omega) h69 hy m1 m4 m2 m5 m3) ?_
        show f_setsOf (C.1 0) T.1 (nI T.2.1) T.2.2 = _
        rw [hn]
        exact (f_setsOf_M h69 m4 m5).1
  · exact v_ok hJ0 (r_X11_kept2_out hq p1 hv) (r_ktM_b1 (s := 2) (by omega) (fun z => hv ((f_isF (by omega)).mp (by rw [p2] at z; exact z)))) rfl
theorem v_b3 {y : Int32} (hy : y.toInt < 0 ∨ 2 < y.toInt) : ¬ vp_in y 3 ∧ ¬ ((0 : Int32) ≤ y ∧ y ≤ 2) := ⟨by rw [vp_in_iff]; omega, fun z => by simp only [v_it, v_il, v_zm1, v_z0, v_z1, v_z2, v_z3, v_z4, v_z5, v_z6, v_z8, v_z9, v_z12, v_z20, v_z32, v_z80, v_z100, v_z126, v_z2000000000] at z; omega⟩
theorem v_shelf (hJ : v_J G C M ob) : v_Ok Value.int mX11_shelf mX12_shelf [.int y, .int y2, .int y3] G C M ob := by
  rcases v_c2 y with hy | rfl | rfl | rfl
  · exact v_ok hJ (r_X11_shelf_bad (v_b3 hy).1) (r_shM_b0 (v_b3 hy).2) rfl
  · exact v_shelf0 hJ
  · exact v_shelf1 hJ
  · exact v_shelf2 hJ
theorem v_kept (hJ : v_J G C M ob) : v_Ok Value.long mX11_kept mX12_kept [.int y, .int y2] G C M ob := by
  rcases v_c2 y with hy | rfl | rfl | rfl
  · exact v_ok hJ (r_X11_kept_bad (v_b3 hy).1) (r_ktM_b0 (v_b3 hy).2) rfl
  · exact v_kept0 hJ
  · exact v_kept1 hJ
  · exact v_kept2 hJ
theorem v_keep (hJ : v_J G C M ob) : v_Ok Value.int mX11_keep mX12_keep [.int y, .int y2, .int y3] G C M ob := by
  obtain ⟨hm, h8, h89⟩ := hJ.many
  rcases v_c2 y with hy | rfl | rfl | rfl
  · rcases v_fam hJ y3 with ⟨b1, b2⟩ | ⟨j, o, T, rfl, hf, hi, ho⟩
    · exact v_ok hJ (r_X11_keep_bad1 (v_b3 hy).1 h89 b1) (r_keM_b0 (v_b3 hy).2) rfl
    · exact v_ok hJ (r_X11_keep_bad2 (v_b3 hy).1 hf) (r_keM_b0 (v_b3 hy).2) rfl
  · exact v_keep0 hJ
  · exact v_keep1 hJ
  · exact v_keep2 hJ
end VF1
