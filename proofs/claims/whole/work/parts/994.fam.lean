/-! calls that bring families, the tape, the paper, the image: both sides answer alike -/
section VC1
variable {G : g_G} {C : f_C} {M : f_M} {ob : List va_E} {y y2 y3 y4 y5 : Int32} {x : Int64}
theorem v_ups {f : Nat → Option Nat} {k : Nat} {v : Option Nat} : va_up f k v k = v := if_pos rfl
theorem v_upn {f : Nat → Option Nat} {k j : Nat} {v : Option Nat} (h : j ≠ k) : va_up f k v j = f j := if_neg h
theorem v_bring (hJ : v_J G C M ob) (M0 : f_M) (x : Int64) : ∃ ob2, v_J G (f_brC G C (g_hm G M0 ++ ob)) (f_coM M x) ob2 ∧ f_brT C (g_hm G M0 ++ ob) x = g_hm G M0 ++ ob2 ∧ f_brA C = (if M.1 1 = 8 then -3 else nI (M.1 1)) := by
  obtain ⟨F, ja, jb, jg, jc, ji, jt, jp, jr, js, jl, jq⟩ := hJ
  have em := jb.1
  by_cases h8 : M.1 1 = 8
  · have h8C : C.1 3 = 8 := em.trans h8
    refine ⟨ob, ?_, ?_, ?_⟩
    · unfold f_brC f_coM
      rw [if_pos h8C, if_pos h8]
      exact ⟨F, ja, jb, jg, jc, ji, jt, jp, jr, js, jl, jq⟩
    · unfold f_brT
      rw [if_pos h8C]
    · unfold f_brA
      rw [if_pos h8C, if_pos h8]
  · have h8C : ¬ C.1 3 = 8 := fun z => h8 (em.symm.trans z)
    have hl : v_le ob (ob ++ [c_Fa (0, 0, x)]) := v_le.push
    refine ⟨ob ++ [c_Fa (0, 0, x)], ?_, ?_, ?_⟩
    · unfold f_brC f_coM
      rw [if_neg h8C, if_neg h8, v_len]
      refine ⟨fun _ q => if q = M.1 1 then (0, 0, x) else F (M.1 4) q, ja, ⟨congrArg (· + 1) em, ?_, fun j hj => ?_, fun j hj => ?_⟩, jg, v_Jc.none (fun i hi => ⟨(jc.2.2.2.1 i hi).1.mono hl, (jc.2.2.2.1 i hi).2.mono hl⟩), ji.mono hl, jt, jp, jr, ⟨js.1.mono hl, js.2.1.mono hl, js.2.2.mono hl⟩, jl, jq⟩
      · have := jb.2.1
        show M.1 1 + 1 ≤ 8
        omega
      · show v_fo G (ob ++ [c_Fa (0, 0, x)]) (va_up (C.2.2.2.2.2 0) (C.1 3) (some (g_ad G (63 + ob.length))) j)
        by_cases e : j = C.1 3
        · rw [e, v_ups]
          exact v_ref.fo (v_ref.new (T := (0, 0, x)))
        · rw [v_upn e]
          exact (jb.2.2.1 j hj).mono hl
      · have hj2 : j < M.1 1 + 1 := hj
        show v_ref G (ob ++ [c_Fa (0, 0, x)]) (va_up (C.2.2.2.2.2 0) (C.1 3) (some (g_ad G (63 + ob.length))) j) (if j = M.1 1 then (0, 0, x) else F (M.1 4) j) ∧ v_row (upd (M.2.2.2.1 0) (M.1 1) 0) (upd (M.2.2.2.1 1) (M.1 1) 0) (vp_updL (M.2.2.2.2 0) (M.1 1) x) j (if j = M.1 1 then (0, 0, x) else F (M.1 4) j)
        by_cases e : j = M.1 1
        · subst e
          rw [if_pos rfl, em, v_ups]
          exact ⟨v_ref.new, pk_us, pk_us, pk_uLs, by show (0 : Nat) < 6; omega, by show (0 : Nat) < 10; omega⟩
        · rw [if_neg e, em, v_upn e]
          obtain ⟨a1, a2, a3, a4, a5⟩ := jb.2.2.2 j (by omega)
          exact ⟨a1.mono hl, (pk_un e).trans a2, (pk_un e).trans a3, (pk_uLn e).trans a4, a5⟩
    · unfold f_brT
      rw [if_neg h8C, List.append_assoc]
    · unfold f_brA
      rw [if_neg h8C, if_neg h8, em]
theorem v_come (hJ : v_J G C M ob) : v_Ok Value.int mX11_come mX12_come [.long x] G C M ob := by
  obtain ⟨hn, hp, h6, hp9, h69⟩ := hJ.cube
  obtain ⟨hm, h8, h89⟩ := hJ.many
  by_cases hx : x &&& (f_all (2 ^ M.1 0) ^^^ (-1)) = 0
  · obtain ⟨ob2, b1, b2, b3⟩ := v_bring hJ M x
    have a := r_X11_come (G := G) (C := C) (tl := g_hm G M ++ ob) (x := x) h69 h89 (by rw [hn]; exact hx)
    rw [b2] at a
    exact v_ok b1 a (r_comeM h6 h8 hx) b3
  · exact v_ok hJ (r_X11_come_bad h69 (by rw [hn]; exact hx)) (r_comeM_bad h6 hx) rfl
theorem v_press (hJ : v_J G C M ob) : v_Ok Value.int mX11_press mX12_press [.int y] G C M ob := by
  obtain ⟨hn, hp, h6, hp9, h69⟩ := hJ.cube
  obtain ⟨hm, h8, h89⟩ := hJ.many
  rcases v_fam hJ y with ⟨b1, b2⟩ | ⟨j, o, T, rfl, hf, hi, ho⟩
  · exact v_ok hJ (r_X11_press_bad h89 b1) (r_prM_out h8 b2) rfl
  · obtain ⟨e1, e2⟩ := v_so hJ hi
    have w := f_rest_M h6 hp 4096 (f_mso M T) 0 e2 (Nat.le_trans (f_phi_le _) (by omega))
    obtain ⟨ob2, b1, b2, b3⟩ := v_bring (hJ.mi1 (v := nI (f_rsM (M.1 0) 4096 (f_mso M T) 0).2)) M (f_rsM (M.1 0) 4096 (f_mso M T) 0).1
    have a := r_X11_press (G := G) (C := C) (tl := g_hm G M ++ ob) hf hp9 h69
    rw [e1, hn, ← w.1, b2] at a
    exact v_ok b1 a (r_prM (t := 4096) h6 hp hi w.2.1) b3
theorem v_first (hJ : v_J G C M ob) : v_Ok Value.int mX11_first mX12_first [.int y, .int y2] G C M ob := by
  obtain ⟨hn, hp, h6, hp9, h69⟩ := hJ.cube
  have p64 : 2 ^ M.1 0 ≤ 64 := Nat.pow_le_pow_right (n := 2) (by decide) h6
  have p0 : 0 < 2 ^ M.1 0 := Nat.two_pow_pos _
  have hk : (nI (2 ^ M.1 0)).toInt = ((2 ^ M.1 0 : Nat) : Int) := nI_toInt (by omega)
  obtain ⟨hm, h8, h89⟩ := hJ.many
  by_cases hc : (0 ≤ y.toInt ∧ y.toInt ≤ 3) ∧ 0 ≤ y2.toInt ∧ y2.toInt ≤ ((2 ^ M.1 0 : Nat) : Int)
  · obtain ⟨o9, ho, rfl⟩ := v_n (y := y) (n := 3) (by omega) hc.1.1 hc.1.2
    obtain ⟨m, hm9, rfl⟩ := v_n (y := y2) (n := 2 ^ M.1 0) (by omega) hc.2.1 hc.2.2
    obtain ⟨f2, k2, a⟩ := r_X11_first (G := G) (C := C) (tl := g_hm G M ++ ob) h69 h89 (o9 := o9) (m9 := m) (by omega) (by rw [hn]; exact hm9)
    obtain ⟨ob2, b1, b2, b3⟩ := v_bring (hJ.key0 (f := f2)) M (f_fiM o9 (M.1 0) m)
    have b4 : f_brT C (g_hm G M ++ ob) (f_fiM o9 (M.1 0) m) = g_hm G M ++ ob2 := b2
    rw [hn] at a k2
    rw [f_firsts_M h6 hp (by omega) k2 hm9, b4] at a
    exact v_ok b1 a (r_firM h6 hp (by omega) hm9 h8) b3
  · exact v_ok hJ (r_X11_first_out h69 (by rw [hn]; simp only [v_it, v_il, v_zm1, v_z0, v_z1, v_z2, v_z3, v_z4, v_z5, v_z6, v_z8, v_z9, v_z12, v_z20, v_z32, v_z80, v_z100, v_z126, v_z2000000000, hk, show (4 : Int32).toInt = 4 from rfl]; omega)) (r_firM_bad h6 (fun z => by simp only [v_it, v_il, v_zm1, v_z0, v_z1, v_z2, v_z3, v_z4, v_z5, v_z6, v_z8, v_z9, v_z12, v_z20, v_z32, v_z80, v_z100, v_z126, v_z2000000000, hk] at z; omega)) rfl
theorem v_drop (hJ : v_J G C M ob) : v_Ok Value.int mX11_drop mX12_drop [] G C M ob := by
  obtain ⟨hm, h8, h89⟩ := hJ.many
  rcases Nat.eq_zero_or_pos (M.1 1) with h0 | h0
  · exact v_ok hJ (r_X11_drop0 (hm.trans h0)) (r_dropM0 h0) rfl
  · obtain ⟨m9, e⟩ : ∃ m9, M.1 1 = m9 + 1 := ⟨M.1 1 - 1, by omega⟩
    refine v_ok (C2 := f_un (f_un (f_un C 3 m9) 4 0) 5 0) (M2 := f_mn (f_mn (f_mn M 1 m9) 4 0) 5 0) ?_ (r_X11_drop (hm.trans e) (by omega)) (r_dropM e (by omega)) rfl
    obtain ⟨F, ja, jb, jg, jc, ji, jt, jp, jr, js, jl, jq⟩ := hJ
    exact ⟨fun _ => F (M.1 4), ja, ⟨rfl, by show m9 ≤ 8; omega, jb.2.2.1, fun j hj => jb.2.2.2 j (by have hj2 : j < m9 := hj; omega)⟩, jg, v_Jc.none jc.2.2.2.1, ji, jt, jp, jr, js, jl, jq⟩
theorem v_cube (hJ : v_J G C M ob) : v_Ok Value.int mX11_cube mX12_cube [.int y] G C M ob := by
  obtain ⟨hn, hp, h6, hp9, h69⟩ := hJ.cube
  by_cases hc : 1 ≤ y.toInt ∧ y.toInt ≤ 6
  · obtain ⟨n9, h9, rfl⟩ := v_n (y := y) (n := 6) (by omega) (by omega) hc.2
    rw [nI_toInt (by omega)] at hc
    refine v_ok (C2 := f_un (f_un (f_un (f_un C 0 n9) 3 0) 4 0) 5 0) (M2 := f_mn (f_mn (f_mn (f_mn M 0 n9) 1 0) 4 0) 5 0) ?_ (r_X11_cube_in (by omega) h9) (r_cubeM (by omega) h9) (by rw [hn])
    obtain ⟨F, ja, jb, jg, jc, ji, jt, jp, jr, js, jl, jq⟩ := hJ
    exact ⟨F, ⟨rfl, by show 1 ≤ n9; omega, h9⟩, ⟨rfl, by show 0 ≤ 8; omega, jb.2.2.1, fun j hj => absurd hj (Nat.not_lt_zero j)⟩, jg, v_Jc.none jc.2.2.2.1, ji, jt, jp, jr, js, jl, jq⟩
  · exact v_ok hJ (r_X11_cube_out (by simp only [v_it, v_il, v_zm1, v_z0, v_z1, v_z2, v_z3, v_z4, v_z5, v_z6, v_z8, v_z9, v_z12, v_z20, v_z32, v_z80, v_z100, v_z126, v_z2000000000]; omega)) (r_cubeM_out (fun z => by simp only [v_it, v_il, v_zm1, v_z0, v_z1, v_z2, v_z3, v_z4, v_z5, v_z6, v_z8, v_z9, v_z12, v_z20, v_z32, v_z80, v_z100, v_z126, v_z2000000000] at z; omega)) rfl
theorem v_wipe (hJ : v_J G C M ob) : v_Ok Value.int mX11_wipe mX12_wipe [] G C M ob := by
  obtain ⟨F, ja, jb, jg, jc, ji, jt, jp, jr, js, jl, jq⟩ := hJ
  refine v_ok (C2 := f_un C 10 0) (M2 := f_mn M 9 0) ⟨F, ja, jb, jg, jc, ji, ⟨rfl, by show 0 ≤ 80; omega, fun _ => 0, fun k hk => absurd hk (Nat.not_lt_zero k)⟩, jp, jr, js, jl, jq⟩ r_X11_wipe r_wipeM (by rw [jt.1])
theorem v_feed (hJ : v_J G C M ob) : v_Ok Value.int mX11_feed mX12_feed [.int y] G C M ob := by
  have hJ0 := hJ
  obtain ⟨F, ja, jb, jg, jc, ji, jt, jp, jr, js, jl, jq⟩ := hJ
  obtain ⟨t1, t2, tp, t3⟩ := jt
  by_cases hc : 32 ≤ y.toInt ∧ y.toInt ≤ 126
  · have q1 : ¬ y < 32 := by simp only [v_it, v_il, v_zm1, v_z0, v_z1, v_z2, v_z3, v_z4, v_z5, v_z6, v_z8, v_z9, v_z12, v_z20, v_z32, v_z80, v_z100, v_z126, v_z2000000000]; omega
    have q2 : y ≤ 126 := by simp only [v_it, v_il, v_zm1, v_z0, v_z1, v_z2, v_z3, v_z4, v_z5, v_z6, v_z8, v_z9, v_z12, v_z20, v_z32, v_z80, v_z100, v_z126, v_z2000000000]; omega
    have q3 : (32 : Int32) ≤ y ∧ y ≤ 126 := by simp only [v_it, v_il, v_zm1, v_z0, v_z1, v_z2, v_z3, v_z4, v_z5, v_z6, v_z8, v_z9, v_z12, v_z20, v_z32, v_z80, v_z100, v_z126, v_z2000000000]; omega
    by_cases h80 : M.1 9 = 80
    · exact v_ok hJ0 (r_X11_feed_full q1 q2 (t1.trans h80)) (r_feedM_full q3 h80) rfl
    · obtain ⟨c9, h9, rfl⟩ := v_n (y := y) (n := 126) (by omega) (by omega) hc.2
      refine v_ok (C2 := f_un (f_uI C 5 (upd (C.2.2.2.1 5) (C.1 10) (vp_nar .byte (nI c9).toInt8.toInt32))) 10 (C.1 10 + 1)) (M2 := f_mn (f_mI M 7 (upd (M.2.2.2.1 7) (M.1 9) (nI c9))) 9 (M.1 9 + 1)) ⟨F, ja, jb, jg, jc, ji, ⟨congrArg (· + 1) t1, by show M.1 9 + 1 ≤ 80; omega, fun k => if k = M.1 9 then c9 else tp k, fun k hk => ?_⟩, jp, jr, js, jl, jq⟩ (r_X11_feed q1 q2 (by omega)) (r_feedM q3 (by omega)) (by rw [t1])
      have hk2 : k < M.1 9 + 1 := hk
      show upd (C.2.2.2.1 5) (C.1 10) (vp_nar .byte (nI c9).toInt8.toInt32) k = nI (if k = M.1 9 then c9 else tp k) ∧ upd (M.2.2.2.1 7) (M.1 9) (nI c9) k = nI (if k = M.1 9 then c9 else tp k) ∧ (if k = M.1 9 then c9 else tp k) ≤ 126
      rw [f_byte (by omega), t1]
      by_cases e : k = M.1 9
      · rw [if_pos e, e]
        exact ⟨pk_us, pk_us, h9⟩
      · rw [if_neg e, pk_un e, pk_un e]
        exact t3 k (by omega)
  · exact v_ok hJ0 (r_X11_feed_out (by simp only [v_it, v_il, v_zm1, v_z0, v_z1, v_z2, v_z3, v_z4, v_z5, v_z6, v_z8, v_z9, v_z12, v_z20, v_z32, v_z80, v_z100, v_z126, v_z2000000000]; omega)) (r_feedM_bad (fun z => by simp only [v_it, v_il, v_zm1, v_z0, v_z1, v_z2, v_z3, v_z4, v_z5, v_z6, v_z8, v_z9, v_z12, v_z20, v_z32, v_z80, v_z100, v_z126, v_z2000000000] at z; omega)) rfl
theorem v_write (hJ : v_J G C M ob) : v_Ok Value.int mX11_write mX12_write [.int y] G C M ob := by
  obtain ⟨hn, hp, h6, hp9, h69⟩ := hJ.cube
  obtain ⟨hm, h8, h89⟩ := hJ.many
  rcases v_fam hJ y with ⟨b1, b2⟩ | ⟨j, o, T, rfl, hf, hi, ho⟩
  · exact v_ok hJ (r_X11_write_bad h89 b1) (r_wriM_out h8 b2) rfl
  · obtain ⟨e1, e2⟩ := v_so hJ hi
    have et : f_pg (C.1 0) (f_so C T) (2 ^ C.1 0) 0 [] = f_wr2 (M.1 0) (f_mso M T) (2 ^ M.1 0) := by rw [e1, hn]; exact f_text_M h6
    have e256 := f_text_256 (n := M.1 0) (x := f_mso M T) h6
    have a := r_X11_write (G := G) (C := C) (tl := g_hm G M ++ ob) hf h69 (by rw [et]; exact e256)
    rw [et] at a
    refine v_ok (C2 := f_wr (f_un C 11 0) (f_wr2 (M.1 0) (f_mso M T) (2 ^ M.1 0))) (M2 := f_wM M (f_wr2 (M.1 0) (f_mso M T) (2 ^ M.1 0))) ?_ a (r_wriM h6 hi) rfl
    generalize f_wr2 (M.1 0) (f_mso M T) (2 ^ M.1 0) = l at e256
    obtain ⟨F, ja, jb, jg, jc, ji, jt, jp, jr, js, jl, jq⟩ := hJ
    refine ⟨F, ja, jb, jg, jc, ji, jt, ⟨Nat.zero_add _, e256, fun k hk => ?_⟩, jr, js, jl, jq⟩
    have hk2 : k < l.length := hk
    have w1 := f_lay_at l (C.2.2.2.1 6) 0 k l[k] (List.getElem?_eq_getElem hk2)
    have w2 := f_lay_at l (M.2.2.2.1 8) 0 k l[k] (List.getElem?_eq_getElem hk2)
    rw [Nat.zero_add] at w1 w2
    exact w1.trans w2.symm
theorem v_J.rd {r : Bool × Int64 × Nat} (h : v_J G C M ob) : v_J G (f_un C 10 0) (f_mn (f_rsM2 M r) 9 0) ob := by
  obtain ⟨F, ja, jb, jg, jc, ji, jt, jp, jr, js, jl, jq⟩ := h
  exact ⟨F, ja, jb, jg, jc, ji, ⟨rfl, by show 0 ≤ 80; omega, fun _ => 0, fun k hk => absurd hk (Nat.not_lt_zero k)⟩, jp, jr, js, jl, jq⟩
theorem v_read (hJ : v_J G C M ob) : v_Ok Value.int mX11_read mX12_read [] G C M ob := by
  obtain ⟨hn, hp, h6, hp9, h69⟩ := hJ.cube
  obtain ⟨hm, h8, h89⟩ := hJ.many
  have hJ0 := hJ
  obtain ⟨F, ja, jb, jg, jc, ji, jt, jp, jr, js, jl, jq⟩ := hJ
  obtain ⟨t1, t2, tp, t3⟩ := jt
  have w := f_read_M (n := M.1 0) (fed := M.1 9) (f := C.2.2.2.1 5) (tp := tp) h6 (fun k hk => ⟨(t3 k hk).1, (t3 k hk).2.2⟩)
  have htp : ∀ k, k < M.1 9 → M.2.2.2.1 7 k = nI (tp k) ∧ tp k ≤ 126 := fun k hk => (t3 k hk).2
  have ef : f_fa (C.1 0) (C.2.2.2.1 5) (C.1 10) 0 (-1) = f_fa (M.1 0) (C.2.2.2.1 5) (M.1 9) 0 (-1) := by rw [hn, t1]
  cases hb : ((f_reS M tp).1 && decide ((f_reS M tp).2.2 = M.1 9)) with
  | true =>
    obtain ⟨w1, w2⟩ := w.1 hb
    obtain ⟨ob2, b1, b2, b3⟩ := v_bring (hJ0.rd (r := f_reS M tp)) M (f_reS M tp).2.1
    have a := r_X11_read (G := G) (C := C) (tl := g_hm G M ++ ob) (by omega) h89 (by rw [ef, w1]; decide)
    have b4 : f_brT C (g_hm G M ++ ob) (f_reS M tp).2.1 = g_hm G M ++ ob2 := b2
    have w3 : f_st (C.2.2.2.1 5) (C.1 10) 0 0 0 = (f_reS M tp).2.1 := by rw [t1]; exact w2
    rw [w3, b4] at a
    exact v_ok b1 a (r_readM_ok h8 h6 t2 htp hb) b3
  | false =>
    have w1 := w.2 hb
    have w1 : f_fa (M.1 0) (C.2.2.2.1 5) (M.1 9) 0 (-1) = nI (f_reS M tp).2.2 := w1
    have hle : (f_reS M tp).2.2 ≤ M.1 9 := f_rdA_a _ _ _ _ _ (f_rsS_a (Nat.zero_le _)).2
    exact v_ok hJ0.rd (r_X11_read_fault (by omega) (by rw [ef, w1]; exact nI_pos' (by omega))) (r_readM_no trivial h6 t2 htp hb) (by rw [ef, w1])
theorem v_cpI {A B : Nat → Int32} : ∀ m t, t < m → f_cpI A B m t = B t
  | 0, t, h => absurd h (Nat.not_lt_zero t)
  | m + 1, t, h => by
    rw [f_cpI]
    by_cases e : t = m
    · rw [e]; exact pk_us
    · rw [pk_un e]; exact v_cpI m t (by omega)
theorem v_cpL {A B : Nat → Int64} : ∀ m t, t < m → f_cpL A B m t = B t
  | 0, t, h => absurd h (Nat.not_lt_zero t)
  | m + 1, t, h => by
    rw [f_cpL]
    by_cases e : t = m
    · rw [e]; exact pk_uLs
    · rw [pk_uLn e]; exact v_cpL m t (by omega)
theorem v_image (hJ : v_J G C M ob) : v_Ok Value.int mX11_image mX12_image [] G C M ob := by
  obtain ⟨hm, h8, h89⟩ := hJ.many
  obtain ⟨F, ja, jb, jg, jc, ji, jt, jp, jr, js, jl, jq⟩ := hJ
  obtain ⟨f2, h2, a⟩ := r_X11_image (G := G) (C := C) (tl := g_hm G M ++ ob) (fun j hj => (jb.2.2.1 j hj).fo)
  refine v_ok (C2 := f_un (f_un (f_uR C 3 f2) 6 (C.1 3)) 7 (C.1 0)) (M2 := f_imM M) ⟨F, ja, jb, jg, jc, ⟨fun j hj => ?_, Or.inr ⟨by show ¬ (1 : Int32) = 0; decide, ja.1, hm, ja.2.1, ja.2.2, h8, F (M.1 4), fun j hj => ?_⟩⟩, jt, jp, jr, js, jl, jq⟩ a (r_imM h8) (by rw [hm])
  · show v_fo G ob (f2 j)
    rw [h2 j hj]
    exact jb.2.2.1 j hj
  · have hj2 : j < M.1 1 := hj
    obtain ⟨a1, a2, a3, a4, a5⟩ := jb.2.2.2 j hj2
    refine ⟨?_, (v_cpI _ j hj2).trans a2, (v_cpI _ j hj2).trans a3, (v_cpL _ j hj2).trans a4, a5⟩
    show v_ref G ob (f2 j) _
    rw [h2 j (by omega)]
    exact a1
theorem v_back (hJ : v_J G C M ob) : v_Ok Value.int mX11_back mX12_back [] G C M ob := by
  have hJ0 := hJ
  obtain ⟨F, ja, jb, jg, jc, ji, jt, jp, jr, js, jl, jq⟩ := hJ
  obtain ⟨i1, ⟨i2, i3⟩ | ⟨i2, i3, i4, i5, i6, i7, E, i8⟩⟩ := ji
  · exact v_ok hJ0 (r_X11_back_none i3) (r_baM0 i2) rfl
  · obtain ⟨f2, h2, a⟩ := r_X11_back (G := G) (C := C) (tl := g_hm G M ++ ob) (fun j hj => (i1 j hj).fo) (by omega) (by omega)
    refine v_ok (C2 := f_un (f_un (f_un (f_uR (f_un C 0 (C.1 7)) 0 f2) 3 (C.1 6)) 4 0) 5 0) (M2 := f_baM M) ⟨fun _ => E, ⟨i3, i5, i6⟩, ⟨i4, i7, fun j hj => ?_, fun j hj => ?_⟩, jg, v_Jc.none jc.2.2.2.1, ⟨i1, Or.inr ⟨i2, i3, i4, i5, i6, i7, E, i8⟩⟩, jt, jp, jr, js, jl, jq⟩ a (r_baM i2 i7) (by rw [i4])
    · show v_fo G ob (f2 j)
      rw [h2 j hj]
      exact i1 j hj
    · have hj2 : j < M.1 3 := hj
      obtain ⟨a1, a2, a3, a4, a5⟩ := i8 j hj2
      refine ⟨?_, (v_cpI _ j hj2).trans a2, (v_cpI _ j hj2).trans a3, (v_cpL _ j hj2).trans a4, a5⟩
      show v_ref G ob (f2 j) _
      rw [h2 j (by omega)]
      exact a1
theorem v_choose {P : Nat → Nat → Prop} {m : Nat} (h : ∀ j, j < m → ∃ o, P j o) : ∃ p : Nat → Nat, ∀ j, j < m → P j (p j) :=
  ⟨fun j => if hj : j < m then Classical.choose (h j hj) else 0, fun j hj => by
    show P j (dite (j < m) _ _)
    rw [dif_pos hj]
    exact Classical.choose_spec (h j hj)⟩
theorem v_alk {k9 g9 k8 g8 : Nat → Int32} {t9 t8 : Nat → Int64} : ∀ m i, f_alike k9 g9 k8 g8 t9 t8 m i = true ↔ ∀ s, i ≤ s → s < i + m → k9 s = k8 s ∧ g9 s = g8 s ∧ t9 s = t8 s
  | 0, i => ⟨fun _ s h1 h2 => absurd h2 (by omega), fun _ => rfl⟩
  | m + 1, i => by
    rw [f_alike]
    by_cases hc : k9 i = k8 i ∧ g9 i = g8 i ∧ t9 i = t8 i
    · rw [if_pos hc, v_alk m (i + 1)]
      refine ⟨fun h s h1 h2 => ?_, fun h s h1 h2 => h s (by omega) (by omega)⟩
      by_cases e : s = i
      · rw [e]; exact hc
      · exact h s (by omega) (by omega)
    · rw [if_neg hc]
      exact ⟨fun h => Bool.noConfusion h, fun h => absurd (h i (Nat.le_refl _) (by omega)) hc⟩
theorem v_alike (hJ : v_J G C M ob) : v_Ok Value.int mX11_alike mX12_alike [] G C M ob := by
  obtain ⟨hn, hp, h6, hp9, h69⟩ := hJ.cube
  obtain ⟨hm, h8, h89⟩ := hJ.many
  have hJ0 := hJ
  obtain ⟨F, ja, jb, jg, jc, ji, jt, jp, jr, js, jl, jq⟩ := hJ
  obtain ⟨i1, ⟨i2, i3⟩ | ⟨i2, i3, i4, i5, i6, i7, E, i8⟩⟩ := ji
  · exact v_ok hJ0 (r_X11_alike_none i3) (r_alM0 i2) rfl
  · have hB := r_alM (G := G) (C := C) (M := M) (ob := ob) i2 h8 i7 h6 i6
    by_cases e1 : M.1 0 = M.1 2
    · by_cases e2 : M.1 1 = M.1 3
      · obtain ⟨p9, hp9⟩ := v_choose (P := fun j o => C.2.2.2.2.2 0 j = some (g_ad G (38 + o)) ∧ (g_hm G M ++ ob)[o]? = some (c_Fa (F (M.1 4) j))) (m := M.1 1) (fun j hj => by
          obtain ⟨o, q1, q2⟩ := (jb.2.2.2 j hj).1
          exact ⟨25 + o, by rw [q1, v_38], by rw [v_ob_at]; exact q2⟩)
        obtain ⟨p8, hp8⟩ := v_choose (P := fun j o => C.2.2.2.2.2 3 j = some (g_ad G (38 + o)) ∧ (g_hm G M ++ ob)[o]? = some (c_Fa (E j))) (m := M.1 1) (fun j hj => by
          obtain ⟨o, q1, q2⟩ := (i8 j (by omega)).1
          exact ⟨25 + o, by rw [q1, v_38], by rw [v_ob_at]; exact q2⟩)
        refine v_ok hJ0 (r_X11_alike (F := F (M.1 4)) (E := E) (p9 := p9) (p8 := p8) (by omega) (by omega) (by omega) h89 (by omega) (fun j hj => hp9 j (by omega)) (fun j hj => hp8 j (by omega))) hB ?_
        refine f_isI (b := true) ?_
        rw [v_alk, f_alF_T, hm]
        have eb : f_alB M = true := by unfold f_alB; rw [decide_eq_true e1, decide_eq_true e2]; rfl
        rw [eb]
        have ec : ∀ s, s < M.1 1 → (f_alC M s = true ↔ (nI (F (M.1 4) s).1 = nI (E s).1 ∧ nI (F (M.1 4) s).2.1 = nI (E s).2.1 ∧ (F (M.1 4) s).2.2 = (E s).2.2)) := fun s hs => by
          obtain ⟨-, a2, a3, a4, -⟩ := jb.2.2.2 s hs
          obtain ⟨-, c2, c3, c4, -⟩ := i8 s (by omega)
          unfold f_alC
          rw [a2, a3, a4, c2, c3, c4, Bool.and_eq_true, Bool.and_eq_true, decide_eq_true_iff, decide_eq_true_iff, decide_eq_true_iff]
        exact ⟨fun h => ⟨rfl, fun s hs => (ec s hs).mpr (h s (Nat.zero_le _) (by omega))⟩, fun h s _ hs => (ec s (by omega)).mp (h.2 s (by omega))⟩
      · refine v_ok hJ0 (r_X11_alike_m (by omega) (by omega) (by omega) h89 (by omega) (by omega)) hB ?_
        have eb : f_alF (f_alB M) (f_alC M) 0 = false := by show f_alB M = false; unfold f_alB; rw [decide_eq_false e2, Bool.and_false]
        have ew := f_alF_false eb (M.1 1)
        rw [Nat.zero_add] at ew
        rw [ew]; rfl
    · refine v_ok hJ0 (r_X11_alike_n (by omega) (by omega) h69 (by omega)) hB ?_
      have eb : f_alF (f_alB M) (f_alC M) 0 = false := by show f_alB M = false; unfold f_alB; rw [decide_eq_false e1, Bool.false_and]
      have ew := f_alF_false eb (M.1 1)
      rw [Nat.zero_add] at ew
      rw [ew]; rfl
theorem v_Js.th {th so so2 ma : Int32} {p o : Nat} {R : Nat → Option Nat} {A B : Nat → Int32} {D : Nat → Int64} (h : v_Js G ob th so p R so2 ma A B D o) : (if th = 0 then (0 : Int32) else 1) = nI (Bool.toNat (decide (0 ≤ so2))) := by
  rcases h with ⟨h1, -, h2, -⟩ | ⟨h1, -, -, ⟨s9, h2, -, h3⟩, -⟩
  · rw [if_pos h1, h2]; decide
  · rw [if_neg h1, h3, decide_eq_true (nI_pos' (by omega))]; rfl
theorem v_Jl.th {th so so2 ma : Int32} {p o : Nat} {L L2 : Nat → Int64} (h : v_Jl th so p L so2 ma L2 o) : (if th = 0 then (0 : Int32) else 1) = nI (Bool.toNat (decide (0 ≤ so2))) := by
  rcases h with ⟨h1, -, h2, -⟩ | ⟨h1, -, -, ⟨s9, h2, -, h3⟩, -⟩
  · rw [if_pos h1, h2]; decide
  · rw [if_neg h1, h3, decide_eq_true (nI_pos' (by omega))]; rfl
theorem v_count (hJ : v_J G C M ob) : v_Ok Value.int mX11_count mX12_count [.int y] G C M ob := by
  have hJ0 := hJ
  have hq := hJ.qs
  obtain ⟨F, ja, jb, jg, jc, ji, jt, jp, jr, js, jl, jq⟩ := hJ
  rcases v_c7 y with hy | rfl | rfl | rfl | rfl | rfl | rfl | rfl | rfl
  · exact v_ok hJ0 (r_X11_count_out hy) (r_cntM_bad hy) rfl
  · exact v_ok hJ0 (r_X11_count0 hq) r_cntM0 (by rw [jb.1])
  · exact v_ok hJ0 (r_X11_count1 hq) r_cntM1 (by rw [ja.1])
  · exact v_ok hJ0 (r_X11_count2 hq) r_cntM2 (by rw [jc.1])
  · exact v_ok hJ0 (r_X11_count3 hq) r_cntM3 (by rw [jc.2.1, jc.1, pk_sub (by omega), Nat.add_sub_cancel_left])
  · exact v_ok hJ0 (r_X11_count4 hq) r_cntM4 (by rw [jt.1])
  · exact v_ok hJ0 (r_X11_count5 hq) r_cntM5 (by rw [jp.1])
  · refine v_ok hJ0 (r_X11_count6 hq) r_cntM6 ?_
    have e0 : (if C.2.1 3 = 0 then (0 : Int32) else 1) = nI (Bool.toNat (decide (0 ≤ M.2.2.2.1 9 0))) := v_Js.th js.1
    have e1 : (if C.2.1 4 = 0 then (0 : Int32) else 1) = nI (Bool.toNat (decide (0 ≤ M.2.2.2.1 9 1))) := v_Js.th js.2.1
    have e2 : (if C.2.1 5 = 0 then (0 : Int32) else 1) = nI (Bool.toNat (decide (0 ≤ M.2.2.2.1 9 2))) := v_Js.th js.2.2
    unfold f_th
    rw [e0, e1, e2, nI_add, nI_add, f_th3, f_th3, f_th3, f_th3, Nat.zero_add]
  · refine v_ok hJ0 (r_X11_count7 hq) r_cntM7 ?_
    have e0 : (if C.2.1 9 = 0 then (0 : Int32) else 1) = nI (Bool.toNat (decide (0 ≤ M.2.2.2.1 15 0))) := v_Jl.th jl.1
    have e1 : (if C.2.1 10 = 0 then (0 : Int32) else 1) = nI (Bool.toNat (decide (0 ≤ M.2.2.2.1 15 1))) := v_Jl.th jl.2.1
    have e2 : (if C.2.1 11 = 0 then (0 : Int32) else 1) = nI (Bool.toNat (decide (0 ≤ M.2.2.2.1 15 2))) := v_Jl.th jl.2.2
    unfold f_th
    rw [e0, e1, e2, nI_add, nI_add, f_th3, f_th3, f_th3, f_th3, Nat.zero_add]
end VC1
