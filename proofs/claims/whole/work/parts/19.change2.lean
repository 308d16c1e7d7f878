/-! Changes: note, steps; areLike -/
section HC2
variable {G : g_G} {h : List va_E} {a b ka kb kc n : Nat} {i y y2 y3 y4 : Int32} {fI : Nat → Int32} {fB fA f : Nat → Option Nat}
theorem nf_I {G : g_G} {m9 : Nat} (f9 : Nat → Int32) (fs : List Value) : (c_I G m9 f9 : va_E) ≠ c_O 5 fs := fun z => by cases z
theorem nf_L {G : g_G} {m9 : Nat} (f9 : Nat → Int64) (fs : List Value) : (c_L G m9 f9 : va_E) ≠ c_O 5 fs := fun z => by cases z
theorem nf_Q {G : g_G} {m9 t9 : Nat} (f9 : Nat → Option Nat) (fs : List Value) : (c_Q G t9 m9 f9 : va_E) ≠ c_O 5 fs := fun z => by cases z
theorem nf_O {c9 : Nat} (hc : c9 ≠ 5) (fs0 fs : List Value) : (c_O c9 fs0 : va_E) ≠ c_O 5 fs := fun z => hc (by cases z; rfl)
/-- note, with room for one more -/
theorem r_note_room {dn hd o1 o2 : Nat} {fs1 fs2 : List Value} (hX : g_chg G h a ka kb kc dn hd fI fB fA) (hd9 : dn < 12) (ho1 : h[o1]? = some (c_O 5 fs1)) (ho2 : h[o2]? = some (c_O 5 fs2)) : ∃ h1 : List va_E, g_A G mX2_note 2 0 0 13 [(0, .ref (g_ad G a)), (1, .int y), (2, .ref (g_ad G o1)), (3, .ref (g_ad G o2))] [] h none h1 ∧ g_kp [a, ka, kb, kc] h h1 ∧ g_chg G h1 a ka kb kc (dn + 1) (dn + 1) (upd fI dn y) (va_up fB dn (some (g_ad G o1))) (va_up fA dn (some (g_ad G o2))) := by
  obtain ⟨x1, x2, x3, x4, x5, x6⟩ := hX
  obtain ⟨n1, n2, n3, n4, n5, n6⟩ := x5
  have cd : (nI dn).toNatClampNeg = dn := g_cl (by omega)
  have ind : vp_in (nI dn) 12 := vp_in_nI hd9 (by omega)
  have fam1 : g_fam G h (some (g_ad G o1)) := fun x7 hx7 => ⟨o1, fs1, (Option.some.inj hx7).symm, ho1⟩
  have fam2 : g_fam G h (some (g_ad G o2)) := fun x7 hx7 => ⟨o2, fs2, (Option.some.inj hx7).symm, ho2⟩
  obtain ⟨h2, eh2⟩ : ∃ h2, h2 = h.set ka (c_I G 12 (upd fI dn y)) := ⟨_, rfl⟩
  obtain ⟨h3, eh3⟩ : ∃ h3, h3 = h2.set kb (c_Q G 3 12 (va_up fB dn (some (g_ad G o1)))) := ⟨_, rfl⟩
  obtain ⟨h4, eh4⟩ : ∃ h4, h4 = h3.set kc (c_Q G 3 12 (va_up fA dn (some (g_ad G o2)))) := ⟨_, rfl⟩
  obtain ⟨h5, eh5⟩ : ∃ h5, h5 = h4.set a (c_O 2 [.ref (g_ad G ka), .ref (g_ad G kb), .ref (g_ad G kc), .int (nI (dn + 1)), .int (nI hd)]) := ⟨_, rfl⟩
  obtain ⟨h6, eh6⟩ : ∃ h6, h6 = h5.set a (c_O 2 [.ref (g_ad G ka), .ref (g_ad G kb), .ref (g_ad G kc), .int (nI (dn + 1)), .int (nI (dn + 1))]) := ⟨_, rfl⟩
  have a2 : h2[a]? = some (c_O 2 [.ref (g_ad G ka), .ref (g_ad G kb), .ref (g_ad G kc), .int (nI dn), .int (nI hd)]) := by rw [eh2]; exact g_set_ne (Ne.symm n1) x1
  have b2 : h2[ka]? = some (c_I G 12 (upd fI dn y)) := by rw [eh2]; exact g_set_eq x2
  have c2 : h2[kb]? = some (c_Q G 3 12 fB) := by rw [eh2]; exact g_set_ne n4 x3
  have d2 : h2[kc]? = some (c_Q G 3 12 fA) := by rw [eh2]; exact g_set_ne n5 x4
  have f2 : ∀ r, g_fam G h r → g_fam G h2 r := fun r hr => by rw [eh2]; exact hr.set x2 (nf_I _)
  have a3 : h3[a]? = some (c_O 2 [.ref (g_ad G ka), .ref (g_ad G kb), .ref (g_ad G kc), .int (nI dn), .int (nI hd)]) := by rw [eh3]; exact g_set_ne (Ne.symm n2) a2
  have b3 : h3[ka]? = some (c_I G 12 (upd fI dn y)) := by rw [eh3]; exact g_set_ne (Ne.symm n4) b2
  have c3 : h3[kb]? = some (c_Q G 3 12 (va_up fB dn (some (g_ad G o1)))) := by rw [eh3]; exact g_set_eq c2
  have d3 : h3[kc]? = some (c_Q G 3 12 fA) := by rw [eh3]; exact g_set_ne n6 d2
  have f3 : ∀ r, g_fam G h r → g_fam G h3 r := fun r hr => by rw [eh3]; exact (f2 r hr).set c2 (nf_Q _)
  have a4 : h4[a]? = some (c_O 2 [.ref (g_ad G ka), .ref (g_ad G kb), .ref (g_ad G kc), .int (nI dn), .int (nI hd)]) := by rw [eh4]; exact g_set_ne (Ne.symm n3) a3
  have b4 : h4[ka]? = some (c_I G 12 (upd fI dn y)) := by rw [eh4]; exact g_set_ne (Ne.symm n5) b3
  have c4 : h4[kb]? = some (c_Q G 3 12 (va_up fB dn (some (g_ad G o1)))) := by rw [eh4]; exact g_set_ne (Ne.symm n6) c3
  have d4 : h4[kc]? = some (c_Q G 3 12 (va_up fA dn (some (g_ad G o2)))) := by rw [eh4]; exact g_set_eq d3
  have f4 : ∀ r, g_fam G h r → g_fam G h4 r := fun r hr => by rw [eh4]; exact (f3 r hr).set d3 (nf_Q _)
  have a5 : h5[a]? = some (c_O 2 [.ref (g_ad G ka), .ref (g_ad G kb), .ref (g_ad G kc), .int (nI (dn + 1)), .int (nI hd)]) := by rw [eh5]; exact g_set_eq a4
  have f5 : ∀ r, g_fam G h r → g_fam G h5 r := fun r hr => by rw [eh5]; exact (f4 r hr).set a4 (nf_O (by decide) _)
  have b5 : h5[ka]? = some (c_I G 12 (upd fI dn y)) := by rw [eh5]; exact g_set_ne n1 b4
  have c5 : h5[kb]? = some (c_Q G 3 12 (va_up fB dn (some (g_ad G o1)))) := by rw [eh5]; exact g_set_ne n2 c4
  have d5 : h5[kc]? = some (c_Q G 3 12 (va_up fA dn (some (g_ad G o2)))) := by rw [eh5]; exact g_set_ne n3 d4
  have f6 : ∀ r, g_fam G h r → g_fam G h6 r := fun r hr => by rw [eh6]; exact (f5 r hr).set a5 (nf_O (by decide) _)
  have hup : ∀ (p9 : Nat → Option Nat) (r9 : Option Nat) (j : Nat), g_fam G h r9 → g_fam G h (p9 j) → g_fam G h6 (va_up p9 dn r9 j) := fun p9 r9 j hr hh => by
    by_cases e7 : j = dn
    · rw [e7, va_up_self]; exact f6 _ hr
    · rw [va_up_ne _ _ e7]; exact f6 _ hh
  refine ⟨h6, ?_, ?_, ?_⟩
  · skip
    refine a_aload_n 0 14 rfl dX2_note_13 rfl rfl ?_
    refine a_get 3 cl_2 f_RX2_24_2 (by decide) (x1) rfl 17 rfl dX2_note_14 ?_
    refine a_if_lt 56 20 rfl dX2_note_17 (by decide) (fun hc => absurd hc (nI_pos (by omega))) (fun _ => ?_)
    refine a_aload_n 0 21 rfl dX2_note_20 rfl rfl ?_
    refine a_get 3 cl_2 f_RX2_24_2 (by decide) (x1) rfl 24 rfl dX2_note_21 ?_
    refine a_aload_n 0 25 rfl dX2_note_24 rfl rfl ?_
    refine a_get 0 cl_2 f_RX2_9_2 (by decide) (x1) rfl 28 rfl dX2_note_25 ?_
    refine a_alen (y := 12) 0 (x2) rfl rfl 29 rfl dX2_note_28 ?_
    refine a_icmp_ge 56 32 rfl dX2_note_29 (by decide) (fun hc => absurd hc (nI_ge (b := 12) (by omega) (by omega))) (fun _ => ?_)
    refine a_aload_n 0 33 rfl dX2_note_32 rfl rfl ?_
    refine a_get 3 cl_2 f_RX2_24_2 (by decide) (x1) rfl 36 rfl dX2_note_33 ?_
    refine a_aload_n 0 37 rfl dX2_note_36 rfl rfl ?_
    refine a_get 1 cl_2 f_RX2_17_2 (by decide) (x1) rfl 40 rfl dX2_note_37 ?_
    refine a_alen (y := 12) 3 (x3) rfl rfl 41 rfl dX2_note_40 ?_
    refine a_icmp_ge 56 44 rfl dX2_note_41 (by decide) (fun hc => absurd hc (nI_ge (b := 12) (by omega) (by omega))) (fun _ => ?_)
    refine a_aload_n 0 45 rfl dX2_note_44 rfl rfl ?_
    refine a_get 3 cl_2 f_RX2_24_2 (by decide) (x1) rfl 48 rfl dX2_note_45 ?_
    refine a_aload_n 0 49 rfl dX2_note_48 rfl rfl ?_
    refine a_get 2 cl_2 f_RX2_21_2 (by decide) (x1) rfl 52 rfl dX2_note_49 ?_
    refine a_alen (y := 12) 3 (x4) rfl rfl 53 rfl dX2_note_52 ?_
    refine a_icmp_lt 57 56 rfl dX2_note_53 (by decide) (fun _ => ?_) (fun hc => absurd (nI_lt (b := 12) (by omega) (by omega)) hc)
    refine a_aload_n 0 58 rfl dX2_note_57 rfl rfl ?_
    refine a_get 0 cl_2 f_RX2_9_2 (by decide) (x1) rfl 61 rfl dX2_note_58 ?_
    refine a_aload_n 0 62 rfl dX2_note_61 rfl rfl ?_
    refine a_get 3 cl_2 f_RX2_24_2 (by decide) (x1) rfl 65 rfl dX2_note_62 ?_
    refine a_iload_n 1 66 rfl dX2_note_65 rfl rfl ?_
    refine a_iast (x2) (ind) 67 rfl dX2_note_66 ?_
    refine a_eq (h2 := h2) rfl rfl rfl (by rw [eh2, cd]) ?_
    refine a_aload_n 0 68 rfl dX2_note_67 rfl rfl ?_
    refine a_get 1 cl_2 f_RX2_17_2 (by decide) (a2) rfl 71 rfl dX2_note_68 ?_
    refine a_aload_n 0 72 rfl dX2_note_71 rfl rfl ?_
    refine a_get 3 cl_2 f_RX2_24_2 (by decide) (a2) rfl 75 rfl dX2_note_72 ?_
    refine a_aload_n 2 76 rfl dX2_note_75 rfl rfl ?_
    refine a_ast3R (r := some (g_ad G o1)) (c2) (f2 _ fam1) ind 77 rfl dX2_note_76 ?_
    refine a_eq (h2 := h3) rfl rfl rfl (by rw [eh3, cd]) ?_
    refine a_aload_n 0 78 rfl dX2_note_77 rfl rfl ?_
    refine a_get 2 cl_2 f_RX2_21_2 (by decide) (a3) rfl 81 rfl dX2_note_78 ?_
    refine a_aload_n 0 82 rfl dX2_note_81 rfl rfl ?_
    refine a_get 3 cl_2 f_RX2_24_2 (by decide) (a3) rfl 85 rfl dX2_note_82 ?_
    refine a_aload_n 3 86 rfl dX2_note_85 rfl rfl ?_
    refine a_ast3R (r := some (g_ad G o2)) (d3) (f3 _ fam2) ind 87 rfl dX2_note_86 ?_
    refine a_eq (h2 := h4) rfl rfl rfl (by rw [eh4, cd]) ?_
    refine a_aload_n 0 88 rfl dX2_note_87 rfl rfl ?_
    refine a_dup 89 rfl dX2_note_88 rfl ?_
    refine a_get 3 cl_2 f_RX2_24_2 (by decide) (a4) rfl 92 rfl dX2_note_89 ?_
    refine a_iconst (x := 1) 93 rfl dX2_note_92 (by decide) ?_
    refine a_iadd 94 rfl dX2_note_93 ?_
    refine a_put (fs' := [.ref (g_ad G ka), .ref (g_ad G kb), .ref (g_ad G kc), .int ((nI dn) + 1), .int (nI hd)]) 3 cl_2 f_RX2_24_2 (by decide) (a4) rfl rfl rfl (Nat.le_of_ble_eq_true rfl) rfl 97 rfl dX2_note_94 ?_
    refine a_eq (h2 := h5) rfl rfl rfl (by rw [eh5, ← nI_1 dn]) ?_
    refine a_aload_n 0 98 rfl dX2_note_97 rfl rfl ?_
    refine a_aload_n 0 99 rfl dX2_note_98 rfl rfl ?_
    refine a_get 3 cl_2 f_RX2_24_2 (by decide) (a5) rfl 102 rfl dX2_note_99 ?_
    refine a_put (fs' := [.ref (g_ad G ka), .ref (g_ad G kb), .ref (g_ad G kc), .int (nI (dn + 1)), .int (nI (dn + 1))]) 4 cl_2 f_RX2_28_2 (by decide) (a5) rfl rfl rfl (Nat.le_of_ble_eq_true rfl) rfl 105 rfl dX2_note_102 ?_
    exact a_return rfl (rfl) ((by rw [eh6])) dX2_note_105
  · rw [eh6, eh5, eh4, eh3, eh2]
    exact ((((g_kp.rf.set (by simp)).set (by simp)).set (by simp)).set (by simp)).set (by simp)
  · refine ⟨by rw [eh6]; exact g_set_eq a5, by rw [eh6]; exact g_set_ne n1 b5, by rw [eh6]; exact g_set_ne n2 c5, by rw [eh6]; exact g_set_ne n3 d5, ⟨n1, n2, n3, n4, n5, n6⟩, fun j hj => ⟨hup _ _ j fam1 (x6 j hj).1, hup _ _ j fam2 (x6 j hj).2⟩⟩
theorem r_X2_note {dn hd o1 o2 : Nat} {fs1 fs2 : List Value} (hX : g_chg G h a ka kb kc dn hd fI fB fA) (hd9 : dn < 12) (ho1 : h[o1]? = some (c_O 5 fs1)) (ho2 : h[o2]? = some (c_O 5 fs2)) : ∃ h1 : List va_E, g_Run G mX2_note 2 0 0 [.ref (g_ad G a), .int y, .ref (g_ad G o1), .ref (g_ad G o2)] h none h1 ∧ g_kp [a, ka, kb, kc] h h1 ∧ g_chg G h1 a ka kb kc (dn + 1) (dn + 1) (upd fI dn y) (va_up fB dn (some (g_ad G o1))) (va_up fA dn (some (g_ad G o2))) := by
  obtain ⟨h1, w, k1, X1⟩ := r_note_room (y := y) hX hd9 ho1 ho2
  refine ⟨h1, ?_, k1, X1⟩
  have x1 := hX.1
  refine g_Run.of (lv := [(0, .ref (g_ad G a)), (1, .int y), (2, .ref (g_ad G o1)), (3, .ref (g_ad G o2))]) (by decide) (Nat.le_of_ble_eq_true rfl) rfl ?_
  refine a_aload_n 0 1 rfl dX2_note_0 rfl rfl ?_
  refine a_get 3 cl_2 f_RX2_24_2 (by decide) (x1) rfl 4 rfl dX2_note_1 ?_
  refine a_bipush (x := 12) 6 rfl dX2_note_4 (by decide) ?_
  refine a_icmp_lt 13 9 rfl dX2_note_6 (by decide) (fun _ => ?_) (fun hc => absurd (nI_lt (b := 12) (by omega) (by omega)) hc)
  exact w
theorem r_X2_note12 {hd o1 o2 : Nat} {fs1 fs2 : List Value} (hX : g_chg G h a ka kb kc 12 hd fI fB fA) (ho1 : h[o1]? = some (c_O 5 fs1)) (ho2 : h[o2]? = some (c_O 5 fs2)) : ∃ (h1 : List va_E) (fI2 : Nat → Int32) (fB2 fA2 : Nat → Option Nat), g_Run G mX2_note 2 0 0 [.ref (g_ad G a), .int y, .ref (g_ad G o1), .ref (g_ad G o2)] h none h1 ∧ g_kp [a, ka, kb, kc] h h1 ∧ g_chg G h1 a ka kb kc 12 12 (upd fI2 11 y) (va_up fB2 11 (some (g_ad G o1))) (va_up fA2 11 (some (g_ad G o2))) ∧ ∀ j, j < 11 → fI2 j = fI (j + 1) ∧ fB2 j = fB (j + 1) ∧ fA2 j = fA (j + 1) := by
  obtain ⟨h1, fI2, fB2, fA2, w, k1, X1, e1⟩ := r_X2_dropEldest hX
  have hnot : ∀ (o9 : Nat) (fs9 : List Value), h[o9]? = some (c_O 5 fs9) → h1[o9]? = some (c_O 5 fs9) := fun o9 fs9 ho9 => k1.at (by
    intro z
    obtain ⟨x1, x2, x3, x4, x5, x6⟩ := hX
    simp only [List.mem_cons, List.not_mem_nil, or_false] at z
    rcases z with rfl | rfl | rfl | rfl
    · rw [ho9] at x1; cases x1
    · rw [ho9] at x2; cases x2
    · rw [ho9] at x3; cases x3
    · rw [ho9] at x4; cases x4) ho9
  obtain ⟨h2, w2, k2, X2⟩ := r_note_room (y := y) X1 (by omega) (hnot _ _ ho1) (hnot _ _ ho2)
  refine ⟨h2, fI2, fB2, fA2, ?_, k1.tr k2, X2, e1⟩
  have x1 := hX.1
  refine g_Run.of (lv := [(0, .ref (g_ad G a)), (1, .int y), (2, .ref (g_ad G o1)), (3, .ref (g_ad G o2))]) (by decide) (Nat.le_of_ble_eq_true rfl) rfl ?_
  refine a_aload_n 0 1 rfl dX2_note_0 rfl rfl ?_
  refine a_get 3 cl_2 f_RX2_24_2 (by decide) (x1) rfl 4 rfl dX2_note_1 ?_
  refine a_bipush (x := 12) 6 rfl dX2_note_4 (by decide) ?_
  refine a_icmp_lt 13 9 rfl dX2_note_6 (by decide) (fun hc => absurd hc (nI_nlt (b := 12) (a := 12) (by omega) (by omega))) (fun _ => ?_)
  refine a_aload_n 0 10 rfl dX2_note_9 rfl rfl ?_
  refine a_callV (as := []) (rest := []) (st2 := []) (u1 := 0) (v1 := 0) (u2 := 0) (v2 := 0) (w) (⟨_, _, _, _, x1, rfl⟩) oX2_dropEldest q_458 q_460 q_12 rfl (by omega) (by decide) rfl (Nat.le_of_ble_eq_true rfl) 13 rfl dX2_note_10 rfl ?_
  exact w2
theorem r_X2_stepBack0 {hd : Nat} (hX : g_chg G h a ka kb kc 0 hd fI fB fA) : g_Run G mX2_stepBack 2 0 0 [.ref (g_ad G a), .ref (g_ad G b)] h (some (.int 0)) h := by
  have x1 := hX.1
  refine g_Run.of (lv := [(0, .ref (g_ad G a)), (1, .ref (g_ad G b))]) (by decide) (Nat.le_of_ble_eq_true rfl) rfl ?_
  refine a_aload_n 0 1 rfl dX2_stepBack_0 rfl rfl ?_
  refine a_get 3 cl_2 f_RX2_24_2 (by decide) (x1) rfl 4 rfl dX2_stepBack_1 ?_
  refine a_if_le 31 7 rfl dX2_stepBack_4 (by decide) (fun _ => ?_) (fun hc => absurd ((by decide)) hc)
  refine a_iconst (x := 0) 32 rfl dX2_stepBack_31 (by decide) ?_
  exact a_ireturn .boolean rfl rfl (rfl) (rfl) dX2_stepBack_32
theorem r_X2_stepBack {dn hd m9 j9 o9 kr : Nat} {fs9 : List Value} (hX : g_chg G h a ka kb kc (dn + 1) hd fI fB fA) (hd9 : dn < 12) (hI : fI dn = nI j9) (hB : fB dn = some (g_ad G o9)) (ho : h[o9]? = some (c_O 5 fs9)) (hF : h[b]? = some (c_O 4 [.ref (g_ad G kr), .int (nI m9)])) (hR : h[kr]? = some (c_Q G 3 8 f)) (hm : m9 ≤ 8) (hj : j9 < m9) : g_Run G mX2_stepBack 2 0 0 [.ref (g_ad G a), .ref (g_ad G b)] h (some (.int 1)) ((h.set a (c_O 2 [.ref (g_ad G ka), .ref (g_ad G kb), .ref (g_ad G kc), .int (nI dn), .int (nI hd)])).set kr (c_Q G 3 8 (va_up f j9 (some (g_ad G o9))))) := by
  obtain ⟨x1, x2, x3, x4, x5, x6⟩ := hX
  obtain ⟨n1, n2, n3, n4, n5, n6⟩ := x5
  have cd : (nI dn).toNatClampNeg = dn := g_cl (by omega)
  have ind : vp_in (nI dn) 12 := vp_in_nI hd9 (by omega)
  obtain ⟨h2, eh2⟩ : ∃ h2, h2 = h.set a (c_O 2 [.ref (g_ad G ka), .ref (g_ad G kb), .ref (g_ad G kc), .int (nI dn), .int (nI hd)]) := ⟨_, rfl⟩
  have hab : a ≠ b := fun z => by rw [z, hF] at x1; cases x1
  have hakr : a ≠ kr := fun z => by rw [z, hR] at x1; cases x1
  have hao : a ≠ o9 := fun z => by rw [z, ho] at x1; cases x1
  have a2 : h2[a]? = some (c_O 2 [.ref (g_ad G ka), .ref (g_ad G kb), .ref (g_ad G kc), .int (nI dn), .int (nI hd)]) := by rw [eh2]; exact g_set_eq x1
  have b2 : h2[ka]? = some (c_I G 12 fI) := by rw [eh2]; exact g_set_ne n1 x2
  have c2 : h2[kb]? = some (c_Q G 3 12 fB) := by rw [eh2]; exact g_set_ne n2 x3
  have d2 : h2[b]? = some (c_O 4 [.ref (g_ad G kr), .int (nI m9)]) := by rw [eh2]; exact g_set_ne hab hF
  have e2 : h2[kr]? = some (c_Q G 3 8 f) := by rw [eh2]; exact g_set_ne hakr hR
  have o2 : h2[o9]? = some (c_O 5 fs9) := by rw [eh2]; exact g_set_ne hao ho
  refine g_Run.of (lv := [(0, .ref (g_ad G a)), (1, .ref (g_ad G b))]) (by decide) (Nat.le_of_ble_eq_true rfl) rfl ?_
  refine a_aload_n 0 1 rfl dX2_stepBack_0 rfl rfl ?_
  refine a_get 3 cl_2 f_RX2_24_2 (by decide) (x1) rfl 4 rfl dX2_stepBack_1 ?_
  refine a_if_le 31 7 rfl dX2_stepBack_4 (by decide) (fun hc => absurd hc (nI_nle (by omega) (by omega))) (fun _ => ?_)
  refine a_aload_n 0 8 rfl dX2_stepBack_7 rfl rfl ?_
  refine a_get 3 cl_2 f_RX2_24_2 (by decide) (x1) rfl 11 rfl dX2_stepBack_8 ?_
  refine a_aload_n 0 12 rfl dX2_stepBack_11 rfl rfl ?_
  refine a_get 0 cl_2 f_RX2_9_2 (by decide) (x1) rfl 15 rfl dX2_stepBack_12 ?_
  refine a_alen (y := 12) 0 (x2) rfl rfl 16 rfl dX2_stepBack_15 ?_
  refine a_icmp_gt 31 19 rfl dX2_stepBack_16 (by decide) (fun hc => absurd hc ((nI_nlt (a := 12) (by omega) (by omega)))) (fun _ => ?_)
  refine a_aload_n 0 20 rfl dX2_stepBack_19 rfl rfl ?_
  refine a_get 3 cl_2 f_RX2_24_2 (by decide) (x1) rfl 23 rfl dX2_stepBack_20 ?_
  refine a_aload_n 0 24 rfl dX2_stepBack_23 rfl rfl ?_
  refine a_get 1 cl_2 f_RX2_17_2 (by decide) (x1) rfl 27 rfl dX2_stepBack_24 ?_
  refine a_alen (y := 12) 3 (x3) rfl rfl 28 rfl dX2_stepBack_27 ?_
  refine a_icmp_le 33 31 rfl dX2_stepBack_28 (by decide) (fun _ => ?_) (fun hc => absurd ((nI_le (b := 12) (by omega) (by omega))) hc)
  refine a_aload_n 0 34 rfl dX2_stepBack_33 rfl rfl ?_
  refine a_dup 35 rfl dX2_stepBack_34 rfl ?_
  refine a_get 3 cl_2 f_RX2_24_2 (by decide) (x1) rfl 38 rfl dX2_stepBack_35 ?_
  refine a_iconst (x := 1) 39 rfl dX2_stepBack_38 (by decide) ?_
  refine a_isub 40 rfl dX2_stepBack_39 ?_
  refine a_put (fs' := [.ref (g_ad G ka), .ref (g_ad G kb), .ref (g_ad G kc), .int ((nI (dn + 1)) - 1), .int (nI hd)]) 3 cl_2 f_RX2_24_2 (by decide) (x1) rfl rfl rfl (Nat.le_of_ble_eq_true rfl) rfl 43 rfl dX2_stepBack_40 ?_
  refine a_eq (h2 := h2) rfl rfl rfl (by rw [eh2, show (1 : Int32) = nI 1 from rfl, pk_sub (by omega)]; rfl) ?_
  refine a_aload_n 1 44 rfl dX2_stepBack_43 rfl rfl ?_
  refine a_aload_n 0 45 rfl dX2_stepBack_44 rfl rfl ?_
  refine a_get 0 cl_2 f_RX2_9_2 (by decide) (a2) rfl 48 rfl dX2_stepBack_45 ?_
  refine a_aload_n 0 49 rfl dX2_stepBack_48 rfl rfl ?_
  refine a_get 3 cl_2 f_RX2_24_2 (by decide) (a2) rfl 52 rfl dX2_stepBack_49 ?_
  refine a_iald (b2) (ind) 53 rfl dX2_stepBack_52 ?_
  refine a_aload_n 0 54 rfl dX2_stepBack_53 rfl rfl ?_
  refine a_get 1 cl_2 f_RX2_17_2 (by decide) (a2) rfl 57 rfl dX2_stepBack_54 ?_
  refine a_aload_n 0 58 rfl dX2_stepBack_57 rfl rfl ?_
  refine a_get 3 cl_2 f_RX2_24_2 (by decide) (a2) rfl 61 rfl dX2_stepBack_58 ?_
  refine a_ald3 (c2) (ind) 62 rfl dX2_stepBack_61 ?_
  refine a_eq (st2 := [.ref (g_ad G o9), .int (nI j9), .ref (g_ad G b)]) rfl rfl (by rw [cd, hI, hB]; rfl) rfl ?_
  refine a_callVN (as := [.int (nI j9), .ref (g_ad G o9)]) (rest := []) (st2 := []) (u1 := 0) (v1 := 0) (u2 := 0) (v2 := 0) (r_X4_replace d2 e2 o2 hm hj) (⟨_, _, _, _, d2, rfl⟩) oX4_replace q_1047 q_452 q_10 rfl (by omega) (by decide) rfl (Nat.le_of_ble_eq_true rfl) 65 rfl dX2_stepBack_62 rfl ?_
  refine a_iconst (x := 1) 66 rfl dX2_stepBack_65 (by decide) ?_
  exact a_ireturn .boolean rfl rfl (rfl) ((by rw [eh2])) dX2_stepBack_66
theorem r_X2_stepOn0 {dn : Nat} (hX : g_chg G h a ka kb kc dn dn fI fB fA) (hd9 : dn ≤ 12) : g_Run G mX2_stepOn 2 0 0 [.ref (g_ad G a), .ref (g_ad G b)] h (some (.int 0)) h := by
  have x1 := hX.1
  refine g_Run.of (lv := [(0, .ref (g_ad G a)), (1, .ref (g_ad G b))]) (by decide) (Nat.le_of_ble_eq_true rfl) rfl ?_
  refine a_aload_n 0 1 rfl dX2_stepOn_0 rfl rfl ?_
  refine a_get 3 cl_2 f_RX2_24_2 (by decide) (x1) rfl 4 rfl dX2_stepOn_1 ?_
  refine a_if_lt 42 7 rfl dX2_stepOn_4 (by decide) (fun hc => absurd hc (nI_pos (by omega))) (fun _ => ?_)
  refine a_aload_n 0 8 rfl dX2_stepOn_7 rfl rfl ?_
  refine a_get 3 cl_2 f_RX2_24_2 (by decide) (x1) rfl 11 rfl dX2_stepOn_8 ?_
  refine a_aload_n 0 12 rfl dX2_stepOn_11 rfl rfl ?_
  refine a_get 4 cl_2 f_RX2_28_2 (by decide) (x1) rfl 15 rfl dX2_stepOn_12 ?_
  refine a_icmp_ge 42 18 rfl dX2_stepOn_15 (by decide) (fun _ => ?_) (fun hc => absurd (nI_le (Nat.le_refl _) (by omega)) hc)
  refine a_iconst (x := 0) 43 rfl dX2_stepOn_42 (by decide) ?_
  exact a_ireturn .boolean rfl rfl (rfl) (rfl) dX2_stepOn_43
theorem r_X2_stepOn {dn hd m9 j9 o9 kr : Nat} {fs9 : List Value} (hX : g_chg G h a ka kb kc dn hd fI fB fA) (hd9 : dn < hd) (hh9 : hd ≤ 12) (hI : fI dn = nI j9) (hB : fA dn = some (g_ad G o9)) (ho : h[o9]? = some (c_O 5 fs9)) (hF : h[b]? = some (c_O 4 [.ref (g_ad G kr), .int (nI m9)])) (hR : h[kr]? = some (c_Q G 3 8 f)) (hm : m9 ≤ 8) (hj : j9 < m9) : g_Run G mX2_stepOn 2 0 0 [.ref (g_ad G a), .ref (g_ad G b)] h (some (.int 1)) ((h.set kr (c_Q G 3 8 (va_up f j9 (some (g_ad G o9))))).set a (c_O 2 [.ref (g_ad G ka), .ref (g_ad G kb), .ref (g_ad G kc), .int (nI (dn + 1)), .int (nI hd)])) := by
  obtain ⟨x1, x2, x3, x4, x5, x6⟩ := hX
  obtain ⟨n1, n2, n3, n4, n5, n6⟩ := x5
  have cd : (nI dn).toNatClampNeg = dn := g_cl (by omega)
  have ind : vp_in (nI dn) 12 := vp_in_nI (by omega) (by omega)
  have hakr : kr ≠ a := fun z => by rw [← z, hR] at x1; cases x1
  have a2 : (h.set kr (c_Q G 3 8 (va_up f j9 (some (g_ad G o9)))))[a]? = some (c_O 2 [.ref (g_ad G ka), .ref (g_ad G kb), .ref (g_ad G kc), .int (nI dn), .int (nI hd)]) := g_set_ne hakr x1
  refine g_Run.of (lv := [(0, .ref (g_ad G a)), (1, .ref (g_ad G b))]) (by decide) (Nat.le_of_ble_eq_true rfl) rfl ?_
  refine a_aload_n 0 1 rfl dX2_stepOn_0 rfl rfl ?_
  refine a_get 3 cl_2 f_RX2_24_2 (by decide) (x1) rfl 4 rfl dX2_stepOn_1 ?_
  refine a_if_lt 42 7 rfl dX2_stepOn_4 (by decide) (fun hc => absurd hc (nI_pos (by omega))) (fun _ => ?_)
  refine a_aload_n 0 8 rfl dX2_stepOn_7 rfl rfl ?_
  refine a_get 3 cl_2 f_RX2_24_2 (by decide) (x1) rfl 11 rfl dX2_stepOn_8 ?_
  refine a_aload_n 0 12 rfl dX2_stepOn_11 rfl rfl ?_
  refine a_get 4 cl_2 f_RX2_28_2 (by decide) (x1) rfl 15 rfl dX2_stepOn_12 ?_
  refine a_icmp_ge 42 18 rfl dX2_stepOn_15 (by decide) (fun hc => absurd hc (nI_ge hd9 (by omega))) (fun _ => ?_)
  refine a_aload_n 0 19 rfl dX2_stepOn_18 rfl rfl ?_
  refine a_get 3 cl_2 f_RX2_24_2 (by decide) (x1) rfl 22 rfl dX2_stepOn_19 ?_
  refine a_aload_n 0 23 rfl dX2_stepOn_22 rfl rfl ?_
  refine a_get 0 cl_2 f_RX2_9_2 (by decide) (x1) rfl 26 rfl dX2_stepOn_23 ?_
  refine a_alen (y := 12) 0 (x2) rfl rfl 27 rfl dX2_stepOn_26 ?_
  refine a_icmp_ge 42 30 rfl dX2_stepOn_27 (by decide) (fun hc => absurd hc (nI_ge (b := 12) (by omega) (by omega))) (fun _ => ?_)
  refine a_aload_n 0 31 rfl dX2_stepOn_30 rfl rfl ?_
  refine a_get 3 cl_2 f_RX2_24_2 (by decide) (x1) rfl 34 rfl dX2_stepOn_31 ?_
  refine a_aload_n 0 35 rfl dX2_stepOn_34 rfl rfl ?_
  refine a_get 2 cl_2 f_RX2_21_2 (by decide) (x1) rfl 38 rfl dX2_stepOn_35 ?_
  refine a_alen (y := 12) 3 (x4) rfl rfl 39 rfl dX2_stepOn_38 ?_
  refine a_icmp_lt 44 42 rfl dX2_stepOn_39 (by decide) (fun _ => ?_) (fun hc => absurd (nI_lt (b := 12) (by omega) (by omega)) hc)
  refine a_aload_n 1 45 rfl dX2_stepOn_44 rfl rfl ?_
  refine a_aload_n 0 46 rfl dX2_stepOn_45 rfl rfl ?_
  refine a_get 0 cl_2 f_RX2_9_2 (by decide) (x1) rfl 49 rfl dX2_stepOn_46 ?_
  refine a_aload_n 0 50 rfl dX2_stepOn_49 rfl rfl ?_
  refine a_get 3 cl_2 f_RX2_24_2 (by decide) (x1) rfl 53 rfl dX2_stepOn_50 ?_
  refine a_iald (x2) (ind) 54 rfl dX2_stepOn_53 ?_
  refine a_aload_n 0 55 rfl dX2_stepOn_54 rfl rfl ?_
  refine a_get 2 cl_2 f_RX2_21_2 (by decide) (x1) rfl 58 rfl dX2_stepOn_55 ?_
  refine a_aload_n 0 59 rfl dX2_stepOn_58 rfl rfl ?_
  refine a_get 3 cl_2 f_RX2_24_2 (by decide) (x1) rfl 62 rfl dX2_stepOn_59 ?_
  refine a_ald3 (x4) (ind) 63 rfl dX2_stepOn_62 ?_
  refine a_eq (st2 := [.ref (g_ad G o9), .int (nI j9), .ref (g_ad G b)]) rfl rfl (by rw [cd, hI, hB]; rfl) rfl ?_
  refine a_callVN (as := [.int (nI j9), .ref (g_ad G o9)]) (rest := []) (st2 := []) (u1 := 0) (v1 := 0) (u2 := 0) (v2 := 0) (r_X4_replace hF hR ho hm hj) (⟨_, _, _, _, hF, rfl⟩) oX4_replace q_1047 q_452 q_10 rfl (by omega) (by decide) rfl (Nat.le_of_ble_eq_true rfl) 66 rfl dX2_stepOn_63 rfl ?_
  refine a_aload_n 0 67 rfl dX2_stepOn_66 rfl rfl ?_
  refine a_dup 68 rfl dX2_stepOn_67 rfl ?_
  refine a_get 3 cl_2 f_RX2_24_2 (by decide) (a2) rfl 71 rfl dX2_stepOn_68 ?_
  refine a_iconst (x := 1) 72 rfl dX2_stepOn_71 (by decide) ?_
  refine a_iadd 73 rfl dX2_stepOn_72 ?_
  refine a_put (fs' := [.ref (g_ad G ka), .ref (g_ad G kb), .ref (g_ad G kc), .int ((nI dn) + 1), .int (nI hd)]) 3 cl_2 f_RX2_24_2 (by decide) (a2) rfl rfl rfl (Nat.le_of_ble_eq_true rfl) rfl 76 rfl dX2_stepOn_73 ?_
  refine a_iconst (x := 1) 77 rfl dX2_stepOn_76 (by decide) ?_
  exact a_ireturn .boolean rfl rfl (rfl) ((by rw [← nI_1 dn])) dX2_stepOn_77
theorem r_X4_areLikeN {m9 m8 : Nat} (hF : h[a]? = some (c_O 4 [.ref (g_ad G ka), .int (nI m9)])) (hE : h[b]? = some (c_O 4 [.ref (g_ad G kb), .int (nI m8)])) (hm9 : m9 ≤ 8) (hm8 : m8 ≤ 8) (hne : m9 ≠ m8) : g_Run G mX4_areLike 3 0 0 [.ref (g_ad G a), .ref (g_ad G b)] h (some (.int 0)) h := by
  refine g_Run.of (lv := [(0, .ref (g_ad G a)), (1, .ref (g_ad G b))]) (by decide) (Nat.le_of_ble_eq_true rfl) rfl ?_
  refine a_aload_n 0 1 rfl dX4_areLike_0 rfl rfl ?_
  refine a_get 1 cl_4 f_RX4_17_4 (by decide) (hF) rfl 4 rfl dX4_areLike_1 ?_
  refine a_aload_n 1 5 rfl dX4_areLike_4 rfl rfl ?_
  refine a_get 1 cl_4 f_RX4_17_4 (by decide) (hE) rfl 8 rfl dX4_areLike_5 ?_
  refine a_icmp_eq 13 11 rfl dX4_areLike_8 (by decide) (fun hc => absurd hc ((fun z => hne ((nI_eq (by omega) (by omega)).mp z)))) (fun _ => ?_)
  refine a_iconst (x := 0) 12 rfl dX4_areLike_11 (by decide) ?_
  exact a_ireturn .boolean rfl rfl (rfl) (rfl) dX4_areLike_12
/-- two rows of families, of k9, g9, t9 and k8, g8, t8, alike from place i on -/
def f_alike (k9 g9 k8 g8 : Nat → Int32) (t9 t8 : Nat → Int64) : Nat → Nat → Bool
  | 0, _ => true
  | m + 1, i => if k9 i = k8 i ∧ g9 i = g8 i ∧ t9 i = t8 i then f_alike k9 g9 k8 g8 t9 t8 m (i + 1) else false
theorem r_X4_areLike {m9 : Nat} {f8 f9 : Nat → Option Nat} {k9 g9 k8 g8 : Nat → Int32} {t9 t8 : Nat → Int64} {p9 p8 : Nat → Nat} (hF : h[a]? = some (c_O 4 [.ref (g_ad G ka), .int (nI m9)])) (hE : h[b]? = some (c_O 4 [.ref (g_ad G kb), .int (nI m9)])) (hR : h[ka]? = some (c_Q G 3 8 f9)) (hQ : h[kb]? = some (c_Q G 3 8 f8)) (hm9 : m9 ≤ 8) (h9 : ∀ j, j < m9 → f9 j = some (g_ad G (p9 j)) ∧ h[p9 j]? = some (c_O 5 [.int (k9 j), .int (g9 j), .long (t9 j)])) (h8 : ∀ j, j < m9 → f8 j = some (g_ad G (p8 j)) ∧ h[p8 j]? = some (c_O 5 [.int (k8 j), .int (g8 j), .long (t8 j)])) : g_Run G mX4_areLike 3 0 0 [.ref (g_ad G a), .ref (g_ad G b)] h (some (.int (if f_alike k9 g9 k8 g8 t9 t8 m9 0 then 1 else 0))) h := by
  refine g_Run.of (lv := [(0, .ref (g_ad G a)), (1, .ref (g_ad G b))]) (by decide) (Nat.le_of_ble_eq_true rfl) rfl ?_
  refine a_aload_n 0 1 rfl dX4_areLike_0 rfl rfl ?_
  refine a_get 1 cl_4 f_RX4_17_4 (by decide) (hF) rfl 4 rfl dX4_areLike_1 ?_
  refine a_aload_n 1 5 rfl dX4_areLike_4 rfl rfl ?_
  refine a_get 1 cl_4 f_RX4_17_4 (by decide) (hE) rfl 8 rfl dX4_areLike_5 ?_
  refine a_icmp_eq 13 11 rfl dX4_areLike_8 (by decide) (fun _ => ?_) (fun hc => absurd (rfl) hc)
  refine a_iconst (x := 0) 14 rfl dX4_areLike_13 (by decide) ?_
  refine a_istore_n (lv' := [(2, .int 0), (0, .ref (g_ad G a)), (1, .ref (g_ad G b))]) 15 rfl dX4_areLike_14 rfl (by decide) rfl ?_
  have key : ∀ jj ii : Nat, ii + jj = m9 → ∀ lx : List (Nat × Value), g_A G mX4_areLike 3 0 0 15 [(2, .int (nI ii)), (0, .ref (g_ad G a)), (1, .ref (g_ad G b))] [] h (some (.int (if f_alike k9 g9 k8 g8 t9 t8 jj ii then 1 else 0))) h := by
    intro jj
    induction jj with
    | zero =>
      intro ii hii lx
      refine a_iload_n 0 16 rfl dX4_areLike_15 rfl rfl ?_
      refine a_aload_n 1 17 rfl dX4_areLike_16 rfl rfl ?_
      refine a_get 1 cl_4 f_RX4_17_4 (by decide) (hF) rfl 20 rfl dX4_areLike_17 ?_
      refine a_icmp_ge 53 23 rfl dX4_areLike_20 (by decide) (fun _ => ?_) (fun hc => absurd (nI_le (by omega) (by omega)) hc)
      refine a_iconst (x := 1) 54 rfl dX4_areLike_53 (by decide) ?_
      exact a_ireturn .boolean rfl rfl (rfl) (rfl) dX4_areLike_54
    | succ jj ih =>
      intro ii hii lx
      obtain ⟨u1, u2⟩ := h9 ii (by omega)
      obtain ⟨u3, u4⟩ := h8 ii (by omega)
      refine a_iload_n 0 16 rfl dX4_areLike_15 rfl rfl ?_
      refine a_aload_n 1 17 rfl dX4_areLike_16 rfl rfl ?_
      refine a_get 1 cl_4 f_RX4_17_4 (by decide) (hF) rfl 20 rfl dX4_areLike_17 ?_
      refine a_icmp_ge 53 23 rfl dX4_areLike_20 (by decide) (fun hc => absurd hc (nI_ge (by omega) (by omega))) (fun _ => ?_)
      refine a_aload_n 1 24 rfl dX4_areLike_23 rfl rfl ?_
      refine a_iload_n 0 25 rfl dX4_areLike_24 rfl rfl ?_
      refine a_callV (as := [.int (nI ii)]) (rest := []) (st2 := [.ref (g_ad G (p9 ii))]) (u1 := 0) (v1 := 0) (u2 := 0) (v2 := 0) (r_X4_at_ref hF hR hm9 (by omega) u1) (⟨_, _, _, _, hF, rfl⟩) oX4_at q_1080 q_448 q_9 rfl (by omega) (by decide) rfl (Nat.le_of_ble_eq_true rfl) 28 rfl dX4_areLike_25 rfl ?_
      refine a_astore_n (lv' := [(3, .ref (g_ad G (p9 ii))), (2, .int (nI ii)), (0, .ref (g_ad G a)), (1, .ref (g_ad G b))]) 29 rfl dX4_areLike_28 rfl (by decide) rfl ?_
      refine a_aload_n 0 30 rfl dX4_areLike_29 rfl rfl ?_
      refine a_ifnull 33 rfl dX4_areLike_30 ?_
      refine a_aload_n 0 34 rfl dX4_areLike_33 rfl rfl ?_
      refine a_aload_n 3 35 rfl dX4_areLike_34 rfl rfl ?_
      refine a_iload_n 1 36 rfl dX4_areLike_35 rfl rfl ?_
      refine a_callV (as := [.int (nI ii)]) (rest := [.ref (g_ad G (p9 ii))]) (st2 := [.ref (g_ad G (p8 ii)), .ref (g_ad G (p9 ii))]) (u1 := 0) (v1 := 0) (u2 := 0) (v2 := 0) (r_X4_at_ref hE hQ hm9 (by omega) u3) (⟨_, _, _, _, hE, rfl⟩) oX4_at q_1080 q_448 q_9 rfl (by omega) (by decide) rfl (Nat.le_of_ble_eq_true rfl) 39 rfl dX4_areLike_36 rfl ?_
      refine a_callVN (as := [.ref (g_ad G (p8 ii))]) (rest := []) (st2 := [.int (if k9 ii = k8 ii ∧ g9 ii = g8 ii ∧ t9 ii = t8 ii then 1 else 0)]) (u1 := 0) (v1 := 0) (u2 := 0) (v2 := 0) (r_X5_isLike u2 u4) (⟨_, _, _, _, u2, rfl⟩) oX5_isLike q_1081 q_1083 q_81 rfl (by omega) (by decide) rfl (Nat.le_of_ble_eq_true rfl) 42 rfl dX4_areLike_39 rfl ?_
      by_cases e9 : k9 ii = k8 ii ∧ g9 ii = g8 ii ∧ t9 ii = t8 ii
      · skip
        refine a_if_ne 47 45 rfl dX4_areLike_42 (by decide) (fun _ => ?_) (fun hc => absurd hc ((by rw [if_pos e9]; decide)))
        refine a_iinc (y := nI (ii + 1)) (lv' := [(2, .int (nI (ii + 1))), (3, .ref (g_ad G (p9 ii))), (0, .ref (g_ad G a)), (1, .ref (g_ad G b))]) 1 50 rfl dX4_areLike_47 rfl (nI_1 ii) (by decide) rfl ?_
        refine a_goto 15 dX4_areLike_50 (by decide) ?_
        refine a_sub (lv' := [(2, .int (nI (ii + 1))), (0, .ref (g_ad G a)), (1, .ref (g_ad G b))]) [0, 2, 3] rfl ?_
        rw [f_alike, if_pos e9]
        exact ih (ii + 1) (by omega) lx
      · skip
        refine a_if_ne 47 45 rfl dX4_areLike_42 (by decide) (fun hc => absurd ((by rw [if_neg e9])) hc) (fun _ => ?_)
        refine a_iconst (x := 0) 46 rfl dX4_areLike_45 (by decide) ?_
        exact a_ireturn .boolean rfl rfl ((by rw [f_alike, if_neg e9]; rfl)) (rfl) dX4_areLike_46
  exact key m9 0 (by omega) []
end HC2
