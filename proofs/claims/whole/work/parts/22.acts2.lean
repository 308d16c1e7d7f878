/-! Acts; Cascade -/
section AC2
variable {G : g_G} {h : List va_E} {a ka n : Nat} {i y y2 y3 y4 : Int32}
abbrev c_Ac (G : g_G) (ka m : Nat) (k : Nat) (nu fg : Int32) : va_E := c_O 0 [.ref (g_ad G ka), .int (nI m), .int (nI k), .int nu, .int fg]
/-- f is p up to m, then l -/
def f_ext (p f : Nat → Int32) (m : Nat) (l : List Nat) : Prop := (∀ j, j < m → f j = p j) ∧ ∀ (j b : Nat), l[j]? = some b → f (m + j) = nI b
theorem f_ext.app {p f g : Nat → Int32} {m : Nat} {l l2 : List Nat} (h1 : f_ext p f m l) (h2 : f_ext f g (m + l.length) l2) : f_ext p g m (l ++ l2) := by
  refine ⟨fun j hj => (h2.1 j (by omega)).trans (h1.1 j hj), fun j b hb => ?_⟩
  by_cases hl : j < l.length
  · rw [List.getElem?_append_left hl] at hb
    rw [h2.1 (m + j) (by omega)]
    exact h1.2 j b hb
  · rw [List.getElem?_append_right (by omega)] at hb
    have e9 := h2.2 (j - l.length) b hb
    rw [show m + l.length + (j - l.length) = m + j by omega] at e9
    exact e9
/-- an act: its answer, the bodies that it begins -/
def g_act (G : g_G) (M : g_M) (d : Nat) (as : List Value) (a ka k : Nat) (nu fg r : Int32) (l : List Nat) : Prop :=
  ∀ (h : List va_E) (m : Nat) (f : Nat → Int32), h[a]? = some (c_Ac G ka m k nu fg) → h[ka]? = some (c_I G 24 f) → a ≠ ka → m + l.length ≤ 24 → ∃ f2, f_ext f f2 m l ∧ g_Run G M d 0 0 (.ref (g_ad G a) :: as) h (some (.int r)) ((h.set ka (c_I G 24 f2)).set a (c_Ac G ka (m + l.length) k nu fg))
theorem r_X0_begin {m k b : Nat} {nu fg : Int32} {f : Nat → Int32} (hA : h[a]? = some (c_Ac G ka m k nu fg)) (hR : h[ka]? = some (c_I G 24 f)) (hne : a ≠ ka) (hm : m < 24) : g_Run G mX0_begin 1 0 0 [.ref (g_ad G a), .int (nI b)] h none ((h.set ka (c_I G 24 (upd f m (nI b)))).set a (c_Ac G ka (m + 1) k nu fg)) := by
  have a2 : (h.set ka (c_I G 24 (upd f m (nI b))))[a]? = some (c_Ac G ka m k nu fg) := g_set_ne (Ne.symm hne) hA
  refine g_Run.of (lv := [(0, .ref (g_ad G a)), (1, .int (nI b))]) (by decide) (Nat.le_of_ble_eq_true rfl) rfl ?_
  refine a_aload_n 0 1 rfl dX0_begin_0 rfl rfl ?_
  refine a_get 1 cl_0 f_RX0_15_0 (by decide) (hA) rfl 4 rfl dX0_begin_1 ?_
  refine a_if_lt 39 7 rfl dX0_begin_4 (by decide) (fun hc => absurd hc (nI_pos (by omega))) (fun _ => ?_)
  refine a_aload_n 0 8 rfl dX0_begin_7 rfl rfl ?_
  refine a_get 1 cl_0 f_RX0_15_0 (by decide) (hA) rfl 11 rfl dX0_begin_8 ?_
  refine a_aload_n 0 12 rfl dX0_begin_11 rfl rfl ?_
  refine a_get 0 cl_0 f_RX0_9_0 (by decide) (hA) rfl 15 rfl dX0_begin_12 ?_
  refine a_alen (y := 24) 0 (hR) rfl rfl 16 rfl dX0_begin_15 ?_
  refine a_icmp_ge 39 19 rfl dX0_begin_16 (by decide) (fun hc => absurd hc (nI_ge (b := 24) (by omega) (by omega))) (fun _ => ?_)
  refine a_aload_n 0 20 rfl dX0_begin_19 rfl rfl ?_
  refine a_get 0 cl_0 f_RX0_9_0 (by decide) (hA) rfl 23 rfl dX0_begin_20 ?_
  refine a_aload_n 0 24 rfl dX0_begin_23 rfl rfl ?_
  refine a_get 1 cl_0 f_RX0_15_0 (by decide) (hA) rfl 27 rfl dX0_begin_24 ?_
  refine a_iload_n 1 28 rfl dX0_begin_27 rfl rfl ?_
  refine a_iast (hR) (vp_in_nI (by omega) (by omega)) 29 rfl dX0_begin_28 ?_
  refine a_eq (h2 := h.set ka (c_I G 24 (upd f m (nI b)))) rfl rfl rfl (by rw [g_cl (by omega)]) ?_
  refine a_aload_n 0 30 rfl dX0_begin_29 rfl rfl ?_
  refine a_dup 31 rfl dX0_begin_30 rfl ?_
  refine a_get 1 cl_0 f_RX0_15_0 (by decide) (a2) rfl 34 rfl dX0_begin_31 ?_
  refine a_iconst (x := 1) 35 rfl dX0_begin_34 (by decide) ?_
  refine a_iadd 36 rfl dX0_begin_35 ?_
  refine a_put (fs' := [.ref (g_ad G ka), .int ((nI m) + 1), .int (nI k), .int nu, .int fg]) 1 cl_0 f_RX0_15_0 (by decide) (a2) rfl rfl rfl (Nat.le_of_ble_eq_true rfl) rfl 39 rfl dX0_begin_36 ?_
  exact a_return rfl (rfl) ((by rw [nI_1 m])) dX0_begin_39
theorem f_ext_one {f : Nat → Int32} {m b : Nat} : f_ext f (upd f m (nI b)) m [b] := by
  refine ⟨fun j hj => pk_un (by omega), fun j b9 hb => ?_⟩
  have hz : j < 1 := (List.getElem?_eq_some_iff.mp hb).1
  rw [show j = 0 by omega] at hb ⊢
  cases hb
  exact pk_us
/-- two steps on the same two cells -/
theorem g_set2 {h : List va_E} {k a : Nat} {x y x' y' : va_E} (hne : a ≠ k) : ((((h.set k x).set a y).set k x').set a y') = (h.set k x').set a y' := by
  rw [List.set_comm _ _ (Ne.symm hne), List.set_set, List.set_comm _ _ hne, List.set_set]
theorem r_X0_growsA {d k9 : Nat} {x nu fg : Int32} (hd : 2 ≤ d) : g_act G mX0_grows d [.int (nI 0), .int x] a ka k9 nu fg (x + nu) [10] := by
  intro h m f hA hR hne hm
  refine ⟨upd f m (nI 10), f_ext_one, ?_⟩
  have hb := r_X0_begin (b := 10) hA hR hne (by simp at hm; omega)
  refine g_Run.of (lv := [(0, .ref (g_ad G a)), (1, .int (nI 0)), (2, .int x)]) (by decide) (Nat.le_of_ble_eq_true rfl) rfl ?_
  refine a_iload_n 1 1 rfl dX0_grows_0 rfl rfl ?_
  refine a_lookup (off := 56) 57 dX0_grows_1 (by decide) (by decide) (by decide) ?_
  refine a_aload_n 0 58 rfl dX0_grows_57 rfl rfl ?_
  refine a_bipush (x := 10) 60 rfl dX0_grows_58 (by decide) ?_
  refine a_callV (as := [.int 10]) (rest := []) (st2 := []) (u1 := 0) (v1 := 0) (u2 := 0) (v2 := 0) (hb) (⟨_, _, _, _, hA, rfl⟩) oX0_begin q_1014 q_1016 q_71 rfl (by omega) (by decide) rfl (Nat.le_of_ble_eq_true rfl) 63 rfl dX0_grows_60 rfl ?_
  refine a_iload_n 2 64 rfl dX0_grows_63 rfl rfl ?_
  refine a_aload_n 0 65 rfl dX0_grows_64 rfl rfl ?_
  refine a_get 3 cl_0 f_RX0_29_0 (by decide) (g_set_eq (g_set_ne (Ne.symm hne) hA)) rfl 68 rfl dX0_grows_65 ?_
  refine a_iadd 69 rfl dX0_grows_68 ?_
  exact a_ireturn .int rfl rfl (rfl) (rfl) dX0_grows_69

theorem r_X0_growsB {d k9 : Nat} {x nu fg : Int32} (hd : 2 ≤ d) : g_act G mX0_grows d [.int (nI 1), .int x] a ka k9 nu fg (x + nu) [10] := by
  intro h m f hA hR hne hm
  refine ⟨upd f m (nI 10), f_ext_one, ?_⟩
  have hb := r_X0_begin (b := 10) hA hR hne (by simp at hm; omega)
  refine g_Run.of (lv := [(0, .ref (g_ad G a)), (1, .int (nI 1)), (2, .int x)]) (by decide) (Nat.le_of_ble_eq_true rfl) rfl ?_
  refine a_iload_n 1 1 rfl dX0_grows_0 rfl rfl ?_
  refine a_lookup (off := 56) 57 dX0_grows_1 (by decide) (by decide) (by decide) ?_
  refine a_aload_n 0 58 rfl dX0_grows_57 rfl rfl ?_
  refine a_bipush (x := 10) 60 rfl dX0_grows_58 (by decide) ?_
  refine a_callV (as := [.int 10]) (rest := []) (st2 := []) (u1 := 0) (v1 := 0) (u2 := 0) (v2 := 0) (hb) (⟨_, _, _, _, hA, rfl⟩) oX0_begin q_1014 q_1016 q_71 rfl (by omega) (by decide) rfl (Nat.le_of_ble_eq_true rfl) 63 rfl dX0_grows_60 rfl ?_
  refine a_iload_n 2 64 rfl dX0_grows_63 rfl rfl ?_
  refine a_aload_n 0 65 rfl dX0_grows_64 rfl rfl ?_
  refine a_get 3 cl_0 f_RX0_29_0 (by decide) (g_set_eq (g_set_ne (Ne.symm hne) hA)) rfl 68 rfl dX0_grows_65 ?_
  refine a_iadd 69 rfl dX0_grows_68 ?_
  exact a_ireturn .int rfl rfl (rfl) (rfl) dX0_grows_69

theorem r_X0_growsC {d k9 : Nat} {x nu fg : Int32} (hd : 2 ≤ d) : g_act G mX0_grows d [.int (nI 3), .int x] a ka k9 nu fg (x + nu) [10] := by
  intro h m f hA hR hne hm
  refine ⟨upd f m (nI 10), f_ext_one, ?_⟩
  have hb := r_X0_begin (b := 10) hA hR hne (by simp at hm; omega)
  refine g_Run.of (lv := [(0, .ref (g_ad G a)), (1, .int (nI 3)), (2, .int x)]) (by decide) (Nat.le_of_ble_eq_true rfl) rfl ?_
  refine a_iload_n 1 1 rfl dX0_grows_0 rfl rfl ?_
  refine a_lookup (off := 56) 57 dX0_grows_1 (by decide) (by decide) (by decide) ?_
  refine a_aload_n 0 58 rfl dX0_grows_57 rfl rfl ?_
  refine a_bipush (x := 10) 60 rfl dX0_grows_58 (by decide) ?_
  refine a_callV (as := [.int 10]) (rest := []) (st2 := []) (u1 := 0) (v1 := 0) (u2 := 0) (v2 := 0) (hb) (⟨_, _, _, _, hA, rfl⟩) oX0_begin q_1014 q_1016 q_71 rfl (by omega) (by decide) rfl (Nat.le_of_ble_eq_true rfl) 63 rfl dX0_grows_60 rfl ?_
  refine a_iload_n 2 64 rfl dX0_grows_63 rfl rfl ?_
  refine a_aload_n 0 65 rfl dX0_grows_64 rfl rfl ?_
  refine a_get 3 cl_0 f_RX0_29_0 (by decide) (g_set_eq (g_set_ne (Ne.symm hne) hA)) rfl 68 rfl dX0_grows_65 ?_
  refine a_iadd 69 rfl dX0_grows_68 ?_
  exact a_ireturn .int rfl rfl (rfl) (rfl) dX0_grows_69

theorem r_X0_growsD {d k9 : Nat} {x nu fg : Int32} (hd : 2 ≤ d) : g_act G mX0_grows d [.int (nI 4), .int x] a ka k9 nu fg (x + nu) [10] := by
  intro h m f hA hR hne hm
  refine ⟨upd f m (nI 10), f_ext_one, ?_⟩
  have hb := r_X0_begin (b := 10) hA hR hne (by simp at hm; omega)
  refine g_Run.of (lv := [(0, .ref (g_ad G a)), (1, .int (nI 4)), (2, .int x)]) (by decide) (Nat.le_of_ble_eq_true rfl) rfl ?_
  refine a_iload_n 1 1 rfl dX0_grows_0 rfl rfl ?_
  refine a_lookup (off := 56) 57 dX0_grows_1 (by decide) (by decide) (by decide) ?_
  refine a_aload_n 0 58 rfl dX0_grows_57 rfl rfl ?_
  refine a_bipush (x := 10) 60 rfl dX0_grows_58 (by decide) ?_
  refine a_callV (as := [.int 10]) (rest := []) (st2 := []) (u1 := 0) (v1 := 0) (u2 := 0) (v2 := 0) (hb) (⟨_, _, _, _, hA, rfl⟩) oX0_begin q_1014 q_1016 q_71 rfl (by omega) (by decide) rfl (Nat.le_of_ble_eq_true rfl) 63 rfl dX0_grows_60 rfl ?_
  refine a_iload_n 2 64 rfl dX0_grows_63 rfl rfl ?_
  refine a_aload_n 0 65 rfl dX0_grows_64 rfl rfl ?_
  refine a_get 3 cl_0 f_RX0_29_0 (by decide) (g_set_eq (g_set_ne (Ne.symm hne) hA)) rfl 68 rfl dX0_grows_65 ?_
  refine a_iadd 69 rfl dX0_grows_68 ?_
  exact a_ireturn .int rfl rfl (rfl) (rfl) dX0_grows_69

/-- one body more, then an act -/
theorem g_act.next {M : g_M} {d : Nat} {as : List Value} {k : Nat} {nu fg r : Int32} {l : List Nat} (ha : g_act G M d as a ka k nu fg r l) {h : List va_E} {m b : Nat} {f : Nat → Int32} (hA : h[a]? = some (c_Ac G ka m k nu fg)) (hR : h[ka]? = some (c_I G 24 f)) (hne : a ≠ ka) (hm : m + (l.length + 1) ≤ 24) : ∃ f2, f_ext f f2 m (b :: l) ∧ g_Run G M d 0 0 (.ref (g_ad G a) :: as) ((h.set ka (c_I G 24 (upd f m (nI b)))).set a (c_Ac G ka (m + 1) k nu fg)) (some (.int r)) ((h.set ka (c_I G 24 f2)).set a (c_Ac G ka (m + (l.length + 1)) k nu fg)) := by
  obtain ⟨f2, e2, w⟩ := ha _ (m + 1) (upd f m (nI b)) (g_set_eq (g_set_ne (Ne.symm hne) hA)) (g_set_ne hne (g_set_eq hR)) hne (by omega)
  refine ⟨f2, f_ext.app (l := [b]) f_ext_one e2, ?_⟩
  rw [g_set2 hne, show m + 1 + l.length = m + (l.length + 1) by omega] at w
  exact w
theorem r_X0_grows2 {d k9 : Nat} {x nu fg : Int32} (hd : 3 ≤ d) : g_act G mX0_grows d [.int (nI 2), .int x] a ka k9 nu fg (-(x + nu)) [30, 10] := by
  intro h m f hA hR hne hm
  have hb := r_X0_begin (b := 30) hA hR hne (by simp at hm; omega)
  obtain ⟨f2, e2, w⟩ := (r_X0_growsA (d := d - 1) (G := G) (a := a) (ka := ka) (k9 := k9) (x := x) (nu := nu) (fg := fg) (by omega)).next (b := 30) hA hR hne (by simp at hm ⊢; omega)
  refine ⟨f2, e2, ?_⟩
  refine g_Run.of (lv := [(0, .ref (g_ad G a)), (1, .int (nI 2)), (2, .int x)]) (by decide) (Nat.le_of_ble_eq_true rfl) rfl ?_
  refine a_iload_n 1 1 rfl dX0_grows_0 rfl rfl ?_
  refine a_lookup (off := 42) 43 dX0_grows_1 (by decide) (by decide) (by decide) ?_
  refine a_aload_n 0 44 rfl dX0_grows_43 rfl rfl ?_
  refine a_bipush (x := 30) 46 rfl dX0_grows_44 (by decide) ?_
  refine a_callV (as := [.int 30]) (rest := []) (st2 := []) (u1 := 0) (v1 := 0) (u2 := 0) (v2 := 0) (hb) (⟨_, _, _, _, hA, rfl⟩) oX0_begin q_1014 q_1016 q_71 rfl (by omega) (by decide) rfl (Nat.le_of_ble_eq_true rfl) 49 rfl dX0_grows_46 rfl ?_
  refine a_aload_n 0 50 rfl dX0_grows_49 rfl rfl ?_
  refine a_iconst (x := 0) 51 rfl dX0_grows_50 (by decide) ?_
  refine a_iload_n 2 52 rfl dX0_grows_51 rfl rfl ?_
  refine a_callV (as := [.int 0, .int x]) (rest := []) (st2 := [.int (x + nu)]) (u1 := 0) (v1 := 0) (u2 := 0) (v2 := 0) (w) (⟨_, _, _, _, g_set_eq (g_set_ne (Ne.symm hne) hA), rfl⟩) oX0_grows q_1010 q_1012 q_70 rfl (by omega) (by decide) rfl (Nat.le_of_ble_eq_true rfl) 55 rfl dX0_grows_52 rfl ?_
  refine a_ineg 56 rfl dX0_grows_55 ?_
  exact a_ireturn .int rfl rfl (rfl) (rfl) dX0_grows_56
theorem r_X0_grows5 {d k9 : Nat} {x nu fg : Int32} (hd : 4 ≤ d) : g_act G mX0_grows d [.int (nI 5), .int x] a ka k9 nu fg (-(x + nu) * 3) [41, 30, 10] := by
  intro h m f hA hR hne hm
  have hb := r_X0_begin (b := 41) hA hR hne (by simp at hm; omega)
  obtain ⟨f2, e2, w⟩ := (r_X0_grows2 (d := d - 1) (G := G) (a := a) (ka := ka) (k9 := k9) (x := x) (nu := nu) (fg := fg) (by omega)).next (b := 41) hA hR hne (by simp at hm ⊢; omega)
  refine ⟨f2, e2, ?_⟩
  refine g_Run.of (lv := [(0, .ref (g_ad G a)), (1, .int (nI 5)), (2, .int x)]) (by decide) (Nat.le_of_ble_eq_true rfl) rfl ?_
  refine a_iload_n 1 1 rfl dX0_grows_0 rfl rfl ?_
  refine a_lookup (off := 27) 28 dX0_grows_1 (by decide) (by decide) (by decide) ?_
  refine a_aload_n 0 29 rfl dX0_grows_28 rfl rfl ?_
  refine a_bipush (x := 41) 31 rfl dX0_grows_29 (by decide) ?_
  refine a_callV (as := [.int 41]) (rest := []) (st2 := []) (u1 := 0) (v1 := 0) (u2 := 0) (v2 := 0) (hb) (⟨_, _, _, _, hA, rfl⟩) oX0_begin q_1014 q_1016 q_71 rfl (by omega) (by decide) rfl (Nat.le_of_ble_eq_true rfl) 34 rfl dX0_grows_31 rfl ?_
  refine a_aload_n 0 35 rfl dX0_grows_34 rfl rfl ?_
  refine a_iconst (x := 2) 36 rfl dX0_grows_35 (by decide) ?_
  refine a_iload_n 2 37 rfl dX0_grows_36 rfl rfl ?_
  refine a_callV (as := [.int 2, .int x]) (rest := []) (st2 := [.int (-(x + nu))]) (u1 := 0) (v1 := 0) (u2 := 0) (v2 := 0) (w) (⟨_, _, _, _, g_set_eq (g_set_ne (Ne.symm hne) hA), rfl⟩) oX0_grows q_1010 q_1012 q_70 rfl (by omega) (by decide) rfl (Nat.le_of_ble_eq_true rfl) 40 rfl dX0_grows_37 rfl ?_
  refine a_iconst (x := 3) 41 rfl dX0_grows_40 (by decide) ?_
  refine a_imul 42 rfl dX0_grows_41 ?_
  exact a_ireturn .int rfl rfl (rfl) (rfl) dX0_grows_42
/-- what grows answers, and the bodies that it begins, for a family of kind k -/
def f_grows (k : Nat) (x nu : Int32) : Int32 := match k with
  | 2 => -(x + nu)
  | 5 => -(x + nu) * 3
  | _ => x + nu
def l_grows (k : Nat) : List Nat := match k with
  | 2 => [30, 10]
  | 5 => [41, 30, 10]
  | _ => [10]
theorem r_X0_grows {d k k9 : Nat} {x nu fg : Int32} (hk : k < 6) (hd : 4 ≤ d) : g_act G mX0_grows d [.int (nI k), .int x] a ka k9 nu fg (f_grows k x nu) (l_grows k) := by
  match k, hk with
  | 0, _ => exact r_X0_growsA (by omega)
  | 1, _ => exact r_X0_growsB (by omega)
  | 2, _ => exact r_X0_grows2 (by omega)
  | 3, _ => exact r_X0_growsC (by omega)
  | 4, _ => exact r_X0_growsD (by omega)
  | 5, _ => exact r_X0_grows5 hd
/-- an act behind an act -/
theorem g_act.then {M : g_M} {d : Nat} {as : List Value} {k : Nat} {nu fg r : Int32} {l : List Nat} (ha : g_act G M d as a ka k nu fg r l) {h : List va_E} {m : Nat} {f f1 : Nat → Int32} {l1 : List Nat} (hA : h[a]? = some (c_Ac G ka m k nu fg)) (hR : h[ka]? = some (c_I G 24 f)) (hne : a ≠ ka) (e1 : f_ext f f1 m l1) (hm : m + (l1.length + l.length) ≤ 24) : ∃ f2, f_ext f f2 m (l1 ++ l) ∧ g_Run G M d 0 0 (.ref (g_ad G a) :: as) ((h.set ka (c_I G 24 f1)).set a (c_Ac G ka (m + l1.length) k nu fg)) (some (.int r)) ((h.set ka (c_I G 24 f2)).set a (c_Ac G ka (m + (l1 ++ l).length) k nu fg)) := by
  obtain ⟨f2, e2, w⟩ := ha _ (m + l1.length) f1 (g_set_eq (g_set_ne (Ne.symm hne) hA)) (g_set_ne hne (g_set_eq hR)) hne (by omega)
  refine ⟨f2, f_ext.app e1 e2, ?_⟩
  rw [g_set2 hne, show m + l1.length + l.length = m + (l1 ++ l).length by rw [List.length_append]; omega] at w
  exact w
theorem r_X0_turnsA {d k9 : Nat} {x nu fg : Int32} (hk9 : k9 < 6) (hd : 5 ≤ d) : g_act G mX0_turns d [.int (nI 0), .int x] a ka k9 nu fg (f_grows k9 x nu * 2) (11 :: l_grows k9) := by
  intro h m f hA hR hne hm
  have hb := r_X0_begin (b := 11) hA hR hne (by simp at hm; omega)
  obtain ⟨f2, e2, w⟩ := (r_X0_grows (d := d - 1) (k := k9) (G := G) (a := a) (ka := ka) (k9 := k9) (x := x) (nu := nu) (fg := fg) hk9 (by omega)).next (b := 11) hA hR hne (by simp at hm ⊢; omega)
  refine ⟨f2, e2, ?_⟩
  refine g_Run.of (lv := [(0, .ref (g_ad G a)), (1, .int (nI 0)), (2, .int x)]) (by decide) (Nat.le_of_ble_eq_true rfl) rfl ?_
  refine a_iload_n 1 1 rfl dX0_turns_0 rfl rfl ?_
  refine a_tableOut 70 dX0_turns_1 ((Or.inl (by decide))) (by decide) ?_
  refine a_aload_n 0 71 rfl dX0_turns_70 rfl rfl ?_
  refine a_bipush (x := 11) 73 rfl dX0_turns_71 (by decide) ?_
  refine a_callV (as := [.int 11]) (rest := []) (st2 := []) (u1 := 0) (v1 := 0) (u2 := 0) (v2 := 0) (hb) (⟨_, _, _, _, hA, rfl⟩) oX0_begin q_1014 q_1016 q_71 rfl (by omega) (by decide) rfl (Nat.le_of_ble_eq_true rfl) 76 rfl dX0_turns_73 rfl ?_
  refine a_aload_n 0 77 rfl dX0_turns_76 rfl rfl ?_
  refine a_aload_n 0 78 rfl dX0_turns_77 rfl rfl ?_
  refine a_get 2 cl_0 f_RX0_24_0 (by decide) (g_set_eq (g_set_ne (Ne.symm hne) hA)) rfl 81 rfl dX0_turns_78 ?_
  refine a_iload_n 2 82 rfl dX0_turns_81 rfl rfl ?_
  refine a_callV (as := [.int (nI k9), .int x]) (rest := []) (st2 := [.int (f_grows k9 x nu)]) (u1 := 0) (v1 := 0) (u2 := 0) (v2 := 0) (w) (⟨_, _, _, _, g_set_eq (g_set_ne (Ne.symm hne) hA), rfl⟩) oX0_grows q_1010 q_1012 q_70 rfl (by omega) (by decide) rfl (Nat.le_of_ble_eq_true rfl) 85 rfl dX0_turns_82 rfl ?_
  refine a_iconst (x := 2) 86 rfl dX0_turns_85 (by decide) ?_
  refine a_imul 87 rfl dX0_turns_86 ?_
  exact a_ireturn .int rfl rfl (rfl) (rfl) dX0_turns_87

theorem r_X0_turnsB {d k9 : Nat} {x nu fg : Int32} (hk9 : k9 < 6) (hd : 5 ≤ d) : g_act G mX0_turns d [.int (nI 2), .int x] a ka k9 nu fg (f_grows k9 x nu * 2) (11 :: l_grows k9) := by
  intro h m f hA hR hne hm
  have hb := r_X0_begin (b := 11) hA hR hne (by simp at hm; omega)
  obtain ⟨f2, e2, w⟩ := (r_X0_grows (d := d - 1) (k := k9) (G := G) (a := a) (ka := ka) (k9 := k9) (x := x) (nu := nu) (fg := fg) hk9 (by omega)).next (b := 11) hA hR hne (by simp at hm ⊢; omega)
  refine ⟨f2, e2, ?_⟩
  refine g_Run.of (lv := [(0, .ref (g_ad G a)), (1, .int (nI 2)), (2, .int x)]) (by decide) (Nat.le_of_ble_eq_true rfl) rfl ?_
  refine a_iload_n 1 1 rfl dX0_turns_0 rfl rfl ?_
  refine a_tableIn (off := 69) 70 dX0_turns_1 (by decide) (by decide) (by decide) (by decide) ?_
  refine a_aload_n 0 71 rfl dX0_turns_70 rfl rfl ?_
  refine a_bipush (x := 11) 73 rfl dX0_turns_71 (by decide) ?_
  refine a_callV (as := [.int 11]) (rest := []) (st2 := []) (u1 := 0) (v1 := 0) (u2 := 0) (v2 := 0) (hb) (⟨_, _, _, _, hA, rfl⟩) oX0_begin q_1014 q_1016 q_71 rfl (by omega) (by decide) rfl (Nat.le_of_ble_eq_true rfl) 76 rfl dX0_turns_73 rfl ?_
  refine a_aload_n 0 77 rfl dX0_turns_76 rfl rfl ?_
  refine a_aload_n 0 78 rfl dX0_turns_77 rfl rfl ?_
  refine a_get 2 cl_0 f_RX0_24_0 (by decide) (g_set_eq (g_set_ne (Ne.symm hne) hA)) rfl 81 rfl dX0_turns_78 ?_
  refine a_iload_n 2 82 rfl dX0_turns_81 rfl rfl ?_
  refine a_callV (as := [.int (nI k9), .int x]) (rest := []) (st2 := [.int (f_grows k9 x nu)]) (u1 := 0) (v1 := 0) (u2 := 0) (v2 := 0) (w) (⟨_, _, _, _, g_set_eq (g_set_ne (Ne.symm hne) hA), rfl⟩) oX0_grows q_1010 q_1012 q_70 rfl (by omega) (by decide) rfl (Nat.le_of_ble_eq_true rfl) 85 rfl dX0_turns_82 rfl ?_
  refine a_iconst (x := 2) 86 rfl dX0_turns_85 (by decide) ?_
  refine a_imul 87 rfl dX0_turns_86 ?_
  exact a_ireturn .int rfl rfl (rfl) (rfl) dX0_turns_87

theorem r_X0_turnsC {d k9 : Nat} {x nu fg : Int32} (hk9 : k9 < 6) (hd : 5 ≤ d) : g_act G mX0_turns d [.int (nI 5), .int x] a ka k9 nu fg (f_grows k9 x nu * 2) (11 :: l_grows k9) := by
  intro h m f hA hR hne hm
  have hb := r_X0_begin (b := 11) hA hR hne (by simp at hm; omega)
  obtain ⟨f2, e2, w⟩ := (r_X0_grows (d := d - 1) (k := k9) (G := G) (a := a) (ka := ka) (k9 := k9) (x := x) (nu := nu) (fg := fg) hk9 (by omega)).next (b := 11) hA hR hne (by simp at hm ⊢; omega)
  refine ⟨f2, e2, ?_⟩
  refine g_Run.of (lv := [(0, .ref (g_ad G a)), (1, .int (nI 5)), (2, .int x)]) (by decide) (Nat.le_of_ble_eq_true rfl) rfl ?_
  refine a_iload_n 1 1 rfl dX0_turns_0 rfl rfl ?_
  refine a_tableOut 70 dX0_turns_1 ((Or.inr (by decide))) (by decide) ?_
  refine a_aload_n 0 71 rfl dX0_turns_70 rfl rfl ?_
  refine a_bipush (x := 11) 73 rfl dX0_turns_71 (by decide) ?_
  refine a_callV (as := [.int 11]) (rest := []) (st2 := []) (u1 := 0) (v1 := 0) (u2 := 0) (v2 := 0) (hb) (⟨_, _, _, _, hA, rfl⟩) oX0_begin q_1014 q_1016 q_71 rfl (by omega) (by decide) rfl (Nat.le_of_ble_eq_true rfl) 76 rfl dX0_turns_73 rfl ?_
  refine a_aload_n 0 77 rfl dX0_turns_76 rfl rfl ?_
  refine a_aload_n 0 78 rfl dX0_turns_77 rfl rfl ?_
  refine a_get 2 cl_0 f_RX0_24_0 (by decide) (g_set_eq (g_set_ne (Ne.symm hne) hA)) rfl 81 rfl dX0_turns_78 ?_
  refine a_iload_n 2 82 rfl dX0_turns_81 rfl rfl ?_
  refine a_callV (as := [.int (nI k9), .int x]) (rest := []) (st2 := [.int (f_grows k9 x nu)]) (u1 := 0) (v1 := 0) (u2 := 0) (v2 := 0) (w) (⟨_, _, _, _, g_set_eq (g_set_ne (Ne.symm hne) hA), rfl⟩) oX0_grows q_1010 q_1012 q_70 rfl (by omega) (by decide) rfl (Nat.le_of_ble_eq_true rfl) 85 rfl dX0_turns_82 rfl ?_
  refine a_iconst (x := 2) 86 rfl dX0_turns_85 (by decide) ?_
  refine a_imul 87 rfl dX0_turns_86 ?_
  exact a_ireturn .int rfl rfl (rfl) (rfl) dX0_turns_87

theorem r_X0_turns1 {d k9 : Nat} {x nu fg : Int32} (hk9 : k9 < 6) (hd : 6 ≤ d) : g_act G mX0_turns d [.int (nI 1), .int x] a ka k9 nu fg ((f_grows k9 x nu * 2) ^^^ 3) (20 :: 11 :: l_grows k9) := by
  intro h m f hA hR hne hm
  have hb := r_X0_begin (b := 20) hA hR hne (by simp at hm; omega)
  obtain ⟨f2, e2, w⟩ := (r_X0_turnsA (d := d - 1) (G := G) (a := a) (ka := ka) (k9 := k9) (x := x) (nu := nu) (fg := fg) hk9 (by omega)).next (b := 20) hA hR hne (by simp at hm ⊢; omega)
  refine ⟨f2, e2, ?_⟩
  refine g_Run.of (lv := [(0, .ref (g_ad G a)), (1, .int (nI 1)), (2, .int x)]) (by decide) (Nat.le_of_ble_eq_true rfl) rfl ?_
  refine a_iload_n 1 1 rfl dX0_turns_0 rfl rfl ?_
  refine a_tableIn (off := 31) 32 dX0_turns_1 (by decide) (by decide) (by decide) (by decide) ?_
  refine a_aload_n 0 33 rfl dX0_turns_32 rfl rfl ?_
  refine a_bipush (x := 20) 35 rfl dX0_turns_33 (by decide) ?_
  refine a_callV (as := [.int 20]) (rest := []) (st2 := []) (u1 := 0) (v1 := 0) (u2 := 0) (v2 := 0) (hb) (⟨_, _, _, _, hA, rfl⟩) oX0_begin q_1014 q_1016 q_71 rfl (by omega) (by decide) rfl (Nat.le_of_ble_eq_true rfl) 38 rfl dX0_turns_35 rfl ?_
  refine a_aload_n 0 39 rfl dX0_turns_38 rfl rfl ?_
  refine a_iconst (x := 0) 40 rfl dX0_turns_39 (by decide) ?_
  refine a_iload_n 2 41 rfl dX0_turns_40 rfl rfl ?_
  refine a_callV (as := [.int 0, .int x]) (rest := []) (st2 := [.int (f_grows k9 x nu * 2)]) (u1 := 0) (v1 := 0) (u2 := 0) (v2 := 0) (w) (⟨_, _, _, _, g_set_eq (g_set_ne (Ne.symm hne) hA), rfl⟩) oX0_turns q_1018 q_1020 q_72 rfl (by omega) (by decide) rfl (Nat.le_of_ble_eq_true rfl) 44 rfl dX0_turns_41 rfl ?_
  refine a_iconst (x := 3) 45 rfl dX0_turns_44 (by decide) ?_
  refine a_ixor 46 rfl dX0_turns_45 ?_
  exact a_ireturn .int rfl rfl (rfl) (rfl) dX0_turns_46
theorem r_X0_turns3 {d k9 : Nat} {x nu fg : Int32} (hk9 : k9 < 6) (hd : 6 ≤ d) : g_act G mX0_turns d [.int (nI 3), .int x] a ka k9 nu fg (f_grows k9 x nu * 2 + f_grows k9 2 nu) ((50 :: 11 :: l_grows k9) ++ l_grows k9) := by
  intro h m f hA hR hne hm
  have hb := r_X0_begin (b := 50) hA hR hne (by simp at hm; omega)
  obtain ⟨f2, e2, w⟩ := (r_X0_turnsA (d := d - 1) (G := G) (a := a) (ka := ka) (k9 := k9) (x := x) (nu := nu) (fg := fg) hk9 (by omega)).next (b := 50) hA hR hne (by simp at hm ⊢; omega)
  obtain ⟨f3, e3, w3⟩ := (r_X0_grows (d := d - 1) (k := k9) (G := G) (a := a) (ka := ka) (k9 := k9) (x := 2) (nu := nu) (fg := fg) hk9 (by omega)).then (l1 := 50 :: 11 :: l_grows k9) hA hR hne e2 (by simp at hm ⊢; omega)
  refine ⟨f3, e3, ?_⟩
  refine g_Run.of (lv := [(0, .ref (g_ad G a)), (1, .int (nI 3)), (2, .int x)]) (by decide) (Nat.le_of_ble_eq_true rfl) rfl ?_
  refine a_iload_n 1 1 rfl dX0_turns_0 rfl rfl ?_
  refine a_tableIn (off := 46) 47 dX0_turns_1 (by decide) (by decide) (by decide) (by decide) ?_
  refine a_aload_n 0 48 rfl dX0_turns_47 rfl rfl ?_
  refine a_bipush (x := 50) 50 rfl dX0_turns_48 (by decide) ?_
  refine a_callV (as := [.int 50]) (rest := []) (st2 := []) (u1 := 0) (v1 := 0) (u2 := 0) (v2 := 0) (hb) (⟨_, _, _, _, hA, rfl⟩) oX0_begin q_1014 q_1016 q_71 rfl (by omega) (by decide) rfl (Nat.le_of_ble_eq_true rfl) 53 rfl dX0_turns_50 rfl ?_
  refine a_aload_n 0 54 rfl dX0_turns_53 rfl rfl ?_
  refine a_iconst (x := 0) 55 rfl dX0_turns_54 (by decide) ?_
  refine a_iload_n 2 56 rfl dX0_turns_55 rfl rfl ?_
  refine a_callV (as := [.int 0, .int x]) (rest := []) (st2 := [.int (f_grows k9 x nu * 2)]) (u1 := 0) (v1 := 0) (u2 := 0) (v2 := 0) (w) (⟨_, _, _, _, g_set_eq (g_set_ne (Ne.symm hne) hA), rfl⟩) oX0_turns q_1018 q_1020 q_72 rfl (by omega) (by decide) rfl (Nat.le_of_ble_eq_true rfl) 59 rfl dX0_turns_56 rfl ?_
  refine a_aload_n 0 60 rfl dX0_turns_59 rfl rfl ?_
  refine a_aload_n 0 61 rfl dX0_turns_60 rfl rfl ?_
  refine a_get 2 cl_0 f_RX0_24_0 (by decide) (g_set_eq (g_set_ne (Ne.symm hne) hA)) rfl 64 rfl dX0_turns_61 ?_
  refine a_iconst (x := 2) 65 rfl dX0_turns_64 (by decide) ?_
  refine a_callV (as := [.int (nI k9), .int 2]) (rest := [.int (f_grows k9 x nu * 2)]) (st2 := [.int (f_grows k9 2 nu), .int (f_grows k9 x nu * 2)]) (u1 := 0) (v1 := 0) (u2 := 0) (v2 := 0) (w3) (⟨_, _, _, _, g_set_eq (g_set_ne (Ne.symm hne) hA), rfl⟩) oX0_grows q_1010 q_1012 q_70 rfl (by omega) (by decide) rfl (Nat.le_of_ble_eq_true rfl) 68 rfl dX0_turns_65 rfl ?_
  refine a_iadd 69 rfl dX0_turns_68 ?_
  exact a_ireturn .int rfl rfl (rfl) (rfl) dX0_turns_69

theorem r_X0_turns4 {d k9 : Nat} {x nu fg : Int32} (hk9 : k9 < 6) (hd : 6 ≤ d) : g_act G mX0_turns d [.int (nI 4), .int x] a ka k9 nu fg (f_grows k9 x nu * 2 + f_grows k9 2 nu) ((50 :: 11 :: l_grows k9) ++ l_grows k9) := by
  intro h m f hA hR hne hm
  have hb := r_X0_begin (b := 50) hA hR hne (by simp at hm; omega)
  obtain ⟨f2, e2, w⟩ := (r_X0_turnsA (d := d - 1) (G := G) (a := a) (ka := ka) (k9 := k9) (x := x) (nu := nu) (fg := fg) hk9 (by omega)).next (b := 50) hA hR hne (by simp at hm ⊢; omega)
  obtain ⟨f3, e3, w3⟩ := (r_X0_grows (d := d - 1) (k := k9) (G := G) (a := a) (ka := ka) (k9 := k9) (x := 2) (nu := nu) (fg := fg) hk9 (by omega)).then (l1 := 50 :: 11 :: l_grows k9) hA hR hne e2 (by simp at hm ⊢; omega)
  refine ⟨f3, e3, ?_⟩
  refine g_Run.of (lv := [(0, .ref (g_ad G a)), (1, .int (nI 4)), (2, .int x)]) (by decide) (Nat.le_of_ble_eq_true rfl) rfl ?_
  refine a_iload_n 1 1 rfl dX0_turns_0 rfl rfl ?_
  refine a_tableIn (off := 46) 47 dX0_turns_1 (by decide) (by decide) (by decide) (by decide) ?_
  refine a_aload_n 0 48 rfl dX0_turns_47 rfl rfl ?_
  refine a_bipush (x := 50) 50 rfl dX0_turns_48 (by decide) ?_
  refine a_callV (as := [.int 50]) (rest := []) (st2 := []) (u1 := 0) (v1 := 0) (u2 := 0) (v2 := 0) (hb) (⟨_, _, _, _, hA, rfl⟩) oX0_begin q_1014 q_1016 q_71 rfl (by omega) (by decide) rfl (Nat.le_of_ble_eq_true rfl) 53 rfl dX0_turns_50 rfl ?_
  refine a_aload_n 0 54 rfl dX0_turns_53 rfl rfl ?_
  refine a_iconst (x := 0) 55 rfl dX0_turns_54 (by decide) ?_
  refine a_iload_n 2 56 rfl dX0_turns_55 rfl rfl ?_
  refine a_callV (as := [.int 0, .int x]) (rest := []) (st2 := [.int (f_grows k9 x nu * 2)]) (u1 := 0) (v1 := 0) (u2 := 0) (v2 := 0) (w) (⟨_, _, _, _, g_set_eq (g_set_ne (Ne.symm hne) hA), rfl⟩) oX0_turns q_1018 q_1020 q_72 rfl (by omega) (by decide) rfl (Nat.le_of_ble_eq_true rfl) 59 rfl dX0_turns_56 rfl ?_
  refine a_aload_n 0 60 rfl dX0_turns_59 rfl rfl ?_
  refine a_aload_n 0 61 rfl dX0_turns_60 rfl rfl ?_
  refine a_get 2 cl_0 f_RX0_24_0 (by decide) (g_set_eq (g_set_ne (Ne.symm hne) hA)) rfl 64 rfl dX0_turns_61 ?_
  refine a_iconst (x := 2) 65 rfl dX0_turns_64 (by decide) ?_
  refine a_callV (as := [.int (nI k9), .int 2]) (rest := [.int (f_grows k9 x nu * 2)]) (st2 := [.int (f_grows k9 2 nu), .int (f_grows k9 x nu * 2)]) (u1 := 0) (v1 := 0) (u2 := 0) (v2 := 0) (w3) (⟨_, _, _, _, g_set_eq (g_set_ne (Ne.symm hne) hA), rfl⟩) oX0_grows q_1010 q_1012 q_70 rfl (by omega) (by decide) rfl (Nat.le_of_ble_eq_true rfl) 68 rfl dX0_turns_65 rfl ?_
  refine a_iadd 69 rfl dX0_turns_68 ?_
  exact a_ireturn .int rfl rfl (rfl) (rfl) dX0_turns_69

def f_turns (k k9 : Nat) (x nu : Int32) : Int32 := match k with
  | 1 => (f_grows k9 x nu * 2) ^^^ 3
  | 3 => f_grows k9 x nu * 2 + f_grows k9 2 nu
  | 4 => f_grows k9 x nu * 2 + f_grows k9 2 nu
  | _ => f_grows k9 x nu * 2
def l_turns (k k9 : Nat) : List Nat := match k with
  | 1 => 20 :: 11 :: l_grows k9
  | 3 => (50 :: 11 :: l_grows k9) ++ l_grows k9
  | 4 => (50 :: 11 :: l_grows k9) ++ l_grows k9
  | _ => 11 :: l_grows k9
theorem r_X0_turns {d k k9 : Nat} {x nu fg : Int32} (hk : k < 6) (hk9 : k9 < 6) (hd : 6 ≤ d) : g_act G mX0_turns d [.int (nI k), .int x] a ka k9 nu fg (f_turns k k9 x nu) (l_turns k k9) := by
  match k, hk with
  | 0, _ => exact r_X0_turnsA hk9 (by omega)
  | 1, _ => exact r_X0_turns1 hk9 hd
  | 2, _ => exact r_X0_turnsB hk9 (by omega)
  | 3, _ => exact r_X0_turns3 hk9 hd
  | 4, _ => exact r_X0_turns4 hk9 hd
  | 5, _ => exact r_X0_turnsC hk9 (by omega)
theorem r_X0_tellsA {d k9 : Nat} {x nu fg : Int32} (hk9 : k9 < 6) (hd : 7 ≤ d) : g_act G mX0_tells d [.int (nI 0), .int x] a ka k9 nu fg (f_turns k9 k9 x nu - fg) (12 :: l_turns k9 k9) := by
  intro h m f hA hR hne hm
  have hb := r_X0_begin (b := 12) hA hR hne (by simp at hm; omega)
  obtain ⟨f2, e2, w⟩ := (r_X0_turns (d := d - 1) (k := k9) (G := G) (a := a) (ka := ka) (k9 := k9) (x := x) (nu := nu) (fg := fg) hk9 hk9 (by omega)).next (b := 12) hA hR hne (by simp at hm ⊢; omega)
  refine ⟨f2, e2, ?_⟩
  refine g_Run.of (lv := [(0, .ref (g_ad G a)), (1, .int (nI 0)), (2, .int x)]) (by decide) (Nat.le_of_ble_eq_true rfl) rfl ?_
  refine a_iload_n 1 1 rfl dX0_tells_0 rfl rfl ?_
  refine a_lookup (off := 60) 61 dX0_tells_1 (by decide) (by decide) (by decide) ?_
  refine a_aload_n 0 62 rfl dX0_tells_61 rfl rfl ?_
  refine a_bipush (x := 12) 64 rfl dX0_tells_62 (by decide) ?_
  refine a_callV (as := [.int 12]) (rest := []) (st2 := []) (u1 := 0) (v1 := 0) (u2 := 0) (v2 := 0) (hb) (⟨_, _, _, _, hA, rfl⟩) oX0_begin q_1014 q_1016 q_71 rfl (by omega) (by decide) rfl (Nat.le_of_ble_eq_true rfl) 67 rfl dX0_tells_64 rfl ?_
  refine a_aload_n 0 68 rfl dX0_tells_67 rfl rfl ?_
  refine a_aload_n 0 69 rfl dX0_tells_68 rfl rfl ?_
  refine a_get 2 cl_0 f_RX0_24_0 (by decide) (g_set_eq (g_set_ne (Ne.symm hne) hA)) rfl 72 rfl dX0_tells_69 ?_
  refine a_iload_n 2 73 rfl dX0_tells_72 rfl rfl ?_
  refine a_callV (as := [.int (nI k9), .int x]) (rest := []) (st2 := [.int (f_turns k9 k9 x nu)]) (u1 := 0) (v1 := 0) (u2 := 0) (v2 := 0) (w) (⟨_, _, _, _, g_set_eq (g_set_ne (Ne.symm hne) hA), rfl⟩) oX0_turns q_1018 q_1020 q_72 rfl (by omega) (by decide) rfl (Nat.le_of_ble_eq_true rfl) 76 rfl dX0_tells_73 rfl ?_
  refine a_aload_n 0 77 rfl dX0_tells_76 rfl rfl ?_
  refine a_get 4 cl_0 f_RX0_28_0 (by decide) (g_set_eq (g_set_ne (Ne.symm hne) hA)) rfl 80 rfl dX0_tells_77 ?_
  refine a_isub 81 rfl dX0_tells_80 ?_
  exact a_ireturn .int rfl rfl (rfl) (rfl) dX0_tells_81

theorem r_X0_tellsB {d k9 : Nat} {x nu fg : Int32} (hk9 : k9 < 6) (hd : 7 ≤ d) : g_act G mX0_tells d [.int (nI 1), .int x] a ka k9 nu fg (f_turns k9 k9 x nu - fg) (12 :: l_turns k9 k9) := by
  intro h m f hA hR hne hm
  have hb := r_X0_begin (b := 12) hA hR hne (by simp at hm; omega)
  obtain ⟨f2, e2, w⟩ := (r_X0_turns (d := d - 1) (k := k9) (G := G) (a := a) (ka := ka) (k9 := k9) (x := x) (nu := nu) (fg := fg) hk9 hk9 (by omega)).next (b := 12) hA hR hne (by simp at hm ⊢; omega)
  refine ⟨f2, e2, ?_⟩
  refine g_Run.of (lv := [(0, .ref (g_ad G a)), (1, .int (nI 1)), (2, .int x)]) (by decide) (Nat.le_of_ble_eq_true rfl) rfl ?_
  refine a_iload_n 1 1 rfl dX0_tells_0 rfl rfl ?_
  refine a_lookup (off := 60) 61 dX0_tells_1 (by decide) (by decide) (by decide) ?_
  refine a_aload_n 0 62 rfl dX0_tells_61 rfl rfl ?_
  refine a_bipush (x := 12) 64 rfl dX0_tells_62 (by decide) ?_
  refine a_callV (as := [.int 12]) (rest := []) (st2 := []) (u1 := 0) (v1 := 0) (u2 := 0) (v2 := 0) (hb) (⟨_, _, _, _, hA, rfl⟩) oX0_begin q_1014 q_1016 q_71 rfl (by omega) (by decide) rfl (Nat.le_of_ble_eq_true rfl) 67 rfl dX0_tells_64 rfl ?_
  refine a_aload_n 0 68 rfl dX0_tells_67 rfl rfl ?_
  refine a_aload_n 0 69 rfl dX0_tells_68 rfl rfl ?_
  refine a_get 2 cl_0 f_RX0_24_0 (by decide) (g_set_eq (g_set_ne (Ne.symm hne) hA)) rfl 72 rfl dX0_tells_69 ?_
  refine a_iload_n 2 73 rfl dX0_tells_72 rfl rfl ?_
  refine a_callV (as := [.int (nI k9), .int x]) (rest := []) (st2 := [.int (f_turns k9 k9 x nu)]) (u1 := 0) (v1 := 0) (u2 := 0) (v2 := 0) (w) (⟨_, _, _, _, g_set_eq (g_set_ne (Ne.symm hne) hA), rfl⟩) oX0_turns q_1018 q_1020 q_72 rfl (by omega) (by decide) rfl (Nat.le_of_ble_eq_true rfl) 76 rfl dX0_tells_73 rfl ?_
  refine a_aload_n 0 77 rfl dX0_tells_76 rfl rfl ?_
  refine a_get 4 cl_0 f_RX0_28_0 (by decide) (g_set_eq (g_set_ne (Ne.symm hne) hA)) rfl 80 rfl dX0_tells_77 ?_
  refine a_isub 81 rfl dX0_tells_80 ?_
  exact a_ireturn .int rfl rfl (rfl) (rfl) dX0_tells_81

theorem r_X0_tellsC {d k9 : Nat} {x nu fg : Int32} (hk9 : k9 < 6) (hd : 7 ≤ d) : g_act G mX0_tells d [.int (nI 2), .int x] a ka k9 nu fg (f_turns k9 k9 x nu - fg) (12 :: l_turns k9 k9) := by
  intro h m f hA hR hne hm
  have hb := r_X0_begin (b := 12) hA hR hne (by simp at hm; omega)
  obtain ⟨f2, e2, w⟩ := (r_X0_turns (d := d - 1) (k := k9) (G := G) (a := a) (ka := ka) (k9 := k9) (x := x) (nu := nu) (fg := fg) hk9 hk9 (by omega)).next (b := 12) hA hR hne (by simp at hm ⊢; omega)
  refine ⟨f2, e2, ?_⟩
  refine g_Run.of (lv := [(0, .ref (g_ad G a)), (1, .int (nI 2)), (2, .int x)]) (by decide) (Nat.le_of_ble_eq_true rfl) rfl ?_
  refine a_iload_n 1 1 rfl dX0_tells_0 rfl rfl ?_
  refine a_lookup (off := 60) 61 dX0_tells_1 (by decide) (by decide) (by decide) ?_
  refine a_aload_n 0 62 rfl dX0_tells_61 rfl rfl ?_
  refine a_bipush (x := 12) 64 rfl dX0_tells_62 (by decide) ?_
  refine a_callV (as := [.int 12]) (rest := []) (st2 := []) (u1 := 0) (v1 := 0) (u2 := 0) (v2 := 0) (hb) (⟨_, _, _, _, hA, rfl⟩) oX0_begin q_1014 q_1016 q_71 rfl (by omega) (by decide) rfl (Nat.le_of_ble_eq_true rfl) 67 rfl dX0_tells_64 rfl ?_
  refine a_aload_n 0 68 rfl dX0_tells_67 rfl rfl ?_
  refine a_aload_n 0 69 rfl dX0_tells_68 rfl rfl ?_
  refine a_get 2 cl_0 f_RX0_24_0 (by decide) (g_set_eq (g_set_ne (Ne.symm hne) hA)) rfl 72 rfl dX0_tells_69 ?_
  refine a_iload_n 2 73 rfl dX0_tells_72 rfl rfl ?_
  refine a_callV (as := [.int (nI k9), .int x]) (rest := []) (st2 := [.int (f_turns k9 k9 x nu)]) (u1 := 0) (v1 := 0) (u2 := 0) (v2 := 0) (w) (⟨_, _, _, _, g_set_eq (g_set_ne (Ne.symm hne) hA), rfl⟩) oX0_turns q_1018 q_1020 q_72 rfl (by omega) (by decide) rfl (Nat.le_of_ble_eq_true rfl) 76 rfl dX0_tells_73 rfl ?_
  refine a_aload_n 0 77 rfl dX0_tells_76 rfl rfl ?_
  refine a_get 4 cl_0 f_RX0_28_0 (by decide) (g_set_eq (g_set_ne (Ne.symm hne) hA)) rfl 80 rfl dX0_tells_77 ?_
  refine a_isub 81 rfl dX0_tells_80 ?_
  exact a_ireturn .int rfl rfl (rfl) (rfl) dX0_tells_81

theorem r_X0_tellsD {d k9 : Nat} {x nu fg : Int32} (hk9 : k9 < 6) (hd : 7 ≤ d) : g_act G mX0_tells d [.int (nI 3), .int x] a ka k9 nu fg (f_turns k9 k9 x nu - fg) (12 :: l_turns k9 k9) := by
  intro h m f hA hR hne hm
  have hb := r_X0_begin (b := 12) hA hR hne (by simp at hm; omega)
  obtain ⟨f2, e2, w⟩ := (r_X0_turns (d := d - 1) (k := k9) (G := G) (a := a) (ka := ka) (k9 := k9) (x := x) (nu := nu) (fg := fg) hk9 hk9 (by omega)).next (b := 12) hA hR hne (by simp at hm ⊢; omega)
  refine ⟨f2, e2, ?_⟩
  refine g_Run.of (lv := [(0, .ref (g_ad G a)), (1, .int (nI 3)), (2, .int x)]) (by decide) (Nat.le_of_ble_eq_true rfl) rfl ?_
  refine a_iload_n 1 1 rfl dX0_tells_0 rfl rfl ?_
  refine a_lookup (off := 60) 61 dX0_tells_1 (by decide) (by decide) (by decide) ?_
  refine a_aload_n 0 62 rfl dX0_tells_61 rfl rfl ?_
  refine a_bipush (x := 12) 64 rfl dX0_tells_62 (by decide) ?_
  refine a_callV (as := [.int 12]) (rest := []) (st2 := []) (u1 := 0) (v1 := 0) (u2 := 0) (v2 := 0) (hb) (⟨_, _, _, _, hA, rfl⟩) oX0_begin q_1014 q_1016 q_71 rfl (by omega) (by decide) rfl (Nat.le_of_ble_eq_true rfl) 67 rfl dX0_tells_64 rfl ?_
  refine a_aload_n 0 68 rfl dX0_tells_67 rfl rfl ?_
  refine a_aload_n 0 69 rfl dX0_tells_68 rfl rfl ?_
  refine a_get 2 cl_0 f_RX0_24_0 (by decide) (g_set_eq (g_set_ne (Ne.symm hne) hA)) rfl 72 rfl dX0_tells_69 ?_
  refine a_iload_n 2 73 rfl dX0_tells_72 rfl rfl ?_
  refine a_callV (as := [.int (nI k9), .int x]) (rest := []) (st2 := [.int (f_turns k9 k9 x nu)]) (u1 := 0) (v1 := 0) (u2 := 0) (v2 := 0) (w) (⟨_, _, _, _, g_set_eq (g_set_ne (Ne.symm hne) hA), rfl⟩) oX0_turns q_1018 q_1020 q_72 rfl (by omega) (by decide) rfl (Nat.le_of_ble_eq_true rfl) 76 rfl dX0_tells_73 rfl ?_
  refine a_aload_n 0 77 rfl dX0_tells_76 rfl rfl ?_
  refine a_get 4 cl_0 f_RX0_28_0 (by decide) (g_set_eq (g_set_ne (Ne.symm hne) hA)) rfl 80 rfl dX0_tells_77 ?_
  refine a_isub 81 rfl dX0_tells_80 ?_
  exact a_ireturn .int rfl rfl (rfl) (rfl) dX0_tells_81

theorem r_X0_tells5 {d k9 : Nat} {x nu fg : Int32} (hk9 : k9 < 6) (hd : 8 ≤ d) : g_act G mX0_tells d [.int (nI 5), .int x] a ka k9 nu fg (f_turns k9 k9 (x + 1) nu - fg) (40 :: 12 :: l_turns k9 k9) := by
  intro h m f hA hR hne hm
  have hb := r_X0_begin (b := 40) hA hR hne (by simp at hm; omega)
  obtain ⟨f2, e2, w⟩ := (r_X0_tellsC (d := d - 1) (G := G) (a := a) (ka := ka) (k9 := k9) (x := x + 1) (nu := nu) (fg := fg) hk9 (by omega)).next (b := 40) hA hR hne (by simp at hm ⊢; omega)
  refine ⟨f2, e2, ?_⟩
  refine g_Run.of (lv := [(0, .ref (g_ad G a)), (1, .int (nI 5)), (2, .int x)]) (by decide) (Nat.le_of_ble_eq_true rfl) rfl ?_
  refine a_iload_n 1 1 rfl dX0_tells_0 rfl rfl ?_
  refine a_lookup (off := 27) 28 dX0_tells_1 (by decide) (by decide) (by decide) ?_
  refine a_aload_n 0 29 rfl dX0_tells_28 rfl rfl ?_
  refine a_bipush (x := 40) 31 rfl dX0_tells_29 (by decide) ?_
  refine a_callV (as := [.int 40]) (rest := []) (st2 := []) (u1 := 0) (v1 := 0) (u2 := 0) (v2 := 0) (hb) (⟨_, _, _, _, hA, rfl⟩) oX0_begin q_1014 q_1016 q_71 rfl (by omega) (by decide) rfl (Nat.le_of_ble_eq_true rfl) 34 rfl dX0_tells_31 rfl ?_
  refine a_aload_n 0 35 rfl dX0_tells_34 rfl rfl ?_
  refine a_iconst (x := 2) 36 rfl dX0_tells_35 (by decide) ?_
  refine a_iload_n 2 37 rfl dX0_tells_36 rfl rfl ?_
  refine a_iconst (x := 1) 38 rfl dX0_tells_37 (by decide) ?_
  refine a_iadd 39 rfl dX0_tells_38 ?_
  refine a_callV (as := [.int 2, .int (x + 1)]) (rest := []) (st2 := [.int (f_turns k9 k9 (x + 1) nu - fg)]) (u1 := 0) (v1 := 0) (u2 := 0) (v2 := 0) (w) (⟨_, _, _, _, g_set_eq (g_set_ne (Ne.symm hne) hA), rfl⟩) oX0_tells q_1022 q_1024 q_73 rfl (by omega) (by decide) rfl (Nat.le_of_ble_eq_true rfl) 42 rfl dX0_tells_39 rfl ?_
  exact a_ireturn .int rfl rfl (rfl) (rfl) dX0_tells_42
theorem r_X0_tells4 {d k9 : Nat} {x nu fg : Int32} (hk9 : k9 < 6) (hd : 8 ≤ d) : g_act G mX0_tells d [.int (nI 4), .int x] a ka k9 nu fg ((f_turns k9 k9 x nu - fg) ^^^ fg) (60 :: 12 :: l_turns k9 k9) := by
  intro h m f hA hR hne hm
  have hb := r_X0_begin (b := 60) hA hR hne (by simp at hm; omega)
  obtain ⟨f2, e2, w⟩ := (r_X0_tellsD (d := d - 1) (G := G) (a := a) (ka := ka) (k9 := k9) (x := x) (nu := nu) (fg := fg) hk9 (by omega)).next (b := 60) hA hR hne (by simp at hm ⊢; omega)
  refine ⟨f2, e2, ?_⟩
  refine g_Run.of (lv := [(0, .ref (g_ad G a)), (1, .int (nI 4)), (2, .int x)]) (by decide) (Nat.le_of_ble_eq_true rfl) rfl ?_
  refine a_iload_n 1 1 rfl dX0_tells_0 rfl rfl ?_
  refine a_lookup (off := 42) 43 dX0_tells_1 (by decide) (by decide) (by decide) ?_
  refine a_aload_n 0 44 rfl dX0_tells_43 rfl rfl ?_
  refine a_bipush (x := 60) 46 rfl dX0_tells_44 (by decide) ?_
  refine a_callV (as := [.int 60]) (rest := []) (st2 := []) (u1 := 0) (v1 := 0) (u2 := 0) (v2 := 0) (hb) (⟨_, _, _, _, hA, rfl⟩) oX0_begin q_1014 q_1016 q_71 rfl (by omega) (by decide) rfl (Nat.le_of_ble_eq_true rfl) 49 rfl dX0_tells_46 rfl ?_
  refine a_aload_n 0 50 rfl dX0_tells_49 rfl rfl ?_
  refine a_iconst (x := 3) 51 rfl dX0_tells_50 (by decide) ?_
  refine a_iload_n 2 52 rfl dX0_tells_51 rfl rfl ?_
  refine a_callV (as := [.int 3, .int x]) (rest := []) (st2 := [.int (f_turns k9 k9 x nu - fg)]) (u1 := 0) (v1 := 0) (u2 := 0) (v2 := 0) (w) (⟨_, _, _, _, g_set_eq (g_set_ne (Ne.symm hne) hA), rfl⟩) oX0_tells q_1022 q_1024 q_73 rfl (by omega) (by decide) rfl (Nat.le_of_ble_eq_true rfl) 55 rfl dX0_tells_52 rfl ?_
  refine a_aload_n 0 56 rfl dX0_tells_55 rfl rfl ?_
  refine a_get 4 cl_0 f_RX0_28_0 (by decide) (g_set_eq (g_set_ne (Ne.symm hne) hA)) rfl 59 rfl dX0_tells_56 ?_
  refine a_ixor 60 rfl dX0_tells_59 ?_
  exact a_ireturn .int rfl rfl (rfl) (rfl) dX0_tells_60
def f_tells (k k9 : Nat) (x nu fg : Int32) : Int32 := match k with
  | 5 => f_turns k9 k9 (x + 1) nu - fg
  | 4 => (f_turns k9 k9 x nu - fg) ^^^ fg
  | _ => f_turns k9 k9 x nu - fg
def l_tells (k k9 : Nat) : List Nat := match k with
  | 5 => 40 :: 12 :: l_turns k9 k9
  | 4 => 60 :: 12 :: l_turns k9 k9
  | _ => 12 :: l_turns k9 k9
theorem r_X0_tells {d k k9 : Nat} {x nu fg : Int32} (hk : k < 6) (hk9 : k9 < 6) (hd : 8 ≤ d) : g_act G mX0_tells d [.int (nI k), .int x] a ka k9 nu fg (f_tells k k9 x nu fg) (l_tells k k9) := by
  match k, hk with
  | 0, _ => exact r_X0_tellsA hk9 (by omega)
  | 1, _ => exact r_X0_tellsB hk9 (by omega)
  | 2, _ => exact r_X0_tellsC hk9 (by omega)
  | 3, _ => exact r_X0_tellsD hk9 (by omega)
  | 4, _ => exact r_X0_tells4 hk9 hd
  | 5, _ => exact r_X0_tells5 hk9 hd
/-- act's answer and its bodies, for a family of kind k -/
def f_act (k w : Nat) (x nu fg : Int32) : Int32 := match w with
  | 0 => f_grows k x nu
  | 1 => f_turns k k x nu
  | _ => f_tells k k x nu fg
def l_act (k w : Nat) : List Nat := match w with
  | 0 => l_grows k
  | 1 => l_turns k k
  | _ => l_tells k k
theorem l_act_short {k w : Nat} (hk : k < 6) (hw : w < 3) : (l_act k w).length ≤ 24 := by
  match k, hk, w, hw with
  | 0, _, 0, _ | 0, _, 1, _ | 0, _, 2, _ | 1, _, 0, _ | 1, _, 1, _ | 1, _, 2, _ | 2, _, 0, _ | 2, _, 1, _ | 2, _, 2, _ | 3, _, 0, _ | 3, _, 1, _ | 3, _, 2, _ | 4, _, 0, _ | 4, _, 1, _ | 4, _, 2, _ | 5, _, 0, _ | 5, _, 1, _ | 5, _, 2, _ => decide
end AC2
