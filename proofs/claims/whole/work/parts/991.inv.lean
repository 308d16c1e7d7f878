/-! the invariant between the class's cells and the model's; the form of a call's lemma -/
def v_ref (G : g_G) (ob : List va_E) (r : Option Nat) (T : f_T) : Prop := ∃ o, r = some (g_ad G (63 + o)) ∧ ob[o]? = some (c_Fa T)
def v_fo (G : g_G) (ob : List va_E) (r : Option Nat) : Prop := r = none ∨ ∃ T, v_ref G ob r T
def v_le (ob ob2 : List va_E) : Prop := ∀ (o : Nat) (e : va_E), ob[o]? = some e → ob2[o]? = some e
theorem v_le.rf {ob : List va_E} : v_le ob ob := fun _ _ h => h
theorem v_le.push {ob : List va_E} {c : va_E} : v_le ob (ob ++ [c]) := fun o e h => by
  rw [List.getElem?_append_left (List.getElem?_eq_some_iff.mp h).1]; exact h
theorem v_ref.mono {G : g_G} {ob ob2 : List va_E} {r : Option Nat} {T : f_T} (hl : v_le ob ob2) (h : v_ref G ob r T) : v_ref G ob2 r T := by
  obtain ⟨o, e1, e2⟩ := h
  exact ⟨o, e1, hl o _ e2⟩
theorem v_fo.mono {G : g_G} {ob ob2 : List va_E} {r : Option Nat} (hl : v_le ob ob2) (h : v_fo G ob r) : v_fo G ob2 r := h.imp id (fun ⟨T, e⟩ => ⟨T, e.mono hl⟩)
theorem v_ref.fo {G : g_G} {ob : List va_E} {r : Option Nat} {T : f_T} (h : v_ref G ob r T) : v_fo G ob r := Or.inr ⟨T, h⟩
theorem v_ref.new {G : g_G} {ob : List va_E} {T : f_T} : v_ref G (ob ++ [c_Fa T]) (some (g_ad G (63 + ob.length))) T := ⟨ob.length, rfl, by rw [List.getElem?_append_right (Nat.le_refl _), Nat.sub_self]; rfl⟩
theorem v_ob_at {G : g_G} {M : f_M} {ob : List va_E} {o : Nat} : (g_hm G M ++ ob)[25 + o]? = ob[o]? := by
  rw [List.getElem?_append_right (by show 25 ≤ 25 + o; omega)]
  show ob[25 + o - 25]? = _
  rw [Nat.add_sub_cancel_left]
theorem v_len {G : g_G} {M : f_M} {ob : List va_E} : 38 + (g_hm G M ++ ob).length = 63 + ob.length := by
  rw [List.length_append, show (g_hm G M).length = 25 from rfl]; omega
theorem v_38 {o : Nat} : 38 + (25 + o) = 63 + o := by omega
theorem v_ref.fam {G : g_G} {M : f_M} {ob : List va_E} {r : Option Nat} {T : f_T} (h : v_ref G ob r T) : f_fam G (g_hm G M ++ ob) r T := by
  obtain ⟨o, e1, e2⟩ := h
  exact ⟨25 + o, by rw [e1, v_38], by rw [v_ob_at]; exact e2⟩
theorem v_fo.fo {G : g_G} {M : f_M} {ob : List va_E} {r : Option Nat} (h : v_fo G ob r) : f_fo G (g_hm G M ++ ob) r := h.imp id (fun ⟨T, e⟩ => ⟨T, e.fam⟩)
/-- family j of three rows is T -/
def v_row (A B : Nat → Int32) (D : Nat → Int64) (j : Nat) (T : f_T) : Prop := A j = nI T.1 ∧ B j = nI T.2.1 ∧ D j = T.2.2 ∧ T.1 < 6 ∧ T.2.1 < 10
def v_Ja (n n2 : Nat) : Prop := n = n2 ∧ 1 ≤ n2 ∧ n2 ≤ 6
def v_Jb (G : g_G) (ob : List va_E) (m m2 : Nat) (R : Nat → Option Nat) (A B : Nat → Int32) (D : Nat → Int64) (F : Nat → f_T) : Prop := m = m2 ∧ m2 ≤ 8 ∧ (∀ j, j < 8 → v_fo G ob (R j)) ∧ ∀ j, j < m2 → v_ref G ob (R j) (F j) ∧ v_row A B D j (F j)
def v_Jg (w t w2 t2 : Nat) : Prop := w = w2 ∧ t = t2 ∧ 1 ≤ w2 ∧ w2 ≤ 8 ∧ 1 ≤ t2 ∧ t2 ≤ 8
/-- change i: family j's kind (0) or figure (1) became another -/
def v_ci (G : g_G) (ob : List va_E) (m2 : Nat) (I2 : Nat → Int32) (Rb Ra : Nat → Option Nat) (I4 : Nat → Int32) (T1 T2 : Nat → f_T) (i : Nat) : Prop := ∃ j w, j < m2 ∧ I2 i = nI j ∧ v_ref G ob (Rb i) (T1 j) ∧ v_ref G ob (Ra i) (T2 j) ∧ I4 (4 * i) = nI j ∧ I4 (4 * i + 1) = nI w ∧ ((w = 0 ∧ I4 (4 * i + 2) = nI (T1 j).1 ∧ I4 (4 * i + 3) = nI (T2 j).1 ∧ (T1 j).2 = (T2 j).2) ∨ (w = 1 ∧ I4 (4 * i + 2) = nI (T1 j).2.1 ∧ I4 (4 * i + 3) = nI (T2 j).2.1 ∧ (T1 j).1 = (T2 j).1 ∧ (T1 j).2.2 = (T2 j).2.2)) ∧ ((T1 j).1 < 6 ∧ (T1 j).2.1 < 10 ∧ (T2 j).1 < 6 ∧ (T2 j).2.1 < 10) ∧ ∀ q, q ≠ j → T1 q = T2 q
def v_Jc (G : g_G) (ob : List va_E) (m2 dn hd dn2 ag : Nat) (I2 : Nat → Int32) (Rb Ra : Nat → Option Nat) (I4 : Nat → Int32) (F : Nat → Nat → f_T) : Prop := dn = dn2 ∧ hd = dn2 + ag ∧ dn2 + ag ≤ 12 ∧ (∀ i, i < 12 → v_fo G ob (Rb i) ∧ v_fo G ob (Ra i)) ∧ ∀ i, i < dn2 + ag → v_ci G ob m2 I2 Rb Ra I4 (F i) (F (i + 1)) i
def v_Ji (G : g_G) (ob : List va_E) (kp : Int32) (n7 m6 : Nat) (R : Nat → Option Nat) (kn km : Nat) (A B : Nat → Int32) (D : Nat → Int64) : Prop := (∀ j, j < 8 → v_fo G ob (R j)) ∧ ((kp = 0 ∧ n7 = 0) ∨ (¬ kp = 0 ∧ n7 = kn ∧ m6 = km ∧ 1 ≤ kn ∧ kn ≤ 6 ∧ km ≤ 8 ∧ ∃ E : Nat → f_T, ∀ j, j < km → v_ref G ob (R j) (E j) ∧ v_row A B D j (E j)))
def v_Jt (n n2 : Nat) (A B : Nat → Int32) : Prop := n = n2 ∧ n2 ≤ 80 ∧ ∃ tp : Nat → Nat, ∀ k, k < n2 → A k = nI (tp k) ∧ B k = nI (tp k) ∧ tp k ≤ 126
def v_Jp (n n2 b : Nat) (A B : Nat → Int32) : Prop := n = n2 ∧ n2 ≤ b ∧ ∀ k, k < n2 → A k = B k
def v_Jsp (G : g_G) (ob : List va_E) (R : Nat → Option Nat) (A B : Nat → Int32) (D : Nat → Int64) (i o : Nat) : Prop := (R i = none ∧ A (o + i) = -1) ∨ ∃ T, v_ref G ob (R i) T ∧ v_row A B D (o + i) T
def v_Js (G : g_G) (ob : List va_E) (th so : Int32) (p : Nat) (R : Nat → Option Nat) (so2 ma : Int32) (A B : Nat → Int32) (D : Nat → Int64) (o : Nat) : Prop := (th = 0 ∧ p = 0 ∧ so2 = -1 ∧ ma = nI 0) ∨ (¬ th = 0 ∧ p ≤ 6 ∧ ma = nI p ∧ (∃ s9, s9 < 3 ∧ so = nI s9 ∧ so2 = nI s9) ∧ ∀ i, i < p → v_Jsp G ob R A B D i o)
def v_Jl (th so : Int32) (p : Nat) (L : Nat → Int64) (so2 ma : Int32) (L2 : Nat → Int64) (o : Nat) : Prop := (th = 0 ∧ p = 0 ∧ so2 = -1 ∧ ma = nI 0) ∨ (¬ th = 0 ∧ p ≤ 20 ∧ ma = nI p ∧ (∃ s9, s9 < 2 ∧ so = nI s9 ∧ so2 = nI s9) ∧ ∀ z, z < 20 → L z = L2 (o + z))
def v_JS (G : g_G) (C : f_C) (M : f_M) (ob : List va_E) (s : Nat) : Prop := v_Js G ob (C.2.1 (3 + s)) (C.2.1 (6 + s)) (C.1 (12 + s)) (C.2.2.2.2.2 (6 + s)) (M.2.2.2.1 9 s) (M.2.2.2.1 10 s) (M.2.2.2.1 11) (M.2.2.2.1 12) (M.2.2.2.2 3) (6 * s)
def v_JL (C : f_C) (M : f_M) (s : Nat) : Prop := v_Jl (C.2.1 (9 + s)) (C.2.1 (12 + s)) (C.1 (15 + s)) (C.2.2.2.2.1 s) (M.2.2.2.1 15 s) (M.2.2.2.1 16 s) (M.2.2.2.2 5) (20 * s)
def v_J (G : g_G) (C : f_C) (M : f_M) (ob : List va_E) : Prop := ∃ F : Nat → Nat → f_T, v_Ja (C.1 0) (M.1 0) ∧ v_Jb G ob (C.1 3) (M.1 1) (C.2.2.2.2.2 0) (M.2.2.2.1 0) (M.2.2.2.1 1) (M.2.2.2.2 0) (F (M.1 4)) ∧ v_Jg (C.1 1) (C.1 2) (M.1 7) (M.1 8) ∧ v_Jc G ob (M.1 1) (C.1 4) (C.1 5) (M.1 4) (M.1 5) (C.2.2.2.1 2) (C.2.2.2.2.2 1) (C.2.2.2.2.2 2) (M.2.2.2.1 4) F ∧ v_Ji G ob (M.2.1 0) (C.1 7) (C.1 6) (C.2.2.2.2.2 3) (M.1 2) (M.1 3) (M.2.2.2.1 2) (M.2.2.2.1 3) (M.2.2.2.2 1) ∧ v_Jt (C.1 10) (M.1 9) (C.2.2.2.1 5) (M.2.2.2.1 7) ∧ v_Jp (C.1 11) (M.1 10) 256 (C.2.2.2.1 6) (M.2.2.2.1 8) ∧ v_Jp (C.1 8) (M.1 12) 24 (C.2.2.2.1 3) (M.2.2.2.1 17) ∧ (v_JS G C M ob 0 ∧ v_JS G C M ob 1 ∧ v_JS G C M ob 2) ∧ (v_JL C M 0 ∧ v_JL C M 1 ∧ v_JL C M 2) ∧ f_qs G C
section VI1
variable {G : g_G} {C : f_C} {M : f_M} {ob ob2 : List va_E} {y y2 y3 y4 y5 : Int32} {x : Int64}
-- more objects
theorem v_Jb.mono {m m2 : Nat} {R : Nat → Option Nat} {A B : Nat → Int32} {D : Nat → Int64} {F : Nat → f_T} (hl : v_le ob ob2) (h : v_Jb G ob m m2 R A B D F) : v_Jb G ob2 m m2 R A B D F := ⟨h.1, h.2.1, fun j hj => (h.2.2.1 j hj).mono hl, fun j hj => ⟨(h.2.2.2 j hj).1.mono hl, (h.2.2.2 j hj).2⟩⟩
theorem v_ci.mono {m2 i : Nat} {I2 : Nat → Int32} {Rb Ra : Nat → Option Nat} {I4 : Nat → Int32} {T1 T2 : Nat → f_T} (hl : v_le ob ob2) (h : v_ci G ob m2 I2 Rb Ra I4 T1 T2 i) : v_ci G ob2 m2 I2 Rb Ra I4 T1 T2 i := by
  obtain ⟨j, w, h1, h2, h3, h4, h5⟩ := h
  exact ⟨j, w, h1, h2, h3.mono hl, h4.mono hl, h5⟩
theorem v_Jc.mono {m2 dn hd dn2 ag : Nat} {I2 : Nat → Int32} {Rb Ra : Nat → Option Nat} {I4 : Nat → Int32} {F : Nat → Nat → f_T} (hl : v_le ob ob2) (h : v_Jc G ob m2 dn hd dn2 ag I2 Rb Ra I4 F) : v_Jc G ob2 m2 dn hd dn2 ag I2 Rb Ra I4 F := ⟨h.1, h.2.1, h.2.2.1, fun i hi => ⟨(h.2.2.2.1 i hi).1.mono hl, (h.2.2.2.1 i hi).2.mono hl⟩, fun i hi => (h.2.2.2.2 i hi).mono hl⟩
theorem v_Ji.mono {kp : Int32} {n7 m6 kn km : Nat} {R : Nat → Option Nat} {A B : Nat → Int32} {D : Nat → Int64} (hl : v_le ob ob2) (h : v_Ji G ob kp n7 m6 R kn km A B D) : v_Ji G ob2 kp n7 m6 R kn km A B D := ⟨fun j hj => (h.1 j hj).mono hl, h.2.imp id (fun ⟨h1, h2, h3, h4, h5, h6, E, h7⟩ => ⟨h1, h2, h3, h4, h5, h6, E, fun j hj => ⟨(h7 j hj).1.mono hl, (h7 j hj).2⟩⟩)⟩
theorem v_Jsp.mono {R : Nat → Option Nat} {A B : Nat → Int32} {D : Nat → Int64} {i o : Nat} (hl : v_le ob ob2) (h : v_Jsp G ob R A B D i o) : v_Jsp G ob2 R A B D i o := h.imp id (fun ⟨T, h1, h2⟩ => ⟨T, h1.mono hl, h2⟩)
theorem v_Js.mono {th so so2 ma : Int32} {p o : Nat} {R : Nat → Option Nat} {A B : Nat → Int32} {D : Nat → Int64} (hl : v_le ob ob2) (h : v_Js G ob th so p R so2 ma A B D o) : v_Js G ob2 th so p R so2 ma A B D o := h.imp id (fun ⟨h1, h2, h3, h4, h5⟩ => ⟨h1, h2, h3, h4, fun i hi => (h5 i hi).mono hl⟩)
theorem v_JS.mono {s : Nat} (hl : v_le ob ob2) (h : v_JS G C M ob s) : v_JS G C M ob2 s := v_Js.mono hl h
/-- no change is left -/
theorem v_Jc.none {m2 : Nat} {I2 : Nat → Int32} {Rb Ra : Nat → Option Nat} {I4 : Nat → Int32} {F : Nat → Nat → f_T} (h : ∀ i, i < 12 → v_fo G ob (Rb i) ∧ v_fo G ob (Ra i)) : v_Jc G ob m2 0 0 0 0 I2 Rb Ra I4 F := ⟨rfl, rfl, by omega, h, fun i hi => absurd hi (by omega)⟩
-- what the invariant says
theorem v_J.cube (h : v_J G C M ob) : C.1 0 = M.1 0 ∧ 0 < M.1 0 ∧ M.1 0 ≤ 6 ∧ 0 < C.1 0 ∧ C.1 0 ≤ 6 := by
  obtain ⟨F, ⟨h1, h2, h3⟩, -⟩ := h
  exact ⟨h1, by omega, h3, by omega, by omega⟩
theorem v_J.many (h : v_J G C M ob) : C.1 3 = M.1 1 ∧ M.1 1 ≤ 8 ∧ C.1 3 ≤ 8 := by
  obtain ⟨F, -, ⟨h1, h2, -⟩, -⟩ := h
  exact ⟨h1, h2, by omega⟩
theorem v_J.grid (h : v_J G C M ob) : C.1 1 = M.1 7 ∧ C.1 2 = M.1 8 ∧ 0 < M.1 7 ∧ M.1 7 ≤ 8 ∧ 0 < M.1 8 ∧ M.1 8 ≤ 8 ∧ M.1 7 * M.1 8 ≤ 64 := by
  obtain ⟨F, -, -, ⟨h1, h2, h3, h4, h5, h6⟩, -⟩ := h
  exact ⟨h1, h2, by omega, h4, by omega, h6, Nat.mul_le_mul h4 h6⟩
theorem v_J.gridC (h : v_J G C M ob) : 0 < C.1 1 ∧ C.1 1 ≤ 8 ∧ 0 < C.1 2 ∧ C.1 2 ≤ 8 ∧ C.1 1 * C.1 2 ≤ 64 := by
  obtain ⟨h1, h2, h3, h4, h5, h6, h7⟩ := h.grid
  rw [h1, h2]
  exact ⟨h3, h4, h5, h6, h7⟩
theorem v_J.qs (h : v_J G C M ob) : f_qs G C := by
  obtain ⟨F, -, -, -, -, -, -, -, -, -, -, hq⟩ := h
  exact hq
theorem v_J.sh (h : v_J G C M ob) : v_JS G C M ob 0 ∧ v_JS G C M ob 1 ∧ v_JS G C M ob 2 := by
  obtain ⟨F, -, -, -, -, -, -, -, -, hq, -⟩ := h
  exact hq
theorem v_J.li (h : v_J G C M ob) : v_JL C M 0 ∧ v_JL C M 1 ∧ v_JL C M 2 := by
  obtain ⟨F, -, -, -, -, -, -, -, -, -, hq, -⟩ := h
  exact hq
theorem v_J.wx (h : v_J G C M ob) : f_wx G C (g_hm G M ++ ob) := by
  obtain ⟨F, -, -, -, ⟨-, -, -, hq, -⟩, -⟩ := h
  exact fun i hi => ⟨(hq i hi).1.fo, (hq i hi).2.fo⟩
/-- a family's number: there is none such, or both sides have it -/
theorem v_fam (h : v_J G C M ob) (y : Int32) : (¬ vp_in y (C.1 3) ∧ ¬ vp_in y (M.1 1)) ∨ ∃ j o T, y = nI j ∧ f_is G C (g_hm G M ++ ob) j (25 + o) T ∧ f_mis M j T ∧ ob[o]? = some (c_Fa T) := by
  obtain ⟨F, -, ⟨h1, h2, h3, h4⟩, -⟩ := h
  by_cases hi : vp_in y (M.1 1)
  · right
    obtain ⟨j, hj, rfl⟩ := vp_in_of hi (by omega)
    obtain ⟨⟨o, e1, e2⟩, r1, r2, r3, r4, r5⟩ := h4 j hj
    exact ⟨j, o, F (M.1 4) j, rfl, ⟨by omega, by omega, by rw [e1, v_38], by rw [v_ob_at]; exact e2, r4, r5⟩, ⟨hj, h2, r1, r2, r3, r4, r5⟩, e2⟩
  · exact Or.inl ⟨by rw [h1]; exact hi, hi⟩
theorem v_so {j : Nat} {T : f_T} (h : v_J G C M ob) (hi : f_mis M j T) : f_so C T = f_mso M T ∧ f_in (2 ^ M.1 0) (f_mso M T) := by
  obtain ⟨h1, h2, h3, -⟩ := h.cube
  obtain ⟨-, -, -, -, -, r4, r5⟩ := hi
  have w := f_setsOf_M (t := T.2.2) h3 r4 r5
  refine ⟨?_, ?_⟩
  · show f_setsOf (C.1 0) T.1 (nI T.2.1) T.2.2 = _
    rw [h1]; exact w.1
  · have w2 := w.2
    rw [w.1] at w2
    exact w2
-- a call's lemma
def v_Ok {α : Type} (k : α → Value) (A B : g_M) (as : List Value) (G : g_G) (C : f_C) (M : f_M) (ob : List va_E) : Prop := ∃ (r : α) (C2 : f_C) (M2 : f_M) (ob2 : List va_E) (d1 d2 : Nat), d1 ≤ 13 ∧ d2 ≤ 13 ∧ v_J G C2 M2 ob2 ∧ g_Run G A d1 1 3 (.ref (g_ad G 0) :: as) (g_hp G C (g_hm G M ++ ob)) (some (k r)) (g_hp G C2 (g_hm G M ++ ob2)) ∧ g_Run G B d2 1 3 (.ref (g_ad G 38) :: as) (g_hp G C2 (g_hm G M ++ ob2)) (some (k r)) (g_hp G C2 (g_hm G M2 ++ ob2))
theorem g_Run.more {A : g_M} {d u v u2 v2 : Nat} {as : List Value} {h h2 : List va_E} {r : Option Value} (w : g_Run G A d u v as h r h2) (hu : u ≤ u2) (hv : v ≤ v2) : g_Run G A d u2 v2 as h r h2 := fun K N h1 h3 => w K N (Nat.le_trans hu h1) (Nat.le_trans hv h3)
theorem v_ok {α : Type} {k : α → Value} {A B : g_M} {as : List Value} {r r2 : α} {C2 : f_C} {M2 : f_M} {d1 d2 u1 v1 u2 v2 : Nat} (hJ : v_J G C2 M2 ob2) (hA : g_Run G A d1 u1 v1 (.ref (g_ad G 0) :: as) (g_hp G C (g_hm G M ++ ob)) (some (k r)) (g_hp G C2 (g_hm G M ++ ob2))) (hB : g_Run G B d2 u2 v2 (.ref (g_ad G 38) :: as) (g_hp G C2 (g_hm G M ++ ob2)) (some (k r2)) (g_hp G C2 (g_hm G M2 ++ ob2))) (e : r = r2) (h1 : d1 ≤ 13 := by decide) (h2 : d2 ≤ 13 := by decide) (h3 : u1 ≤ 1 := by decide) (h4 : v1 ≤ 3 := by decide) (h5 : u2 ≤ 1 := by decide) (h6 : v2 ≤ 3 := by decide) : v_Ok k A B as G C M ob := by
  subst e
  exact ⟨r, C2, M2, ob2, d1, d2, h1, h2, hJ, hA.more h3 h4, hB.more h5 h6⟩
/-- an int: below 0, above k, or one of 0 .. k -/
theorem v_sp (k : Nat) (hk : k < 1000) (y : Int32) : (y.toInt < 0 ∨ (k : Int) < y.toInt) ∨ ∃ j, j ≤ k ∧ y = nI j := by
  by_cases hi : vp_in y (k + 1)
  · right
    obtain ⟨j, hj, rfl⟩ := vp_in_of hi (by omega)
    exact ⟨j, by omega, rfl⟩
  · left
    rw [vp_in_iff] at hi
    omega
theorem v_c1 (y : Int32) : (y.toInt < 0 ∨ 1 < y.toInt) ∨ y = 0 ∨ y = 1 := by
  rcases v_sp 1 (by decide) y with h | ⟨j, hj, rfl⟩
  · exact Or.inl h
  · match j, hj with
    | 0, _ => exact Or.inr (Or.inl rfl)
    | 1, _ => exact Or.inr (Or.inr rfl)
theorem v_c2 (y : Int32) : (y.toInt < 0 ∨ 2 < y.toInt) ∨ y = 0 ∨ y = 1 ∨ y = 2 := by
  rcases v_sp 2 (by decide) y with h | ⟨j, hj, rfl⟩
  · exact Or.inl h
  · match j, hj with
    | 0, _ => exact Or.inr (Or.inl rfl)
    | 1, _ => exact Or.inr (Or.inr (Or.inl rfl))
    | 2, _ => exact Or.inr (Or.inr (Or.inr rfl))
theorem v_c3 (y : Int32) : (y.toInt < 0 ∨ 3 < y.toInt) ∨ y = 0 ∨ y = 1 ∨ y = 2 ∨ y = 3 := by
  rcases v_sp 3 (by decide) y with h | ⟨j, hj, rfl⟩
  · exact Or.inl h
  · match j, hj with
    | 0, _ => exact Or.inr (Or.inl rfl)
    | 1, _ => exact Or.inr (Or.inr (Or.inl rfl))
    | 2, _ => exact Or.inr (Or.inr (Or.inr (Or.inl rfl)))
    | 3, _ => exact Or.inr (Or.inr (Or.inr (Or.inr rfl)))
theorem v_c4 (y : Int32) : (y.toInt < 0 ∨ 4 < y.toInt) ∨ y = 0 ∨ y = 1 ∨ y = 2 ∨ y = 3 ∨ y = 4 := by
  rcases v_sp 4 (by decide) y with h | ⟨j, hj, rfl⟩
  · exact Or.inl h
  · match j, hj with
    | 0, _ => exact Or.inr (Or.inl rfl)
    | 1, _ => exact Or.inr (Or.inr (Or.inl rfl))
    | 2, _ => exact Or.inr (Or.inr (Or.inr (Or.inl rfl)))
    | 3, _ => exact Or.inr (Or.inr (Or.inr (Or.inr (Or.inl rfl))))
    | 4, _ => exact Or.inr (Or.inr (Or.inr (Or.inr (Or.inr rfl))))
theorem v_c6 (y : Int32) : (y.toInt < 0 ∨ 6 < y.toInt) ∨ y = 0 ∨ y = 1 ∨ y = 2 ∨ y = 3 ∨ y = 4 ∨ y = 5 ∨ y = 6 := by
  rcases v_sp 6 (by decide) y with h | ⟨j, hj, rfl⟩
  · exact Or.inl h
  · match j, hj with
    | 0, _ => exact Or.inr (Or.inl rfl)
    | 1, _ => exact Or.inr (Or.inr (Or.inl rfl))
    | 2, _ => exact Or.inr (Or.inr (Or.inr (Or.inl rfl)))
    | 3, _ => exact Or.inr (Or.inr (Or.inr (Or.inr (Or.inl rfl))))
    | 4, _ => exact Or.inr (Or.inr (Or.inr (Or.inr (Or.inr (Or.inl rfl)))))
    | 5, _ => exact Or.inr (Or.inr (Or.inr (Or.inr (Or.inr (Or.inr (Or.inl rfl))))))
    | 6, _ => exact Or.inr (Or.inr (Or.inr (Or.inr (Or.inr (Or.inr (Or.inr rfl))))))
theorem v_c7 (y : Int32) : (y.toInt < 0 ∨ 7 < y.toInt) ∨ y = 0 ∨ y = 1 ∨ y = 2 ∨ y = 3 ∨ y = 4 ∨ y = 5 ∨ y = 6 ∨ y = 7 := by
  rcases v_sp 7 (by decide) y with h | ⟨j, hj, rfl⟩
  · exact Or.inl h
  · match j, hj with
    | 0, _ => exact Or.inr (Or.inl rfl)
    | 1, _ => exact Or.inr (Or.inr (Or.inl rfl))
    | 2, _ => exact Or.inr (Or.inr (Or.inr (Or.inl rfl)))
    | 3, _ => exact Or.inr (Or.inr (Or.inr (Or.inr (Or.inl rfl))))
    | 4, _ => exact Or.inr (Or.inr (Or.inr (Or.inr (Or.inr (Or.inl rfl)))))
    | 5, _ => exact Or.inr (Or.inr (Or.inr (Or.inr (Or.inr (Or.inr (Or.inl rfl))))))
    | 6, _ => exact Or.inr (Or.inr (Or.inr (Or.inr (Or.inr (Or.inr (Or.inr (Or.inl rfl)))))))
    | 7, _ => exact Or.inr (Or.inr (Or.inr (Or.inr (Or.inr (Or.inr (Or.inr (Or.inr rfl)))))))
/-- bounds of ints, by their numbers -/
theorem v_il {a b : Int32} : a ≤ b ↔ a.toInt ≤ b.toInt := Int32.le_iff_toInt_le
theorem v_it {a b : Int32} : a < b ↔ a.toInt < b.toInt := Int32.lt_iff_toInt_lt
theorem v_nr {y : Int32} {a b : Int32} {c e : Int} (ha : a.toInt = c) (hb : b.toInt = e) : (a ≤ y ∧ y ≤ b) ↔ (c ≤ y.toInt ∧ y.toInt ≤ e) := by rw [v_il, v_il, ha, hb]
/-- an int between 0 and n is a natural number -/
theorem v_n {y : Int32} {n : Nat} (hn : n < 2 ^ 31) (h0 : 0 ≤ y.toInt) (h1 : y.toInt ≤ n) : ∃ j : Nat, j ≤ n ∧ y = nI j := by
  have hi : vp_in y (n + 1) := by rw [vp_in_iff]; omega
  by_cases hb : n + 1 < 2 ^ 31
  · obtain ⟨j, hj, rfl⟩ := vp_in_of hi hb
    exact ⟨j, by omega, rfl⟩
  · obtain ⟨j, hj, rfl⟩ := nI_of (x := y) (by rw [v_it]; show ¬ y.toInt < 0; omega)
    exact ⟨j, by rw [nI_toInt hj] at h1; omega, rfl⟩
end VI1
