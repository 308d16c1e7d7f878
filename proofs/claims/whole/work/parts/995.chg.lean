/-! changes, undone and done again: both sides answer alike -/
section VD1
variable {G : g_G} {C : f_C} {M : f_M} {ob ob2 : List va_E} {y y2 y3 y4 y5 : Int32} {x : Int64}
theorem v_ci.cg {m2 i i0 : Nat} {I2 I3 : Nat → Int32} {Rb Ra Rc Rd : Nat → Option Nat} {I4 I5 : Nat → Int32} {T1 T2 : Nat → f_T} (h : v_ci G ob m2 I2 Rb Ra I4 T1 T2 i) (e1 : I3 i0 = I2 i) (e2 : Rc i0 = Rb i) (e3 : Rd i0 = Ra i) (e4 : ∀ q, q < 4 → I5 (4 * i0 + q) = I4 (4 * i + q)) : v_ci G ob m2 I3 Rc Rd I5 T1 T2 i0 := by
  obtain ⟨j, w, h1, h2, h3, h4, h5, h6, h7, h8, h9⟩ := h
  have q0 : I5 (4 * i0) = I4 (4 * i) := e4 0 (by omega)
  have q1 := e4 1 (by omega)
  have q2 := e4 2 (by omega)
  have q3 := e4 3 (by omega)
  refine ⟨j, w, h1, e1.trans h2, by rw [e2]; exact h3, by rw [e3]; exact h4, q0.trans h5, q1.trans h6, ?_, h8, h9⟩
  rw [q2, q3]
  exact h7
theorem v_4R_at {R : Nat → Int32} {c j w : Nat} {a b : Int32} : f_4R R c j w a b (4 * c) = nI j ∧ f_4R R c j w a b (4 * c + 1) = nI w ∧ f_4R R c j w a b (4 * c + 2) = a ∧ f_4R R c j w a b (4 * c + 3) = b := by
  unfold f_4R
  refine ⟨?_, ?_, ?_, pk_us⟩
  · rw [pk_un (by omega), pk_un (by omega), pk_un (by omega)]; exact pk_us
  · rw [pk_un (by omega), pk_un (by omega)]; exact pk_us
  · rw [pk_un (by omega)]; exact pk_us
theorem v_4R_out {R : Nat → Int32} {c j w t : Nat} {a b : Int32} (h : t < 4 * c) : f_4R R c j w a b t = R t := by
  unfold f_4R
  rw [pk_un (by omega), pk_un (by omega), pk_un (by omega), pk_un (by omega)]
def v_nF (F : Nat → Nat → f_T) (dn j : Nat) (T : f_T) : Nat → Nat → f_T := fun i => if i ≤ dn then F i else fun q => if q = j then T else F dn q
theorem v_nF_le {F : Nat → Nat → f_T} {dn j i : Nat} {T : f_T} (h : i ≤ dn) : v_nF F dn j T i = F i := if_pos h
theorem v_nF_s {F : Nat → Nat → f_T} {dn j : Nat} {T : f_T} : v_nF F dn j T (dn + 1) = fun q => if q = j then T else F dn q := if_neg (by omega)
theorem v_Jc.add {m dn j w : Nat} {I2 : Nat → Int32} {Rb Ra : Nat → Option Nat} {I4 : Nat → Int32} {F : Nat → Nat → f_T} {a b : Int32} {r1 r2 : Option Nat} {T : f_T} (hdn : dn < 12) (hl : v_le ob ob2) (hfo : ∀ i, i < 12 → i ≠ dn → v_fo G ob (Rb i) ∧ v_fo G ob (Ra i)) (hci : ∀ i, i < dn → v_ci G ob m I2 Rb Ra I4 (F i) (F (i + 1)) i) (hj : j < m) (h1 : v_ref G ob2 r1 (F dn j)) (h2 : v_ref G ob2 r2 T) (hc : (w = 0 ∧ a = nI (F dn j).1 ∧ b = nI T.1 ∧ (F dn j).2 = T.2) ∨ (w = 1 ∧ a = nI (F dn j).2.1 ∧ b = nI T.2.1 ∧ (F dn j).1 = T.1 ∧ (F dn j).2.2 = T.2.2)) (hb : (F dn j).1 < 6 ∧ (F dn j).2.1 < 10 ∧ T.1 < 6 ∧ T.2.1 < 10) : v_Jc G ob2 m (dn + 1) (dn + 1) (dn + 1) 0 (upd I2 dn (nI j)) (va_up Rb dn r1) (va_up Ra dn r2) (f_4R I4 dn j w a b) (v_nF F dn j T) := by
  refine ⟨rfl, rfl, by omega, fun i hi => ?_, fun i hi => ?_⟩
  · by_cases e : i = dn
    · rw [e, v_ups, v_ups]
      exact ⟨h1.fo, h2.fo⟩
    · rw [v_upn e, v_upn e]
      exact ⟨(hfo i hi e).1.mono hl, (hfo i hi e).2.mono hl⟩
  · by_cases e : i = dn
    · rw [e, v_nF_s, v_nF_le (Nat.le_refl dn)]
      obtain ⟨p0, p1, p2, p3⟩ := v_4R_at (R := I4) (c := dn) (j := j) (w := w) (a := a) (b := b)
      refine ⟨j, w, hj, pk_us, by rw [v_ups]; exact h1, ?_, p0, p1, ?_, ?_, fun q hq => ?_⟩
      · rw [v_ups]
        show v_ref G ob2 r2 (if j = j then T else F dn j)
        rw [if_pos rfl]; exact h2
      · dsimp only
        rw [p2, p3, if_pos rfl]; exact hc
      · dsimp only
        rw [if_pos rfl]; exact hb
      · dsimp only
        rw [if_neg hq]
    · have hi2 : i < dn := by omega
      rw [v_nF_le (by omega), v_nF_le (by omega)]
      exact ((hci i hi2).mono hl).cg (pk_un e) (v_upn e) (v_upn e) (fun q hq => v_4R_out (by omega))
theorem v_Jb.set {m m2 j : Nat} {R : Nat → Option Nat} {A B A2 B2 : Nat → Int32} {D : Nat → Int64} {F : Nat → f_T} {r2 : Option Nat} {T : f_T} (h : v_Jb G ob m m2 R A B D F) (hl : v_le ob ob2) (h2 : v_ref G ob2 r2 T) (hr : v_row A2 B2 D j T) (ho : ∀ q, q ≠ j → A2 q = A q ∧ B2 q = B q) : v_Jb G ob2 m m2 (va_up R j r2) A2 B2 D (fun q => if q = j then T else F q) := by
  refine ⟨h.1, h.2.1, fun i hi => ?_, fun i hi => ?_⟩
  · by_cases e : i = j
    · rw [e, v_ups]; exact h2.fo
    · rw [v_upn e]; exact (h.2.2.1 i hi).mono hl
  · dsimp only
    by_cases e : i = j
    · subst e
      rw [v_ups, if_pos rfl]; exact ⟨h2, hr⟩
    · rw [v_upn e, if_neg e]
      obtain ⟨a1, a2, a3, a4⟩ := h.2.2.2 i hi
      exact ⟨a1.mono hl, (ho i e).1.trans a2, (ho i e).2.trans a3, a4⟩
theorem v_Jb.ex {m m2 : Nat} {R : Nat → Option Nat} {A B : Nat → Int32} {D : Nat → Int64} {F E : Nat → f_T} (h : v_Jb G ob m m2 R A B D F) (he : ∀ q, q < m2 → F q = E q) : v_Jb G ob m m2 R A B D E := ⟨h.1, h.2.1, h.2.2.1, fun j hj => by rw [← he j hj]; exact h.2.2.2 j hj⟩
theorem v_sC4 {R : Nat → Int32} : ∀ m t, f_sC4 R m t = if t < m then R (t + 4) else R t
  | 0, t => by rw [if_neg (Nat.not_lt_zero t)]; rfl
  | m + 1, t => by
    rw [f_sC4]
    by_cases e : t = m
    · rw [e, pk_us, v_sC4 m (m + 4), if_neg (by omega), if_pos (by omega)]
    · rw [pk_un e, v_sC4 m t]
      by_cases e2 : t < m
      · rw [if_pos e2, if_pos (by omega)]
      · rw [if_neg e2, if_neg (by omega)]
theorem v_undo (hJ : v_J G C M ob) : v_Ok Value.int mX11_undo mX12_undo [] G C M ob := by
  have hJ0 := hJ
  have hw := hJ.wx
  obtain ⟨hm, h8, h89⟩ := hJ.many
  obtain ⟨F, ja, jb, jg, jc, ji, jt, jp, jr, js, jl, jq⟩ := hJ
  rcases Nat.eq_zero_or_pos (M.1 4) with h0 | h0
  · exact v_ok hJ0 (r_X11_undo0 hw (jc.1.trans h0)) (r_undoM0 h0) rfl
  · obtain ⟨dn, e⟩ : ∃ dn, M.1 4 = dn + 1 := ⟨M.1 4 - 1, by omega⟩
    obtain ⟨c1, c2, c3, c4, c5⟩ := jc
    obtain ⟨j, w, hj, hI, hRb, hRa, h40, h41, hcs, hbd, hot⟩ := c5 dn (by omega)
    obtain ⟨o, eo, ho⟩ := hRb
    have ed : M.1 4 - 1 = dn := by omega
    have a := r_X11_undo (G := G) (C := C) (tl := g_hm G M ++ ob) (dn := dn) (j9 := j) (o9 := 25 + o) (T := F dn j) hw (c1.trans e) (by omega) hI (by rw [eo, v_38]) (by rw [v_ob_at]; exact ho) h89 (by omega)
    rw [v_38] at a
    rw [e] at jb
    have hb := jb.2.2.2 j hj
    have hot2 : ∀ q, q < M.1 1 → (fun q => if q = j then F dn j else F (dn + 1) q) q = F dn q := fun q _ => by
      dsimp only
      by_cases e2 : q = j
      · rw [if_pos e2, e2]
      · rw [if_neg e2, hot q e2]
    have hc5 : ∀ i, i < dn + (M.1 5 + 1) → v_ci G ob (M.1 1) (C.2.2.2.1 2) (C.2.2.2.2.2 1) (C.2.2.2.2.2 2) (M.2.2.2.1 4) (F i) (F (i + 1)) i := fun i hi => c5 i (by omega)
    rcases hcs with ⟨rfl, h42, h43, hT⟩ | ⟨rfl, h42, h43, hT1, hT2⟩
    · have b := r_undoM (G := G) (C := f_uR (f_un C 4 dn) 0 (va_up (C.2.2.2.2.2 0) j (some (g_ad G (63 + o))))) (M := M) (ob := ob) (j := j) (w := 0) h0 (by omega) (by omega) (by omega) (by rw [ed]; exact h40) (by rw [ed]; exact h41)
      rw [ed, h42] at b
      have hjc : v_Jc G ob (M.1 1) dn (C.1 5) dn (M.1 5 + 1) (C.2.2.2.1 2) (C.2.2.2.2.2 1) (C.2.2.2.2.2 2) (M.2.2.2.1 4) F := ⟨rfl, by omega, by omega, c4, hc5⟩
      have hjb : v_Jb G ob (C.1 3) (M.1 1) (va_up (C.2.2.2.2.2 0) j (some (g_ad G (63 + o)))) (upd (M.2.2.2.1 0) j (nI (F dn j).1)) (M.2.2.2.1 1) (M.2.2.2.2 0) (F (dn)) := (jb.set (T := F dn j) v_le.rf ⟨o, rfl, ho⟩ ⟨pk_us, by rw [hT]; exact hb.2.2.1, by rw [hT]; exact hb.2.2.2.1, hbd.1, hbd.2.1⟩ (fun q hq => ⟨pk_un hq, rfl⟩)).ex hot2
      exact v_ok (C2 := f_uR (f_un C 4 dn) 0 (va_up (C.2.2.2.2.2 0) j (some (g_ad G (63 + o))))) (M2 := f_mI (f_mn (f_mn M 4 dn) 5 (M.1 5 + 1)) 0 (upd (M.2.2.2.1 0) j (nI (F dn j).1))) ⟨F, ja, hjb, jg, hjc, ji, jt, jp, jr, js, jl, jq⟩ a b rfl
    · have b := r_undoM (G := G) (C := f_uR (f_un C 4 dn) 0 (va_up (C.2.2.2.2.2 0) j (some (g_ad G (63 + o))))) (M := M) (ob := ob) (j := j) (w := 1) h0 (by omega) (by omega) (by omega) (by rw [ed]; exact h40) (by rw [ed]; exact h41)
      rw [ed, h42] at b
      have hjc : v_Jc G ob (M.1 1) dn (C.1 5) dn (M.1 5 + 1) (C.2.2.2.1 2) (C.2.2.2.2.2 1) (C.2.2.2.2.2 2) (M.2.2.2.1 4) F := ⟨rfl, by omega, by omega, c4, hc5⟩
      have hjb : v_Jb G ob (C.1 3) (M.1 1) (va_up (C.2.2.2.2.2 0) j (some (g_ad G (63 + o)))) (M.2.2.2.1 0) (upd (M.2.2.2.1 1) j (nI (F dn j).2.1)) (M.2.2.2.2 0) (F (dn)) := (jb.set (T := F dn j) v_le.rf ⟨o, rfl, ho⟩ ⟨by rw [hT1]; exact hb.2.1, pk_us, by rw [hT2]; exact hb.2.2.2.1, hbd.1, hbd.2.1⟩ (fun q hq => ⟨rfl, pk_un hq⟩)).ex hot2
      exact v_ok (C2 := f_uR (f_un C 4 dn) 0 (va_up (C.2.2.2.2.2 0) j (some (g_ad G (63 + o))))) (M2 := f_mI (f_mn (f_mn M 4 dn) 5 (M.1 5 + 1)) 1 (upd (M.2.2.2.1 1) j (nI (F dn j).2.1))) ⟨F, ja, hjb, jg, hjc, ji, jt, jp, jr, js, jl, jq⟩ a b rfl
theorem v_redo (hJ : v_J G C M ob) : v_Ok Value.int mX11_redo mX12_redo [] G C M ob := by
  have hJ0 := hJ
  have hw := hJ.wx
  obtain ⟨hm, h8, h89⟩ := hJ.many
  obtain ⟨F, ja, jb, jg, jc, ji, jt, jp, jr, js, jl, jq⟩ := hJ
  rcases Nat.eq_zero_or_pos (M.1 5) with h0 | h0
  · exact v_ok hJ0 (r_X11_redo0 hw (by rw [jc.1, jc.2.1, h0]; rfl) (by rw [jc.2.1]; exact jc.2.2.1)) (r_redoM0 h0) rfl
  · obtain ⟨c1, c2, c3, c4, c5⟩ := jc
    obtain ⟨dn, e⟩ : ∃ dn, M.1 4 = dn := ⟨M.1 4, rfl⟩
    rw [e] at jb c1 c2 c3 c5
    obtain ⟨j, w, hj, hI, hRb, hRa, h40, h41, hcs, hbd, hot⟩ := c5 dn (by omega)
    obtain ⟨o, eo, ho⟩ := hRa
    have a := r_X11_redo (G := G) (C := C) (tl := g_hm G M ++ ob) (j9 := j) (o9 := 25 + o) (T := F (dn + 1) j) hw (by omega) (by omega) (by rw [c1]; exact hI) (by rw [c1, eo, v_38]) (by rw [v_ob_at]; exact ho) h89 (by omega)
    rw [v_38, c1] at a
    have hb := jb.2.2.2 j hj
    have hot2 : ∀ q, q < M.1 1 → (fun q => if q = j then F (dn + 1) j else F dn q) q = F (dn + 1) q := fun q _ => by
      dsimp only
      by_cases e2 : q = j
      · rw [if_pos e2, e2]
      · rw [if_neg e2, hot q e2]
    have hc5 : ∀ i, i < dn + 1 + (M.1 5 - 1) → v_ci G ob (M.1 1) (C.2.2.2.1 2) (C.2.2.2.2.2 1) (C.2.2.2.2.2 2) (M.2.2.2.1 4) (F i) (F (i + 1)) i := fun i hi => c5 i (by omega)
    rcases hcs with ⟨rfl, h42, h43, hT⟩ | ⟨rfl, h42, h43, hT1, hT2⟩
    · have b := r_redoM (G := G) (C := f_un (f_uR C 0 (va_up (C.2.2.2.2.2 0) j (some (g_ad G (63 + o))))) 4 (dn + 1)) (M := M) (ob := ob) (j := j) (w := 0) h0 (by omega) (by omega) (by omega) (by rw [e]; exact h40) (by rw [e]; exact h41)
      rw [e, h43] at b
      have hjc : v_Jc G ob (M.1 1) (dn + 1) (C.1 5) (dn + 1) (M.1 5 - 1) (C.2.2.2.1 2) (C.2.2.2.2.2 1) (C.2.2.2.2.2 2) (M.2.2.2.1 4) F := ⟨rfl, by omega, by omega, c4, hc5⟩
      have hjb : v_Jb G ob (C.1 3) (M.1 1) (va_up (C.2.2.2.2.2 0) j (some (g_ad G (63 + o)))) (upd (M.2.2.2.1 0) j (nI (F (dn + 1) j).1)) (M.2.2.2.1 1) (M.2.2.2.2 0) (F (dn + 1)) := (jb.set (T := F (dn + 1) j) v_le.rf ⟨o, rfl, ho⟩ ⟨pk_us, by rw [← hT]; exact hb.2.2.1, by rw [← hT]; exact hb.2.2.2.1, hbd.2.2.1, hbd.2.2.2⟩ (fun q hq => ⟨pk_un hq, rfl⟩)).ex hot2
      exact v_ok (C2 := f_un (f_uR C 0 (va_up (C.2.2.2.2.2 0) j (some (g_ad G (63 + o))))) 4 (dn + 1)) (M2 := f_mn (f_mn (f_mI M 0 (upd (M.2.2.2.1 0) j (nI (F (dn + 1) j).1))) 4 (dn + 1)) 5 (M.1 5 - 1)) ⟨F, ja, hjb, jg, hjc, ji, jt, jp, jr, js, jl, jq⟩ a b (congrArg nI (by omega))
    · have b := r_redoM (G := G) (C := f_un (f_uR C 0 (va_up (C.2.2.2.2.2 0) j (some (g_ad G (63 + o))))) 4 (dn + 1)) (M := M) (ob := ob) (j := j) (w := 1) h0 (by omega) (by omega) (by omega) (by rw [e]; exact h40) (by rw [e]; exact h41)
      rw [e, h43] at b
      have hjc : v_Jc G ob (M.1 1) (dn + 1) (C.1 5) (dn + 1) (M.1 5 - 1) (C.2.2.2.1 2) (C.2.2.2.2.2 1) (C.2.2.2.2.2 2) (M.2.2.2.1 4) F := ⟨rfl, by omega, by omega, c4, hc5⟩
      have hjb : v_Jb G ob (C.1 3) (M.1 1) (va_up (C.2.2.2.2.2 0) j (some (g_ad G (63 + o)))) (M.2.2.2.1 0) (upd (M.2.2.2.1 1) j (nI (F (dn + 1) j).2.1)) (M.2.2.2.2 0) (F (dn + 1)) := (jb.set (T := F (dn + 1) j) v_le.rf ⟨o, rfl, ho⟩ ⟨by rw [← hT1]; exact hb.2.1, pk_us, by rw [← hT2]; exact hb.2.2.2.1, hbd.2.2.1, hbd.2.2.2⟩ (fun q hq => ⟨rfl, pk_un hq⟩)).ex hot2
      exact v_ok (C2 := f_un (f_uR C 0 (va_up (C.2.2.2.2.2 0) j (some (g_ad G (63 + o))))) 4 (dn + 1)) (M2 := f_mn (f_mn (f_mI M 1 (upd (M.2.2.2.1 1) j (nI (F (dn + 1) j).2.1))) 4 (dn + 1)) 5 (M.1 5 - 1)) ⟨F, ja, hjb, jg, hjc, ji, jt, jp, jr, js, jl, jq⟩ a b (congrArg nI (by omega))
/-- a change told anew, both sides: what the invariant becomes (the arrays with room for it) -/
theorem v_J.set {j w dn o : Nat} {T T2 : f_T} {I3 : Nat → Int32} {Rc Rd : Nat → Option Nat} {I5 : Nat → Int32} {F E : Nat → Nat → f_T} {a b : Int32} (ja : v_Ja (C.1 0) (M.1 0)) (jb : v_Jb G ob (C.1 3) (M.1 1) (C.2.2.2.2.2 0) (M.2.2.2.1 0) (M.2.2.2.1 1) (M.2.2.2.2 0) (F (M.1 4))) (jg : v_Jg (C.1 1) (C.1 2) (M.1 7) (M.1 8)) (ji : v_Ji G ob (M.2.1 0) (C.1 7) (C.1 6) (C.2.2.2.2.2 3) (M.1 2) (M.1 3) (M.2.2.2.1 2) (M.2.2.2.1 3) (M.2.2.2.2 1)) (jt : v_Jt (C.1 10) (M.1 9) (C.2.2.2.1 5) (M.2.2.2.1 7)) (jp : v_Jp (C.1 11) (M.1 10) 256 (C.2.2.2.1 6) (M.2.2.2.1 8)) (jr : v_Jp (C.1 8) (M.1 12) 24 (C.2.2.2.1 3) (M.2.2.2.1 17)) (js : v_JS G C M ob 0 ∧ v_JS G C M ob 1 ∧ v_JS G C M ob 2) (jl : v_JL C M 0 ∧ v_JL C M 1 ∧ v_JL C M 2) (jq : f_qs G C)
    (hw : w < 2) (hj : j < M.1 1) (he : E dn = F (M.1 4)) (hF : F (M.1 4) j = T) (hdn : dn < 12) (hfo : ∀ i, i < 12 → i ≠ dn → v_fo G ob (Rc i) ∧ v_fo G ob (Rd i)) (hci : ∀ i, i < dn → v_ci G ob (M.1 1) I3 Rc Rd I5 (E i) (E (i + 1)) i) (ho : ob[o]? = some (c_Fa T))
    (hc : (w = 0 ∧ a = nI T.1 ∧ b = nI T2.1 ∧ T.2 = T2.2) ∨ (w = 1 ∧ a = nI T.2.1 ∧ b = nI T2.2.1 ∧ T.1 = T2.1 ∧ T.2.2 = T2.2.2)) (hb : T.1 < 6 ∧ T.2.1 < 10 ∧ T2.1 < 6 ∧ T2.2.1 < 10) :
    v_J G (f_xC (f_uR C 0 (va_up (C.2.2.2.2.2 0) j (some (g_ad G (63 + ob.length))))) (dn + 1) (dn + 1) (upd I3 dn (nI j)) (va_up Rc dn (some (g_ad G (63 + o)))) (va_up Rd dn (some (g_ad G (63 + ob.length))))) (f_mI (f_mn (f_mn (f_mI M 4 (f_4R I5 dn j w a b)) 4 (dn + 1)) 5 0) w (upd (M.2.2.2.1 w) j b)) (ob ++ [c_Fa T2]) := by
  have hl : v_le ob (ob ++ [c_Fa T2]) := v_le.push
  have h2 : v_ref G (ob ++ [c_Fa T2]) (some (g_ad G (63 + ob.length))) T2 := v_ref.new
  have h1 : v_ref G (ob ++ [c_Fa T2]) (some (g_ad G (63 + o))) (E dn j) := by rw [he, hF]; exact ⟨o, rfl, hl o _ ho⟩
  have eT : E dn j = T := by rw [he, hF]
  have hjc := v_Jc.add (I4 := I5) (w := w) (a := a) (b := b) hdn hl hfo hci hj h1 h2 (by rw [eT]; exact hc) (by rw [eT]; exact hb)
  have hr := (jb.2.2.2 j hj).2
  rw [hF] at hr
  have hx : ∀ (A2 B2 : Nat → Int32), v_row A2 B2 (M.2.2.2.2 0) j T2 → (∀ q, q ≠ j → A2 q = M.2.2.2.1 0 q ∧ B2 q = M.2.2.2.1 1 q) → v_Jb G (ob ++ [c_Fa T2]) (C.1 3) (M.1 1) (va_up (C.2.2.2.2.2 0) j (some (g_ad G (63 + ob.length)))) A2 B2 (M.2.2.2.2 0) (v_nF E dn j T2 (dn + 1)) := fun A2 B2 q1 q2 => by
    rw [v_nF_s, he]
    exact jb.set hl h2 q1 q2
  match w, hw, hc, hjc with
  | 0, _, hc, hjc =>
    rcases hc with ⟨-, c1, c2, c3⟩ | ⟨z, -⟩
    · exact ⟨v_nF E dn j T2, ja, hx (upd (M.2.2.2.1 0) j b) (M.2.2.2.1 1) ⟨pk_us.trans c2, by rw [← c3]; exact hr.2.1, by rw [← c3]; exact hr.2.2.1, hb.2.2.1, hb.2.2.2⟩ (fun q hq => ⟨pk_un hq, rfl⟩), jg, hjc, ji.mono hl, jt, jp, jr, ⟨js.1.mono hl, js.2.1.mono hl, js.2.2.mono hl⟩, jl, jq⟩
    · exact absurd z (by decide)
  | 1, _, hc, hjc =>
    rcases hc with ⟨z, -⟩ | ⟨-, c1, c2, c3, c4⟩
    · exact absurd z (by decide)
    · exact ⟨v_nF E dn j T2, ja, hx (M.2.2.2.1 0) (upd (M.2.2.2.1 1) j b) ⟨by rw [← c3]; exact hr.1, pk_us.trans c2, by rw [← c4]; exact hr.2.2.1, hb.2.2.1, hb.2.2.2⟩ (fun q hq => ⟨rfl, pk_un hq⟩), jg, hjc, ji.mono hl, jt, jp, jr, ⟨js.1.mono hl, js.2.1.mono hl, js.2.2.mono hl⟩, jl, jq⟩
theorem v_set0 (hJ : v_J G C M ob) {j o : Nat} {T : f_T} (hf : f_is G C (g_hm G M ++ ob) j (25 + o) T) (hi : f_mis M j T) (ho : ob[o]? = some (c_Fa T)) : v_Ok Value.int mX11_set mX12_set [.int (nI j), .int 0, .int y3] G C M ob := by
  have hJ0 := hJ
  have hw := hJ.wx
  obtain ⟨hm, h8, h89⟩ := hJ.many
  obtain ⟨hj, -, hra, hrb, hrd, hk6, hg9⟩ := id hi
  rcases v_sp 5 (by omega) y3 with hy | ⟨v9, hv, rfl⟩
  · exact v_ok hJ0 (r_X11_set_out hf (Or.inr (Or.inr (by rw [if_pos rfl]; simp only [v_it, v_il, v_zm1, v_z0, v_z1, v_z2, v_z3, v_z4, v_z5, v_z6, v_z8, v_z9, v_z12, v_z20, v_z32, v_z80, v_z100, v_z126, v_z2000000000, show (6 : Int32).toInt = 6 from rfl]; omega)))) (r_setM_b2_0 h8 hj (fun z => by simp only [v_it, v_il, v_zm1, v_z0, v_z1, v_z2, v_z3, v_z4, v_z5, v_z6, v_z8, v_z9, v_z12, v_z20, v_z32, v_z80, v_z100, v_z126, v_z2000000000] at z; omega)) rfl
  · have hv2 : (nI v9).toInt = (v9 : Int) := nI_toInt (by omega)
    have hvr : (0 : Int32) ≤ nI v9 ∧ nI v9 ≤ 5 := by simp only [v_it, v_il, v_zm1, v_z0, v_z1, v_z2, v_z3, v_z4, v_z5, v_z6, v_z8, v_z9, v_z12, v_z20, v_z32, v_z80, v_z100, v_z126, v_z2000000000, hv2]; omega
    by_cases e : T.1 = v9
    · subst e
      exact v_ok hJ0 (r_X11_set0_same hf) (r_setM_same0 h8 hj hvr hra) rfl
    · have hne : ¬ M.2.2.2.1 0 j = nI v9 := fun z => e (nI_inj9 (by omega) (by omega) (hra.symm.trans z))
      obtain ⟨F, ja, jb, jg, jc, ji, jt, jp, jr, js, jl, jq⟩ := hJ
      have hF : F (M.1 4) j = T := by
        obtain ⟨a1, a2, a3, a4, a5, a6⟩ := jb.2.2.2 j hj
        obtain ⟨t1, t2, t3⟩ := T
        have b1 : (F (M.1 4) j).1 = t1 := nI_inj9 (by omega) (by have : t1 < 6 := hk6; omega) (a2.symm.trans hra)
        have b2 : (F (M.1 4) j).2.1 = t2 := nI_inj9 (by omega) (by have : t2 < 10 := hg9; omega) (a3.symm.trans hrb)
        have b3 : (F (M.1 4) j).2.2 = t3 := a4.symm.trans hrd
        rw [← b1, ← b2, ← b3]
      obtain ⟨c1, c2, c3, c4, c5⟩ := jc
      by_cases h12 : M.1 4 = 12
      · obtain ⟨fI2, fB2, fA2, hs, a⟩ := r_X11_set0_full (G := G) (C := C) (tl := g_hm G M ++ ob) (v9 := v9) hf (by omega) e hw (by omega)
        rw [v_len, v_38, List.append_assoc] at a
        refine v_ok (v_J.set (E := fun i => F (i + 1)) (I3 := fI2) (Rc := fB2) (Rd := fA2) (I5 := f_sC4 (M.2.2.2.1 4) 44) (w := 0) (dn := 11) (T2 := (v9, T.2.1, T.2.2)) (a := M.2.2.2.1 0 j) (b := nI v9) ja jb jg ji jt jp jr js jl jq (by omega) hj (by rw [h12]) hF (by omega) (fun i hi hn => ?_) (fun i hi => ?_) ho (Or.inl ⟨rfl, hra, rfl, rfl⟩) ⟨hk6, hg9, by show v9 < 6; omega, hg9⟩) a (r_setM0_12 h8 hj hvr hne h12) hra.symm
        · rw [(hs i (by omega)).2.1, (hs i (by omega)).2.2]
          exact c4 (i + 1) (by omega)
        · refine (c5 (i + 1) (by omega)).cg (hs i hi).1 (hs i hi).2.1 (hs i hi).2.2 (fun q hq => ?_)
          rw [v_sC4, if_pos (by omega)]
          exact congrArg (M.2.2.2.1 4) (by omega)
      · have a := r_X11_set0 (G := G) (C := C) (tl := g_hm G M ++ ob) (v9 := v9) hf (by omega) e hw (by omega)
        rw [v_len, v_38, List.append_assoc, c1] at a
        exact v_ok (v_J.set (E := F) (I3 := C.2.2.2.1 2) (Rc := C.2.2.2.2.2 1) (Rd := C.2.2.2.2.2 2) (I5 := M.2.2.2.1 4) (w := 0) (dn := M.1 4) (T2 := (v9, T.2.1, T.2.2)) (a := M.2.2.2.1 0 j) (b := nI v9) ja jb jg ji jt jp jr js jl jq (by omega) hj rfl hF (by omega) (fun i hi _ => c4 i hi) (fun i hi => c5 i (by omega)) ho (Or.inl ⟨rfl, hra, rfl, rfl⟩) ⟨hk6, hg9, by show v9 < 6; omega, hg9⟩) a (r_setM0 h8 hj hvr hne (by omega)) hra.symm
theorem v_set1 (hJ : v_J G C M ob) {j o : Nat} {T : f_T} (hf : f_is G C (g_hm G M ++ ob) j (25 + o) T) (hi : f_mis M j T) (ho : ob[o]? = some (c_Fa T)) : v_Ok Value.int mX11_set mX12_set [.int (nI j), .int 1, .int y3] G C M ob := by
  have hJ0 := hJ
  have hw := hJ.wx
  obtain ⟨hm, h8, h89⟩ := hJ.many
  obtain ⟨hj, -, hra, hrb, hrd, hk6, hg9⟩ := id hi
  rcases v_sp 9 (by omega) y3 with hy | ⟨v9, hv, rfl⟩
  · exact v_ok hJ0 (r_X11_set_out hf (Or.inr (Or.inr (by rw [if_neg (by decide)]; simp only [v_it, v_il, v_zm1, v_z0, v_z1, v_z2, v_z3, v_z4, v_z5, v_z6, v_z8, v_z9, v_z12, v_z20, v_z32, v_z80, v_z100, v_z126, v_z2000000000, show (10 : Int32).toInt = 10 from rfl]; omega)))) (r_setM_b2_1 h8 hj (fun z => by simp only [v_it, v_il, v_zm1, v_z0, v_z1, v_z2, v_z3, v_z4, v_z5, v_z6, v_z8, v_z9, v_z12, v_z20, v_z32, v_z80, v_z100, v_z126, v_z2000000000] at z; omega)) rfl
  · have hv2 : (nI v9).toInt = (v9 : Int) := nI_toInt (by omega)
    have hvr : (0 : Int32) ≤ nI v9 ∧ nI v9 ≤ 9 := by simp only [v_it, v_il, v_zm1, v_z0, v_z1, v_z2, v_z3, v_z4, v_z5, v_z6, v_z8, v_z9, v_z12, v_z20, v_z32, v_z80, v_z100, v_z126, v_z2000000000, hv2]; omega
    by_cases e : T.2.1 = v9
    · subst e
      exact v_ok hJ0 (r_X11_set1_same hf) (r_setM_same1 h8 hj hvr hrb) rfl
    · have hne : ¬ M.2.2.2.1 1 j = nI v9 := fun z => e (nI_inj9 (by omega) (by omega) (hrb.symm.trans z))
      obtain ⟨F, ja, jb, jg, jc, ji, jt, jp, jr, js, jl, jq⟩ := hJ
      have hF : F (M.1 4) j = T := by
        obtain ⟨a1, a2, a3, a4, a5, a6⟩ := jb.2.2.2 j hj
        obtain ⟨t1, t2, t3⟩ := T
        have b1 : (F (M.1 4) j).1 = t1 := nI_inj9 (by omega) (by have : t1 < 6 := hk6; omega) (a2.symm.trans hra)
        have b2 : (F (M.1 4) j).2.1 = t2 := nI_inj9 (by omega) (by have : t2 < 10 := hg9; omega) (a3.symm.trans hrb)
        have b3 : (F (M.1 4) j).2.2 = t3 := a4.symm.trans hrd
        rw [← b1, ← b2, ← b3]
      obtain ⟨c1, c2, c3, c4, c5⟩ := jc
      by_cases h12 : M.1 4 = 12
      · obtain ⟨fI2, fB2, fA2, hs, a⟩ := r_X11_set1_full (G := G) (C := C) (tl := g_hm G M ++ ob) (v9 := v9) hf (by omega) e hw (by omega)
        rw [v_len, v_38, List.append_assoc] at a
        refine v_ok (v_J.set (E := fun i => F (i + 1)) (I3 := fI2) (Rc := fB2) (Rd := fA2) (I5 := f_sC4 (M.2.2.2.1 4) 44) (w := 1) (dn := 11) (T2 := (T.1, v9, T.2.2)) (a := M.2.2.2.1 1 j) (b := nI v9) ja jb jg ji jt jp jr js jl jq (by omega) hj (by rw [h12]) hF (by omega) (fun i hi hn => ?_) (fun i hi => ?_) ho (Or.inr ⟨rfl, hrb, rfl, rfl, rfl⟩) ⟨hk6, hg9, hk6, by show v9 < 10; omega⟩) a (r_setM1_12 h8 hj hvr hne h12) hrb.symm
        · rw [(hs i (by omega)).2.1, (hs i (by omega)).2.2]
          exact c4 (i + 1) (by omega)
        · refine (c5 (i + 1) (by omega)).cg (hs i hi).1 (hs i hi).2.1 (hs i hi).2.2 (fun q hq => ?_)
          rw [v_sC4, if_pos (by omega)]
          exact congrArg (M.2.2.2.1 4) (by omega)
      · have a := r_X11_set1 (G := G) (C := C) (tl := g_hm G M ++ ob) (v9 := v9) hf (by omega) e hw (by omega)
        rw [v_len, v_38, List.append_assoc, c1] at a
        exact v_ok (v_J.set (E := F) (I3 := C.2.2.2.1 2) (Rc := C.2.2.2.2.2 1) (Rd := C.2.2.2.2.2 2) (I5 := M.2.2.2.1 4) (w := 1) (dn := M.1 4) (T2 := (T.1, v9, T.2.2)) (a := M.2.2.2.1 1 j) (b := nI v9) ja jb jg ji jt jp jr js jl jq (by omega) hj rfl hF (by omega) (fun i hi _ => c4 i hi) (fun i hi => c5 i (by omega)) ho (Or.inr ⟨rfl, hrb, rfl, rfl, rfl⟩) ⟨hk6, hg9, hk6, by show v9 < 10; omega⟩) a (r_setM1 h8 hj hvr hne (by omega)) hrb.symm
theorem v_set (hJ : v_J G C M ob) : v_Ok Value.int mX11_set mX12_set [.int y, .int y2, .int y3] G C M ob := by
  obtain ⟨hm, h8, h89⟩ := hJ.many
  rcases v_fam hJ y with ⟨b1, b2⟩ | ⟨j, o, T, rfl, hf, hi, ho⟩
  · exact v_ok hJ (r_X11_set_bad h89 b1) (r_setM_out h8 b2) rfl
  · rcases v_c1 y2 with hy | rfl | rfl
    · exact v_ok hJ (r_X11_set_out hf (by
        rcases hy with hy | hy
        · exact Or.inl (by rw [v_it, v_z0]; exact hy)
        · exact Or.inr (Or.inl (by rw [v_it, v_z1]; exact hy)))) (r_setM_b1 h8 hi.1 (fun z => by simp only [v_it, v_il, v_zm1, v_z0, v_z1, v_z2, v_z3, v_z4, v_z5, v_z6, v_z8, v_z9, v_z12, v_z20, v_z32, v_z80, v_z100, v_z126, v_z2000000000] at z; omega)) rfl
    · exact v_set0 hJ hf hi ho
    · exact v_set1 hJ hf hi ho
end VD1
