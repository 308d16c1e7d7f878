/-! The class's own cells as one record -/
/-- kind, figure, told -/
abbrev f_T : Type := Nat × Nat × Int64
/-- what the class's cells hold. Naturals: 0 n, 1 width, 2 height, 3 many, 4 done, 5 held, 6 imaged many, 7 imaged n, 8 begun, 9 act's kind, 10 tape, 11 page, 12.. shelves' places, 15.. lists' many; ints: 0 number, 1 figure, 2 cascade's many, 3.. shelves there, 6.. their sorts, 9.. lists there, 12.. their sorts; the bound; int rows: 0 cube's keys, 1 grid's, 2 changes' numbers, 3 begun, 4 cascade, 5 tape, 6 page; long rows: lists; rows: 0 families, 1 before, 2 after, 3 imaged, 4 shelves, 5 lists, 6.. shelves' rows, 9.. what comes to them -/
abbrev f_C : Type := (Nat → Nat) × (Nat → Int32) × Int64 × (Nat → Nat → Int32) × (Nat → Nat → Int64) × (Nat → Nat → Option Nat)
def f_un (C : f_C) (i x : Nat) : f_C := (fun k => if k = i then x else C.1 k, C.2)
def f_ui (C : f_C) (i : Nat) (x : Int32) : f_C := (C.1, fun k => if k = i then x else C.2.1 k, C.2.2)
def f_ul (C : f_C) (x : Int64) : f_C := (C.1, C.2.1, x, C.2.2.2)
def f_uI (C : f_C) (i : Nat) (x : Nat → Int32) : f_C := (C.1, C.2.1, C.2.2.1, fun k => if k = i then x else C.2.2.2.1 k, C.2.2.2.2)
def f_uL (C : f_C) (i : Nat) (x : Nat → Int64) : f_C := (C.1, C.2.1, C.2.2.1, C.2.2.2.1, fun k => if k = i then x else C.2.2.2.2.1 k, C.2.2.2.2.2)
def f_uR (C : f_C) (i : Nat) (x : Nat → Option Nat) : f_C := (C.1, C.2.1, C.2.2.1, C.2.2.2.1, C.2.2.2.2.1, fun k => if k = i then x else C.2.2.2.2.2 k)
abbrev c_Fa (T : f_T) : va_E := c_O 5 [.int (nI T.1), .int (nI T.2.1), .long T.2.2]
def g_hc (G : g_G) (C : f_C) : List va_E := [
  c_O 10 [.ref (g_ad G 1), .ref (g_ad G 3), .ref (g_ad G 5), .ref (g_ad G 7), .ref (g_ad G 11), .int (nI (C.1 7)), .ref (g_ad G 13), .ref (g_ad G 15), .ref (g_ad G 17), .ref (g_ad G 19), .ref (g_ad G 21), .ref (g_ad G 22)],
  c_O 3 [.ref (g_ad G 2), .int (nI (C.1 0))], c_I G 64 (C.2.2.2.1 0),
  c_O 6 [.ref (g_ad G 4), .int (nI (C.1 1)), .int (nI (C.1 2))], c_I G 64 (C.2.2.2.1 1),
  c_O 4 [.ref (g_ad G 6), .int (nI (C.1 3))], c_Q G 3 8 (C.2.2.2.2.2 0),
  c_O 2 [.ref (g_ad G 8), .ref (g_ad G 9), .ref (g_ad G 10), .int (nI (C.1 4)), .int (nI (C.1 5))], c_I G 12 (C.2.2.2.1 2), c_Q G 3 12 (C.2.2.2.2.2 1), c_Q G 3 12 (C.2.2.2.2.2 2),
  c_O 4 [.ref (g_ad G 12), .int (nI (C.1 6))], c_Q G 3 8 (C.2.2.2.2.2 3),
  c_Ac G 14 (C.1 8) (C.1 9) (C.2.1 0) (C.2.1 1), c_I G 24 (C.2.2.2.1 3),
  c_Ca G 16 (C.2.1 2) (C.2.2.1), c_I G 12 (C.2.2.2.1 4),
  c_O 9 [.ref (g_ad G 18), .int (nI (C.1 10))], c_B G 80 (C.2.2.2.1 5),
  c_O 9 [.ref (g_ad G 20), .int (nI (C.1 11))], c_B G 256 (C.2.2.2.1 6),
  c_Q G 4 3 (C.2.2.2.2.2 4), c_Q G 5 3 (C.2.2.2.2.2 5),
  c_Sh G 24 25 (C.2.1 3) (C.2.1 6) (C.1 12), c_Q G 3 6 (C.2.2.2.2.2 6), c_Q G 3 6 (C.2.2.2.2.2 9),
  c_Sh G 27 28 (C.2.1 4) (C.2.1 7) (C.1 13), c_Q G 3 6 (C.2.2.2.2.2 7), c_Q G 3 6 (C.2.2.2.2.2 10),
  c_Sh G 30 31 (C.2.1 5) (C.2.1 8) (C.1 14), c_Q G 3 6 (C.2.2.2.2.2 8), c_Q G 3 6 (C.2.2.2.2.2 11),
  c_O 7 [.ref (g_ad G 33), .int (C.2.1 9), .int (C.2.1 12), .int (nI (C.1 15))], c_L G 20 (C.2.2.2.2.1 0),
  c_O 7 [.ref (g_ad G 35), .int (C.2.1 10), .int (C.2.1 13), .int (nI (C.1 16))], c_L G 20 (C.2.2.2.2.1 1),
  c_O 7 [.ref (g_ad G 37), .int (C.2.1 11), .int (C.2.1 14), .int (nI (C.1 17))], c_L G 20 (C.2.2.2.2.1 2)]
def g_hp (G : g_G) (C : f_C) (tl : List va_E) : List va_E := g_hc G C ++ tl
theorem g_hp_at {G : g_G} {C : f_C} {tl : List va_E} {o : Nat} : (g_hp G C tl)[38 + o]? = tl[o]? := by
  unfold g_hp
  rw [List.getElem?_append_right (by show 38 ≤ 38 + o; omega)]
  show tl[38 + o - 38]? = _
  rw [Nat.add_sub_cancel_left]
theorem g_hp_push {G : g_G} {C : f_C} {tl : List va_E} {c : va_E} : g_hp G C tl ++ [c] = g_hp G C (tl ++ [c]) := List.append_assoc _ _ _
theorem g_hp_len {G : g_G} {C : f_C} {tl : List va_E} : (g_hp G C tl).length = 38 + tl.length := List.length_append
/-- r tells the family T, behind the class's cells -/
def f_fam (G : g_G) (tl : List va_E) (r : Option Nat) (T : f_T) : Prop := ∃ o, r = some (g_ad G (38 + o)) ∧ tl[o]? = some (c_Fa T)
theorem f_fam.push {G : g_G} {tl : List va_E} {r : Option Nat} {T : f_T} {c : va_E} (hf : f_fam G tl r T) : f_fam G (tl ++ [c]) r T := by
  obtain ⟨o, e1, e2⟩ := hf
  exact ⟨o, e1, by rw [List.getElem?_append_left (List.getElem?_eq_some_iff.mp e2).1]; exact e2⟩
section ST1
variable {G : g_G} {C : f_C} {tl : List va_E}
theorem f_T_at {T : f_T} {o : Nat} (ho : tl[o]? = some (c_Fa T)) : (g_hp G C tl)[38 + o]? = some (c_Fa T) := g_hp_at.trans ho
theorem r_X11_cube_in {n9 : Nat} (hn : 1 ≤ n9) (hn6 : n9 ≤ 6) : g_Run G mX11_cube 2 0 0 [.ref (g_ad G 0), .int (nI n9)] (g_hp G C tl) (some (.int (nI (C.1 0)))) (g_hp G (f_un (f_un (f_un (f_un C 0 n9) 3 0) 4 0) 5 0) tl) := by
  refine g_Run.of (lv := [(0, .ref (g_ad G 0)), (1, .int (nI n9))]) (by decide) (Nat.le_of_ble_eq_true rfl) rfl ?_
  refine a_iload_n 1 1 rfl dX11_cube_0 rfl rfl ?_
  refine a_iconst (x := 1) 2 rfl dX11_cube_1 (by decide) ?_
  refine a_icmp_lt 11 5 rfl dX11_cube_2 (by decide) (fun hc => absurd hc (nI_nlt (b := 1) hn (by omega))) (fun _ => ?_)
  refine a_iload_n 1 6 rfl dX11_cube_5 rfl rfl ?_
  refine a_bipush (x := 6) 8 rfl dX11_cube_6 (by decide) ?_
  refine a_icmp_le 13 11 rfl dX11_cube_8 (by decide) (fun _ => ?_) (fun hc => absurd ((nI_le (b := 6) (by omega) (by omega))) hc)
  refine a_aload_n 0 14 rfl dX11_cube_13 rfl rfl ?_
  refine a_get 0 cl_10 f_RX11_12_10 (by decide) (rfl) rfl 17 rfl dX11_cube_14 ?_
  refine a_callVN (as := []) (rest := []) (st2 := [.int (nI (C.1 0))]) (u1 := 0) (v1 := 0) (u2 := 0) (v2 := 0) (r_X3_elements rfl) (⟨_, _, _, _, rfl, rfl⟩) oX3_elements q_352 q_354 q_0 rfl (by omega) (by decide) rfl (Nat.le_of_ble_eq_true rfl) 20 rfl dX11_cube_17 rfl ?_
  refine a_istore_n (lv' := [(2, .int (nI (C.1 0))), (0, .ref (g_ad G 0)), (1, .int (nI n9))]) 21 rfl dX11_cube_20 rfl (by decide) rfl ?_
  refine a_aload_n 1 22 rfl dX11_cube_21 rfl rfl ?_
  refine a_get 0 cl_10 f_RX11_12_10 (by decide) (rfl) rfl 25 rfl dX11_cube_22 ?_
  refine a_iload_n 2 26 rfl dX11_cube_25 rfl rfl ?_
  refine a_callVN (as := [.int (nI n9)]) (rest := []) (st2 := []) (u1 := 0) (v1 := 0) (u2 := 0) (v2 := 0) (r_X3_reshape (n := C.1 0) rfl) (⟨_, _, _, _, rfl, rfl⟩) oX3_reshape q_356 q_358 q_1 rfl (by omega) (by decide) rfl (Nat.le_of_ble_eq_true rfl) 29 rfl dX11_cube_26 rfl ?_
  refine a_eq (h2 := g_hp G (f_un C 0 n9) tl) rfl rfl rfl (rfl) ?_
  refine a_aload_n 1 30 rfl dX11_cube_29 rfl rfl ?_
  refine a_get 2 cl_10 f_RX11_28_10 (by decide) (rfl) rfl 33 rfl dX11_cube_30 ?_
  refine a_callVN (as := []) (rest := []) (st2 := []) (u1 := 0) (v1 := 0) (u2 := 0) (v2 := 0) (r_X4_clear rfl) (⟨_, _, _, _, rfl, rfl⟩) oX4_clear q_360 q_362 q_2 rfl (by omega) (by decide) rfl (Nat.le_of_ble_eq_true rfl) 36 rfl dX11_cube_33 rfl ?_
  refine a_eq (h2 := g_hp G (f_un (f_un C 0 n9) 3 0) tl) rfl rfl rfl (rfl) ?_
  refine a_aload_n 1 37 rfl dX11_cube_36 rfl rfl ?_
  refine a_get 3 cl_10 f_RX11_35_10 (by decide) (rfl) rfl 40 rfl dX11_cube_37 ?_
  refine a_callVN (as := []) (rest := []) (st2 := []) (u1 := 0) (v1 := 0) (u2 := 0) (v2 := 0) (r_X2_forget rfl) (⟨_, _, _, _, rfl, rfl⟩) oX2_forget q_364 q_366 q_3 rfl (by omega) (by decide) rfl (Nat.le_of_ble_eq_true rfl) 43 rfl dX11_cube_40 rfl ?_
  refine a_eq (h2 := g_hp G (f_un (f_un (f_un (f_un C 0 n9) 3 0) 4 0) 5 0) tl) rfl rfl rfl (rfl) ?_
  refine a_iload_n 0 44 rfl dX11_cube_43 rfl rfl ?_
  exact a_ireturn .int rfl rfl (rfl) (rfl) dX11_cube_44
theorem r_X11_cube_out {x : Int32} (hn : x < 1 ∨ 6 < x) : g_Run G mX11_cube 2 0 0 [.ref (g_ad G 0), .int x] (g_hp G C tl) (some (.int (-1))) (g_hp G C tl) := by
  refine g_Run.of (lv := [(0, .ref (g_ad G 0)), (1, .int x)]) (by decide) (Nat.le_of_ble_eq_true rfl) rfl ?_
  refine a_iload_n 1 1 rfl dX11_cube_0 rfl rfl ?_
  refine a_iconst (x := 1) 2 rfl dX11_cube_1 (by decide) ?_
  refine a_icmp_lt 11 5 rfl dX11_cube_2 (by decide) (fun c2 => ?_) (fun c2 => ?_)
  refine a_iconst (x := (-1)) 12 rfl dX11_cube_11 (by decide) ?_
  exact a_ireturn .int rfl rfl (rfl) (rfl) dX11_cube_12
  refine a_iload_n 1 6 rfl dX11_cube_5 rfl rfl ?_
  refine a_bipush (x := 6) 8 rfl dX11_cube_6 (by decide) ?_
  refine a_icmp_le 13 11 rfl dX11_cube_8 (by decide) (fun hc => absurd hc ((fun z => hn.elim (fun y9 => c2 y9) (fun y9 => absurd y9 (Int32.not_lt.mpr z))))) (fun _ => ?_)
  refine a_iconst (x := (-1)) 12 rfl dX11_cube_11 (by decide) ?_
  exact a_ireturn .int rfl rfl (rfl) (rfl) dX11_cube_12
theorem r_X11_drop {m9 : Nat} (hm : C.1 3 = m9 + 1) (hm8 : m9 < 8) : g_Run G mX11_drop 2 0 0 [.ref (g_ad G 0)] (g_hp G C tl) (some (.int (nI m9))) (g_hp G (f_un (f_un (f_un C 3 m9) 4 0) 5 0) tl) := by
  have h5 : (g_hp G C tl)[5]? = some (c_O 4 [.ref (g_ad G 6), .int (nI (m9 + 1))]) := by rw [← hm]; rfl
  refine g_Run.of (lv := [(0, .ref (g_ad G 0))]) (by decide) (Nat.le_of_ble_eq_true rfl) rfl ?_
  refine a_aload_n 0 1 rfl dX11_drop_0 rfl rfl ?_
  refine a_get 2 cl_10 f_RX11_28_10 (by decide) (rfl) rfl 4 rfl dX11_drop_1 ?_
  refine a_callVN (as := []) (rest := []) (st2 := [.int 1]) (u1 := 0) (v1 := 0) (u2 := 0) (v2 := 0) (r_X4_removeLast h5 hm8) (⟨_, _, _, _, rfl, rfl⟩) oX4_removeLast q_434 q_436 q_7 rfl (by omega) (by decide) rfl (Nat.le_of_ble_eq_true rfl) 7 rfl dX11_drop_4 rfl ?_
  refine a_if_ne 13 10 rfl dX11_drop_7 (by decide) (fun _ => ?_) (fun hc => absurd hc ((by decide)))
  refine a_aload_n 0 14 rfl dX11_drop_13 rfl rfl ?_
  refine a_get 3 cl_10 f_RX11_35_10 (by decide) (rfl) rfl 17 rfl dX11_drop_14 ?_
  refine a_eq (h2 := g_hp G (f_un C 3 m9) tl) rfl rfl rfl (rfl) ?_
  refine a_callVN (as := []) (rest := []) (st2 := []) (u1 := 0) (v1 := 0) (u2 := 0) (v2 := 0) (r_X2_forget rfl) (⟨_, _, _, _, rfl, rfl⟩) oX2_forget q_364 q_366 q_3 rfl (by omega) (by decide) rfl (Nat.le_of_ble_eq_true rfl) 20 rfl dX11_drop_17 rfl ?_
  refine a_eq (h2 := g_hp G (f_un (f_un (f_un C 3 m9) 4 0) 5 0) tl) rfl rfl rfl (rfl) ?_
  refine a_aload_n 0 21 rfl dX11_drop_20 rfl rfl ?_
  refine a_get 2 cl_10 f_RX11_28_10 (by decide) (rfl) rfl 24 rfl dX11_drop_21 ?_
  refine a_callVN (as := []) (rest := []) (st2 := [.int (nI m9)]) (u1 := 0) (v1 := 0) (u2 := 0) (v2 := 0) (r_X4_many rfl) (⟨_, _, _, _, rfl, rfl⟩) oX4_many q_438 q_440 q_8 rfl (by omega) (by decide) rfl (Nat.le_of_ble_eq_true rfl) 27 rfl dX11_drop_24 rfl ?_
  exact a_ireturn .int rfl rfl (rfl) (rfl) dX11_drop_27
theorem r_X11_drop0 (hm : C.1 3 = 0) : g_Run G mX11_drop 2 0 0 [.ref (g_ad G 0)] (g_hp G C tl) (some (.int (-5))) (g_hp G C tl) := by
  have h5 : (g_hp G C tl)[5]? = some (c_O 4 [.ref (g_ad G 6), .int 0]) := by
    have e9 : (g_hp G C tl)[5]? = some (c_O 4 [.ref (g_ad G 6), .int (nI (C.1 3))]) := rfl
    rw [e9, hm]; rfl
  refine g_Run.of (lv := [(0, .ref (g_ad G 0))]) (by decide) (Nat.le_of_ble_eq_true rfl) rfl ?_
  refine a_aload_n 0 1 rfl dX11_drop_0 rfl rfl ?_
  refine a_get 2 cl_10 f_RX11_28_10 (by decide) (rfl) rfl 4 rfl dX11_drop_1 ?_
  refine a_callVN (as := []) (rest := []) (st2 := [.int 0]) (u1 := 0) (v1 := 0) (u2 := 0) (v2 := 0) (r_X4_removeLast0 h5) (⟨_, _, _, _, rfl, rfl⟩) oX4_removeLast q_434 q_436 q_7 rfl (by omega) (by decide) rfl (Nat.le_of_ble_eq_true rfl) 7 rfl dX11_drop_4 rfl ?_
  refine a_if_ne 13 10 rfl dX11_drop_7 (by decide) (fun hc => absurd (rfl) hc) (fun _ => ?_)
  refine a_bipush (x := (-5)) 12 rfl dX11_drop_10 (by decide) ?_
  exact a_ireturn .int rfl rfl (rfl) (rfl) dX11_drop_12
end ST1
