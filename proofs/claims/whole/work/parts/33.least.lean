/-! The class's calls on orders, on what is least, on the grid -/
section LE1
variable {G : g_G} {C : f_C} {tl : List va_E} {x z9 : Int64} {y y2 y3 : Int32} {j o : Nat} {T : f_T}
def f_lo (g : Int64 → Int32) (y : Int32) (m : Int64) : Int64 := if y ≤ 0 then 0 else f_leastOf g y m
theorem r_lo_cube0 (hn : C.1 0 ≤ 6) : g_Run G mX7_leastOf 5 0 0 [.ref (g_ad G 1), .int 0, .int y, .long z9] (g_hp G C tl) (some (.long (f_lo (fun x => f_bcL (f_border x (C.1 0))) y z9))) (g_hp G C tl) := by
  unfold f_lo
  by_cases hy : y ≤ 0
  · rw [if_pos hy]; exact r_leastOf_0 hy
  · rw [if_neg hy]; exact r_leastOf_cube0 (n := C.1 0) rfl hn (Int32.not_le.mp hy)

theorem r_lo_cube1 (hn : C.1 0 ≤ 6) : g_Run G mX7_leastOf 5 0 0 [.ref (g_ad G 1), .int 1, .int y, .long z9] (g_hp G C tl) (some (.long (f_lo (fun x => f_edges x (C.1 0) (C.1 0)) y z9))) (g_hp G C tl) := by
  unfold f_lo
  by_cases hy : y ≤ 0
  · rw [if_pos hy]; exact r_leastOf_0 hy
  · rw [if_neg hy]; exact r_leastOf_cube1 (n := C.1 0) rfl hn (Int32.not_le.mp hy)

theorem r_lo_cube2 (hn : C.1 0 ≤ 6) : g_Run G mX7_leastOf 5 0 0 [.ref (g_ad G 1), .int 2, .int y, .long z9] (g_hp G C tl) (some (.long (f_lo (fun x => f_bcL (f_shadow x (C.1 0))) y z9))) (g_hp G C tl) := by
  unfold f_lo
  by_cases hy : y ≤ 0
  · rw [if_pos hy]; exact r_leastOf_0 hy
  · rw [if_neg hy]; exact r_leastOf_cube2 (n := C.1 0) rfl hn (Int32.not_le.mp hy)

theorem r_lo_grid0 (hp : C.1 1 * C.1 2 ≤ 64) (ht : C.1 2 ≤ 8) : g_Run G mX7_leastOf 5 0 0 [.ref (g_ad G 3), .int 0, .int y, .long z9] (g_hp G C tl) (some (.long (f_lo (fun x => f_bcL (f_borderG (C.1 1) (C.1 2) x)) y z9))) (g_hp G C tl) := by
  unfold f_lo
  by_cases hy : y ≤ 0
  · rw [if_pos hy]; exact r_leastOf_0 hy
  · rw [if_neg hy]; exact r_leastOf_grid0 (w9 := C.1 1) (t9 := C.1 2) rfl hp ht (Int32.not_le.mp hy)

theorem r_lo_grid1 (hp : C.1 1 * C.1 2 ≤ 64) (ht : C.1 2 ≤ 8) : g_Run G mX7_leastOf 5 0 0 [.ref (g_ad G 3), .int 1, .int y, .long z9] (g_hp G C tl) (some (.long (f_lo (f_edgesG (C.1 1) (C.1 2)) y z9))) (g_hp G C tl) := by
  unfold f_lo
  by_cases hy : y ≤ 0
  · rw [if_pos hy]; exact r_leastOf_0 hy
  · rw [if_neg hy]; exact r_leastOf_grid1 (w9 := C.1 1) (t9 := C.1 2) rfl hp ht (Int32.not_le.mp hy)

/-- how one of so many places is refused -/
def f_ref1 (p : Nat) (y y2 : Int32) : Int32 := if y < 0 ∨ 1 < y ∨ y2 < 0 ∨ ¬ y2 ≤ nI p then -1 else if 16 < p then -5 else 0
theorem r_ref_cube (hn : C.1 0 ≤ 6) : g_Run G mX11_refusalOfLeastOn 3 0 0 [.ref (g_ad G 1), .int y, .int y2] (g_hp G C tl) (some (.int (f_ref1 (2 ^ C.1 0) y y2))) (g_hp G C tl) := by
  have hp : 2 ^ C.1 0 ≤ 64 := Nat.pow_le_pow_right (by decide) hn
  refine g_Run.of (lv := [(0, .ref (g_ad G 1)), (1, .int y), (2, .int y2)]) (by decide) (Nat.le_of_ble_eq_true rfl) rfl ?_
  refine a_iload_n 1 1 rfl dX11_refusalOfLeastOn_0 rfl rfl ?_
  refine a_if_lt 21 4 rfl dX11_refusalOfLeastOn_1 (by decide) (fun c1 => ?_) (fun c1 => ?_)
  refine a_iconst (x := (-1)) 22 rfl dX11_refusalOfLeastOn_21 (by decide) ?_
  exact a_ireturn .int rfl rfl ((by rw [f_ref1, if_pos (Or.inl c1)])) (rfl) dX11_refusalOfLeastOn_22
  refine a_iload_n 1 5 rfl dX11_refusalOfLeastOn_4 rfl rfl ?_
  refine a_iconst (x := 1) 6 rfl dX11_refusalOfLeastOn_5 (by decide) ?_
  refine a_icmp_gt 21 9 rfl dX11_refusalOfLeastOn_6 (by decide) (fun c6 => ?_) (fun c6 => ?_)
  refine a_iconst (x := (-1)) 22 rfl dX11_refusalOfLeastOn_21 (by decide) ?_
  exact a_ireturn .int rfl rfl ((by rw [f_ref1, if_pos (Or.inr (Or.inl c6))])) (rfl) dX11_refusalOfLeastOn_22
  refine a_iload_n 2 10 rfl dX11_refusalOfLeastOn_9 rfl rfl ?_
  refine a_if_lt 21 13 rfl dX11_refusalOfLeastOn_10 (by decide) (fun c10 => ?_) (fun c10 => ?_)
  refine a_iconst (x := (-1)) 22 rfl dX11_refusalOfLeastOn_21 (by decide) ?_
  exact a_ireturn .int rfl rfl ((by rw [f_ref1, if_pos (Or.inr (Or.inr (Or.inl c10)))])) (rfl) dX11_refusalOfLeastOn_22
  refine a_iload_n 2 14 rfl dX11_refusalOfLeastOn_13 rfl rfl ?_
  refine a_aload_n 0 15 rfl dX11_refusalOfLeastOn_14 rfl rfl ?_
  refine a_callU (as := []) (C := RX3) (owner := "LeastShadows$Ground") (x := ⟨"LeastShadows$Ground", "places", "()I"⟩) (rest := [.int y2]) (st2 := [.int (nI (2 ^ C.1 0)), .int y2]) (u1 := 0) (v1 := 0) (u2 := 0) (v2 := 0) (r_X3_places (n := C.1 0) rfl hn) (⟨_, _, _, _, rfl, rfl⟩) oX3_places ⟨q_641, q_386, q_387, q_388, ⟨by decide, by decide⟩, Or.inr q_385⟩ rfl (by omega) (by decide) rfl (Nat.le_of_ble_eq_true rfl) 18 rfl dX11_refusalOfLeastOn_15 rfl ?_
  by_cases c18 : y2 ≤ nI (2 ^ C.1 0)
  · skip
    refine a_icmp_le 23 21 rfl dX11_refusalOfLeastOn_18 (by decide) (fun _ => ?_) (fun hc => absurd (c18) hc)
    refine a_aload_n 0 24 rfl dX11_refusalOfLeastOn_23 rfl rfl ?_
    refine a_callU (as := []) (C := RX3) (owner := "LeastShadows$Ground") (x := ⟨"LeastShadows$Ground", "places", "()I"⟩) (rest := []) (st2 := [.int (nI (2 ^ C.1 0))]) (u1 := 0) (v1 := 0) (u2 := 0) (v2 := 0) (r_X3_places (n := C.1 0) rfl hn) (⟨_, _, _, _, rfl, rfl⟩) oX3_places ⟨q_641, q_386, q_387, q_388, ⟨by decide, by decide⟩, Or.inr q_385⟩ rfl (by omega) (by decide) rfl (Nat.le_of_ble_eq_true rfl) 27 rfl dX11_refusalOfLeastOn_24 rfl ?_
    refine a_bipush (x := 16) 29 rfl dX11_refusalOfLeastOn_27 (by decide) ?_
    have hno : ¬ (y < 0 ∨ 1 < y ∨ y2 < 0 ∨ ¬ y2 ≤ nI (2 ^ C.1 0)) := fun z => (((z.resolve_left c1).resolve_left c6).resolve_left c10) c18
    by_cases c29 : 2 ^ C.1 0 ≤ 16
    · skip
      refine a_icmp_le 37 32 rfl dX11_refusalOfLeastOn_29 (by decide) (fun _ => ?_) (fun hc => absurd (nI_le c29 (by decide)) hc)
      refine a_iconst (x := 0) 38 rfl dX11_refusalOfLeastOn_37 (by decide) ?_
      exact a_ireturn .int rfl rfl ((by rw [f_ref1, if_neg hno, if_neg (by omega)])) (rfl) dX11_refusalOfLeastOn_38
    · skip
      refine a_icmp_le 37 32 rfl dX11_refusalOfLeastOn_29 (by decide) (fun hc => absurd hc (nI_ge (a := 16) (by omega) (by omega))) (fun _ => ?_)
      refine a_bipush (x := (-5)) 34 rfl dX11_refusalOfLeastOn_32 (by decide) ?_
      refine a_goto 38 dX11_refusalOfLeastOn_34 (by decide) ?_
      exact a_ireturn .int rfl rfl ((by rw [f_ref1, if_neg hno, if_pos (by omega)])) (rfl) dX11_refusalOfLeastOn_38
  · skip
    refine a_icmp_le 23 21 rfl dX11_refusalOfLeastOn_18 (by decide) (fun hc => absurd hc (c18)) (fun _ => ?_)
    refine a_iconst (x := (-1)) 22 rfl dX11_refusalOfLeastOn_21 (by decide) ?_
    exact a_ireturn .int rfl rfl ((by rw [f_ref1, if_pos (Or.inr (Or.inr (Or.inr c18)))])) (rfl) dX11_refusalOfLeastOn_22

theorem r_ref_grid (hp : C.1 1 * C.1 2 ≤ 64) : g_Run G mX11_refusalOfLeastOn 3 0 0 [.ref (g_ad G 3), .int y, .int y2] (g_hp G C tl) (some (.int (f_ref1 (C.1 1 * C.1 2) y y2))) (g_hp G C tl) := by
  skip
  refine g_Run.of (lv := [(0, .ref (g_ad G 3)), (1, .int y), (2, .int y2)]) (by decide) (Nat.le_of_ble_eq_true rfl) rfl ?_
  refine a_iload_n 1 1 rfl dX11_refusalOfLeastOn_0 rfl rfl ?_
  refine a_if_lt 21 4 rfl dX11_refusalOfLeastOn_1 (by decide) (fun c1 => ?_) (fun c1 => ?_)
  refine a_iconst (x := (-1)) 22 rfl dX11_refusalOfLeastOn_21 (by decide) ?_
  exact a_ireturn .int rfl rfl ((by rw [f_ref1, if_pos (Or.inl c1)])) (rfl) dX11_refusalOfLeastOn_22
  refine a_iload_n 1 5 rfl dX11_refusalOfLeastOn_4 rfl rfl ?_
  refine a_iconst (x := 1) 6 rfl dX11_refusalOfLeastOn_5 (by decide) ?_
  refine a_icmp_gt 21 9 rfl dX11_refusalOfLeastOn_6 (by decide) (fun c6 => ?_) (fun c6 => ?_)
  refine a_iconst (x := (-1)) 22 rfl dX11_refusalOfLeastOn_21 (by decide) ?_
  exact a_ireturn .int rfl rfl ((by rw [f_ref1, if_pos (Or.inr (Or.inl c6))])) (rfl) dX11_refusalOfLeastOn_22
  refine a_iload_n 2 10 rfl dX11_refusalOfLeastOn_9 rfl rfl ?_
  refine a_if_lt 21 13 rfl dX11_refusalOfLeastOn_10 (by decide) (fun c10 => ?_) (fun c10 => ?_)
  refine a_iconst (x := (-1)) 22 rfl dX11_refusalOfLeastOn_21 (by decide) ?_
  exact a_ireturn .int rfl rfl ((by rw [f_ref1, if_pos (Or.inr (Or.inr (Or.inl c10)))])) (rfl) dX11_refusalOfLeastOn_22
  refine a_iload_n 2 14 rfl dX11_refusalOfLeastOn_13 rfl rfl ?_
  refine a_aload_n 0 15 rfl dX11_refusalOfLeastOn_14 rfl rfl ?_
  refine a_callU (as := []) (C := RX6) (owner := "LeastShadows$Ground") (x := ⟨"LeastShadows$Ground", "places", "()I"⟩) (rest := [.int y2]) (st2 := [.int (nI (C.1 1 * C.1 2)), .int y2]) (u1 := 0) (v1 := 0) (u2 := 0) (v2 := 0) (r_X6_places (w9 := C.1 1) (t9 := C.1 2) rfl) (⟨_, _, _, _, rfl, rfl⟩) oX6_places ⟨q_641, q_386, q_390, q_391, ⟨by decide, by decide⟩, Or.inr q_385⟩ rfl (by omega) (by decide) rfl (Nat.le_of_ble_eq_true rfl) 18 rfl dX11_refusalOfLeastOn_15 rfl ?_
  by_cases c18 : y2 ≤ nI (C.1 1 * C.1 2)
  · skip
    refine a_icmp_le 23 21 rfl dX11_refusalOfLeastOn_18 (by decide) (fun _ => ?_) (fun hc => absurd (c18) hc)
    refine a_aload_n 0 24 rfl dX11_refusalOfLeastOn_23 rfl rfl ?_
    refine a_callU (as := []) (C := RX6) (owner := "LeastShadows$Ground") (x := ⟨"LeastShadows$Ground", "places", "()I"⟩) (rest := []) (st2 := [.int (nI (C.1 1 * C.1 2))]) (u1 := 0) (v1 := 0) (u2 := 0) (v2 := 0) (r_X6_places (w9 := C.1 1) (t9 := C.1 2) rfl) (⟨_, _, _, _, rfl, rfl⟩) oX6_places ⟨q_641, q_386, q_390, q_391, ⟨by decide, by decide⟩, Or.inr q_385⟩ rfl (by omega) (by decide) rfl (Nat.le_of_ble_eq_true rfl) 27 rfl dX11_refusalOfLeastOn_24 rfl ?_
    refine a_bipush (x := 16) 29 rfl dX11_refusalOfLeastOn_27 (by decide) ?_
    have hno : ¬ (y < 0 ∨ 1 < y ∨ y2 < 0 ∨ ¬ y2 ≤ nI (C.1 1 * C.1 2)) := fun z => (((z.resolve_left c1).resolve_left c6).resolve_left c10) c18
    by_cases c29 : C.1 1 * C.1 2 ≤ 16
    · skip
      refine a_icmp_le 37 32 rfl dX11_refusalOfLeastOn_29 (by decide) (fun _ => ?_) (fun hc => absurd (nI_le c29 (by decide)) hc)
      refine a_iconst (x := 0) 38 rfl dX11_refusalOfLeastOn_37 (by decide) ?_
      exact a_ireturn .int rfl rfl ((by rw [f_ref1, if_neg hno, if_neg (by omega)])) (rfl) dX11_refusalOfLeastOn_38
    · skip
      refine a_icmp_le 37 32 rfl dX11_refusalOfLeastOn_29 (by decide) (fun hc => absurd hc (nI_ge (a := 16) (by omega) (by omega))) (fun _ => ?_)
      refine a_bipush (x := (-5)) 34 rfl dX11_refusalOfLeastOn_32 (by decide) ?_
      refine a_goto 38 dX11_refusalOfLeastOn_34 (by decide) ?_
      exact a_ireturn .int rfl rfl ((by rw [f_ref1, if_neg hno, if_pos (by omega)])) (rfl) dX11_refusalOfLeastOn_38
  · skip
    refine a_icmp_le 23 21 rfl dX11_refusalOfLeastOn_18 (by decide) (fun hc => absurd hc (c18)) (fun _ => ?_)
    refine a_iconst (x := (-1)) 22 rfl dX11_refusalOfLeastOn_21 (by decide) ?_
    exact a_ireturn .int rfl rfl ((by rw [f_ref1, if_pos (Or.inr (Or.inr (Or.inr c18)))])) (rfl) dX11_refusalOfLeastOn_22

/-- among which sets the least ones are looked for -/
def f_am (n : Nat) (y y3 : Int32) : Int64 := if y = 2 then f_all (2 ^ n) &&& f_ofSize y3 64 else f_all (2 ^ n)
theorem r_am (hn : C.1 0 ≤ 6) : g_Run G mX11_amongWhich 3 0 0 [.ref (g_ad G 0), .int y, .int y3] (g_hp G C tl) (some (.long (f_am (C.1 0) y y3))) (g_hp G C tl) := by
  refine g_Run.of (lv := [(0, .ref (g_ad G 0)), (1, .int y), (2, .int y3)]) (by decide) (Nat.le_of_ble_eq_true rfl) rfl ?_
  refine a_iload_n 1 1 rfl dX11_amongWhich_0 rfl rfl ?_
  refine a_iconst (x := 2) 2 rfl dX11_amongWhich_1 (by decide) ?_
  refine a_icmp_ne 24 5 rfl dX11_amongWhich_2 (by decide) (fun c2 => ?_) (fun c2 => ?_)
  refine a_aload_n 0 25 rfl dX11_amongWhich_24 rfl rfl ?_
  refine a_get 0 cl_10 f_RX11_12_10 (by decide) (rfl) rfl 28 rfl dX11_amongWhich_25 ?_
  refine a_callU (as := []) (C := RX3) (owner := "LeastShadows$Ground") (x := ⟨"LeastShadows$Cube", "all", "()J"⟩) (rest := []) (st2 := [.long (f_all (2 ^ C.1 0))]) (u1 := 0) (v1 := 0) (u2 := 0) (v2 := 0) (r_all_cube (n := C.1 0) rfl hn) (⟨_, _, _, _, rfl, rfl⟩) oX7_all ⟨q_646, q_472, q_474, q_379, ⟨by decide, by decide⟩, Or.inl rfl⟩ rfl (by omega) (by decide) rfl (Nat.le_of_ble_eq_true rfl) 31 rfl dX11_amongWhich_28 rfl ?_
  exact a_lreturn rfl ((by rw [f_am, if_neg c2])) (rfl) dX11_amongWhich_31
  refine a_aload_n 0 6 rfl dX11_amongWhich_5 rfl rfl ?_
  refine a_get 0 cl_10 f_RX11_12_10 (by decide) (rfl) rfl 9 rfl dX11_amongWhich_6 ?_
  refine a_callU (as := []) (C := RX3) (owner := "LeastShadows$Ground") (x := ⟨"LeastShadows$Cube", "all", "()J"⟩) (rest := []) (st2 := [.long (f_all (2 ^ C.1 0))]) (u1 := 0) (v1 := 0) (u2 := 0) (v2 := 0) (r_all_cube (n := C.1 0) rfl hn) (⟨_, _, _, _, rfl, rfl⟩) oX7_all ⟨q_646, q_472, q_474, q_379, ⟨by decide, by decide⟩, Or.inl rfl⟩ rfl (by omega) (by decide) rfl (Nat.le_of_ble_eq_true rfl) 12 rfl dX11_amongWhich_9 rfl ?_
  refine a_aload_n 0 13 rfl dX11_amongWhich_12 rfl rfl ?_
  refine a_get 0 cl_10 f_RX11_12_10 (by decide) (rfl) rfl 16 rfl dX11_amongWhich_13 ?_
  refine a_iload_n 2 17 rfl dX11_amongWhich_16 rfl rfl ?_
  refine a_callVN (as := [.int y3]) (rest := [.long (f_all (2 ^ C.1 0))]) (st2 := [.long (f_ofSize y3 64), .long (f_all (2 ^ C.1 0))]) (u1 := 0) (v1 := 0) (u2 := 0) (v2 := 0) (r_X3_ofSize) (⟨_, _, _, _, rfl, rfl⟩) oX3_ofSize q_647 q_487 q_15 rfl (by omega) (by decide) rfl (Nat.le_of_ble_eq_true rfl) 20 rfl dX11_amongWhich_17 rfl ?_
  refine a_land 21 rfl dX11_amongWhich_20 ?_
  refine a_goto 31 dX11_amongWhich_21 (by decide) ?_
  exact a_lreturn rfl ((by rw [f_am, if_pos c2])) (rfl) dX11_amongWhich_31
/-- how least is refused, or 0 -/
def f_ref2 (n : Nat) (y y2 y3 : Int32) : Int32 := if y = 2 then (if y2 < 0 ∨ y3 < 0 ∨ ¬ y3 ≤ nI n ∨ ¬ y2 ≤ f_bcL (f_am n y y3) then -1 else if f_bcL (f_am n y y3) ≤ 15 then 0 else -5) else f_ref1 (2 ^ n) y y2
theorem r_ref2 (hn : C.1 0 ≤ 6) : g_Run G mX11_refusalOfLeast 4 0 0 [.ref (g_ad G 0), .int y, .int y2, .int y3] (g_hp G C tl) (some (.int (f_ref2 (C.1 0) y y2 y3))) (g_hp G C tl) := by
  refine g_Run.of (lv := [(0, .ref (g_ad G 0)), (1, .int y), (2, .int y2), (3, .int y3)]) (by decide) (Nat.le_of_ble_eq_true rfl) rfl ?_
  refine a_iload_n 1 1 rfl dX11_refusalOfLeast_0 rfl rfl ?_
  refine a_iconst (x := 2) 2 rfl dX11_refusalOfLeast_1 (by decide) ?_
  refine a_icmp_eq 15 5 rfl dX11_refusalOfLeast_2 (by decide) (fun c2 => ?_) (fun c2 => ?_)
  refine a_iload_n 2 16 rfl dX11_refusalOfLeast_15 rfl rfl ?_
  refine a_if_lt 34 19 rfl dX11_refusalOfLeast_16 (by decide) (fun c16 => ?_) (fun c16 => ?_)
  refine a_iconst (x := (-1)) 35 rfl dX11_refusalOfLeast_34 (by decide) ?_
  exact a_ireturn .int rfl rfl ((by rw [f_ref2, if_pos c2, if_pos (Or.inl c16)])) (rfl) dX11_refusalOfLeast_35
  refine a_iload_n 3 20 rfl dX11_refusalOfLeast_19 rfl rfl ?_
  refine a_if_lt 34 23 rfl dX11_refusalOfLeast_20 (by decide) (fun c20 => ?_) (fun c20 => ?_)
  refine a_iconst (x := (-1)) 35 rfl dX11_refusalOfLeast_34 (by decide) ?_
  exact a_ireturn .int rfl rfl ((by rw [f_ref2, if_pos c2, if_pos (Or.inr (Or.inl c20))])) (rfl) dX11_refusalOfLeast_35
  refine a_iload_n 3 24 rfl dX11_refusalOfLeast_23 rfl rfl ?_
  refine a_aload_n 0 25 rfl dX11_refusalOfLeast_24 rfl rfl ?_
  refine a_get 0 cl_10 f_RX11_12_10 (by decide) (rfl) rfl 28 rfl dX11_refusalOfLeast_25 ?_
  refine a_callVN (as := []) (rest := [.int y3]) (st2 := [.int (nI (C.1 0)), .int y3]) (u1 := 0) (v1 := 0) (u2 := 0) (v2 := 0) (r_X3_elements rfl) (⟨_, _, _, _, rfl, rfl⟩) oX3_elements q_352 q_354 q_0 rfl (by omega) (by decide) rfl (Nat.le_of_ble_eq_true rfl) 31 rfl dX11_refusalOfLeast_28 rfl ?_
  by_cases c31 : y3 ≤ nI (C.1 0)
  · skip
    refine a_icmp_le 36 34 rfl dX11_refusalOfLeast_31 (by decide) (fun _ => ?_) (fun hc => absurd (c31) hc)
    refine a_aload_n 0 37 rfl dX11_refusalOfLeast_36 rfl rfl ?_
    refine a_iload_n 1 38 rfl dX11_refusalOfLeast_37 rfl rfl ?_
    refine a_iload_n 3 39 rfl dX11_refusalOfLeast_38 rfl rfl ?_
    refine a_callV (as := [.int y, .int y3]) (rest := []) (st2 := [.long (f_am (C.1 0) y y3)]) (u1 := 0) (v1 := 0) (u2 := 0) (v2 := 0) (r_am hn) (⟨_, _, _, _, rfl, rfl⟩) oX11_amongWhich q_642 q_644 q_30 rfl (by omega) (by decide) rfl (Nat.le_of_ble_eq_true rfl) 42 rfl dX11_refusalOfLeast_39 rfl ?_
    refine a_callS (as := [.long (f_am (C.1 0) y y3)]) (rest := []) (st2 := [.int (f_bcL (f_am (C.1 0) y y3))]) (u1 := 0) (v1 := 0) (u2 := 0) (v2 := 0) (f_bit) oJ13_bitCount_95d88 q_521 q_522 rfl (by omega) (by decide) rfl (Nat.le_of_ble_eq_true rfl) 45 rfl dX11_refusalOfLeast_42 rfl ?_
    refine a_istore (lv' := [(4, .int (f_bcL (f_am (C.1 0) y y3))), (0, .ref (g_ad G 0)), (1, .int y), (2, .int y2), (3, .int y3)]) 47 rfl dX11_refusalOfLeast_45 (by decide) rfl ?_
    refine a_iload_n 3 48 rfl dX11_refusalOfLeast_47 rfl rfl ?_
    refine a_iload 0 50 rfl dX11_refusalOfLeast_48 rfl ?_
    by_cases c50 : y2 ≤ f_bcL (f_am (C.1 0) y y3)
    · have hno : ¬ (y2 < 0 ∨ y3 < 0 ∨ ¬ y3 ≤ nI (C.1 0) ∨ ¬ y2 ≤ f_bcL (f_am (C.1 0) y y3)) := fun z => (((z.resolve_left c16).resolve_left c20).resolve_left (fun z9 => z9 c31)) c50
      refine a_icmp_le 55 53 rfl dX11_refusalOfLeast_50 (by decide) (fun _ => ?_) (fun hc => absurd (c50) hc)
      refine a_iload 0 57 rfl dX11_refusalOfLeast_55 rfl ?_
      refine a_bipush (x := 15) 59 rfl dX11_refusalOfLeast_57 (by decide) ?_
      refine a_icmp_le 67 62 rfl dX11_refusalOfLeast_59 (by decide) (fun c59 => ?_) (fun c59 => ?_)
      refine a_iconst (x := 0) 68 rfl dX11_refusalOfLeast_67 (by decide) ?_
      exact a_ireturn .int rfl rfl ((by rw [f_ref2, if_pos c2, if_neg hno, if_pos c59])) (rfl) dX11_refusalOfLeast_68
      refine a_bipush (x := (-5)) 64 rfl dX11_refusalOfLeast_62 (by decide) ?_
      refine a_goto 68 dX11_refusalOfLeast_64 (by decide) ?_
      exact a_ireturn .int rfl rfl ((by rw [f_ref2, if_pos c2, if_neg hno, if_neg c59])) (rfl) dX11_refusalOfLeast_68
    · skip
      refine a_icmp_le 55 53 rfl dX11_refusalOfLeast_50 (by decide) (fun hc => absurd hc (c50)) (fun _ => ?_)
      refine a_iconst (x := (-1)) 54 rfl dX11_refusalOfLeast_53 (by decide) ?_
      exact a_ireturn .int rfl rfl ((by rw [f_ref2, if_pos c2, if_pos (Or.inr (Or.inr (Or.inr c50)))])) (rfl) dX11_refusalOfLeast_54
  · skip
    refine a_icmp_le 36 34 rfl dX11_refusalOfLeast_31 (by decide) (fun hc => absurd hc (c31)) (fun _ => ?_)
    refine a_iconst (x := (-1)) 35 rfl dX11_refusalOfLeast_34 (by decide) ?_
    exact a_ireturn .int rfl rfl ((by rw [f_ref2, if_pos c2, if_pos (Or.inr (Or.inr (Or.inl c31)))])) (rfl) dX11_refusalOfLeast_35
  refine a_aload_n 0 6 rfl dX11_refusalOfLeast_5 rfl rfl ?_
  refine a_get 0 cl_10 f_RX11_12_10 (by decide) (rfl) rfl 9 rfl dX11_refusalOfLeast_6 ?_
  refine a_iload_n 1 10 rfl dX11_refusalOfLeast_9 rfl rfl ?_
  refine a_iload_n 2 11 rfl dX11_refusalOfLeast_10 rfl rfl ?_
  refine a_callS (as := [.ref (g_ad G 1), .int y, .int y2]) (rest := []) (st2 := [.int (f_ref1 (2 ^ C.1 0) y y2)]) (u1 := 0) (v1 := 0) (u2 := 0) (v2 := 0) (r_ref_cube hn) oX11_refusalOfLeastOn q_638 q_639 rfl (by omega) (by decide) rfl (Nat.le_of_ble_eq_true rfl) 14 rfl dX11_refusalOfLeast_11 rfl ?_
  exact a_ireturn .int rfl rfl ((by rw [f_ref2, if_neg c2])) (rfl) dX11_refusalOfLeast_14
end LE1
