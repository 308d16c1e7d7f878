/-! Cascade.lay -/
section LY1
variable {G : g_G} {h : List va_E} {a ka : Nat}
/-- what is laid of l from i on -/
def f_cas : Nat → Nat → List Nat
  | 0, _ => []
  | i + 1, l => if l = 0 then [] else f_great l (i + 1) :: f_cas i (l - f_ch (f_great l (i + 1)) (i + 1))
/-- what it bounds -/
def f_cab : Nat → Nat → Nat
  | 0, _ => 0
  | i + 1, l => if l = 0 then 0 else f_ch (f_great l (i + 1)) i + f_cab i (l - f_ch (f_great l (i + 1)) (i + 1))
def f_lay (f : Nat → Int32) (m : Nat) : List Nat → Nat → Int32
  | [] => f
  | x :: xs => f_lay (upd f m (nI x)) (m + 1) xs
theorem f_half_in (l i : Nat) : ∀ t lo hi, f_ch lo i ≤ l → f_ch (f_half l i t lo hi) i ≤ l := by
  intro t
  induction t with
  | zero => intro lo hi hh; exact hh
  | succ t ih =>
    intro lo hi hh
    unfold f_half
    split
    · exact hh
    · split
      · exact ih _ _ (by assumption)
      · exact ih _ _ hh
theorem f_great_in {l i : Nat} (hl : 0 < l) : f_ch (f_great l i) i ≤ l := f_half_in l i 64 i (l + i) (by unfold f_ch; rw [f_bin_self]; exact hl)
theorem f_cas_len : ∀ i l, (f_cas i l).length ≤ i := by
  intro i
  induction i with
  | zero => intro l; exact Nat.le_refl _
  | succ i ih =>
    intro l
    unfold f_cas
    split
    · exact Nat.zero_le _
    · have := ih (l - f_ch (f_great l (i + 1)) (i + 1)); simp only [List.length_cons]; omega
theorem f_cab_le : ∀ i l, f_cab i l ≤ i * 4000000001 := by
  intro i
  induction i with
  | zero => intro l; exact Nat.le_refl _
  | succ i ih =>
    intro l
    unfold f_cab
    split
    · exact Nat.zero_le _
    · have e1 := ih (l - f_ch (f_great l (i + 1)) (i + 1)); have e2 := f_ch_le (f_great l (i + 1)) i; omega
theorem f_lay_old : ∀ (xs : List Nat) (f : Nat → Int32) (m j : Nat), j < m → f_lay f m xs j = f j := by
  intro xs
  induction xs with
  | nil => intro f m j hj; rfl
  | cons x xs ih => intro f m j hj; rw [f_lay, ih _ _ _ (by omega)]; exact pk_un (by omega)
theorem f_lay_at : ∀ (xs : List Nat) (f : Nat → Int32) (m j b : Nat), xs[j]? = some b → f_lay f m xs (m + j) = nI b := by
  intro xs
  induction xs with
  | nil => intro f m j b hb; cases hb
  | cons x xs ih =>
    intro f m j b hb
    cases j with
    | zero => cases hb; rw [f_lay, f_lay_old _ _ _ _ (by omega)]; exact pk_us
    | succ j => rw [f_lay, show m + (j + 1) = m + 1 + j by omega]; exact ih _ _ _ _ hb
theorem nI_m1 (a : Nat) : nI (a + 1) + Int32.ofInt (-1) = nI a := by
  rw [← nI_1, show Int32.ofInt (-1) = (-1 : Int32) by decide, Int32.add_assoc, show (1 : Int32) + -1 = 0 by decide, Int32.add_zero]
theorem r_X1_lay {m0 : Int32} {b0 : Int64} {f0 : Nat → Int32} {l9 i9 : Nat} (hC : h[a]? = some (c_Ca G ka m0 b0)) (hR : h[ka]? = some (c_I G 12 f0)) (hne : a ≠ ka) (hl : l9 ≤ 2000000000) (hi : i9 ≤ 12) : g_Run G mX1_lay 3 0 0 [.ref (g_ad G a), .int (nI l9), .int (nI i9)] h none ((h.set ka (c_I G 12 (f_lay f0 0 (f_cas i9 l9)))).set a (c_Ca G ka (nI (f_cas i9 l9).length) (lN (f_cab i9 l9)))) := by
  have key : ∀ (i9 l9 m b : Nat) (f : Nat → Int32) (h1 : List va_E), h1[a]? = some (c_Ca G ka (nI m) (lN b)) → h1[ka]? = some (c_I G 12 f) → m + i9 ≤ 12 → l9 ≤ 2000000000 → g_A G mX1_lay 3 0 0 16 [(5, .int (nI i9)), (3, .long (lN l9)), (0, .ref (g_ad G a))] [] h1 none ((h1.set ka (c_I G 12 (f_lay f m (f_cas i9 l9)))).set a (c_Ca G ka (nI (m + (f_cas i9 l9).length)) (lN (b + f_cab i9 l9)))) := by
    intro i9
    induction i9 with
    | zero =>
      intro l9 m b f h1 a1 k1 hm hl
      refine a_iload 0 18 rfl dX1_lay_16 rfl ?_
      refine a_if_le 104 21 rfl dX1_lay_18 (by decide) (fun _ => ?_) (fun hc => absurd ((nI_le (Nat.le_refl 0) (by omega))) hc)
      exact a_return rfl (rfl) ((by rw [f_cas, f_cab, f_lay, g_set_self k1]; exact (g_set_self a1).symm)) dX1_lay_104
    | succ i9 ih =>
      intro l9 m b f h1 a1 k1 hm hl
      refine a_iload 0 18 rfl dX1_lay_16 rfl ?_
      refine a_if_le 104 21 rfl dX1_lay_18 (by decide) (fun hc => absurd hc ((nI_nle (n := i9 + 1) (by omega) (by omega)))) (fun _ => ?_)
      refine a_lload_n 1 22 rfl dX1_lay_21 rfl rfl ?_
      refine a_lconst (x := 0) 23 rfl dX1_lay_22 (by decide) ?_
      refine a_lcmp 24 rfl dX1_lay_23 ?_
      refine a_eq (st2 := [.int (lg_cmp (lN l9) (lN 0))]) rfl rfl (rfl) rfl ?_
      by_cases e9 : l9 = 0
      · skip
        refine a_if_le 104 27 rfl dX1_lay_24 (by decide) (fun _ => ?_) (fun hc => absurd ((f_cmpT_le (by omega) (by omega) (by omega))) hc)
        exact a_return rfl (rfl) ((by rw [f_cas, f_cab, if_pos e9, if_pos e9, f_lay, g_set_self k1]; exact (g_set_self a1).symm)) dX1_lay_104
      · skip
        have hg := f_great_le l9 (i9 + 1)
        have hin := f_great_in (i := i9 + 1) (Nat.pos_of_ne_zero e9)
        have hx : nI (i9 + 1) - 1 = nI i9 := by rw [show (1 : Int32) = nI 1 from rfl, pk_sub (by omega)]; rfl
        have hgl : (nI (f_great l9 (i9 + 1))).toInt64 = lN (f_great l9 (i9 + 1)) := nI_l (by omega)
        refine a_if_le 104 27 rfl dX1_lay_24 (by decide) (fun hc => absurd hc ((f_cmpF_le (by omega) (by omega) (by omega)))) (fun _ => ?_)
        refine a_aload_n 2 28 rfl dX1_lay_27 rfl rfl ?_
        refine a_get 1 cl_1 f_RX1_15_1 (by decide) (a1) rfl 31 rfl dX1_lay_28 ?_
        refine a_aload_n 2 32 rfl dX1_lay_31 rfl rfl ?_
        refine a_get 0 cl_1 f_RX1_9_1 (by decide) (a1) rfl 35 rfl dX1_lay_32 ?_
        refine a_alen (y := 12) 0 (k1) rfl rfl 36 rfl dX1_lay_35 ?_
        refine a_icmp_ge 104 39 rfl dX1_lay_36 (by decide) (fun hc => absurd hc ((nI_ge (b := 12) (by omega) (by omega)))) (fun _ => ?_)
        refine a_lload_n 1 40 rfl dX1_lay_39 rfl rfl ?_
        refine a_iload 0 42 rfl dX1_lay_40 rfl ?_
        refine a_callS (as := [.long (lN l9), .int (nI (i9 + 1))]) (rest := []) (st2 := [.int (nI (f_great l9 (i9 + 1)))]) (u1 := 0) (v1 := 0) (u2 := 0) (v2 := 0) (r_X1_greatest hl (i9 := i9 + 1) (by omega)) oX1_greatestWithin q_717 q_718 rfl (by omega) (by decide) rfl (Nat.le_of_ble_eq_true rfl) 45 rfl dX1_lay_42 rfl ?_
        refine a_istore (lv' := [(6, .int (nI (f_great l9 (i9 + 1)))), (5, .int (nI (i9 + 1))), (3, .long (lN l9)), (0, .ref (g_ad G a))]) 47 rfl dX1_lay_45 (by decide) rfl ?_
        refine a_aload_n 3 48 rfl dX1_lay_47 rfl rfl ?_
        refine a_get 0 cl_1 f_RX1_9_1 (by decide) (a1) rfl 51 rfl dX1_lay_48 ?_
        refine a_aload_n 3 52 rfl dX1_lay_51 rfl rfl ?_
        refine a_get 1 cl_1 f_RX1_15_1 (by decide) (a1) rfl 55 rfl dX1_lay_52 ?_
        refine a_iload 0 57 rfl dX1_lay_55 rfl ?_
        refine a_iast (k1) (vp_in_nI (by omega) (by omega)) 58 rfl dX1_lay_57 ?_
        refine a_eq (h2 := h1.set ka (c_I G 12 (upd f m (nI (f_great l9 (i9 + 1)))))) rfl rfl rfl (by rw [g_cl (by omega)]) ?_
        have a2 : (h1.set ka (c_I G 12 (upd f m (nI (f_great l9 (i9 + 1))))))[a]? = some (c_Ca G ka (nI m) (lN b)) := g_set_ne (Ne.symm hne) a1
        have k2 : (h1.set ka (c_I G 12 (upd f m (nI (f_great l9 (i9 + 1))))))[ka]? = some (c_I G 12 (upd f m (nI (f_great l9 (i9 + 1))))) := g_set_eq k1
        refine a_aload_n 3 59 rfl dX1_lay_58 rfl rfl ?_
        refine a_dup 60 rfl dX1_lay_59 rfl ?_
        refine a_get 1 cl_1 f_RX1_15_1 (by decide) (a2) rfl 63 rfl dX1_lay_60 ?_
        refine a_iconst (x := 1) 64 rfl dX1_lay_63 (by decide) ?_
        refine a_iadd 65 rfl dX1_lay_64 ?_
        refine a_put (fs' := [.ref (g_ad G ka), .int ((nI m) + 1), .long (lN b)]) 1 cl_1 f_RX1_15_1 (by decide) (a2) rfl rfl rfl (Nat.le_of_ble_eq_true rfl) rfl 68 rfl dX1_lay_65 ?_
        refine a_lload_n 2 69 rfl dX1_lay_68 rfl rfl ?_
        refine a_iload 0 71 rfl dX1_lay_69 rfl ?_
        refine a_i2l 72 rfl dX1_lay_71 ?_
        refine a_eq (st2 := [.long (lN (f_great l9 (i9 + 1))), .long (lN l9)]) rfl rfl (by rw [hgl]) rfl ?_
        refine a_iload 1 74 rfl dX1_lay_72 rfl ?_
        refine a_callSN (as := [.long (lN (f_great l9 (i9 + 1))), .int (nI (i9 + 1))]) (rest := [.long (lN l9)]) (st2 := [.long (lN (f_ch (f_great l9 (i9 + 1)) (i9 + 1))), .long (lN l9)]) (u1 := 0) (v1 := 0) (u2 := 0) (v2 := 0) (r_choices (t9 := f_great l9 (i9 + 1)) (k9 := i9 + 1) (by omega) (by omega) (by omega)) oX11_choices q_721 q_722 rfl (by omega) (by decide) rfl (Nat.le_of_ble_eq_true rfl) 77 rfl dX1_lay_74 rfl ?_
        refine a_lsub 78 rfl dX1_lay_77 ?_
        refine a_eq (st2 := [.long (lN (l9 - f_ch (f_great l9 (i9 + 1)) (i9 + 1)))]) rfl rfl (by rw [lN_sub hin]) rfl ?_
        refine a_lstore_n (lv' := [(3, .long (lN (l9 - f_ch (f_great l9 (i9 + 1)) (i9 + 1)))), (6, .int (nI (f_great l9 (i9 + 1)))), (5, .int (nI (i9 + 1))), (0, .ref (g_ad G a))]) 79 rfl dX1_lay_78 rfl (by decide) rfl ?_
        refine a_aload_n 3 80 rfl dX1_lay_79 rfl rfl ?_
        refine a_dup 81 rfl dX1_lay_80 rfl ?_
        refine a_get 2 cl_1 f_RX1_19_1 (by decide) (g_set_eq (a2)) rfl 84 rfl dX1_lay_81 ?_
        refine a_iload 1 86 rfl dX1_lay_84 rfl ?_
        refine a_i2l 87 rfl dX1_lay_86 ?_
        refine a_eq (st2 := [.long (lN (f_great l9 (i9 + 1))), .long (lN b), .ref (g_ad G a)]) rfl rfl (by rw [hgl]) rfl ?_
        refine a_iload 2 89 rfl dX1_lay_87 rfl ?_
        refine a_iconst (x := 1) 90 rfl dX1_lay_89 (by decide) ?_
        refine a_isub 91 rfl dX1_lay_90 ?_
        refine a_eq (st2 := [.int (nI i9), .long (lN (f_great l9 (i9 + 1))), .long (lN b), .ref (g_ad G a)]) rfl rfl (by rw [hx]) rfl ?_
        refine a_callSN (as := [.long (lN (f_great l9 (i9 + 1))), .int (nI i9)]) (rest := [.long (lN b), .ref (g_ad G a)]) (st2 := [.long (lN (f_ch (f_great l9 (i9 + 1)) i9)), .long (lN b), .ref (g_ad G a)]) (u1 := 0) (v1 := 0) (u2 := 0) (v2 := 0) (r_choices (t9 := f_great l9 (i9 + 1)) (k9 := i9) (by omega) (by omega) (by omega)) oX11_choices q_721 q_722 rfl (by omega) (by decide) rfl (Nat.le_of_ble_eq_true rfl) 94 rfl dX1_lay_91 rfl ?_
        refine a_ladd 95 rfl dX1_lay_94 ?_
        refine a_eq (st2 := [.long (lN (b + f_ch (f_great l9 (i9 + 1)) i9)), .ref (g_ad G a)]) rfl rfl (by rw [lN_add]) rfl ?_
        refine a_put (fs' := [.ref (g_ad G ka), .int ((nI m) + 1), .long (lN (b + f_ch (f_great l9 (i9 + 1)) i9))]) 2 cl_1 f_RX1_19_1 (by decide) (g_set_eq (a2)) rfl rfl rfl (Nat.le_of_ble_eq_true rfl) rfl 98 rfl dX1_lay_95 ?_
        refine a_iinc (y := nI i9) (lv' := [(5, .int (nI i9)), (3, .long (lN (l9 - f_ch (f_great l9 (i9 + 1)) (i9 + 1)))), (6, .int (nI (f_great l9 (i9 + 1)))), (0, .ref (g_ad G a))]) 2 101 rfl dX1_lay_98 rfl (nI_m1 i9) (by decide) rfl ?_
        refine a_goto 16 dX1_lay_101 (by decide) ?_
        refine a_sub (lv' := [(5, .int (nI i9)), (3, .long (lN (l9 - f_ch (f_great l9 (i9 + 1)) (i9 + 1)))), (0, .ref (g_ad G a))]) [0, 1, 3] rfl ?_
        have hb := f_ch_le (f_great l9 (i9 + 1)) i9
        refine a_eq (h2 := (h1.set ka (c_I G 12 (upd f m (nI (f_great l9 (i9 + 1)))))).set a (c_Ca G ka (nI (m + 1)) (lN (b + f_ch (f_great l9 (i9 + 1)) i9)))) rfl rfl rfl (by rw [List.set_set, nI_1 m]) ?_
        have w := ih (l9 - f_ch (f_great l9 (i9 + 1)) (i9 + 1)) (m + 1) (b + f_ch (f_great l9 (i9 + 1)) i9) (upd f m (nI (f_great l9 (i9 + 1)))) _ (g_set_eq a2) (g_set_ne hne k2) (by omega) (by omega)
        rw [g_set2 hne] at w
        have e1 : ∀ n, m + 1 + n = m + (n + 1) := fun n => by omega
        have e2 : ∀ n, b + f_ch (f_great l9 (i9 + 1)) i9 + n = b + (f_ch (f_great l9 (i9 + 1)) i9 + n) := fun n => by omega
        rw [f_cas, f_cab, if_neg e9, if_neg e9, f_lay, List.length_cons, ← e1 (f_cas i9 (l9 - f_ch (f_great l9 (i9 + 1)) (i9 + 1))).length, ← e2 (f_cab i9 (l9 - f_ch (f_great l9 (i9 + 1)) (i9 + 1)))]
        exact w
  refine g_Run.of (lv := [(0, .ref (g_ad G a)), (1, .int (nI l9)), (2, .int (nI i9))]) (by decide) (Nat.le_of_ble_eq_true rfl) rfl ?_
  refine a_aload_n 0 1 rfl dX1_lay_0 rfl rfl ?_
  refine a_iconst (x := 0) 2 rfl dX1_lay_1 (by decide) ?_
  refine a_put (fs' := [.ref (g_ad G ka), .int 0, .long b0]) 1 cl_1 f_RX1_15_1 (by decide) (hC) rfl rfl rfl (Nat.le_of_ble_eq_true rfl) rfl 5 rfl dX1_lay_2 ?_
  refine a_eq (h2 := h.set a (c_O 1 [.ref (g_ad G ka), .int 0, .long b0])) rfl rfl rfl (rfl) ?_
  refine a_aload_n 0 6 rfl dX1_lay_5 rfl rfl ?_
  refine a_lconst (x := 0) 7 rfl dX1_lay_6 (by decide) ?_
  refine a_put (fs' := [.ref (g_ad G ka), .int 0, .long 0]) 2 cl_1 f_RX1_19_1 (by decide) (g_set_eq hC) rfl rfl rfl (Nat.le_of_ble_eq_true rfl) rfl 10 rfl dX1_lay_7 ?_
  refine a_eq (h2 := h.set a (c_Ca G ka (nI 0) (lN 0))) rfl rfl rfl (by rw [List.set_set]; rfl) ?_
  refine a_iload_n 1 11 rfl dX1_lay_10 rfl rfl ?_
  refine a_i2l 12 rfl dX1_lay_11 ?_
  refine a_eq (st2 := [.long (lN l9)]) rfl rfl (by rw [nI_l (by omega)]) rfl ?_
  refine a_lstore_n (lv' := [(3, .long (lN l9)), (0, .ref (g_ad G a)), (1, .int (nI l9)), (2, .int (nI i9))]) 13 rfl dX1_lay_12 rfl (by decide) rfl ?_
  refine a_iload_n 3 14 rfl dX1_lay_13 rfl rfl ?_
  refine a_istore (lv' := [(5, .int (nI i9)), (3, .long (lN l9)), (0, .ref (g_ad G a)), (1, .int (nI l9)), (2, .int (nI i9))]) 16 rfl dX1_lay_14 (by decide) rfl ?_
  refine a_sub (lv' := [(5, .int (nI i9)), (3, .long (lN l9)), (0, .ref (g_ad G a))]) [0, 1, 2] rfl ?_
  have w := key i9 l9 0 0 f0 _ (g_set_eq hC) (g_set_ne hne hR) (by omega) hl
  rw [List.set_comm _ _ hne, List.set_set, Nat.zero_add, Nat.zero_add] at w
  exact w
end LY1
