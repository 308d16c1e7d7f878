/-! Changes; whether families are like others; Shelf -/
section HC1
variable {G : g_G} {h : List va_E} {a b ka kb kc n : Nat} {i y y2 y3 y4 : Int32} {fI : Nat → Int32} {fB fA f : Nat → Option Nat}
theorem g_fam.set {h : List va_E} {r : Option Nat} {k : Nat} {c c0 : va_E} (hf : g_fam G h r) (h0 : h[k]? = some c0) (h1 : ∀ fs, c0 ≠ c_O 5 fs) : g_fam G (h.set k c) r := by
  intro x7 hx7
  obtain ⟨o7, fs7, e7, ho7⟩ := hf x7 hx7
  refine ⟨o7, fs7, e7, g_set_ne (fun e8 => ?_) ho7⟩
  rw [e8, ho7] at h0
  exact h1 fs7 (Option.some.inj h0).symm
/-- the cells of a Changes: its numbers, its rows before and after -/
def g_chg (G : g_G) (h : List va_E) (a ka kb kc : Nat) (dn hd : Nat) (fI : Nat → Int32) (fB fA : Nat → Option Nat) : Prop :=
  h[a]? = some (c_O 2 [.ref (g_ad G ka), .ref (g_ad G kb), .ref (g_ad G kc), .int (nI dn), .int (nI hd)]) ∧ h[ka]? = some (c_I G 12 fI) ∧ h[kb]? = some (c_Q G 3 12 fB) ∧ h[kc]? = some (c_Q G 3 12 fA) ∧ (a ≠ ka ∧ a ≠ kb ∧ a ≠ kc ∧ ka ≠ kb ∧ ka ≠ kc ∧ kb ≠ kc) ∧ ∀ j, j < 12 → g_fam G h (fB j) ∧ g_fam G h (fA j)
theorem g_fam.kp {S : List Nat} {h1 : List va_E} {r : Option Nat} (hf : g_fam G h r) (hk : g_kp S h h1) (hs : ∀ k ∈ S, ∀ fs, h[k]? ≠ some (c_O 5 fs)) : g_fam G h1 r := by
  intro x7 hx7
  obtain ⟨o7, fs7, e7, ho7⟩ := hf x7 hx7
  exact ⟨o7, fs7, e7, hk.at (fun z => hs o7 z fs7 ho7) ho7⟩
theorem r_X2_dropEldest {hd : Nat} (hX : g_chg G h a ka kb kc 12 hd fI fB fA) : ∃ (h1 : List va_E) (fI2 : Nat → Int32) (fB2 fA2 : Nat → Option Nat), g_Run G mX2_dropEldest 1 0 0 [.ref (g_ad G a)] h none h1 ∧ g_kp [a, ka, kb, kc] h h1 ∧ g_chg G h1 a ka kb kc 11 hd fI2 fB2 fA2 ∧ ∀ j, j < 11 → fI2 j = fI (j + 1) ∧ fB2 j = fB (j + 1) ∧ fA2 j = fA (j + 1) := by
  have key : ∀ jj ii : Nat, ii + 1 + jj = 12 → ∀ (h0 : List va_E) (pI : Nat → Int32) (pB pA : Nat → Option Nat), g_chg G h0 a ka kb kc 12 hd pI pB pA → (∀ j, j < ii → pI j = fI (j + 1) ∧ pB j = fB (j + 1) ∧ pA j = fA (j + 1)) → (∀ j, ii ≤ j → pI j = fI j ∧ pB j = fB j ∧ pA j = fA j) → ∃ (h1 : List va_E) (fI2 : Nat → Int32) (fB2 fA2 : Nat → Option Nat), g_A G mX2_dropEldest 1 0 0 2 [(1, .int (nI (ii + 1))), (0, .ref (g_ad G a))] [] h0 none h1 ∧ g_kp [a, ka, kb, kc] h0 h1 ∧ g_chg G h1 a ka kb kc 11 hd fI2 fB2 fA2 ∧ ∀ j, j < 11 → fI2 j = fI (j + 1) ∧ fB2 j = fB (j + 1) ∧ fA2 j = fA (j + 1) := by
    intro jj
    induction jj with
    | zero =>
      intro ii hii h0 pI pB pA hX0 hlo hhi
      obtain ⟨x1, x2, x3, x4, x5, x6⟩ := hX0
      have hnf : ∀ fs, (c_O 2 [.ref (g_ad G ka), .ref (g_ad G kb), .ref (g_ad G kc), .int (nI 12), .int (nI hd)] : va_E) ≠ c_O 5 fs := fun fs z => by cases z
      refine ⟨h0.set a (c_O 2 [.ref (g_ad G ka), .ref (g_ad G kb), .ref (g_ad G kc), .int (nI 11), .int (nI hd)]), pI, pB, pA, ?_, g_kp.set g_kp.rf (by simp), ⟨g_set_eq x1, g_set_ne x5.1 x2, g_set_ne x5.2.1 x3, g_set_ne x5.2.2.1 x4, x5, fun j hj => ⟨(x6 j hj).1.set x1 hnf, (x6 j hj).2.set x1 hnf⟩⟩, fun j hj => hlo j (by omega)⟩
      refine a_iload_n 0 3 rfl dX2_dropEldest_2 rfl rfl ?_
      refine a_aload_n 1 4 rfl dX2_dropEldest_3 rfl rfl ?_
      refine a_get 0 cl_2 f_RX2_9_2 (by decide) (x1) rfl 7 rfl dX2_dropEldest_4 ?_
      refine a_alen (y := 12) 0 (x2) rfl rfl 8 rfl dX2_dropEldest_7 ?_
      refine a_icmp_ge 77 11 rfl dX2_dropEldest_8 (by decide) (fun _ => ?_) (fun hc => absurd ((nI_le (a := 12) (by omega) (by omega))) hc)
      refine a_aload_n 1 78 rfl dX2_dropEldest_77 rfl rfl ?_
      refine a_bipush (x := 11) 80 rfl dX2_dropEldest_78 (by decide) ?_
      refine a_put (fs' := [.ref (g_ad G ka), .ref (g_ad G kb), .ref (g_ad G kc), .int 11, .int (nI hd)]) 3 cl_2 f_RX2_24_2 (by decide) (x1) rfl rfl rfl (Nat.le_of_ble_eq_true rfl) rfl 83 rfl dX2_dropEldest_80 ?_
      exact a_return rfl (rfl) (rfl) dX2_dropEldest_83
    | succ jj ih =>
      intro ii hii h0 pI pB pA hX0 hlo hhi
      obtain ⟨x1, x2, x3, x4, x5, x6⟩ := hX0
      obtain ⟨n1, n2, n3, n4, n5, n6⟩ := x5
      have hx : nI (ii + 1) - 1 = nI ii := by rw [show (1 : Int32) = nI 1 from rfl, pk_sub (by omega)]; rfl
      have c1 : ((nI (ii + 1) - 1) : Int32).toNatClampNeg = ii := by rw [hx, g_cl (by omega)]
      have c2 : (nI (ii + 1)).toNatClampNeg = ii + 1 := g_cl (by omega)
      have in1 : vp_in (nI (ii + 1) - 1) 12 := by rw [hx]; exact vp_in_nI (by omega) (by omega)
      have in2 : vp_in (nI (ii + 1)) 12 := vp_in_nI (by omega) (by omega)
      have nfI : ∀ (f9 : Nat → Int32) fs, (c_I G 12 f9 : va_E) ≠ c_O 5 fs := fun f9 fs z => by cases z
      have nfQ : ∀ (f9 : Nat → Option Nat) fs, (c_Q G 3 12 f9 : va_E) ≠ c_O 5 fs := fun f9 fs z => by cases z
      -- the heaps behind the three stores
      obtain ⟨h2, eh2⟩ : ∃ h2, h2 = h0.set ka (c_I G 12 (upd pI ii (pI (ii + 1)))) := ⟨_, rfl⟩
      obtain ⟨h3, eh3⟩ : ∃ h3, h3 = h2.set kb (c_Q G 3 12 (va_up pB ii (pB (ii + 1)))) := ⟨_, rfl⟩
      obtain ⟨h4, eh4⟩ : ∃ h4, h4 = h3.set kc (c_Q G 3 12 (va_up pA ii (pA (ii + 1)))) := ⟨_, rfl⟩
      have a2 : h2[a]? = some (c_O 2 [.ref (g_ad G ka), .ref (g_ad G kb), .ref (g_ad G kc), .int (nI 12), .int (nI hd)]) := by rw [eh2]; exact g_set_ne (Ne.symm n1) x1
      have b2 : h2[ka]? = some (c_I G 12 (upd pI ii (pI (ii + 1)))) := by rw [eh2]; exact g_set_eq x2
      have c3 : h2[kb]? = some (c_Q G 3 12 pB) := by rw [eh2]; exact g_set_ne n4 x3
      have d2 : h2[kc]? = some (c_Q G 3 12 pA) := by rw [eh2]; exact g_set_ne n5 x4
      have f2 : ∀ r, g_fam G h0 r → g_fam G h2 r := fun r hr => by rw [eh2]; exact hr.set x2 (nfI _)
      have a3 : h3[a]? = some (c_O 2 [.ref (g_ad G ka), .ref (g_ad G kb), .ref (g_ad G kc), .int (nI 12), .int (nI hd)]) := by rw [eh3]; exact g_set_ne (Ne.symm n2) a2
      have b3 : h3[ka]? = some (c_I G 12 (upd pI ii (pI (ii + 1)))) := by rw [eh3]; exact g_set_ne (Ne.symm n4) b2
      have c4 : h3[kb]? = some (c_Q G 3 12 (va_up pB ii (pB (ii + 1)))) := by rw [eh3]; exact g_set_eq c3
      have d3 : h3[kc]? = some (c_Q G 3 12 pA) := by rw [eh3]; exact g_set_ne n6 d2
      have f3 : ∀ r, g_fam G h0 r → g_fam G h3 r := fun r hr => by rw [eh3]; exact (f2 r hr).set c3 (nfQ _)
      have a4 : h4[a]? = some (c_O 2 [.ref (g_ad G ka), .ref (g_ad G kb), .ref (g_ad G kc), .int (nI 12), .int (nI hd)]) := by rw [eh4]; exact g_set_ne (Ne.symm n3) a3
      have b4 : h4[ka]? = some (c_I G 12 (upd pI ii (pI (ii + 1)))) := by rw [eh4]; exact g_set_ne (Ne.symm n5) b3
      have c5 : h4[kb]? = some (c_Q G 3 12 (va_up pB ii (pB (ii + 1)))) := by rw [eh4]; exact g_set_ne (Ne.symm n6) c4
      have d4 : h4[kc]? = some (c_Q G 3 12 (va_up pA ii (pA (ii + 1)))) := by rw [eh4]; exact g_set_eq d3
      have f4 : ∀ r, g_fam G h0 r → g_fam G h4 r := fun r hr => by rw [eh4]; exact (f3 r hr).set d3 (nfQ _)
      have hup : ∀ (p9 : Nat → Option Nat) (j : Nat), j < 12 → (∀ q7, q7 < 12 → g_fam G h0 (p9 q7)) → g_fam G h4 (va_up p9 ii (p9 (ii + 1)) j) := fun p9 j hj hh => by
        by_cases e7 : j = ii
        · rw [e7, va_up_self]; exact f4 _ (hh (ii + 1) (by omega))
        · rw [va_up_ne _ _ e7]; exact f4 _ (hh j hj)
      obtain ⟨h5, fI2, fB2, fA2, w, k5, X5, e5⟩ := ih (ii + 1) (by omega) h4 (upd pI ii (pI (ii + 1))) (va_up pB ii (pB (ii + 1))) (va_up pA ii (pA (ii + 1))) ⟨a4, b4, c5, d4, ⟨n1, n2, n3, n4, n5, n6⟩, fun j hj => ⟨hup pB j hj (fun q7 hq7 => (x6 q7 hq7).1), hup pA j hj (fun q7 hq7 => (x6 q7 hq7).2)⟩⟩ (fun j hj => by
        by_cases e7 : j = ii
        · rw [e7, pk_us, va_up_self, va_up_self]; exact hhi (ii + 1) (by omega)
        · rw [pk_un e7, va_up_ne _ _ e7, va_up_ne _ _ e7]; exact hlo j (by omega)) (fun j hj => by
        rw [pk_un (by omega), va_up_ne _ _ (by omega), va_up_ne _ _ (by omega)]; exact hhi j (by omega))
      have k4 : g_kp [a, ka, kb, kc] h0 h4 := by
        rw [eh4, eh3, eh2]
        exact ((g_kp.rf.set (by simp)).set (by simp)).set (by simp)
      refine ⟨h5, fI2, fB2, fA2, ?_, k4.tr k5, X5, e5⟩
      refine a_iload_n 0 3 rfl dX2_dropEldest_2 rfl rfl ?_
      refine a_aload_n 1 4 rfl dX2_dropEldest_3 rfl rfl ?_
      refine a_get 0 cl_2 f_RX2_9_2 (by decide) (x1) rfl 7 rfl dX2_dropEldest_4 ?_
      refine a_alen (y := 12) 0 (x2) rfl rfl 8 rfl dX2_dropEldest_7 ?_
      refine a_icmp_ge 77 11 rfl dX2_dropEldest_8 (by decide) (fun hc => absurd hc ((nI_ge (b := 12) (by omega) (by omega)))) (fun _ => ?_)
      refine a_iload_n 0 12 rfl dX2_dropEldest_11 rfl rfl ?_
      refine a_aload_n 1 13 rfl dX2_dropEldest_12 rfl rfl ?_
      refine a_get 1 cl_2 f_RX2_17_2 (by decide) (x1) rfl 16 rfl dX2_dropEldest_13 ?_
      refine a_alen (y := 12) 3 (x3) rfl rfl 17 rfl dX2_dropEldest_16 ?_
      refine a_icmp_ge 77 20 rfl dX2_dropEldest_17 (by decide) (fun hc => absurd hc ((nI_ge (b := 12) (by omega) (by omega)))) (fun _ => ?_)
      refine a_iload_n 0 21 rfl dX2_dropEldest_20 rfl rfl ?_
      refine a_aload_n 1 22 rfl dX2_dropEldest_21 rfl rfl ?_
      refine a_get 2 cl_2 f_RX2_21_2 (by decide) (x1) rfl 25 rfl dX2_dropEldest_22 ?_
      refine a_alen (y := 12) 3 (x4) rfl rfl 26 rfl dX2_dropEldest_25 ?_
      refine a_icmp_ge 77 29 rfl dX2_dropEldest_26 (by decide) (fun hc => absurd hc ((nI_ge (b := 12) (by omega) (by omega)))) (fun _ => ?_)
      refine a_aload_n 1 30 rfl dX2_dropEldest_29 rfl rfl ?_
      refine a_get 0 cl_2 f_RX2_9_2 (by decide) (x1) rfl 33 rfl dX2_dropEldest_30 ?_
      refine a_iload_n 0 34 rfl dX2_dropEldest_33 rfl rfl ?_
      refine a_iconst (x := 1) 35 rfl dX2_dropEldest_34 (by decide) ?_
      refine a_isub 36 rfl dX2_dropEldest_35 ?_
      refine a_aload_n 1 37 rfl dX2_dropEldest_36 rfl rfl ?_
      refine a_get 0 cl_2 f_RX2_9_2 (by decide) (x1) rfl 40 rfl dX2_dropEldest_37 ?_
      refine a_iload_n 0 41 rfl dX2_dropEldest_40 rfl rfl ?_
      refine a_iald (x2) (in2) 42 rfl dX2_dropEldest_41 ?_
      refine a_iast (x2) (in1) 43 rfl dX2_dropEldest_42 ?_
      refine a_eq (h2 := h2) rfl rfl rfl (by rw [eh2, c1, c2]) ?_
      refine a_aload_n 1 44 rfl dX2_dropEldest_43 rfl rfl ?_
      refine a_get 1 cl_2 f_RX2_17_2 (by decide) (a2) rfl 47 rfl dX2_dropEldest_44 ?_
      refine a_iload_n 0 48 rfl dX2_dropEldest_47 rfl rfl ?_
      refine a_iconst (x := 1) 49 rfl dX2_dropEldest_48 (by decide) ?_
      refine a_isub 50 rfl dX2_dropEldest_49 ?_
      refine a_aload_n 1 51 rfl dX2_dropEldest_50 rfl rfl ?_
      refine a_get 1 cl_2 f_RX2_17_2 (by decide) (a2) rfl 54 rfl dX2_dropEldest_51 ?_
      refine a_iload_n 0 55 rfl dX2_dropEldest_54 rfl rfl ?_
      refine a_ald3 (c3) (in2) 56 rfl dX2_dropEldest_55 ?_
      refine a_ast3R (c3) ((by rw [c2]; exact f2 _ (x6 (ii + 1) (by omega)).1)) (in1) 57 rfl dX2_dropEldest_56 ?_
      refine a_eq (h2 := h3) rfl rfl rfl (by rw [eh3, c1, c2]) ?_
      refine a_aload_n 1 58 rfl dX2_dropEldest_57 rfl rfl ?_
      refine a_get 2 cl_2 f_RX2_21_2 (by decide) (a3) rfl 61 rfl dX2_dropEldest_58 ?_
      refine a_iload_n 0 62 rfl dX2_dropEldest_61 rfl rfl ?_
      refine a_iconst (x := 1) 63 rfl dX2_dropEldest_62 (by decide) ?_
      refine a_isub 64 rfl dX2_dropEldest_63 ?_
      refine a_aload_n 1 65 rfl dX2_dropEldest_64 rfl rfl ?_
      refine a_get 2 cl_2 f_RX2_21_2 (by decide) (a3) rfl 68 rfl dX2_dropEldest_65 ?_
      refine a_iload_n 0 69 rfl dX2_dropEldest_68 rfl rfl ?_
      refine a_ald3 (d3) (in2) 70 rfl dX2_dropEldest_69 ?_
      refine a_ast3R (d3) ((by rw [c2]; exact f3 _ (x6 (ii + 1) (by omega)).2)) (in1) 71 rfl dX2_dropEldest_70 ?_
      refine a_iinc (y := nI (ii + 1 + 1)) (lv' := [(1, .int (nI (ii + 1 + 1))), (0, .ref (g_ad G a))]) 0 74 rfl dX2_dropEldest_71 rfl (nI_1 (ii + 1)) (by decide) rfl ?_
      refine a_goto 2 dX2_dropEldest_74 (by decide) ?_
      refine a_eq (h2 := h4) rfl rfl rfl (by rw [eh4, c1, c2]) ?_
      exact w
  obtain ⟨h1, fI2, fB2, fA2, w, k1, X1, e1⟩ := key 11 0 (by omega) h fI fB fA hX (fun j hj => absurd hj (Nat.not_lt_zero j)) (fun j _ => ⟨rfl, rfl, rfl⟩)
  refine ⟨h1, fI2, fB2, fA2, ?_, k1, X1, e1⟩
  refine g_Run.of (lv := [(0, .ref (g_ad G a))]) (by decide) (Nat.le_of_ble_eq_true rfl) rfl ?_
  refine a_iconst (x := 1) 1 rfl dX2_dropEldest_0 (by decide) ?_
  refine a_istore_n (lv' := [(1, .int 1), (0, .ref (g_ad G a))]) 2 rfl dX2_dropEldest_1 rfl (by decide) rfl ?_
  exact w
end HC1
