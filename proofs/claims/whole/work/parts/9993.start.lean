/-! the start: what the tables and the start say; the claim -/
section BE1
theorem b_arr {s : State} {args : Array Value} {ty : FieldType} (h : (Cond.arrayClass ty).before args s = true) (hty : ∀ C, ty ≠ .object C) : ∃ cA : ClassId, ArrOfT s cA ty ∧ va_RA s cA ty := by
  obtain ⟨cA, kA, comp, h1, h2, h3⟩ := Cond.arrayClass_spec h
  refine ⟨cA, fun n z => ⟨(fun k h => by cases h), kA, h2, comp, h3⟩, ?_⟩
  cases ty with
  | object C => exact absurd rfl (hty C)
  | _ => exact h1
theorem b_arq {s : State} {args : Array Value} {C : String} (h : (Cond.arrayOver (.object C)).before args s = true) : ∃ cA : ClassId, ArrOfT s cA (.object C) ∧ va_RA s cA (.object C) := by
  obtain ⟨comp, cA, kA, h1, h2, h3, h4, h5⟩ := Cond.arrayOver_spec h
  exact ⟨cA, fun n z => ⟨(fun k h => by cases h), kA, h3, comp, h4⟩, kA, comp, h3, h4, h1, h5⟩
theorem b_ao1 : Cond.arrayOver (.object "LeastShadows$Family") ∈ lw_tbl := g_t1 65 (by decide +kernel)
theorem b_ao2 : Cond.arrayOver (.object "LeastShadows$Shelf") ∈ lw_tbl := g_t1 149 (by decide +kernel)
theorem b_ao3 : Cond.arrayOver (.object "LeastShadows$Numbers") ∈ lw_tbl := g_t1 151 (by decide +kernel)
theorem b_lays : Cond.laysStatic "LeastShadows" "HOLDING" "[J" ∈ lw_tbl := g_t2 126 (by decide +kernel)
theorem b_known {s : State} {args : Array Value} (hts : ∀ w ∈ g_GW, w.before args s = true) : ∃ (dC : Nat → ClassId) (dI : Nat → Nat → Nat), ∀ (k : Nat) (q : vw_C), vwCl[k]? = some q → u_Kn s q.1 q.2.1 q.2.2 (dC k) (dI k) := by
  have key : ∀ k, k < 12 → ∃ (cC : ClassId) (iS : Nat → Nat), ∀ q : vw_C, vwCl[k]? = some q → u_Kn s q.1 q.2.1 q.2.2 cC iS := by
    intro k hk
    match k, hk with
    | 0, _ =>
      obtain ⟨cC, iS, h⟩ := u_known (C := RX0) (T := TX0) (N := 5) hts cl_0.2.1 (hts _ q_215)
      exact ⟨cC, iS, fun q hq => by cases hq; exact h⟩
    | 1, _ =>
      obtain ⟨cC, iS, h⟩ := u_known (C := RX1) (T := TX1) (N := 3) hts cl_1.2.1 (hts _ q_237)
      exact ⟨cC, iS, fun q hq => by cases hq; exact h⟩
    | 2, _ =>
      obtain ⟨cC, iS, h⟩ := u_known (C := RX2) (T := TX2) (N := 5) hts cl_2.2.1 (hts _ q_192)
      exact ⟨cC, iS, fun q hq => by cases hq; exact h⟩
    | 3, _ =>
      obtain ⟨cC, iS, h⟩ := u_known (C := RX3) (T := TX3) (N := 2) hts cl_3.2.1 (hts _ q_146)
      exact ⟨cC, iS, fun q hq => by cases hq; exact h⟩
    | 4, _ =>
      obtain ⟨cC, iS, h⟩ := u_known (C := RX4) (T := TX4) (N := 2) hts cl_4.2.1 (hts _ q_177)
      exact ⟨cC, iS, fun q hq => by cases hq; exact h⟩
    | 5, _ =>
      obtain ⟨cC, iS, h⟩ := u_known (C := RX5) (T := TX5) (N := 3) hts cl_5.2.1 (hts _ q_403)
      exact ⟨cC, iS, fun q hq => by cases hq; exact h⟩
    | 6, _ =>
      obtain ⟨cC, iS, h⟩ := u_known (C := RX6) (T := TX6) (N := 3) hts cl_6.2.1 (hts _ q_163)
      exact ⟨cC, iS, fun q hq => by cases hq; exact h⟩
    | 7, _ =>
      obtain ⟨cC, iS, h⟩ := u_known (C := RX8) (T := TX8) (N := 4) hts cl_7.2.1 (hts _ q_292)
      exact ⟨cC, iS, fun q hq => by cases hq; exact h⟩
    | 8, _ =>
      obtain ⟨cC, iS, h⟩ := u_known (C := RX9) (T := TX9) (N := 5) hts cl_8.2.1 (hts _ q_270)
      exact ⟨cC, iS, fun q hq => by cases hq; exact h⟩
    | 9, _ =>
      obtain ⟨cC, iS, h⟩ := u_known (C := RX10) (T := TX10) (N := 2) hts cl_9.2.1 (hts _ q_253)
      exact ⟨cC, iS, fun q hq => by cases hq; exact h⟩
    | 10, _ =>
      obtain ⟨cC, iS, h⟩ := u_known (C := RX11) (T := TX11) (N := 12) hts cl_10.2.1 (hts _ q_138)
      exact ⟨cC, iS, fun q hq => by cases hq; exact h⟩
    | 11, _ =>
      obtain ⟨cC, iS, h⟩ := u_known (C := RX12) (T := TX12) (N := 43) hts cl_11.2.1 (hts _ q_1102)
      exact ⟨cC, iS, fun q hq => by cases hq; exact h⟩
    | k + 12, hk => exact absurd hk (by omega)
  refine ⟨fun k => if hk : k < 12 then Classical.choose (key k hk) else 0, fun k => if hk : k < 12 then Classical.choose (Classical.choose_spec (key k hk)) else fun _ => 0, fun k q hq => ?_⟩
  have hk : k < 12 := (List.getElem?_eq_some_iff.mp hq).1
  show u_Kn s q.1 q.2.1 q.2.2 (dite (k < 12) _ _) (dite (k < 12) _ _)
  rw [dif_pos hk, dif_pos hk]
  exact Classical.choose_spec (Classical.choose_spec (key k hk)) q hq
theorem b_J0 {G : g_G} : v_J G (v_C0 G) v_M0 [] := by
  have hn : ∀ (R : Nat → Option Nat), (∀ j, R j = none) → ∀ j, j < 8 → v_fo G [] (R j) := fun R h j _ => Or.inl (h j)
  refine ⟨fun _ _ => (0, 0, 0), ⟨rfl, by decide, by decide⟩, ⟨rfl, by decide, fun j _ => Or.inl rfl, fun j hj => absurd hj (Nat.not_lt_zero j)⟩, ⟨rfl, rfl, by decide, by decide, by decide, by decide⟩, v_Jc.none (fun i _ => ⟨Or.inl rfl, Or.inl rfl⟩), ⟨fun j _ => Or.inl rfl, Or.inl ⟨rfl, rfl⟩⟩, ⟨rfl, by decide, fun _ => 0, fun k hk => absurd hk (Nat.not_lt_zero k)⟩, ⟨rfl, by decide, fun k hk => absurd hk (Nat.not_lt_zero k)⟩, ⟨rfl, by decide, fun k hk => absurd hk (Nat.not_lt_zero k)⟩, ⟨Or.inl ⟨rfl, rfl, rfl, rfl⟩, Or.inl ⟨rfl, rfl, rfl, rfl⟩, Or.inl ⟨rfl, rfl, rfl, rfl⟩⟩, ⟨Or.inl ⟨rfl, rfl, rfl, rfl⟩, Or.inl ⟨rfl, rfl, rfl, rfl⟩, Or.inl ⟨rfl, rfl, rfl, rfl⟩⟩, ⟨rfl, rfl, rfl⟩, rfl, rfl, rfl⟩
theorem b_hold {s : State} {args : Array Value} {A : Nat → Prop} (hts : ∀ w ∈ lw_tbl, w.before args s = true) (hgv : (Jvm.Cond.and given_1 narrow_1).before args s = true) (hA : ∀ a : Nat, a < s.heap.size → ¬ A a) : ∃ t : Nat, va_Z "LeastShadows" "HOLDING" "[J" (.ref t) A s s.heap ∧ va_T .long t 6 g_hold A s s.heap := by
  have hs := flat_of_before _ hgv
  have harr : (Cond.arrayOf (.static "LeastShadows" "HOLDING" "[J") .long).before args s = true := hs _ (by decide +kernel)
  have hle : (Cond.eq (.length (.static "LeastShadows" "HOLDING" "[J")) (.int 6)).before args s = true := hs _ (by decide +kernel)
  have e0 : (Cond.eq (.elem (.static "LeastShadows" "HOLDING" "[J") (.int 0)) (.long (-6148914691236517206))).before args s = true := hs _ (by decide +kernel)
  have e1 : (Cond.eq (.elem (.static "LeastShadows" "HOLDING" "[J") (.int 1)) (.long (-3689348814741910324))).before args s = true := hs _ (by decide +kernel)
  have e2 : (Cond.eq (.elem (.static "LeastShadows" "HOLDING" "[J") (.int 2)) (.long (-1085102592571150096))).before args s = true := hs _ (by decide +kernel)
  have e3 : (Cond.eq (.elem (.static "LeastShadows" "HOLDING" "[J") (.int 3)) (.long (-71777214294589696))).before args s = true := hs _ (by decide +kernel)
  have e4 : (Cond.eq (.elem (.static "LeastShadows" "HOLDING" "[J") (.int 4)) (.long (-281470681808896))).before args s = true := hs _ (by decide +kernel)
  have e5 : (Cond.eq (.elem (.static "LeastShadows" "HOLDING" "[J") (.int 5)) (.long (-4294967296))).before args s = true := hs _ (by decide +kernel)
  obtain ⟨t, ht, hT⟩ := va_Tof (tm := .static "LeastShadows" "HOLDING" "[J") (ty := .long) (N := 6) (f := g_hold) (A := A) (by decide) harr (va_eqt hle) (fun j hj => by
    match j, hj with
    | 0, _ => exact va_eqtl e0
    | 1, _ => exact va_eqtl e1
    | 2, _ => exact va_eqtl e2
    | 3, _ => exact va_eqtl e3
    | 4, _ => exact va_eqtl e4
    | 5, _ => exact va_eqtl e5
    | j + 6, hj => exact absurd hj (by omega)) hA
  exact ⟨t, va_Zof (hts _ b_lays) (hts _ (List.mem_filter.mp q_119).1) ht hA, hT⟩
theorem b_start {G : g_G} {b L : Nat} {xs : Nat → Int32} (hL : L ≤ 3072) : b_A G b L xs 2000 10000 0 [(0, .ref b)] [] [] := by
  refine b_widen (u2 := 1 + (37 + (1 + (24 + 2 * 600)))) (v2 := 12 + (707 + (43 + (888 + 6 * 600)))) (by decide) (by decide) ?_
  refine b_widen (u2 := 37 + (1 + (24 + 2 * 600)) + 1) (v2 := 707 + (43 + (888 + 6 * 600)) + 12) (by decide) (by decide) ?_
  refine b_new (fs := [.null, .null, .null, .null, .null, .int 0, .null, .null, .null, .null, .null, .null]) cl_10 q_137 q_138 q_119 (by intro j hj; rcases j with _ | _ | _ | _ | _ | _ | _ | _ | _ | _ | _ | _ |  j <;> first | rfl | omega) dL_law_0 ?_
  refine b_dup dL_law_3 rfl ?_
  refine b_callI (u1 := 37) (v1 := 707) (u2 := 1 + (24 + 2 * 600)) (v2 := 43 + (888 + 6 * 600)) (as := []) (rest := [.ref (g_ad G 0)]) r_X11_init rfl oX11_init q_139 q_140 rfl rfl (by decide) (by decide) rfl (Nat.le_of_ble_eq_true rfl) 7 rfl dL_law_4 ?_
  refine b_astore_n (lv' := [(1, .ref (g_ad G 0)), (0, .ref b)]) dL_law_7 rfl (by decide) rfl ?_
  refine b_widen (u2 := 24 + 2 * 600 + 1) (v2 := 888 + 6 * 600 + 43) (by decide) (by decide) ?_
  refine b_eq (h2 := g_hc G (v_C0 G)) rfl rfl rfl (List.append_nil _) ?_
  refine b_new (fs := [.int 0, .int 0, .int 0, .int 0, .null, .null, .null, .null, .null, .null, .int 0, .null, .int 0, .int 0, .int 0, .int 0, .long 0, .null, .null, .null, .int 0, .long 0, .int 0, .int 0, .null, .null, .int 0, .int 0, .int 0, .long 0, .null, .null, .null, .null, .null, .null, .null, .null, .null, .null, .null, .null, .int 0]) cl_11 q_1101 q_1102 q_130 (by intro j hj; rcases j with _ | _ | _ | _ | _ | _ | _ | _ | _ | _ | _ | _ | _ | _ | _ | _ | _ | _ | _ | _ | _ | _ | _ | _ | _ | _ | _ | _ | _ | _ | _ | _ | _ | _ | _ | _ | _ | _ | _ | _ | _ | _ | _ |  j <;> first | rfl | omega) dL_law_8 ?_
  refine b_dup dL_law_11 rfl ?_
  refine b_callI (u1 := 24) (v1 := 888) (u2 := 2 * 600) (v2 := 6 * 600) (as := []) (rest := [.ref (g_ad G 38)]) (r_X12_init (ob := []) rfl) rfl oX12_init q_1103 q_1104 rfl rfl (by decide) (by decide) rfl (Nat.le_of_ble_eq_true rfl) 15 rfl dL_law_12 ?_
  refine b_astore_n (lv' := [(2, .ref (g_ad G 38)), (1, .ref (g_ad G 0)), (0, .ref b)]) dL_law_15 rfl (by decide) rfl ?_
  refine b_iconst (x := nI 0) dL_law_16 (by decide) ?_
  refine b_istore_n (lv' := b_lv G b 0) dL_law_17 rfl (by decide) rfl ?_
  exact b_loop hL 600 0 (v_C0 G) v_M0 [] b_J0 (Nat.zero_le _) (by omega)
end BE1
