/-! The model's pressing -/
theorem f_offI : ∀ s, s < 64 → ∀ j, j < 6 → nI s &&& (nI (2 ^ j) ^^^ (-1)) = nI (cond (Nat.testBit s j) (s - 2 ^ j) s) := by decide +kernel
def f_to (s i j : Nat) : Nat := cond (Nat.testBit s j) (s - 2 ^ j) s ||| 2 ^ i
theorem f_to_lt {s i j : Nat} (hs : s < 64) (hi : i < 6) : f_to s i j < 64 := by
  unfold f_to
  refine Nat.or_lt_two_pow (n := 6) ?_ (Nat.pow_lt_pow_right (by decide) hi)
  cases Nat.testBit s j
  · exact hs
  · exact Nat.lt_of_le_of_lt (Nat.sub_le _ _) hs
def f_prB (x : Int64) (i j s : Nat) : Bool := f_b x s && (Nat.testBit s j && (!Nat.testBit s i && !f_b x (f_to s i j)))
def f_prG (one : Nat → Int64) (B : Nat → Bool) : Nat → Int64
  | 0 => 0
  | s + 1 => cond (B s) (f_prG one B s ||| one s) (f_prG one B s)
def f_prM (n : Nat) (x : Int64) (i j : Nat) : Int64 := x &&& (f_prG (fun s => f_sl 1 (nI s)) (f_prB x i j) (2 ^ n) ^^^ (-1)) ||| f_prG (fun s => f_sl 1 (nI (f_to s i j))) (f_prB x i j) (2 ^ n)
def f_alF (a : Bool) (c : Nat → Bool) : Nat → Bool
  | 0 => a
  | t + 1 => f_alF a c t && c t
def f_arM (n : Nat) (x : Int64) : Nat → Bool
  | 0 => true
  | j + 1 => f_alF (f_arM n x j) (fun i => decide (f_prM n x i (j + 1) = x)) (j + 1)
def f_pI (n : Nat) (x : Int64) (j : Nat) : Nat → Int64
  | 0 => x
  | i + 1 => f_prM n (f_pI n x j i) i j
def f_pJ (n : Nat) (x : Int64) : Nat → Int64
  | 0 => x
  | j + 1 => f_pI n (f_pJ n x j) (j + 1) (j + 1)
def f_rI (n : Nat) (x : Int64) (j r : Nat) : Nat → Nat
  | 0 => r
  | i + 1 => f_rI n x j r i + Bool.toNat (!decide (f_pI n x j (i + 1) = f_pI n x j i))
def f_rJ (n : Nat) (x : Int64) (r : Nat) : Nat → Nat
  | 0 => r
  | j + 1 => f_rI n (f_pJ n x j) (j + 1) (f_rJ n x r j) (j + 1)
def f_rsM (n : Nat) : Nat → Int64 → Nat → Int64 × Nat
  | 0, x, r => (x, r)
  | t + 1, x, r => cond (f_arM n x (n - 1)) (x, r) (f_rsM n t (f_pJ n x (n - 1)) (f_rJ n x r (n - 1)))
section MP1
variable {G : g_G} {C : f_C} {M : f_M} {ob h : List va_E} {x : Int64} {y y2 y3 : Int32} {i j : Nat}
theorem r_pressedM (hn : M.1 0 ≤ 6) (hi : i < j) (hj : j < M.1 0) : g_Run G mX12_pressedBy 2 0 0 [.ref (g_ad G 38), .long x, .int (nI i), .int (nI j)] (g_hp G C (g_hm G M ++ ob)) (some (.long (f_prM (M.1 0) x i j))) (g_hp G C (g_hm G M ++ ob)) := by
  have hp : 2 ^ M.1 0 ≤ 64 := Nat.pow_le_pow_right (by decide) hn
  refine g_Run.of (lv := [(0, .ref (g_ad G 38)), (1, .long x), (3, .int (nI i)), (4, .int (nI j))]) (by decide) (Nat.le_of_ble_eq_true rfl) rfl ?_
  refine a_lconst (x := 0) 1 rfl dX12_pressedBy_0 (by decide) ?_
  refine a_lstore (lv' := [(5, .long 0), (0, .ref (g_ad G 38)), (1, .long x), (3, .int (nI i)), (4, .int (nI j))]) 3 rfl dX12_pressedBy_1 (by decide) rfl ?_
  refine a_lconst (x := 0) 4 rfl dX12_pressedBy_3 (by decide) ?_
  refine a_lstore (lv' := [(7, .long 0), (5, .long 0), (0, .ref (g_ad G 38)), (1, .long x), (3, .int (nI i)), (4, .int (nI j))]) 6 rfl dX12_pressedBy_4 (by decide) rfl ?_
  refine a_iconst (x := 0) 7 rfl dX12_pressedBy_6 (by decide) ?_
  refine a_istore (lv' := [(9, .int 0), (7, .long 0), (5, .long 0), (0, .ref (g_ad G 38)), (1, .long x), (3, .int (nI i)), (4, .int (nI j))]) 9 rfl dX12_pressedBy_7 (by decide) rfl ?_
  refine a_sub (lv' := [(9, .int (nI 0)), (5, .long (f_prG (fun s => f_sl 1 (nI s)) (f_prB x i j) 0)), (7, .long (f_prG (fun s => f_sl 1 (nI (f_to s i j))) (f_prB x i j) 0)), (0, .ref (g_ad G 38)), (1, .long x), (3, .int (nI i)), (4, .int (nI j))]) [0, 2, 1, 3, 4, 5, 6] rfl ?_
  refine g_for (P := fun s9 => True) (2 ^ M.1 0) (fun s9 => [(9, .int (nI s9)), (5, .long (f_prG (fun s => f_sl 1 (nI s)) (f_prB x i j) s9)), (7, .long (f_prG (fun s => f_sl 1 (nI (f_to s i j))) (f_prB x i j) s9)), (0, .ref (g_ad G 38)), (1, .long x), (3, .int (nI i)), (4, .int (nI j))]) (fun s9 => (g_hp G C (g_hm G M ++ ob))) (trivial) (fun s9 h_s9 p_s9 k_s9 => ?_) (fun p_s9 => ?_)
  · skip
    have ht := f_to_lt (s := s9) (i := i) (j := j) (by omega) (by omega)
    refine a_iload 0 11 rfl dX12_pressedBy_9 rfl ?_
    refine a_aload_n 3 12 rfl dX12_pressedBy_11 rfl rfl ?_
    refine a_callV (as := []) (rest := [.int (nI s9)]) (st2 := [.int (nI (2 ^ M.1 0)), .int (nI s9)]) (u1 := 0) (v1 := 0) (u2 := 0) (v2 := 0) (r_allM hn) (⟨_, _, _, _, rfl, rfl⟩) oX12_all q_1253 q_1255 q_85 rfl (by omega) (by decide) rfl (Nat.le_of_ble_eq_true rfl) 15 rfl dX12_pressedBy_12 rfl ?_
    refine a_icmp_ge 95 18 rfl dX12_pressedBy_15 (by decide) (fun hc => absurd hc (nI_ge (a := s9) (b := (2 ^ M.1 0)) (by omega) (by omega))) (fun _ => ?_)
    refine a_iload 0 20 rfl dX12_pressedBy_18 rfl ?_
    refine a_iconst (x := 1) 21 rfl dX12_pressedBy_20 (by decide) ?_
    refine a_iload 6 23 rfl dX12_pressedBy_21 rfl ?_
    refine a_ishl 24 rfl dX12_pressedBy_23 ?_
    refine a_eq (st2 := [.int (nI (2 ^ j)), .int (nI s9)]) rfl rfl (congrArg (fun z9 => Value.int z9 :: [.int (nI s9)]) (f_shlI j (by omega))) rfl ?_
    refine a_iconst (x := (-1)) 25 rfl dX12_pressedBy_24 (by decide) ?_
    refine a_ixor 26 rfl dX12_pressedBy_25 ?_
    refine a_iand 27 rfl dX12_pressedBy_26 ?_
    refine a_eq (st2 := [.int (nI (cond (Nat.testBit s9 j) (s9 - 2 ^ j) s9))]) rfl rfl (congrArg (fun z9 => Value.int z9 :: []) (f_offI s9 (by omega) j (by omega))) rfl ?_
    refine a_iconst (x := 1) 28 rfl dX12_pressedBy_27 (by decide) ?_
    refine a_iload_n 5 29 rfl dX12_pressedBy_28 rfl rfl ?_
    refine a_ishl 30 rfl dX12_pressedBy_29 ?_
    refine a_eq (st2 := [.int (nI (2 ^ i)), .int (nI (cond (Nat.testBit s9 j) (s9 - 2 ^ j) s9))]) rfl rfl (congrArg (fun z9 => Value.int z9 :: [.int (nI (cond (Nat.testBit s9 j) (s9 - 2 ^ j) s9))]) (f_shlI i (by omega))) rfl ?_
    refine a_ior 31 rfl dX12_pressedBy_30 ?_
    refine a_eq (st2 := [.int (nI ((cond (Nat.testBit s9 j) (s9 - 2 ^ j) s9) ||| (2 ^ i)))]) rfl rfl (congrArg (fun z9 => Value.int z9 :: []) (nI_or (cond (Nat.testBit s9 j) (s9 - 2 ^ j) s9) (2 ^ i))) rfl ?_
    refine a_eq (st2 := [.int (nI (f_to s9 i j))]) rfl rfl (congrArg (fun z9 => Value.int z9 :: []) (rfl)) rfl ?_
    refine a_istore (lv' := [(10, .int (nI (f_to s9 i j))), (9, .int (nI s9)), (5, .long (f_prG (fun s => f_sl 1 (nI s)) (f_prB x i j) s9)), (7, .long (f_prG (fun s => f_sl 1 (nI (f_to s i j))) (f_prB x i j) s9)), (0, .ref (g_ad G 38)), (1, .long x), (3, .int (nI i)), (4, .int (nI j))]) 33 rfl dX12_pressedBy_31 (by decide) rfl ?_
    refine g_sfx (pc := 89) (lv := [(10, .int (nI (f_to s9 i j))), (9, .int (nI s9)), (5, .long (cond (f_b x s9) (cond (Nat.testBit s9 j) (cond (Nat.testBit s9 i) (f_prG (fun s => f_sl 1 (nI s)) (f_prB x i j) s9) (cond (f_b x (f_to s9 i j)) (f_prG (fun s => f_sl 1 (nI s)) (f_prB x i j) s9) ((f_prG (fun s => f_sl 1 (nI s)) (f_prB x i j) s9) ||| (f_sl (1 : Int64) (nI s9))))) (f_prG (fun s => f_sl 1 (nI s)) (f_prB x i j) s9)) (f_prG (fun s => f_sl 1 (nI s)) (f_prB x i j) s9))), (7, .long (cond (f_b x s9) (cond (Nat.testBit s9 j) (cond (Nat.testBit s9 i) (f_prG (fun s => f_sl 1 (nI (f_to s i j))) (f_prB x i j) s9) (cond (f_b x (f_to s9 i j)) (f_prG (fun s => f_sl 1 (nI (f_to s i j))) (f_prB x i j) s9) ((f_prG (fun s => f_sl 1 (nI (f_to s i j))) (f_prB x i j) s9) ||| (f_sl (1 : Int64) (nI (f_to s9 i j)))))) (f_prG (fun s => f_sl 1 (nI (f_to s i j))) (f_prB x i j) s9)) (f_prG (fun s => f_sl 1 (nI (f_to s i j))) (f_prB x i j) s9))), (0, .ref (g_ad G 38)), (1, .long x), (3, .int (nI i)), (4, .int (nI j))]) (st := []) (h := (g_hp G C (g_hm G M ++ ob))) (fun key => ?_) ?_
    · skip
      refine a_lload_n 5 34 rfl dX12_pressedBy_33 rfl rfl ?_
      refine a_iload 1 36 rfl dX12_pressedBy_34 rfl ?_
      refine a_callS (as := [.long x, .int (nI s9)]) (rest := []) (st2 := [.int (f_i (f_b x s9))]) (u1 := 0) (v1 := 0) (u2 := 0) (v2 := 0) (r_hasB (s := s9) (by omega)) oX12_has q_1304 q_1305 rfl (by omega) (by decide) rfl (Nat.le_of_ble_eq_true rfl) 39 rfl dX12_pressedBy_36 rfl ?_
      rcases Bool.eq_false_or_eq_true ((f_b x s9)) with c39_1 | c39_1
      · skip
        refine a_if_eq 89 42 rfl dX12_pressedBy_39 (by decide) (fun hc => absurd hc (f_i_T c39_1)) (fun _ => ?_)
        refine a_iload 1 44 rfl dX12_pressedBy_42 rfl ?_
        refine a_iload 7 46 rfl dX12_pressedBy_44 rfl ?_
        refine a_ishr 47 rfl dX12_pressedBy_46 ?_
        refine a_iconst (x := 1) 48 rfl dX12_pressedBy_47 (by decide) ?_
        refine a_iand 49 rfl dX12_pressedBy_48 ?_
        refine a_eq (st2 := [.int (f_i (Nat.testBit s9 j))]) rfl rfl (congrArg (fun z9 => Value.int z9 :: []) (f_tbI (s := s9) (e := j) (by omega) (by omega))) rfl ?_
        refine a_iconst (x := 1) 50 rfl dX12_pressedBy_49 (by decide) ?_
        rcases Bool.eq_false_or_eq_true ((Nat.testBit s9 j)) with c50_2 | c50_2
        · skip
          refine a_icmp_ne 89 53 rfl dX12_pressedBy_50 (by decide) (fun hc => absurd (f_i_T1 c50_2) hc) (fun _ => ?_)
          refine a_iload 1 55 rfl dX12_pressedBy_53 rfl ?_
          refine a_iload_n 6 56 rfl dX12_pressedBy_55 rfl rfl ?_
          refine a_ishr 57 rfl dX12_pressedBy_56 ?_
          refine a_iconst (x := 1) 58 rfl dX12_pressedBy_57 (by decide) ?_
          refine a_iand 59 rfl dX12_pressedBy_58 ?_
          refine a_eq (st2 := [.int (f_i (Nat.testBit s9 i))]) rfl rfl (congrArg (fun z9 => Value.int z9 :: []) (f_tbI (s := s9) (e := i) (by omega) (by omega))) rfl ?_
          rcases Bool.eq_false_or_eq_true ((Nat.testBit s9 i)) with c59_3 | c59_3
          · skip
            refine a_if_ne 89 62 rfl dX12_pressedBy_59 (by decide) (fun _ => ?_) (fun hc => absurd hc (f_i_T c59_3))
            exact a_eq rfl (by rw [c39_1, c50_2, c59_3]; rfl) (rfl) rfl key
          · skip
            refine a_if_ne 89 62 rfl dX12_pressedBy_59 (by decide) (fun hc => absurd (f_i_F c59_3) hc) (fun _ => ?_)
            refine a_lload_n 5 63 rfl dX12_pressedBy_62 rfl rfl ?_
            refine a_iload 0 65 rfl dX12_pressedBy_63 rfl ?_
            refine a_callS (as := [.long x, .int (nI (f_to s9 i j))]) (rest := []) (st2 := [.int (f_i (f_b x (f_to s9 i j)))]) (u1 := 0) (v1 := 0) (u2 := 0) (v2 := 0) (r_hasB (s := (f_to s9 i j)) (by omega)) oX12_has q_1304 q_1305 rfl (by omega) (by decide) rfl (Nat.le_of_ble_eq_true rfl) 68 rfl dX12_pressedBy_65 rfl ?_
            rcases Bool.eq_false_or_eq_true ((f_b x (f_to s9 i j))) with c68_4 | c68_4
            · skip
              refine a_if_ne 89 71 rfl dX12_pressedBy_68 (by decide) (fun _ => ?_) (fun hc => absurd hc (f_i_T c68_4))
              exact a_eq rfl (by rw [c39_1, c50_2, c59_3, c68_4]; rfl) (rfl) rfl key
            · skip
              refine a_if_ne 89 71 rfl dX12_pressedBy_68 (by decide) (fun hc => absurd (f_i_F c68_4) hc) (fun _ => ?_)
              refine a_lload 2 73 rfl dX12_pressedBy_71 rfl ?_
              refine a_lconst (x := 1) 74 rfl dX12_pressedBy_73 (by decide) ?_
              refine a_iload 1 76 rfl dX12_pressedBy_74 rfl ?_
              refine a_lshl 77 rfl dX12_pressedBy_76 ?_
              refine a_lor 78 rfl dX12_pressedBy_77 ?_
              refine a_lstore (lv' := [(5, .long ((f_prG (fun s => f_sl 1 (nI s)) (f_prB x i j) s9) ||| (f_sl (1 : Int64) (nI s9)))), (10, .int (nI (f_to s9 i j))), (9, .int (nI s9)), (7, .long (f_prG (fun s => f_sl 1 (nI (f_to s i j))) (f_prB x i j) s9)), (0, .ref (g_ad G 38)), (1, .long x), (3, .int (nI i)), (4, .int (nI j))]) 80 rfl dX12_pressedBy_78 (by decide) rfl ?_
              refine a_lload 3 82 rfl dX12_pressedBy_80 rfl ?_
              refine a_lconst (x := 1) 83 rfl dX12_pressedBy_82 (by decide) ?_
              refine a_iload 1 85 rfl dX12_pressedBy_83 rfl ?_
              refine a_lshl 86 rfl dX12_pressedBy_85 ?_
              refine a_lor 87 rfl dX12_pressedBy_86 ?_
              refine a_lstore (lv' := [(7, .long ((f_prG (fun s => f_sl 1 (nI (f_to s i j))) (f_prB x i j) s9) ||| (f_sl (1 : Int64) (nI (f_to s9 i j))))), (5, .long ((f_prG (fun s => f_sl 1 (nI s)) (f_prB x i j) s9) ||| (f_sl (1 : Int64) (nI s9)))), (10, .int (nI (f_to s9 i j))), (9, .int (nI s9)), (0, .ref (g_ad G 38)), (1, .long x), (3, .int (nI i)), (4, .int (nI j))]) 89 rfl dX12_pressedBy_87 (by decide) rfl ?_
              refine a_sub (lv' := [(10, .int (nI (f_to s9 i j))), (9, .int (nI s9)), (5, .long ((f_prG (fun s => f_sl 1 (nI s)) (f_prB x i j) s9) ||| (f_sl (1 : Int64) (nI s9)))), (7, .long ((f_prG (fun s => f_sl 1 (nI (f_to s i j))) (f_prB x i j) s9) ||| (f_sl (1 : Int64) (nI (f_to s9 i j))))), (0, .ref (g_ad G 38)), (1, .long x), (3, .int (nI i)), (4, .int (nI j))]) [2, 3, 1, 0, 4, 5, 6, 7] rfl ?_
              exact a_eq rfl (by rw [c39_1, c50_2, c59_3, c68_4]; rfl) (rfl) rfl key
        · skip
          refine a_icmp_ne 89 53 rfl dX12_pressedBy_50 (by decide) (fun _ => ?_) (fun hc => absurd hc (f_i_F1 c50_2))
          exact a_eq rfl (by rw [c39_1, c50_2]; rfl) (rfl) rfl key
      · skip
        refine a_if_eq 89 42 rfl dX12_pressedBy_39 (by decide) (fun _ => ?_) (fun hc => absurd (f_i_F c39_1) hc)
        exact a_eq rfl (by rw [c39_1]; rfl) (rfl) rfl key
    refine a_eq (lv2 := [(10, .int (nI (f_to s9 i j))), (9, .int (nI s9)), (5, .long (f_prG (fun s => f_sl 1 (nI s)) (f_prB x i j) (s9 + 1))), (7, .long (cond (f_b x s9) (cond (Nat.testBit s9 j) (cond (Nat.testBit s9 i) (f_prG (fun s => f_sl 1 (nI (f_to s i j))) (f_prB x i j) s9) (cond (f_b x (f_to s9 i j)) (f_prG (fun s => f_sl 1 (nI (f_to s i j))) (f_prB x i j) s9) ((f_prG (fun s => f_sl 1 (nI (f_to s i j))) (f_prB x i j) s9) ||| (f_sl (1 : Int64) (nI (f_to s9 i j)))))) (f_prG (fun s => f_sl 1 (nI (f_to s i j))) (f_prB x i j) s9)) (f_prG (fun s => f_sl 1 (nI (f_to s i j))) (f_prB x i j) s9))), (0, .ref (g_ad G 38)), (1, .long x), (3, .int (nI i)), (4, .int (nI j))]) rfl (congrArg (fun z9 => ([(10, .int (nI (f_to s9 i j))), (9, .int (nI s9)), (5, .long z9), (7, .long (cond (f_b x s9) (cond (Nat.testBit s9 j) (cond (Nat.testBit s9 i) (f_prG (fun s => f_sl 1 (nI (f_to s i j))) (f_prB x i j) s9) (cond (f_b x (f_to s9 i j)) (f_prG (fun s => f_sl 1 (nI (f_to s i j))) (f_prB x i j) s9) ((f_prG (fun s => f_sl 1 (nI (f_to s i j))) (f_prB x i j) s9) ||| (f_sl (1 : Int64) (nI (f_to s9 i j)))))) (f_prG (fun s => f_sl 1 (nI (f_to s i j))) (f_prB x i j) s9)) (f_prG (fun s => f_sl 1 (nI (f_to s i j))) (f_prB x i j) s9))), (0, .ref (g_ad G 38)), (1, .long x), (3, .int (nI i)), (4, .int (nI j))] : List (Nat × Value))) (by rw [f_prG]; unfold f_prB; cases f_b x s9 <;> cases Nat.testBit s9 j <;> cases Nat.testBit s9 i <;> cases f_b x (f_to s9 i j) <;> rfl)) rfl rfl ?_
    refine a_eq (lv2 := [(10, .int (nI (f_to s9 i j))), (9, .int (nI s9)), (5, .long (f_prG (fun s => f_sl 1 (nI s)) (f_prB x i j) (s9 + 1))), (7, .long (f_prG (fun s => f_sl 1 (nI (f_to s i j))) (f_prB x i j) (s9 + 1))), (0, .ref (g_ad G 38)), (1, .long x), (3, .int (nI i)), (4, .int (nI j))]) rfl (congrArg (fun z9 => ([(10, .int (nI (f_to s9 i j))), (9, .int (nI s9)), (5, .long (f_prG (fun s => f_sl 1 (nI s)) (f_prB x i j) (s9 + 1))), (7, .long z9), (0, .ref (g_ad G 38)), (1, .long x), (3, .int (nI i)), (4, .int (nI j))] : List (Nat × Value))) (by rw [f_prG]; unfold f_prB; cases f_b x s9 <;> cases Nat.testBit s9 j <;> cases Nat.testBit s9 i <;> cases f_b x (f_to s9 i j) <;> rfl)) rfl rfl ?_
    refine a_iinc (y := nI (s9 + 1)) (lv' := [(9, .int (nI (s9 + 1))), (10, .int (nI (f_to s9 i j))), (5, .long (f_prG (fun s => f_sl 1 (nI s)) (f_prB x i j) (s9 + 1))), (7, .long (f_prG (fun s => f_sl 1 (nI (f_to s i j))) (f_prB x i j) (s9 + 1))), (0, .ref (g_ad G 38)), (1, .long x), (3, .int (nI i)), (4, .int (nI j))]) 1 92 rfl dX12_pressedBy_89 rfl (nI_1 s9) (by decide) rfl ?_
    refine a_goto 9 dX12_pressedBy_92 (by decide) ?_
    refine a_sub (lv' := [(9, .int (nI (s9 + 1))), (5, .long (f_prG (fun s => f_sl 1 (nI s)) (f_prB x i j) (s9 + 1))), (7, .long (f_prG (fun s => f_sl 1 (nI (f_to s i j))) (f_prB x i j) (s9 + 1))), (0, .ref (g_ad G 38)), (1, .long x), (3, .int (nI i)), (4, .int (nI j))]) [0, 2, 3, 4, 5, 6, 7] rfl ?_
    exact k_s9 trivial
  · skip
    refine a_iload 0 11 rfl dX12_pressedBy_9 rfl ?_
    refine a_aload_n 3 12 rfl dX12_pressedBy_11 rfl rfl ?_
    refine a_callV (as := []) (rest := [.int (nI (2 ^ M.1 0))]) (st2 := [.int (nI (2 ^ M.1 0)), .int (nI (2 ^ M.1 0))]) (u1 := 0) (v1 := 0) (u2 := 0) (v2 := 0) (r_allM hn) (⟨_, _, _, _, rfl, rfl⟩) oX12_all q_1253 q_1255 q_85 rfl (by omega) (by decide) rfl (Nat.le_of_ble_eq_true rfl) 15 rfl dX12_pressedBy_12 rfl ?_
    refine a_icmp_ge 95 18 rfl dX12_pressedBy_15 (by decide) (fun _ => ?_) (fun hc => absurd (nI_le (a := (2 ^ M.1 0)) (b := (2 ^ M.1 0)) (by omega) (by omega)) hc)
    refine a_lload_n 4 96 rfl dX12_pressedBy_95 rfl rfl ?_
    refine a_lload 1 98 rfl dX12_pressedBy_96 rfl ?_
    refine a_ldc2 q_1260 101 rfl dX12_pressedBy_98 ?_
    refine a_lxor 102 rfl dX12_pressedBy_101 ?_
    refine a_land 103 rfl dX12_pressedBy_102 ?_
    refine a_lload 2 105 rfl dX12_pressedBy_103 rfl ?_
    refine a_lor 106 rfl dX12_pressedBy_105 ?_
    exact a_lreturn rfl (rfl) (rfl) dX12_pressedBy_106
theorem r_atRestM (hn : M.1 0 ≤ 6) (hn0 : 0 < M.1 0) : g_Run G mX12_isAtRest 3 0 0 [.ref (g_ad G 38), .long x] (g_hp G C (g_hm G M ++ ob)) (some (.int (f_i (f_arM (M.1 0) x (M.1 0 - 1))))) (g_hp G C (g_hm G M ++ ob)) := by
  refine g_Run.of (lv := [(0, .ref (g_ad G 38)), (1, .long x)]) (by decide) (Nat.le_of_ble_eq_true rfl) rfl ?_
  refine a_iconst (x := 1) 1 rfl dX12_isAtRest_0 (by decide) ?_
  refine a_istore_n (lv' := [(3, .int 1), (0, .ref (g_ad G 38)), (1, .long x)]) 2 rfl dX12_isAtRest_1 rfl (by decide) rfl ?_
  refine a_iconst (x := 1) 3 rfl dX12_isAtRest_2 (by decide) ?_
  refine a_istore (lv' := [(4, .int 1), (3, .int 1), (0, .ref (g_ad G 38)), (1, .long x)]) 5 rfl dX12_isAtRest_3 (by decide) rfl ?_
  refine a_sub (lv' := [(4, .int (nI (0 + 1))), (3, .int (f_i (f_arM (M.1 0) x 0))), (0, .ref (g_ad G 38)), (1, .long x)]) [0, 1, 2, 3] rfl ?_
  refine g_for (P := fun j9 => True) (M.1 0 - 1) (fun j9 => [(4, .int (nI (j9 + 1))), (3, .int (f_i (f_arM (M.1 0) x j9))), (0, .ref (g_ad G 38)), (1, .long x)]) (fun j9 => (g_hp G C (g_hm G M ++ ob))) (trivial) (fun j9 h_j9 p_j9 k_j9 => ?_) (fun p_j9 => ?_)
  · skip
    refine a_iload 0 7 rfl dX12_isAtRest_5 rfl ?_
    refine a_aload_n 2 8 rfl dX12_isAtRest_7 rfl rfl ?_
    refine a_get 0 cl_11 f_RX12_9_11 (by decide) (rfl) rfl 11 rfl dX12_isAtRest_8 ?_
    refine a_icmp_ge 58 14 rfl dX12_isAtRest_11 (by decide) (fun hc => absurd hc (nI_ge (a := (j9 + 1)) (b := (M.1 0)) (by omega) (by omega))) (fun _ => ?_)
    refine a_iconst (x := 0) 15 rfl dX12_isAtRest_14 (by decide) ?_
    refine a_istore (lv' := [(5, .int 0), (4, .int (nI (j9 + 1))), (3, .int (f_i (f_arM (M.1 0) x j9))), (0, .ref (g_ad G 38)), (1, .long x)]) 17 rfl dX12_isAtRest_15 (by decide) rfl ?_
    refine a_sub (lv' := [(5, .int (nI 0)), (3, .int (f_i (f_alF (f_arM (M.1 0) x j9) (fun i => decide (f_prM (M.1 0) x i (j9 + 1) = x)) 0))), (4, .int (nI (j9 + 1))), (0, .ref (g_ad G 38)), (1, .long x)]) [0, 2, 1, 3, 4] rfl ?_
    refine g_for (P := fun i9 => True) (j9 + 1) (fun i9 => [(5, .int (nI i9)), (3, .int (f_i (f_alF (f_arM (M.1 0) x j9) (fun i => decide (f_prM (M.1 0) x i (j9 + 1) = x)) i9))), (4, .int (nI (j9 + 1))), (0, .ref (g_ad G 38)), (1, .long x)]) (fun i9 => (g_hp G C (g_hm G M ++ ob))) (trivial) (fun i9 h_i9 p_i9 k_i9 => ?_) (fun p_i9 => ?_)
    · skip
      refine a_iload 0 19 rfl dX12_isAtRest_17 rfl ?_
      refine a_iload 2 21 rfl dX12_isAtRest_19 rfl ?_
      refine a_icmp_ge 52 24 rfl dX12_isAtRest_21 (by decide) (fun hc => absurd hc (nI_ge (a := i9) (b := (j9 + 1)) (by omega) (by omega))) (fun _ => ?_)
      refine a_iload_n 1 25 rfl dX12_isAtRest_24 rfl rfl ?_
      refine a_aload_n 3 26 rfl dX12_isAtRest_25 rfl rfl ?_
      refine a_lload_n 4 27 rfl dX12_isAtRest_26 rfl rfl ?_
      refine a_iload 0 29 rfl dX12_isAtRest_27 rfl ?_
      refine a_iload 2 31 rfl dX12_isAtRest_29 rfl ?_
      refine a_callV (as := [.long x, .int (nI i9), .int (nI (j9 + 1))]) (rest := [.int (f_i (f_alF (f_arM (M.1 0) x j9) (fun i => decide (f_prM (M.1 0) x i (j9 + 1) = x)) i9))]) (st2 := [.long (f_prM (M.1 0) x i9 (j9 + 1)), .int (f_i (f_alF (f_arM (M.1 0) x j9) (fun i => decide (f_prM (M.1 0) x i (j9 + 1) = x)) i9))]) (u1 := 0) (v1 := 0) (u2 := 0) (v2 := 0) (r_pressedM (i := i9) (j := j9 + 1) hn (by omega) (by omega)) (⟨_, _, _, _, rfl, rfl⟩) oX12_pressedBy q_1338 q_1340 q_96 rfl (by omega) (by decide) rfl (Nat.le_of_ble_eq_true rfl) 34 rfl dX12_isAtRest_31 rfl ?_
      refine a_lload_n 4 35 rfl dX12_isAtRest_34 rfl rfl ?_
      refine a_lcmp 36 rfl dX12_isAtRest_35 ?_
      refine g_sfx (pc := 44) (lv := [(5, .int (nI i9)), (3, .int (f_i (f_alF (f_arM (M.1 0) x j9) (fun i => decide (f_prM (M.1 0) x i (j9 + 1) = x)) i9))), (4, .int (nI (j9 + 1))), (0, .ref (g_ad G 38)), (1, .long x)]) (st := [.int (f_i (decide ((f_prM (M.1 0) x i9 (j9 + 1)) = x))), .int (f_i (f_alF (f_arM (M.1 0) x j9) (fun i => decide (f_prM (M.1 0) x i (j9 + 1) = x)) i9))]) (h := (g_hp G C (g_hm G M ++ ob))) (fun key => ?_) ?_
      · skip
        rcases Bool.eq_false_or_eq_true (decide ((f_prM (M.1 0) x i9 (j9 + 1)) = x)) with c36_1 | c36_1
        · skip
          refine a_if_ne 43 39 rfl dX12_isAtRest_36 (by decide) (fun hc => absurd (g_cmp_eq.mpr (of_decide_eq_true c36_1)) hc) (fun _ => ?_)
          refine a_iconst (x := 1) 40 rfl dX12_isAtRest_39 (by decide) ?_
          refine a_goto 44 dX12_isAtRest_40 (by decide) ?_
          exact a_eq rfl (rfl) (by rw [c36_1]; rfl) rfl key
        · skip
          refine a_if_ne 43 39 rfl dX12_isAtRest_36 (by decide) (fun _ => ?_) (fun hc => absurd hc (g_cmp_ne.mpr (of_decide_eq_false c36_1)))
          refine a_iconst (x := 0) 44 rfl dX12_isAtRest_43 (by decide) ?_
          exact a_eq rfl (rfl) (by rw [c36_1]; rfl) rfl key
      refine a_iand 45 rfl dX12_isAtRest_44 ?_
      refine a_eq (st2 := [.int (f_i ((f_alF (f_arM (M.1 0) x j9) (fun i => decide (f_prM (M.1 0) x i (j9 + 1) = x)) i9) && (decide ((f_prM (M.1 0) x i9 (j9 + 1)) = x))))]) rfl rfl (congrArg (fun z9 => Value.int z9 :: []) (f_i_and (f_alF (f_arM (M.1 0) x j9) (fun i => decide (f_prM (M.1 0) x i (j9 + 1) = x)) i9) (decide ((f_prM (M.1 0) x i9 (j9 + 1)) = x)))) rfl ?_
      refine a_istore_n (lv' := [(3, .int (f_i ((f_alF (f_arM (M.1 0) x j9) (fun i => decide (f_prM (M.1 0) x i (j9 + 1) = x)) i9) && (decide ((f_prM (M.1 0) x i9 (j9 + 1)) = x))))), (5, .int (nI i9)), (4, .int (nI (j9 + 1))), (0, .ref (g_ad G 38)), (1, .long x)]) 46 rfl dX12_isAtRest_45 rfl (by decide) rfl ?_
      refine a_iinc (y := nI (i9 + 1)) (lv' := [(5, .int (nI (i9 + 1))), (3, .int (f_i ((f_alF (f_arM (M.1 0) x j9) (fun i => decide (f_prM (M.1 0) x i (j9 + 1) = x)) i9) && (decide ((f_prM (M.1 0) x i9 (j9 + 1)) = x))))), (4, .int (nI (j9 + 1))), (0, .ref (g_ad G 38)), (1, .long x)]) 1 49 rfl dX12_isAtRest_46 rfl (nI_1 i9) (by decide) rfl ?_
      refine a_goto 17 dX12_isAtRest_49 (by decide) ?_
      refine a_sub (lv' := [(5, .int (nI (i9 + 1))), (3, .int (f_i (f_alF (f_arM (M.1 0) x j9) (fun i => decide (f_prM (M.1 0) x i (j9 + 1) = x)) (i9 + 1)))), (4, .int (nI (j9 + 1))), (0, .ref (g_ad G 38)), (1, .long x)]) [0, 1, 2, 3, 4] rfl ?_
      exact k_i9 trivial
    · skip
      refine a_iload 0 19 rfl dX12_isAtRest_17 rfl ?_
      refine a_iload 2 21 rfl dX12_isAtRest_19 rfl ?_
      refine a_icmp_ge 52 24 rfl dX12_isAtRest_21 (by decide) (fun _ => ?_) (fun hc => absurd (nI_le (a := (j9 + 1)) (b := (j9 + 1)) (by omega) (by omega)) hc)
      refine a_iinc (y := nI ((j9 + 1) + 1)) (lv' := [(4, .int (nI ((j9 + 1) + 1))), (5, .int (nI (j9 + 1))), (3, .int (f_i (f_alF (f_arM (M.1 0) x j9) (fun i => decide (f_prM (M.1 0) x i (j9 + 1) = x)) (j9 + 1)))), (0, .ref (g_ad G 38)), (1, .long x)]) 2 55 rfl dX12_isAtRest_52 rfl (nI_1 (j9 + 1)) (by decide) rfl ?_
      refine a_goto 5 dX12_isAtRest_55 (by decide) ?_
      refine a_sub (lv' := [(4, .int (nI ((j9 + 1) + 1))), (3, .int (f_i (f_arM (M.1 0) x (j9 + 1)))), (0, .ref (g_ad G 38)), (1, .long x)]) [0, 2, 3, 4] rfl ?_
      exact k_j9 trivial
  · skip
    refine a_iload 0 7 rfl dX12_isAtRest_5 rfl ?_
    refine a_aload_n 2 8 rfl dX12_isAtRest_7 rfl rfl ?_
    refine a_get 0 cl_11 f_RX12_9_11 (by decide) (rfl) rfl 11 rfl dX12_isAtRest_8 ?_
    refine a_icmp_ge 58 14 rfl dX12_isAtRest_11 (by decide) (fun _ => ?_) (fun hc => absurd (nI_le (a := (M.1 0)) (b := ((M.1 0 - 1) + 1)) (by omega) (by omega)) hc)
    refine a_iload_n 1 59 rfl dX12_isAtRest_58 rfl rfl ?_
    exact a_ireturn .boolean rfl (f_i_nar _) (rfl) (rfl) dX12_isAtRest_59
theorem r_restsM {t : Nat} (hn : M.1 0 ≤ 6) (hn0 : 0 < M.1 0) (ht : f_arM (M.1 0) (f_rsM (M.1 0) t x 0).1 (M.1 0 - 1) = true) : g_Run G mX12_rests 4 0 0 [.ref (g_ad G 38), .long x] (g_hp G C (g_hm G M ++ ob)) (some (.long (f_rsM (M.1 0) t x 0).1)) (g_hp G C (g_hm G (f_mi M 1 (nI (f_rsM (M.1 0) t x 0).2)) ++ ob)) := by
  have key : ∀ (t : Nat) (x9 : Int64) (r9 : Nat), f_arM (M.1 0) (f_rsM (M.1 0) t x9 r9).1 (M.1 0 - 1) = true → g_A G mX12_rests 4 0 0 7 [(3, .long x9), (0, .ref (g_ad G 38)), (1, .long x)] [] (g_hp G C (g_hm G (f_mi M 1 (nI r9)) ++ ob)) (some (.long (f_rsM (M.1 0) t x9 r9).1)) (g_hp G C (g_hm G (f_mi M 1 (nI (f_rsM (M.1 0) t x9 r9).2)) ++ ob)) := by
    intro t
    induction t with
    | zero =>
      intro x9 r9 hr
      refine a_aload_n 1 8 rfl dX12_rests_7 rfl rfl ?_
      refine a_lload_n 0 9 rfl dX12_rests_8 rfl rfl ?_
      refine a_callV (as := [.long x9]) (rest := []) (st2 := [.int (f_i (f_arM (M.1 0) x9 (M.1 0 - 1)))]) (u1 := 0) (v1 := 0) (u2 := 0) (v2 := 0) (r_atRestM (M := f_mi M 1 (nI r9)) hn hn0) (⟨_, _, _, _, rfl, rfl⟩) oX12_isAtRest q_1350 q_1352 q_98 rfl (by omega) (by decide) rfl (Nat.le_of_ble_eq_true rfl) 12 rfl dX12_rests_9 rfl ?_
      refine a_if_ne 87 15 rfl dX12_rests_12 (by decide) (fun _ => ?_) (fun hc => absurd hc (f_i_T hr))
      refine a_lload_n 0 88 rfl dX12_rests_87 rfl rfl ?_
      exact a_lreturn rfl (rfl) (rfl) dX12_rests_88
    | succ t ih =>
      intro x9 r9 hr
      rcases Bool.eq_false_or_eq_true (f_arM (M.1 0) x9 (M.1 0 - 1)) with e1 | e1
      · have e2 : f_rsM (M.1 0) (t + 1) x9 r9 = (x9, r9) := by rw [f_rsM, e1]; rfl
        rw [e2]
        refine a_aload_n 1 8 rfl dX12_rests_7 rfl rfl ?_
        refine a_lload_n 0 9 rfl dX12_rests_8 rfl rfl ?_
        refine a_callV (as := [.long x9]) (rest := []) (st2 := [.int (f_i (f_arM (M.1 0) x9 (M.1 0 - 1)))]) (u1 := 0) (v1 := 0) (u2 := 0) (v2 := 0) (r_atRestM (M := f_mi M 1 (nI r9)) hn hn0) (⟨_, _, _, _, rfl, rfl⟩) oX12_isAtRest q_1350 q_1352 q_98 rfl (by omega) (by decide) rfl (Nat.le_of_ble_eq_true rfl) 12 rfl dX12_rests_9 rfl ?_
        refine a_if_ne 87 15 rfl dX12_rests_12 (by decide) (fun _ => ?_) (fun hc => absurd hc (f_i_T e1))
        refine a_lload_n 0 88 rfl dX12_rests_87 rfl rfl ?_
        exact a_lreturn rfl (rfl) (rfl) dX12_rests_88
      · have e2 : f_rsM (M.1 0) (t + 1) x9 r9 = f_rsM (M.1 0) t (f_pJ (M.1 0) x9 (M.1 0 - 1)) (f_rJ (M.1 0) x9 r9 (M.1 0 - 1)) := by rw [f_rsM, e1]; rfl
        rw [e2] at hr ⊢
        refine a_aload_n 1 8 rfl dX12_rests_7 rfl rfl ?_
        refine a_lload_n 0 9 rfl dX12_rests_8 rfl rfl ?_
        refine a_callV (as := [.long x9]) (rest := []) (st2 := [.int (f_i (f_arM (M.1 0) x9 (M.1 0 - 1)))]) (u1 := 0) (v1 := 0) (u2 := 0) (v2 := 0) (r_atRestM (M := f_mi M 1 (nI r9)) hn hn0) (⟨_, _, _, _, rfl, rfl⟩) oX12_isAtRest q_1350 q_1352 q_98 rfl (by omega) (by decide) rfl (Nat.le_of_ble_eq_true rfl) 12 rfl dX12_rests_9 rfl ?_
        refine a_if_ne 87 15 rfl dX12_rests_12 (by decide) (fun hc => absurd (f_i_F e1) hc) (fun _ => ?_)
        refine a_iconst (x := 1) 16 rfl dX12_rests_15 (by decide) ?_
        refine a_istore (lv' := [(5, .int 1), (3, .long x9), (0, .ref (g_ad G 38)), (1, .long x)]) 18 rfl dX12_rests_16 (by decide) rfl ?_
        refine a_sub (lv' := [(5, .int (nI (0 + 1))), (3, .long (f_pJ (M.1 0) x9 0)), (0, .ref (g_ad G 38)), (1, .long x)]) [0, 1, 2, 3] rfl ?_
        refine g_for (P := fun j9 => True) (M.1 0 - 1) (fun j9 => [(5, .int (nI (j9 + 1))), (3, .long (f_pJ (M.1 0) x9 j9)), (0, .ref (g_ad G 38)), (1, .long x)]) (fun j9 => g_hp G C (g_hm G (f_mi M 1 (nI (f_rJ (M.1 0) x9 r9 j9))) ++ ob)) (trivial) (fun j9 h_j9 p_j9 k_j9 => ?_) (fun p_j9 => ?_)
        · skip
          refine a_iload 0 20 rfl dX12_rests_18 rfl ?_
          refine a_aload_n 2 21 rfl dX12_rests_20 rfl rfl ?_
          refine a_get 0 cl_11 f_RX12_9_11 (by decide) (rfl) rfl 24 rfl dX12_rests_21 ?_
          refine a_icmp_ge 84 27 rfl dX12_rests_24 (by decide) (fun hc => absurd hc (nI_ge (a := (j9 + 1)) (b := (M.1 0)) (by omega) (by omega))) (fun _ => ?_)
          refine a_iconst (x := 0) 28 rfl dX12_rests_27 (by decide) ?_
          refine a_istore (lv' := [(6, .int 0), (5, .int (nI (j9 + 1))), (3, .long (f_pJ (M.1 0) x9 j9)), (0, .ref (g_ad G 38)), (1, .long x)]) 30 rfl dX12_rests_28 (by decide) rfl ?_
          refine a_sub (lv' := [(6, .int (nI 0)), (3, .long (f_pI (M.1 0) (f_pJ (M.1 0) x9 j9) (j9 + 1) 0)), (5, .int (nI (j9 + 1))), (0, .ref (g_ad G 38)), (1, .long x)]) [0, 2, 1, 3, 4] rfl ?_
          refine g_for (P := fun i9 => True) (j9 + 1) (fun i9 => [(6, .int (nI i9)), (3, .long (f_pI (M.1 0) (f_pJ (M.1 0) x9 j9) (j9 + 1) i9)), (5, .int (nI (j9 + 1))), (0, .ref (g_ad G 38)), (1, .long x)]) (fun i9 => g_hp G C (g_hm G (f_mi M 1 (nI (f_rI (M.1 0) (f_pJ (M.1 0) x9 j9) (j9 + 1) (f_rJ (M.1 0) x9 r9 j9) i9))) ++ ob)) (trivial) (fun i9 h_i9 p_i9 k_i9 => ?_) (fun p_i9 => ?_)
          · skip
            refine a_iload 0 32 rfl dX12_rests_30 rfl ?_
            refine a_iload 2 34 rfl dX12_rests_32 rfl ?_
            refine a_icmp_ge 78 37 rfl dX12_rests_34 (by decide) (fun hc => absurd hc (nI_ge (a := i9) (b := (j9 + 1)) (by omega) (by omega))) (fun _ => ?_)
            refine a_aload_n 3 38 rfl dX12_rests_37 rfl rfl ?_
            refine a_lload_n 1 39 rfl dX12_rests_38 rfl rfl ?_
            refine a_iload 0 41 rfl dX12_rests_39 rfl ?_
            refine a_iload 2 43 rfl dX12_rests_41 rfl ?_
            refine a_callV (as := [.long (f_pI (M.1 0) (f_pJ (M.1 0) x9 j9) (j9 + 1) i9), .int (nI i9), .int (nI (j9 + 1))]) (rest := []) (st2 := [.long (f_prM (M.1 0) (f_pI (M.1 0) (f_pJ (M.1 0) x9 j9) (j9 + 1) i9) i9 (j9 + 1))]) (u1 := 0) (v1 := 0) (u2 := 0) (v2 := 0) (r_pressedM (M := f_mi M 1 (nI (f_rI (M.1 0) (f_pJ (M.1 0) x9 j9) (j9 + 1) (f_rJ (M.1 0) x9 r9 j9) i9))) (i := i9) (j := j9 + 1) hn (by omega) (by show j9 + 1 < M.1 0; omega)) (⟨_, _, _, _, rfl, rfl⟩) oX12_pressedBy q_1338 q_1340 q_96 rfl (by omega) (by decide) rfl (Nat.le_of_ble_eq_true rfl) 46 rfl dX12_rests_43 rfl ?_
            refine a_lstore (lv' := [(7, .long (f_prM (M.1 0) (f_pI (M.1 0) (f_pJ (M.1 0) x9 j9) (j9 + 1) i9) i9 (j9 + 1))), (6, .int (nI i9)), (3, .long (f_pI (M.1 0) (f_pJ (M.1 0) x9 j9) (j9 + 1) i9)), (5, .int (nI (j9 + 1))), (0, .ref (g_ad G 38)), (1, .long x)]) 48 rfl dX12_rests_46 (by decide) rfl ?_
            refine a_aload_n 4 49 rfl dX12_rests_48 rfl rfl ?_
            refine a_dup 50 rfl dX12_rests_49 rfl ?_
            refine a_get 14 cl_11 f_RX12_178_11 (by decide) (rfl) rfl 53 rfl dX12_rests_50 ?_
            refine a_lload 0 55 rfl dX12_rests_53 rfl ?_
            refine a_lload_n 2 56 rfl dX12_rests_55 rfl rfl ?_
            refine a_lcmp 57 rfl dX12_rests_56 ?_
            refine g_sfx (pc := 65) (lv := [(7, .long (f_prM (M.1 0) (f_pI (M.1 0) (f_pJ (M.1 0) x9 j9) (j9 + 1) i9) i9 (j9 + 1))), (6, .int (nI i9)), (3, .long (f_pI (M.1 0) (f_pJ (M.1 0) x9 j9) (j9 + 1) i9)), (5, .int (nI (j9 + 1))), (0, .ref (g_ad G 38)), (1, .long x)]) (st := [.int (f_i (!(decide ((f_prM (M.1 0) (f_pI (M.1 0) (f_pJ (M.1 0) x9 j9) (j9 + 1) i9) i9 (j9 + 1)) = (f_pI (M.1 0) (f_pJ (M.1 0) x9 j9) (j9 + 1) i9))))), .int (nI (f_rI (M.1 0) (f_pJ (M.1 0) x9 j9) (j9 + 1) (f_rJ (M.1 0) x9 r9 j9) i9)), .ref (g_ad G 38)]) (h := (g_hp G C (g_hm G (f_mi M 1 (nI (f_rI (M.1 0) (f_pJ (M.1 0) x9 j9) (j9 + 1) (f_rJ (M.1 0) x9 r9 j9) i9))) ++ ob))) (fun key => ?_) ?_
            · skip
              rcases Bool.eq_false_or_eq_true (decide ((f_prM (M.1 0) (f_pI (M.1 0) (f_pJ (M.1 0) x9 j9) (j9 + 1) i9) i9 (j9 + 1)) = (f_pI (M.1 0) (f_pJ (M.1 0) x9 j9) (j9 + 1) i9))) with c57_1 | c57_1
              · skip
                refine a_if_ne 64 60 rfl dX12_rests_57 (by decide) (fun hc => absurd (g_cmp_eq.mpr (of_decide_eq_true c57_1)) hc) (fun _ => ?_)
                refine a_iconst (x := 0) 61 rfl dX12_rests_60 (by decide) ?_
                refine a_goto 65 dX12_rests_61 (by decide) ?_
                exact a_eq rfl (rfl) (by rw [c57_1]; rfl) rfl key
              · skip
                refine a_if_ne 64 60 rfl dX12_rests_57 (by decide) (fun _ => ?_) (fun hc => absurd hc (g_cmp_ne.mpr (of_decide_eq_false c57_1)))
                refine a_iconst (x := 1) 65 rfl dX12_rests_64 (by decide) ?_
                exact a_eq rfl (rfl) (by rw [c57_1]; rfl) rfl key
            refine a_iadd 66 rfl dX12_rests_65 ?_
            refine a_eq (st2 := [.int (nI ((f_rI (M.1 0) (f_pJ (M.1 0) x9 j9) (j9 + 1) (f_rJ (M.1 0) x9 r9 j9) i9) + Bool.toNat (!(decide ((f_prM (M.1 0) (f_pI (M.1 0) (f_pJ (M.1 0) x9 j9) (j9 + 1) i9) i9 (j9 + 1)) = (f_pI (M.1 0) (f_pJ (M.1 0) x9 j9) (j9 + 1) i9)))))), .ref (g_ad G 38)]) rfl rfl (congrArg (fun z9 => Value.int z9 :: [.ref (g_ad G 38)]) (f_i_add (f_rI (M.1 0) (f_pJ (M.1 0) x9 j9) (j9 + 1) (f_rJ (M.1 0) x9 r9 j9) i9) (!(decide ((f_prM (M.1 0) (f_pI (M.1 0) (f_pJ (M.1 0) x9 j9) (j9 + 1) i9) i9 (j9 + 1)) = (f_pI (M.1 0) (f_pJ (M.1 0) x9 j9) (j9 + 1) i9)))))) rfl ?_
            refine a_put (fs' := [.int (nI (M.1 0)), .int (nI (M.1 1)), .int (nI (M.1 2)), .int (nI (M.1 3)), .ref (g_ad G 39), .ref (g_ad G 40), .ref (g_ad G 41), .ref (g_ad G 42), .ref (g_ad G 43), .ref (g_ad G 44), .int (M.2.1 0), .ref (g_ad G 45), .int (nI (M.1 4)), .int (nI (M.1 5)), .int (nI ((f_rI (M.1 0) (f_pJ (M.1 0) x9 j9) (j9 + 1) (f_rJ (M.1 0) x9 r9 j9) i9) + Bool.toNat (!(decide ((f_prM (M.1 0) (f_pI (M.1 0) (f_pJ (M.1 0) x9 j9) (j9 + 1) i9) i9 (j9 + 1)) = (f_pI (M.1 0) (f_pJ (M.1 0) x9 j9) (j9 + 1) i9)))))), .int (M.2.1 2), .long (M.2.2.1 0), .ref (g_ad G 46), .ref (g_ad G 47), .ref (g_ad G 48), .int (nI (M.1 6)), .long (M.2.2.1 1), .int (nI (M.1 7)), .int (nI (M.1 8)), .ref (g_ad G 49), .ref (g_ad G 50), .int (nI (M.1 9)), .int (nI (M.1 10)), .int (nI (M.1 11)), .long (M.2.2.1 2), .ref (g_ad G 51), .ref (g_ad G 52), .ref (g_ad G 53), .ref (g_ad G 54), .ref (g_ad G 55), .ref (g_ad G 56), .ref (g_ad G 57), .ref (g_ad G 58), .ref (g_ad G 59), .ref (g_ad G 60), .ref (g_ad G 61), .ref (g_ad G 62), .int (nI (M.1 12))]) 14 cl_11 f_RX12_178_11 (by decide) (rfl) rfl rfl rfl (Nat.le_of_ble_eq_true rfl) rfl 69 rfl dX12_rests_66 ?_
            refine a_eq (h2 := g_hp G C (g_hm G (f_mi M 1 (nI ((f_rI (M.1 0) (f_pJ (M.1 0) x9 j9) (j9 + 1) (f_rJ (M.1 0) x9 r9 j9) i9) + Bool.toNat (!(decide ((f_prM (M.1 0) (f_pI (M.1 0) (f_pJ (M.1 0) x9 j9) (j9 + 1) i9) i9 (j9 + 1)) = (f_pI (M.1 0) (f_pJ (M.1 0) x9 j9) (j9 + 1) i9))))))) ++ ob)) rfl rfl rfl (rfl) ?_
            refine a_lload 0 71 rfl dX12_rests_69 rfl ?_
            refine a_lstore_n (lv' := [(3, .long (f_prM (M.1 0) (f_pI (M.1 0) (f_pJ (M.1 0) x9 j9) (j9 + 1) i9) i9 (j9 + 1))), (7, .long (f_prM (M.1 0) (f_pI (M.1 0) (f_pJ (M.1 0) x9 j9) (j9 + 1) i9) i9 (j9 + 1))), (6, .int (nI i9)), (5, .int (nI (j9 + 1))), (0, .ref (g_ad G 38)), (1, .long x)]) 72 rfl dX12_rests_71 rfl (by decide) rfl ?_
            refine a_iinc (y := nI (i9 + 1)) (lv' := [(6, .int (nI (i9 + 1))), (3, .long (f_prM (M.1 0) (f_pI (M.1 0) (f_pJ (M.1 0) x9 j9) (j9 + 1) i9) i9 (j9 + 1))), (7, .long (f_prM (M.1 0) (f_pI (M.1 0) (f_pJ (M.1 0) x9 j9) (j9 + 1) i9) i9 (j9 + 1))), (5, .int (nI (j9 + 1))), (0, .ref (g_ad G 38)), (1, .long x)]) 2 75 rfl dX12_rests_72 rfl (nI_1 i9) (by decide) rfl ?_
            refine a_goto 30 dX12_rests_75 (by decide) ?_
            refine a_sub (lv' := [(6, .int (nI (i9 + 1))), (3, .long (f_pI (M.1 0) (f_pJ (M.1 0) x9 j9) (j9 + 1) (i9 + 1))), (5, .int (nI (j9 + 1))), (0, .ref (g_ad G 38)), (1, .long x)]) [0, 1, 3, 4, 5] rfl ?_
            exact k_i9 trivial
          · skip
            refine a_iload 0 32 rfl dX12_rests_30 rfl ?_
            refine a_iload 2 34 rfl dX12_rests_32 rfl ?_
            refine a_icmp_ge 78 37 rfl dX12_rests_34 (by decide) (fun _ => ?_) (fun hc => absurd (nI_le (a := (j9 + 1)) (b := (j9 + 1)) (by omega) (by omega)) hc)
            refine a_iinc (y := nI ((j9 + 1) + 1)) (lv' := [(5, .int (nI ((j9 + 1) + 1))), (6, .int (nI (j9 + 1))), (3, .long (f_pI (M.1 0) (f_pJ (M.1 0) x9 j9) (j9 + 1) (j9 + 1))), (0, .ref (g_ad G 38)), (1, .long x)]) 2 81 rfl dX12_rests_78 rfl (nI_1 (j9 + 1)) (by decide) rfl ?_
            refine a_goto 18 dX12_rests_81 (by decide) ?_
            refine a_sub (lv' := [(5, .int (nI ((j9 + 1) + 1))), (3, .long (f_pJ (M.1 0) x9 (j9 + 1))), (0, .ref (g_ad G 38)), (1, .long x)]) [0, 2, 3, 4] rfl ?_
            exact k_j9 trivial
        · skip
          refine a_iload 0 20 rfl dX12_rests_18 rfl ?_
          refine a_aload_n 2 21 rfl dX12_rests_20 rfl rfl ?_
          refine a_get 0 cl_11 f_RX12_9_11 (by decide) (rfl) rfl 24 rfl dX12_rests_21 ?_
          refine a_icmp_ge 84 27 rfl dX12_rests_24 (by decide) (fun _ => ?_) (fun hc => absurd (nI_le (a := (M.1 0)) (b := ((M.1 0 - 1) + 1)) (by omega) (by omega)) hc)
          refine a_goto 7 dX12_rests_84 (by decide) ?_
          refine a_sub (lv' := [(3, .long (f_pJ (M.1 0) x9 (M.1 0 - 1))), (0, .ref (g_ad G 38)), (1, .long x)]) [1, 2, 3] rfl ?_
          exact ih _ _ hr
  refine g_Run.of (lv := [(0, .ref (g_ad G 38)), (1, .long x)]) (by decide) (Nat.le_of_ble_eq_true rfl) rfl ?_
  refine a_lload_n 1 1 rfl dX12_rests_0 rfl rfl ?_
  refine a_lstore_n (lv' := [(3, .long x), (0, .ref (g_ad G 38)), (1, .long x)]) 2 rfl dX12_rests_1 rfl (by decide) rfl ?_
  refine a_aload_n 1 3 rfl dX12_rests_2 rfl rfl ?_
  refine a_iconst (x := 0) 4 rfl dX12_rests_3 (by decide) ?_
  refine a_put (fs' := [.int (nI (M.1 0)), .int (nI (M.1 1)), .int (nI (M.1 2)), .int (nI (M.1 3)), .ref (g_ad G 39), .ref (g_ad G 40), .ref (g_ad G 41), .ref (g_ad G 42), .ref (g_ad G 43), .ref (g_ad G 44), .int (M.2.1 0), .ref (g_ad G 45), .int (nI (M.1 4)), .int (nI (M.1 5)), .int 0, .int (M.2.1 2), .long (M.2.2.1 0), .ref (g_ad G 46), .ref (g_ad G 47), .ref (g_ad G 48), .int (nI (M.1 6)), .long (M.2.2.1 1), .int (nI (M.1 7)), .int (nI (M.1 8)), .ref (g_ad G 49), .ref (g_ad G 50), .int (nI (M.1 9)), .int (nI (M.1 10)), .int (nI (M.1 11)), .long (M.2.2.1 2), .ref (g_ad G 51), .ref (g_ad G 52), .ref (g_ad G 53), .ref (g_ad G 54), .ref (g_ad G 55), .ref (g_ad G 56), .ref (g_ad G 57), .ref (g_ad G 58), .ref (g_ad G 59), .ref (g_ad G 60), .ref (g_ad G 61), .ref (g_ad G 62), .int (nI (M.1 12))]) 14 cl_11 f_RX12_178_11 (by decide) (rfl) rfl rfl rfl (Nat.le_of_ble_eq_true rfl) rfl 7 rfl dX12_rests_4 ?_
  refine a_eq (h2 := g_hp G C (g_hm G (f_mi M 1 (nI 0)) ++ ob)) rfl rfl rfl (rfl) ?_
  exact key t x 0 ht
end MP1
