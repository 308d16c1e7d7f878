/-! The model's orders -/
def f_hl (a b : Int32) : Bool := !decide (a &&& (a ^^^ b) &&& (-(a ^^^ b)) = 0)
def f_ah0 (x y : Int32) : Bool := !decide (y ≤ x)
def f_ah2 (x y : Int32) : Bool := cond (decide (f_pop x.toInt64 = f_pop y.toInt64)) (!decide (y ≤ x)) (decide (f_pop x.toInt64 < f_pop y.toInt64))
def f_ah1 (x y : Int32) : Bool := cond (decide (f_pop x.toInt64 = f_pop y.toInt64)) (f_hl x y) (decide (f_pop x.toInt64 < f_pop y.toInt64))
def f_ah3 (a b t : Int32) : Bool := cond (decide ((a ^^^ b) &&& t = 0)) (f_ah1 (a &&& (t ^^^ (-1))) (b &&& (t ^^^ (-1)))) (decide (a &&& t = 0))
def f_ahead (o : Nat) (a b t : Int32) : Bool := match o with
  | 0 => f_ah0 a b
  | 1 => f_ah1 a b
  | 2 => f_ah2 a b
  | _ => f_ah3 a b t
theorem f_ah2T {x y : Int32} (h : decide (f_pop x.toInt64 = f_pop y.toInt64) = true) : (!decide (y ≤ x)) = f_ah2 x y := by rw [f_ah2, h, cond_true]
theorem f_ah2F {x y : Int32} (h : decide (f_pop x.toInt64 = f_pop y.toInt64) = false) : decide (f_pop x.toInt64 < f_pop y.toInt64) = f_ah2 x y := by rw [f_ah2, h, cond_false]
theorem f_ah1T {x y : Int32} (h : decide (f_pop x.toInt64 = f_pop y.toInt64) = true) : f_hl x y = f_ah1 x y := by rw [f_ah1, h, cond_true]
theorem f_ah1F {x y : Int32} (h : decide (f_pop x.toInt64 = f_pop y.toInt64) = false) : decide (f_pop x.toInt64 < f_pop y.toInt64) = f_ah1 x y := by rw [f_ah1, h, cond_false]
theorem f_ah3T {a b t : Int32} (h : decide ((a ^^^ b) &&& t = 0) = true) : f_ah1 (a &&& (t ^^^ (-1))) (b &&& (t ^^^ (-1))) = f_ah3 a b t := by rw [f_ah3, h, cond_true]
theorem f_ah3F {a b t : Int32} (h : decide ((a ^^^ b) &&& t = 0) = false) : decide (a &&& t = 0) = f_ah3 a b t := by rw [f_ah3, h, cond_false]
theorem f_i_ret {a b : Bool} (h : a = b) : some (Value.int (f_i a)) = some (Value.int (f_i b)) := by rw [h]
def f_plM (o n s : Nat) : Nat → Nat
  | 0 => 0
  | t + 1 => f_plM o n s t + Bool.toNat (!decide (t = s) && f_ahead o (nI t) (nI s) (nI (2 ^ (n - 1))))
theorem f_plM_le (o n s : Nat) : ∀ t, f_plM o n s t ≤ t := by
  intro t
  induction t with
  | zero => exact Nat.le_refl _
  | succ t ih => rw [f_plM]; have := Bool.toNat_le (!decide (t = s) && f_ahead o (nI t) (nI s) (nI (2 ^ (n - 1)))); omega
def f_fiM (o n m : Nat) : Int64 := f_or (fun s => cond (decide (f_plM o n s (2 ^ n) < m)) (f_sl 1 (nI s)) 0) (2 ^ n)
def f_odM (o n : Nat) (y : Int32) : Nat → Nat → Int32
  | 0, _ => -2
  | t + 1, s => cond (decide (nI (f_plM o n s (2 ^ n)) = y)) (nI s) (f_odM o n y t (s + 1))
section MD1
variable {G : g_G} {C : f_C} {M : f_M} {ob h : List va_E} {x : Int64} {y y2 y3 a b t : Int32} {i j o s m : Nat} {T : f_T}
theorem r_hlM : g_Run G mX12_hasLeast 1 0 0 [.int a, .int b] h (some (.int (f_i (f_hl a b)))) h := by
  refine g_Run.of (lv := [(0, .int a), (1, .int b)]) (by decide) (Nat.le_of_ble_eq_true rfl) rfl ?_
  refine a_iload_n 0 1 rfl dX12_hasLeast_0 rfl rfl ?_
  refine a_iload_n 1 2 rfl dX12_hasLeast_1 rfl rfl ?_
  refine a_ixor 3 rfl dX12_hasLeast_2 ?_
  refine a_istore_n (lv' := [(2, .int (a ^^^ b)), (0, .int a), (1, .int b)]) 4 rfl dX12_hasLeast_3 rfl (by decide) rfl ?_
  refine a_iload_n 1 5 rfl dX12_hasLeast_4 rfl rfl ?_
  refine a_iload_n 0 6 rfl dX12_hasLeast_5 rfl rfl ?_
  refine a_iand 7 rfl dX12_hasLeast_6 ?_
  refine a_iload_n 0 8 rfl dX12_hasLeast_7 rfl rfl ?_
  refine a_ineg 9 rfl dX12_hasLeast_8 ?_
  refine a_iand 10 rfl dX12_hasLeast_9 ?_
  refine g_sfx (pc := 18) (lv := [(2, .int (a ^^^ b)), (0, .int a), (1, .int b)]) (st := [.int (f_i (!(decide (((a &&& (a ^^^ b)) &&& (-(a ^^^ b))) = 0))))]) (h := h) (fun key => ?_) ?_
  · skip
    rcases Bool.eq_false_or_eq_true (decide (((a &&& (a ^^^ b)) &&& (-(a ^^^ b))) = 0)) with c10_1 | c10_1
    · skip
      refine a_if_eq 17 13 rfl dX12_hasLeast_10 (by decide) (fun _ => ?_) (fun hc => absurd (of_decide_eq_true c10_1) hc)
      refine a_iconst (x := 0) 18 rfl dX12_hasLeast_17 (by decide) ?_
      exact a_eq rfl (rfl) (by rw [c10_1]; rfl) rfl key
    · skip
      refine a_if_eq 17 13 rfl dX12_hasLeast_10 (by decide) (fun hc => absurd hc (of_decide_eq_false c10_1)) (fun _ => ?_)
      refine a_iconst (x := 1) 14 rfl dX12_hasLeast_13 (by decide) ?_
      refine a_goto 18 dX12_hasLeast_14 (by decide) ?_
      exact a_eq rfl (rfl) (by rw [c10_1]; rfl) rfl key
  exact a_ireturn .boolean rfl (f_i_nar _) (rfl) (rfl) dX12_hasLeast_18
theorem r_ah0 {a b t x y : Int32} : g_A G mX12_isAhead 2 0 0 47 [(5, .int y), (4, .int x), (0, .int 0), (1, .int a), (2, .int b), (3, .int t)] [] h (some (.int (f_i (f_ah0 x y)))) h := by
  have hx := f_pop_le x.toInt64
  have hy := f_pop_le y.toInt64
  refine a_iload_n 2 48 rfl dX12_isAhead_47 rfl rfl ?_
  refine a_if_eq 71 51 rfl dX12_isAhead_48 (by decide) (fun _ => ?_) (fun hc => absurd (rfl) hc)
  refine a_iload 1 73 rfl dX12_isAhead_71 rfl ?_
  refine a_iload 0 75 rfl dX12_isAhead_73 rfl ?_
  refine g_sfx (pc := 83) (lv := [(5, .int y), (4, .int x), (0, .int 0), (1, .int a), (2, .int b), (3, .int t)]) (st := [.int (f_i (!(decide (y ≤ x))))]) (h := h) (fun key => ?_) ?_
  · skip
    rcases Bool.eq_false_or_eq_true (decide (y ≤ x)) with c75_1 | c75_1
    · skip
      refine a_icmp_ge 82 78 rfl dX12_isAhead_75 (by decide) (fun _ => ?_) (fun hc => absurd (of_decide_eq_true c75_1) hc)
      refine a_iconst (x := 0) 83 rfl dX12_isAhead_82 (by decide) ?_
      exact a_eq rfl (rfl) (by rw [c75_1]; rfl) rfl key
    · skip
      refine a_icmp_ge 82 78 rfl dX12_isAhead_75 (by decide) (fun hc => absurd hc (of_decide_eq_false c75_1)) (fun _ => ?_)
      refine a_iconst (x := 1) 79 rfl dX12_isAhead_78 (by decide) ?_
      refine a_goto 83 dX12_isAhead_79 (by decide) ?_
      exact a_eq rfl (rfl) (by rw [c75_1]; rfl) rfl key
  exact a_ireturn .boolean rfl (f_i_nar _) (rfl) (rfl) dX12_isAhead_83
theorem r_ah1 {a b t x y : Int32} : g_A G mX12_isAhead 2 0 0 47 [(5, .int y), (4, .int x), (0, .int 1), (1, .int a), (2, .int b), (3, .int t)] [] h (some (.int (f_i (f_ah1 x y)))) h := by
  have hx := f_pop_le x.toInt64
  have hy := f_pop_le y.toInt64
  refine a_iload_n 2 48 rfl dX12_isAhead_47 rfl rfl ?_
  refine a_if_eq 71 51 rfl dX12_isAhead_48 (by decide) (fun hc => absurd hc ((by decide))) (fun _ => ?_)
  refine a_iload 1 53 rfl dX12_isAhead_51 rfl ?_
  refine a_i2l 54 rfl dX12_isAhead_53 ?_
  refine a_callS (as := [.long x.toInt64]) (rest := []) (st2 := [.int (nI (f_pop x.toInt64))]) (u1 := 0) (v1 := 0) (u2 := 0) (v2 := 0) (r_many) oX12_many q_1311 q_1312 rfl (by omega) (by decide) rfl (Nat.le_of_ble_eq_true rfl) 57 rfl dX12_isAhead_54 rfl ?_
  refine a_iload 0 59 rfl dX12_isAhead_57 rfl ?_
  refine a_i2l 60 rfl dX12_isAhead_59 ?_
  refine a_callS (as := [.long y.toInt64]) (rest := [.int (nI (f_pop x.toInt64))]) (st2 := [.int (nI (f_pop y.toInt64)), .int (nI (f_pop x.toInt64))]) (u1 := 0) (v1 := 0) (u2 := 0) (v2 := 0) (r_many) oX12_many q_1311 q_1312 rfl (by omega) (by decide) rfl (Nat.le_of_ble_eq_true rfl) 63 rfl dX12_isAhead_60 rfl ?_
  rcases Bool.eq_false_or_eq_true (decide (f_pop x.toInt64 = f_pop y.toInt64)) with e1 | e1
  · skip
    refine a_icmp_ne 84 66 rfl dX12_isAhead_63 (by decide) (fun hc => absurd (congrArg nI (of_decide_eq_true e1)) hc) (fun _ => ?_)
    refine a_iload_n 2 67 rfl dX12_isAhead_66 rfl rfl ?_
    refine a_iconst (x := 2) 68 rfl dX12_isAhead_67 (by decide) ?_
    refine a_icmp_ne 84 71 rfl dX12_isAhead_68 (by decide) (fun _ => ?_) (fun hc => absurd hc ((by decide)))
    refine a_iload 1 86 rfl dX12_isAhead_84 rfl ?_
    refine a_i2l 87 rfl dX12_isAhead_86 ?_
    refine a_callS (as := [.long x.toInt64]) (rest := []) (st2 := [.int (nI (f_pop x.toInt64))]) (u1 := 0) (v1 := 0) (u2 := 0) (v2 := 0) (r_many) oX12_many q_1311 q_1312 rfl (by omega) (by decide) rfl (Nat.le_of_ble_eq_true rfl) 90 rfl dX12_isAhead_87 rfl ?_
    refine a_iload 0 92 rfl dX12_isAhead_90 rfl ?_
    refine a_i2l 93 rfl dX12_isAhead_92 ?_
    refine a_callS (as := [.long y.toInt64]) (rest := [.int (nI (f_pop x.toInt64))]) (st2 := [.int (nI (f_pop y.toInt64)), .int (nI (f_pop x.toInt64))]) (u1 := 0) (v1 := 0) (u2 := 0) (v2 := 0) (r_many) oX12_many q_1311 q_1312 rfl (by omega) (by decide) rfl (Nat.le_of_ble_eq_true rfl) 96 rfl dX12_isAhead_93 rfl ?_
    refine a_icmp_eq 122 99 rfl dX12_isAhead_96 (by decide) (fun _ => ?_) (fun hc => absurd (congrArg nI (of_decide_eq_true e1)) hc)
    refine a_iload 1 124 rfl dX12_isAhead_122 rfl ?_
    refine a_iload 0 126 rfl dX12_isAhead_124 rfl ?_
    refine a_callS (as := [.int x, .int y]) (rest := []) (st2 := [.int (f_i (f_hl x y))]) (u1 := 0) (v1 := 0) (u2 := 0) (v2 := 0) (r_hlM) oX12_hasLeast q_1385 q_1386 rfl (by omega) (by decide) rfl (Nat.le_of_ble_eq_true rfl) 129 rfl dX12_isAhead_126 rfl ?_
    exact a_ireturn .boolean rfl (f_i_nar _) (f_i_ret (f_ah1T e1)) (rfl) dX12_isAhead_129
  · skip
    refine a_icmp_ne 84 66 rfl dX12_isAhead_63 (by decide) (fun _ => ?_) (fun hc => absurd hc (fun z9 => of_decide_eq_false e1 (nI_inj9 (a := (f_pop x.toInt64)) (b := (f_pop y.toInt64)) (by omega) (by omega) z9)))
    refine a_iload 1 86 rfl dX12_isAhead_84 rfl ?_
    refine a_i2l 87 rfl dX12_isAhead_86 ?_
    refine a_callS (as := [.long x.toInt64]) (rest := []) (st2 := [.int (nI (f_pop x.toInt64))]) (u1 := 0) (v1 := 0) (u2 := 0) (v2 := 0) (r_many) oX12_many q_1311 q_1312 rfl (by omega) (by decide) rfl (Nat.le_of_ble_eq_true rfl) 90 rfl dX12_isAhead_87 rfl ?_
    refine a_iload 0 92 rfl dX12_isAhead_90 rfl ?_
    refine a_i2l 93 rfl dX12_isAhead_92 ?_
    refine a_callS (as := [.long y.toInt64]) (rest := [.int (nI (f_pop x.toInt64))]) (st2 := [.int (nI (f_pop y.toInt64)), .int (nI (f_pop x.toInt64))]) (u1 := 0) (v1 := 0) (u2 := 0) (v2 := 0) (r_many) oX12_many q_1311 q_1312 rfl (by omega) (by decide) rfl (Nat.le_of_ble_eq_true rfl) 96 rfl dX12_isAhead_93 rfl ?_
    refine a_icmp_eq 122 99 rfl dX12_isAhead_96 (by decide) (fun hc => absurd hc (fun z9 => of_decide_eq_false e1 (nI_inj9 (a := (f_pop x.toInt64)) (b := (f_pop y.toInt64)) (by omega) (by omega) z9))) (fun _ => ?_)
    refine a_iload 1 101 rfl dX12_isAhead_99 rfl ?_
    refine a_i2l 102 rfl dX12_isAhead_101 ?_
    refine a_callS (as := [.long x.toInt64]) (rest := []) (st2 := [.int (nI (f_pop x.toInt64))]) (u1 := 0) (v1 := 0) (u2 := 0) (v2 := 0) (r_many) oX12_many q_1311 q_1312 rfl (by omega) (by decide) rfl (Nat.le_of_ble_eq_true rfl) 105 rfl dX12_isAhead_102 rfl ?_
    refine a_iload 0 107 rfl dX12_isAhead_105 rfl ?_
    refine a_i2l 108 rfl dX12_isAhead_107 ?_
    refine a_callS (as := [.long y.toInt64]) (rest := [.int (nI (f_pop x.toInt64))]) (st2 := [.int (nI (f_pop y.toInt64)), .int (nI (f_pop x.toInt64))]) (u1 := 0) (v1 := 0) (u2 := 0) (v2 := 0) (r_many) oX12_many q_1311 q_1312 rfl (by omega) (by decide) rfl (Nat.le_of_ble_eq_true rfl) 111 rfl dX12_isAhead_108 rfl ?_
    refine g_sfx (pc := 129) (lv := [(5, .int y), (4, .int x), (0, .int 1), (1, .int a), (2, .int b), (3, .int t)]) (st := [.int (f_i (decide ((f_pop x.toInt64) < (f_pop y.toInt64))))]) (h := h) (fun key => ?_) ?_
    · skip
      rcases Bool.eq_false_or_eq_true (decide ((f_pop x.toInt64) < (f_pop y.toInt64))) with c111_1 | c111_1
      · skip
        refine a_icmp_ge 118 114 rfl dX12_isAhead_111 (by decide) (fun hc => absurd hc (nI_ge (a := (f_pop x.toInt64)) (b := (f_pop y.toInt64)) (of_decide_eq_true c111_1) (by omega))) (fun _ => ?_)
        refine a_iconst (x := 1) 115 rfl dX12_isAhead_114 (by decide) ?_
        refine a_goto 129 dX12_isAhead_115 (by decide) ?_
        exact a_eq rfl (rfl) (by rw [c111_1]; rfl) rfl key
      · skip
        refine a_icmp_ge 118 114 rfl dX12_isAhead_111 (by decide) (fun _ => ?_) (fun hc => absurd (nI_le (a := (f_pop y.toInt64)) (b := (f_pop x.toInt64)) (by have := of_decide_eq_false c111_1; omega) (by omega)) hc)
        refine a_iconst (x := 0) 119 rfl dX12_isAhead_118 (by decide) ?_
        refine a_goto 129 dX12_isAhead_119 (by decide) ?_
        exact a_eq rfl (rfl) (by rw [c111_1]; rfl) rfl key
    exact a_ireturn .boolean rfl (f_i_nar _) (f_i_ret (f_ah1F e1)) (rfl) dX12_isAhead_129
theorem r_ah2 {a b t x y : Int32} : g_A G mX12_isAhead 2 0 0 47 [(5, .int y), (4, .int x), (0, .int 2), (1, .int a), (2, .int b), (3, .int t)] [] h (some (.int (f_i (f_ah2 x y)))) h := by
  have hx := f_pop_le x.toInt64
  have hy := f_pop_le y.toInt64
  refine a_iload_n 2 48 rfl dX12_isAhead_47 rfl rfl ?_
  refine a_if_eq 71 51 rfl dX12_isAhead_48 (by decide) (fun hc => absurd hc ((by decide))) (fun _ => ?_)
  refine a_iload 1 53 rfl dX12_isAhead_51 rfl ?_
  refine a_i2l 54 rfl dX12_isAhead_53 ?_
  refine a_callS (as := [.long x.toInt64]) (rest := []) (st2 := [.int (nI (f_pop x.toInt64))]) (u1 := 0) (v1 := 0) (u2 := 0) (v2 := 0) (r_many) oX12_many q_1311 q_1312 rfl (by omega) (by decide) rfl (Nat.le_of_ble_eq_true rfl) 57 rfl dX12_isAhead_54 rfl ?_
  refine a_iload 0 59 rfl dX12_isAhead_57 rfl ?_
  refine a_i2l 60 rfl dX12_isAhead_59 ?_
  refine a_callS (as := [.long y.toInt64]) (rest := [.int (nI (f_pop x.toInt64))]) (st2 := [.int (nI (f_pop y.toInt64)), .int (nI (f_pop x.toInt64))]) (u1 := 0) (v1 := 0) (u2 := 0) (v2 := 0) (r_many) oX12_many q_1311 q_1312 rfl (by omega) (by decide) rfl (Nat.le_of_ble_eq_true rfl) 63 rfl dX12_isAhead_60 rfl ?_
  rcases Bool.eq_false_or_eq_true (decide (f_pop x.toInt64 = f_pop y.toInt64)) with e1 | e1
  · skip
    refine a_icmp_ne 84 66 rfl dX12_isAhead_63 (by decide) (fun hc => absurd (congrArg nI (of_decide_eq_true e1)) hc) (fun _ => ?_)
    refine a_iload_n 2 67 rfl dX12_isAhead_66 rfl rfl ?_
    refine a_iconst (x := 2) 68 rfl dX12_isAhead_67 (by decide) ?_
    refine a_icmp_ne 84 71 rfl dX12_isAhead_68 (by decide) (fun hc => absurd (rfl) hc) (fun _ => ?_)
    refine a_iload 1 73 rfl dX12_isAhead_71 rfl ?_
    refine a_iload 0 75 rfl dX12_isAhead_73 rfl ?_
    refine g_sfx (pc := 83) (lv := [(5, .int y), (4, .int x), (0, .int 2), (1, .int a), (2, .int b), (3, .int t)]) (st := [.int (f_i (!(decide (y ≤ x))))]) (h := h) (fun key => ?_) ?_
    · skip
      rcases Bool.eq_false_or_eq_true (decide (y ≤ x)) with c75_1 | c75_1
      · skip
        refine a_icmp_ge 82 78 rfl dX12_isAhead_75 (by decide) (fun _ => ?_) (fun hc => absurd (of_decide_eq_true c75_1) hc)
        refine a_iconst (x := 0) 83 rfl dX12_isAhead_82 (by decide) ?_
        exact a_eq rfl (rfl) (by rw [c75_1]; rfl) rfl key
      · skip
        refine a_icmp_ge 82 78 rfl dX12_isAhead_75 (by decide) (fun hc => absurd hc (of_decide_eq_false c75_1)) (fun _ => ?_)
        refine a_iconst (x := 1) 79 rfl dX12_isAhead_78 (by decide) ?_
        refine a_goto 83 dX12_isAhead_79 (by decide) ?_
        exact a_eq rfl (rfl) (by rw [c75_1]; rfl) rfl key
    exact a_ireturn .boolean rfl (f_i_nar _) (f_i_ret (f_ah2T e1)) (rfl) dX12_isAhead_83
  · skip
    refine a_icmp_ne 84 66 rfl dX12_isAhead_63 (by decide) (fun _ => ?_) (fun hc => absurd hc (fun z9 => of_decide_eq_false e1 (nI_inj9 (a := (f_pop x.toInt64)) (b := (f_pop y.toInt64)) (by omega) (by omega) z9)))
    refine a_iload 1 86 rfl dX12_isAhead_84 rfl ?_
    refine a_i2l 87 rfl dX12_isAhead_86 ?_
    refine a_callS (as := [.long x.toInt64]) (rest := []) (st2 := [.int (nI (f_pop x.toInt64))]) (u1 := 0) (v1 := 0) (u2 := 0) (v2 := 0) (r_many) oX12_many q_1311 q_1312 rfl (by omega) (by decide) rfl (Nat.le_of_ble_eq_true rfl) 90 rfl dX12_isAhead_87 rfl ?_
    refine a_iload 0 92 rfl dX12_isAhead_90 rfl ?_
    refine a_i2l 93 rfl dX12_isAhead_92 ?_
    refine a_callS (as := [.long y.toInt64]) (rest := [.int (nI (f_pop x.toInt64))]) (st2 := [.int (nI (f_pop y.toInt64)), .int (nI (f_pop x.toInt64))]) (u1 := 0) (v1 := 0) (u2 := 0) (v2 := 0) (r_many) oX12_many q_1311 q_1312 rfl (by omega) (by decide) rfl (Nat.le_of_ble_eq_true rfl) 96 rfl dX12_isAhead_93 rfl ?_
    refine a_icmp_eq 122 99 rfl dX12_isAhead_96 (by decide) (fun hc => absurd hc (fun z9 => of_decide_eq_false e1 (nI_inj9 (a := (f_pop x.toInt64)) (b := (f_pop y.toInt64)) (by omega) (by omega) z9))) (fun _ => ?_)
    refine a_iload 1 101 rfl dX12_isAhead_99 rfl ?_
    refine a_i2l 102 rfl dX12_isAhead_101 ?_
    refine a_callS (as := [.long x.toInt64]) (rest := []) (st2 := [.int (nI (f_pop x.toInt64))]) (u1 := 0) (v1 := 0) (u2 := 0) (v2 := 0) (r_many) oX12_many q_1311 q_1312 rfl (by omega) (by decide) rfl (Nat.le_of_ble_eq_true rfl) 105 rfl dX12_isAhead_102 rfl ?_
    refine a_iload 0 107 rfl dX12_isAhead_105 rfl ?_
    refine a_i2l 108 rfl dX12_isAhead_107 ?_
    refine a_callS (as := [.long y.toInt64]) (rest := [.int (nI (f_pop x.toInt64))]) (st2 := [.int (nI (f_pop y.toInt64)), .int (nI (f_pop x.toInt64))]) (u1 := 0) (v1 := 0) (u2 := 0) (v2 := 0) (r_many) oX12_many q_1311 q_1312 rfl (by omega) (by decide) rfl (Nat.le_of_ble_eq_true rfl) 111 rfl dX12_isAhead_108 rfl ?_
    refine g_sfx (pc := 129) (lv := [(5, .int y), (4, .int x), (0, .int 2), (1, .int a), (2, .int b), (3, .int t)]) (st := [.int (f_i (decide ((f_pop x.toInt64) < (f_pop y.toInt64))))]) (h := h) (fun key => ?_) ?_
    · skip
      rcases Bool.eq_false_or_eq_true (decide ((f_pop x.toInt64) < (f_pop y.toInt64))) with c111_1 | c111_1
      · skip
        refine a_icmp_ge 118 114 rfl dX12_isAhead_111 (by decide) (fun hc => absurd hc (nI_ge (a := (f_pop x.toInt64)) (b := (f_pop y.toInt64)) (of_decide_eq_true c111_1) (by omega))) (fun _ => ?_)
        refine a_iconst (x := 1) 115 rfl dX12_isAhead_114 (by decide) ?_
        refine a_goto 129 dX12_isAhead_115 (by decide) ?_
        exact a_eq rfl (rfl) (by rw [c111_1]; rfl) rfl key
      · skip
        refine a_icmp_ge 118 114 rfl dX12_isAhead_111 (by decide) (fun _ => ?_) (fun hc => absurd (nI_le (a := (f_pop y.toInt64)) (b := (f_pop x.toInt64)) (by have := of_decide_eq_false c111_1; omega) (by omega)) hc)
        refine a_iconst (x := 0) 119 rfl dX12_isAhead_118 (by decide) ?_
        refine a_goto 129 dX12_isAhead_119 (by decide) ?_
        exact a_eq rfl (rfl) (by rw [c111_1]; rfl) rfl key
    exact a_ireturn .boolean rfl (f_i_nar _) (f_i_ret (f_ah2F e1)) (rfl) dX12_isAhead_129
theorem r_ah3 {a b t x y : Int32} : g_A G mX12_isAhead 2 0 0 47 [(5, .int y), (4, .int x), (0, .int 3), (1, .int a), (2, .int b), (3, .int t)] [] h (some (.int (f_i (f_ah1 x y)))) h := by
  have hx := f_pop_le x.toInt64
  have hy := f_pop_le y.toInt64
  refine a_iload_n 2 48 rfl dX12_isAhead_47 rfl rfl ?_
  refine a_if_eq 71 51 rfl dX12_isAhead_48 (by decide) (fun hc => absurd hc ((by decide))) (fun _ => ?_)
  refine a_iload 1 53 rfl dX12_isAhead_51 rfl ?_
  refine a_i2l 54 rfl dX12_isAhead_53 ?_
  refine a_callS (as := [.long x.toInt64]) (rest := []) (st2 := [.int (nI (f_pop x.toInt64))]) (u1 := 0) (v1 := 0) (u2 := 0) (v2 := 0) (r_many) oX12_many q_1311 q_1312 rfl (by omega) (by decide) rfl (Nat.le_of_ble_eq_true rfl) 57 rfl dX12_isAhead_54 rfl ?_
  refine a_iload 0 59 rfl dX12_isAhead_57 rfl ?_
  refine a_i2l 60 rfl dX12_isAhead_59 ?_
  refine a_callS (as := [.long y.toInt64]) (rest := [.int (nI (f_pop x.toInt64))]) (st2 := [.int (nI (f_pop y.toInt64)), .int (nI (f_pop x.toInt64))]) (u1 := 0) (v1 := 0) (u2 := 0) (v2 := 0) (r_many) oX12_many q_1311 q_1312 rfl (by omega) (by decide) rfl (Nat.le_of_ble_eq_true rfl) 63 rfl dX12_isAhead_60 rfl ?_
  rcases Bool.eq_false_or_eq_true (decide (f_pop x.toInt64 = f_pop y.toInt64)) with e1 | e1
  · skip
    refine a_icmp_ne 84 66 rfl dX12_isAhead_63 (by decide) (fun hc => absurd (congrArg nI (of_decide_eq_true e1)) hc) (fun _ => ?_)
    refine a_iload_n 2 67 rfl dX12_isAhead_66 rfl rfl ?_
    refine a_iconst (x := 2) 68 rfl dX12_isAhead_67 (by decide) ?_
    refine a_icmp_ne 84 71 rfl dX12_isAhead_68 (by decide) (fun _ => ?_) (fun hc => absurd hc ((by decide)))
    refine a_iload 1 86 rfl dX12_isAhead_84 rfl ?_
    refine a_i2l 87 rfl dX12_isAhead_86 ?_
    refine a_callS (as := [.long x.toInt64]) (rest := []) (st2 := [.int (nI (f_pop x.toInt64))]) (u1 := 0) (v1 := 0) (u2 := 0) (v2 := 0) (r_many) oX12_many q_1311 q_1312 rfl (by omega) (by decide) rfl (Nat.le_of_ble_eq_true rfl) 90 rfl dX12_isAhead_87 rfl ?_
    refine a_iload 0 92 rfl dX12_isAhead_90 rfl ?_
    refine a_i2l 93 rfl dX12_isAhead_92 ?_
    refine a_callS (as := [.long y.toInt64]) (rest := [.int (nI (f_pop x.toInt64))]) (st2 := [.int (nI (f_pop y.toInt64)), .int (nI (f_pop x.toInt64))]) (u1 := 0) (v1 := 0) (u2 := 0) (v2 := 0) (r_many) oX12_many q_1311 q_1312 rfl (by omega) (by decide) rfl (Nat.le_of_ble_eq_true rfl) 96 rfl dX12_isAhead_93 rfl ?_
    refine a_icmp_eq 122 99 rfl dX12_isAhead_96 (by decide) (fun _ => ?_) (fun hc => absurd (congrArg nI (of_decide_eq_true e1)) hc)
    refine a_iload 1 124 rfl dX12_isAhead_122 rfl ?_
    refine a_iload 0 126 rfl dX12_isAhead_124 rfl ?_
    refine a_callS (as := [.int x, .int y]) (rest := []) (st2 := [.int (f_i (f_hl x y))]) (u1 := 0) (v1 := 0) (u2 := 0) (v2 := 0) (r_hlM) oX12_hasLeast q_1385 q_1386 rfl (by omega) (by decide) rfl (Nat.le_of_ble_eq_true rfl) 129 rfl dX12_isAhead_126 rfl ?_
    exact a_ireturn .boolean rfl (f_i_nar _) (f_i_ret (f_ah1T e1)) (rfl) dX12_isAhead_129
  · skip
    refine a_icmp_ne 84 66 rfl dX12_isAhead_63 (by decide) (fun _ => ?_) (fun hc => absurd hc (fun z9 => of_decide_eq_false e1 (nI_inj9 (a := (f_pop x.toInt64)) (b := (f_pop y.toInt64)) (by omega) (by omega) z9)))
    refine a_iload 1 86 rfl dX12_isAhead_84 rfl ?_
    refine a_i2l 87 rfl dX12_isAhead_86 ?_
    refine a_callS (as := [.long x.toInt64]) (rest := []) (st2 := [.int (nI (f_pop x.toInt64))]) (u1 := 0) (v1 := 0) (u2 := 0) (v2 := 0) (r_many) oX12_many q_1311 q_1312 rfl (by omega) (by decide) rfl (Nat.le_of_ble_eq_true rfl) 90 rfl dX12_isAhead_87 rfl ?_
    refine a_iload 0 92 rfl dX12_isAhead_90 rfl ?_
    refine a_i2l 93 rfl dX12_isAhead_92 ?_
    refine a_callS (as := [.long y.toInt64]) (rest := [.int (nI (f_pop x.toInt64))]) (st2 := [.int (nI (f_pop y.toInt64)), .int (nI (f_pop x.toInt64))]) (u1 := 0) (v1 := 0) (u2 := 0) (v2 := 0) (r_many) oX12_many q_1311 q_1312 rfl (by omega) (by decide) rfl (Nat.le_of_ble_eq_true rfl) 96 rfl dX12_isAhead_93 rfl ?_
    refine a_icmp_eq 122 99 rfl dX12_isAhead_96 (by decide) (fun hc => absurd hc (fun z9 => of_decide_eq_false e1 (nI_inj9 (a := (f_pop x.toInt64)) (b := (f_pop y.toInt64)) (by omega) (by omega) z9))) (fun _ => ?_)
    refine a_iload 1 101 rfl dX12_isAhead_99 rfl ?_
    refine a_i2l 102 rfl dX12_isAhead_101 ?_
    refine a_callS (as := [.long x.toInt64]) (rest := []) (st2 := [.int (nI (f_pop x.toInt64))]) (u1 := 0) (v1 := 0) (u2 := 0) (v2 := 0) (r_many) oX12_many q_1311 q_1312 rfl (by omega) (by decide) rfl (Nat.le_of_ble_eq_true rfl) 105 rfl dX12_isAhead_102 rfl ?_
    refine a_iload 0 107 rfl dX12_isAhead_105 rfl ?_
    refine a_i2l 108 rfl dX12_isAhead_107 ?_
    refine a_callS (as := [.long y.toInt64]) (rest := [.int (nI (f_pop x.toInt64))]) (st2 := [.int (nI (f_pop y.toInt64)), .int (nI (f_pop x.toInt64))]) (u1 := 0) (v1 := 0) (u2 := 0) (v2 := 0) (r_many) oX12_many q_1311 q_1312 rfl (by omega) (by decide) rfl (Nat.le_of_ble_eq_true rfl) 111 rfl dX12_isAhead_108 rfl ?_
    refine g_sfx (pc := 129) (lv := [(5, .int y), (4, .int x), (0, .int 3), (1, .int a), (2, .int b), (3, .int t)]) (st := [.int (f_i (decide ((f_pop x.toInt64) < (f_pop y.toInt64))))]) (h := h) (fun key => ?_) ?_
    · skip
      rcases Bool.eq_false_or_eq_true (decide ((f_pop x.toInt64) < (f_pop y.toInt64))) with c111_1 | c111_1
      · skip
        refine a_icmp_ge 118 114 rfl dX12_isAhead_111 (by decide) (fun hc => absurd hc (nI_ge (a := (f_pop x.toInt64)) (b := (f_pop y.toInt64)) (of_decide_eq_true c111_1) (by omega))) (fun _ => ?_)
        refine a_iconst (x := 1) 115 rfl dX12_isAhead_114 (by decide) ?_
        refine a_goto 129 dX12_isAhead_115 (by decide) ?_
        exact a_eq rfl (rfl) (by rw [c111_1]; rfl) rfl key
      · skip
        refine a_icmp_ge 118 114 rfl dX12_isAhead_111 (by decide) (fun _ => ?_) (fun hc => absurd (nI_le (a := (f_pop y.toInt64)) (b := (f_pop x.toInt64)) (by have := of_decide_eq_false c111_1; omega) (by omega)) hc)
        refine a_iconst (x := 0) 119 rfl dX12_isAhead_118 (by decide) ?_
        refine a_goto 129 dX12_isAhead_119 (by decide) ?_
        exact a_eq rfl (rfl) (by rw [c111_1]; rfl) rfl key
    exact a_ireturn .boolean rfl (f_i_nar _) (f_i_ret (f_ah1F e1)) (rfl) dX12_isAhead_129
theorem r_ahead0 : g_Run G mX12_isAhead 2 0 0 [.int 0, .int a, .int b, .int t] h (some (.int (f_i (f_ah0 a b)))) h := by
  refine g_Run.of (lv := [(0, .int 0), (1, .int a), (2, .int b), (3, .int t)]) (by decide) (Nat.le_of_ble_eq_true rfl) rfl ?_
  refine a_iload_n 1 1 rfl dX12_isAhead_0 rfl rfl ?_
  refine a_istore (lv' := [(4, .int a), (0, .int 0), (1, .int a), (2, .int b), (3, .int t)]) 3 rfl dX12_isAhead_1 (by decide) rfl ?_
  refine a_iload_n 3 4 rfl dX12_isAhead_3 rfl rfl ?_
  refine a_istore (lv' := [(5, .int b), (4, .int a), (0, .int 0), (1, .int a), (2, .int b), (3, .int t)]) 6 rfl dX12_isAhead_4 (by decide) rfl ?_
  refine a_iload_n 2 7 rfl dX12_isAhead_6 rfl rfl ?_
  refine a_iconst (x := 3) 8 rfl dX12_isAhead_7 (by decide) ?_
  refine a_icmp_ne 47 11 rfl dX12_isAhead_8 (by decide) (fun _ => ?_) (fun hc => absurd hc ((by decide)))
  exact r_ah0

theorem r_ahead1 : g_Run G mX12_isAhead 2 0 0 [.int 1, .int a, .int b, .int t] h (some (.int (f_i (f_ah1 a b)))) h := by
  refine g_Run.of (lv := [(0, .int 1), (1, .int a), (2, .int b), (3, .int t)]) (by decide) (Nat.le_of_ble_eq_true rfl) rfl ?_
  refine a_iload_n 1 1 rfl dX12_isAhead_0 rfl rfl ?_
  refine a_istore (lv' := [(4, .int a), (0, .int 1), (1, .int a), (2, .int b), (3, .int t)]) 3 rfl dX12_isAhead_1 (by decide) rfl ?_
  refine a_iload_n 3 4 rfl dX12_isAhead_3 rfl rfl ?_
  refine a_istore (lv' := [(5, .int b), (4, .int a), (0, .int 1), (1, .int a), (2, .int b), (3, .int t)]) 6 rfl dX12_isAhead_4 (by decide) rfl ?_
  refine a_iload_n 2 7 rfl dX12_isAhead_6 rfl rfl ?_
  refine a_iconst (x := 3) 8 rfl dX12_isAhead_7 (by decide) ?_
  refine a_icmp_ne 47 11 rfl dX12_isAhead_8 (by decide) (fun _ => ?_) (fun hc => absurd hc ((by decide)))
  exact r_ah1

theorem r_ahead2 : g_Run G mX12_isAhead 2 0 0 [.int 2, .int a, .int b, .int t] h (some (.int (f_i (f_ah2 a b)))) h := by
  refine g_Run.of (lv := [(0, .int 2), (1, .int a), (2, .int b), (3, .int t)]) (by decide) (Nat.le_of_ble_eq_true rfl) rfl ?_
  refine a_iload_n 1 1 rfl dX12_isAhead_0 rfl rfl ?_
  refine a_istore (lv' := [(4, .int a), (0, .int 2), (1, .int a), (2, .int b), (3, .int t)]) 3 rfl dX12_isAhead_1 (by decide) rfl ?_
  refine a_iload_n 3 4 rfl dX12_isAhead_3 rfl rfl ?_
  refine a_istore (lv' := [(5, .int b), (4, .int a), (0, .int 2), (1, .int a), (2, .int b), (3, .int t)]) 6 rfl dX12_isAhead_4 (by decide) rfl ?_
  refine a_iload_n 2 7 rfl dX12_isAhead_6 rfl rfl ?_
  refine a_iconst (x := 3) 8 rfl dX12_isAhead_7 (by decide) ?_
  refine a_icmp_ne 47 11 rfl dX12_isAhead_8 (by decide) (fun _ => ?_) (fun hc => absurd hc ((by decide)))
  exact r_ah2

theorem r_ahead3 : g_Run G mX12_isAhead 2 0 0 [.int 3, .int a, .int b, .int t] h (some (.int (f_i (f_ah3 a b t)))) h := by
  refine g_Run.of (lv := [(0, .int 3), (1, .int a), (2, .int b), (3, .int t)]) (by decide) (Nat.le_of_ble_eq_true rfl) rfl ?_
  refine a_iload_n 1 1 rfl dX12_isAhead_0 rfl rfl ?_
  refine a_istore (lv' := [(4, .int a), (0, .int 3), (1, .int a), (2, .int b), (3, .int t)]) 3 rfl dX12_isAhead_1 (by decide) rfl ?_
  refine a_iload_n 3 4 rfl dX12_isAhead_3 rfl rfl ?_
  refine a_istore (lv' := [(5, .int b), (4, .int a), (0, .int 3), (1, .int a), (2, .int b), (3, .int t)]) 6 rfl dX12_isAhead_4 (by decide) rfl ?_
  refine a_iload_n 2 7 rfl dX12_isAhead_6 rfl rfl ?_
  refine a_iconst (x := 3) 8 rfl dX12_isAhead_7 (by decide) ?_
  refine a_icmp_ne 47 11 rfl dX12_isAhead_8 (by decide) (fun hc => absurd ((by decide)) hc) (fun _ => ?_)
  refine a_iload_n 3 12 rfl dX12_isAhead_11 rfl rfl ?_
  refine a_iload_n 4 13 rfl dX12_isAhead_12 rfl rfl ?_
  refine a_ixor 14 rfl dX12_isAhead_13 ?_
  refine a_iload_n 5 15 rfl dX12_isAhead_14 rfl rfl ?_
  refine a_iand 16 rfl dX12_isAhead_15 ?_
  rcases Bool.eq_false_or_eq_true (decide ((a ^^^ b) &&& t = 0)) with e1 | e1
  · skip
    refine a_if_eq 31 19 rfl dX12_isAhead_16 (by decide) (fun _ => ?_) (fun hc => absurd (of_decide_eq_true e1) hc)
    refine a_iload 1 33 rfl dX12_isAhead_31 rfl ?_
    refine a_iload_n 5 34 rfl dX12_isAhead_33 rfl rfl ?_
    refine a_iconst (x := (-1)) 35 rfl dX12_isAhead_34 (by decide) ?_
    refine a_ixor 36 rfl dX12_isAhead_35 ?_
    refine a_iand 37 rfl dX12_isAhead_36 ?_
    refine a_istore (lv' := [(4, .int (a &&& (t ^^^ (-1)))), (5, .int b), (0, .int 3), (1, .int a), (2, .int b), (3, .int t)]) 39 rfl dX12_isAhead_37 (by decide) rfl ?_
    refine a_iload 1 41 rfl dX12_isAhead_39 rfl ?_
    refine a_iload_n 5 42 rfl dX12_isAhead_41 rfl rfl ?_
    refine a_iconst (x := (-1)) 43 rfl dX12_isAhead_42 (by decide) ?_
    refine a_ixor 44 rfl dX12_isAhead_43 ?_
    refine a_iand 45 rfl dX12_isAhead_44 ?_
    refine a_istore (lv' := [(5, .int (b &&& (t ^^^ (-1)))), (4, .int (a &&& (t ^^^ (-1)))), (0, .int 3), (1, .int a), (2, .int b), (3, .int t)]) 47 rfl dX12_isAhead_45 (by decide) rfl ?_
    have w := r_ah3 (G := G) (h := h) (a := a) (b := b) (t := t) (x := a &&& (t ^^^ (-1))) (y := b &&& (t ^^^ (-1)))
    rw [f_ah3T e1] at w
    exact w
  · skip
    refine a_if_eq 31 19 rfl dX12_isAhead_16 (by decide) (fun hc => absurd hc (of_decide_eq_false e1)) (fun _ => ?_)
    refine a_iload_n 3 20 rfl dX12_isAhead_19 rfl rfl ?_
    refine a_iload_n 5 21 rfl dX12_isAhead_20 rfl rfl ?_
    refine a_iand 22 rfl dX12_isAhead_21 ?_
    refine g_sfx (pc := 30) (lv := [(5, .int b), (4, .int a), (0, .int 3), (1, .int a), (2, .int b), (3, .int t)]) (st := [.int (f_i (decide ((a &&& t) = 0)))]) (h := h) (fun key => ?_) ?_
    · skip
      rcases Bool.eq_false_or_eq_true (decide ((a &&& t) = 0)) with c22_1 | c22_1
      · skip
        refine a_if_ne 29 25 rfl dX12_isAhead_22 (by decide) (fun hc => absurd (of_decide_eq_true c22_1) hc) (fun _ => ?_)
        refine a_iconst (x := 1) 26 rfl dX12_isAhead_25 (by decide) ?_
        refine a_goto 30 dX12_isAhead_26 (by decide) ?_
        exact a_eq rfl (rfl) (by rw [c22_1]; rfl) rfl key
      · skip
        refine a_if_ne 29 25 rfl dX12_isAhead_22 (by decide) (fun _ => ?_) (fun hc => absurd hc (of_decide_eq_false c22_1))
        refine a_iconst (x := 0) 30 rfl dX12_isAhead_29 (by decide) ?_
        exact a_eq rfl (rfl) (by rw [c22_1]; rfl) rfl key
    exact a_ireturn .boolean rfl (f_i_nar _) (f_i_ret (f_ah3F e1)) (rfl) dX12_isAhead_30
theorem r_ahead (ho : o < 4) {q9 : Int32} (hq : q9 = nI o) : g_Run G mX12_isAhead 2 0 0 [.int q9, .int a, .int b, .int t] h (some (.int (f_i (f_ahead o a b t)))) h := by
  subst hq
  match o, ho with
  | 0, _ => exact r_ahead0
  | 1, _ => exact r_ahead1
  | 2, _ => exact r_ahead2
  | 3, _ => exact r_ahead3
theorem r_plM (hn : M.1 0 ≤ 6) (hn0 : 0 < M.1 0) (ho : o < 4) (hs : s < 64) : g_Run G mX12_placeOf 3 0 0 [.ref (g_ad G 38), .int (nI o), .int (nI s)] (g_hp G C (g_hm G M ++ ob)) (some (.int (nI (f_plM o (M.1 0) s (2 ^ M.1 0))))) (g_hp G C (g_hm G M ++ ob)) := by
  have hp : 2 ^ M.1 0 ≤ 64 := Nat.pow_le_pow_right (by decide) hn
  refine g_Run.of (lv := [(0, .ref (g_ad G 38)), (1, .int (nI o)), (2, .int (nI s))]) (by decide) (Nat.le_of_ble_eq_true rfl) rfl ?_
  refine a_iconst (x := 0) 1 rfl dX12_placeOf_0 (by decide) ?_
  refine a_istore_n (lv' := [(3, .int 0), (0, .ref (g_ad G 38)), (1, .int (nI o)), (2, .int (nI s))]) 2 rfl dX12_placeOf_1 rfl (by decide) rfl ?_
  refine a_iconst (x := 0) 3 rfl dX12_placeOf_2 (by decide) ?_
  refine a_istore (lv' := [(4, .int 0), (3, .int 0), (0, .ref (g_ad G 38)), (1, .int (nI o)), (2, .int (nI s))]) 5 rfl dX12_placeOf_3 (by decide) rfl ?_
  refine a_sub (lv' := [(4, .int (nI 0)), (3, .int (nI (f_plM o (M.1 0) s 0))), (0, .ref (g_ad G 38)), (1, .int (nI o)), (2, .int (nI s))]) [0, 1, 2, 3, 4] rfl ?_
  refine g_for (P := fun t9 => True) (2 ^ M.1 0) (fun t9 => [(4, .int (nI t9)), (3, .int (nI (f_plM o (M.1 0) s t9))), (0, .ref (g_ad G 38)), (1, .int (nI o)), (2, .int (nI s))]) (fun t9 => (g_hp G C (g_hm G M ++ ob))) (trivial) (fun t9 h_t9 p_t9 k_t9 => ?_) (fun p_t9 => ?_)
  · skip
    refine a_iload 0 7 rfl dX12_placeOf_5 rfl ?_
    refine a_aload_n 2 8 rfl dX12_placeOf_7 rfl rfl ?_
    refine a_callV (as := []) (rest := [.int (nI t9)]) (st2 := [.int (nI (2 ^ M.1 0)), .int (nI t9)]) (u1 := 0) (v1 := 0) (u2 := 0) (v2 := 0) (r_allM hn) (⟨_, _, _, _, rfl, rfl⟩) oX12_all q_1253 q_1255 q_85 rfl (by omega) (by decide) rfl (Nat.le_of_ble_eq_true rfl) 11 rfl dX12_placeOf_8 rfl ?_
    refine a_icmp_ge 52 14 rfl dX12_placeOf_11 (by decide) (fun hc => absurd hc (nI_ge (a := t9) (b := (2 ^ M.1 0)) (by omega) (by omega))) (fun _ => ?_)
    refine a_iload_n 1 15 rfl dX12_placeOf_14 rfl rfl ?_
    refine a_iload 0 17 rfl dX12_placeOf_15 rfl ?_
    refine a_iload_n 4 18 rfl dX12_placeOf_17 rfl rfl ?_
    refine g_sfx (pc := 44) (lv := [(4, .int (nI t9)), (3, .int (nI (f_plM o (M.1 0) s t9))), (0, .ref (g_ad G 38)), (1, .int (nI o)), (2, .int (nI s))]) (st := [.int (f_i ((!(decide (t9 = s))) && (f_ahead o (nI t9) (nI s) (nI (2 ^ (M.1 0 - 1)))))), .int (nI (f_plM o (M.1 0) s t9))]) (h := (g_hp G C (g_hm G M ++ ob))) (fun key => ?_) ?_
    · skip
      rcases Bool.eq_false_or_eq_true (decide (t9 = s)) with c18_1 | c18_1
      · skip
        refine a_icmp_eq 43 21 rfl dX12_placeOf_18 (by decide) (fun _ => ?_) (fun hc => absurd (congrArg nI (of_decide_eq_true c18_1)) hc)
        refine a_iconst (x := 0) 44 rfl dX12_placeOf_43 (by decide) ?_
        exact a_eq rfl (rfl) (by rw [c18_1]; rfl) rfl key
      · skip
        refine a_icmp_eq 43 21 rfl dX12_placeOf_18 (by decide) (fun hc => absurd hc (fun z9 => of_decide_eq_false c18_1 (nI_inj9 (a := t9) (b := s) (by omega) (by omega) z9))) (fun _ => ?_)
        refine a_iload_n 3 22 rfl dX12_placeOf_21 rfl rfl ?_
        refine a_iload 0 24 rfl dX12_placeOf_22 rfl ?_
        refine a_iload_n 4 25 rfl dX12_placeOf_24 rfl rfl ?_
        refine a_iconst (x := 1) 26 rfl dX12_placeOf_25 (by decide) ?_
        refine a_aload_n 2 27 rfl dX12_placeOf_26 rfl rfl ?_
        refine a_get 0 cl_11 f_RX12_9_11 (by decide) (rfl) rfl 30 rfl dX12_placeOf_27 ?_
        refine a_iconst (x := 1) 31 rfl dX12_placeOf_30 (by decide) ?_
        refine a_isub 32 rfl dX12_placeOf_31 ?_
        refine a_eq (st2 := [.int (nI ((M.1 0) - 1)), .int 1, .int (nI s), .int (nI t9), .int (nI o), .int (nI (f_plM o (M.1 0) s t9))]) rfl rfl (congrArg (fun z9 => Value.int z9 :: [.int 1, .int (nI s), .int (nI t9), .int (nI o), .int (nI (f_plM o (M.1 0) s t9))]) (pk_sub (a := (M.1 0)) (b := 1) (by omega))) rfl ?_
        refine a_ishl 33 rfl dX12_placeOf_32 ?_
        refine a_eq (st2 := [.int (nI (2 ^ ((M.1 0) - 1))), .int (nI s), .int (nI t9), .int (nI o), .int (nI (f_plM o (M.1 0) s t9))]) rfl rfl (congrArg (fun z9 => Value.int z9 :: [.int (nI s), .int (nI t9), .int (nI o), .int (nI (f_plM o (M.1 0) s t9))]) (f_shlI ((M.1 0) - 1) (by omega))) rfl ?_
        refine a_callS (as := [.int (nI o), .int (nI t9), .int (nI s), .int (nI (2 ^ ((M.1 0) - 1)))]) (rest := [.int (nI (f_plM o (M.1 0) s t9))]) (st2 := [.int (f_i (f_ahead o (nI t9) (nI s) (nI (2 ^ (M.1 0 - 1))))), .int (nI (f_plM o (M.1 0) s t9))]) (u1 := 0) (v1 := 0) (u2 := 0) (v2 := 0) (r_ahead (a := nI t9) (b := nI s) (t := nI (2 ^ (M.1 0 - 1))) ho rfl) oX12_isAhead q_1382 q_1383 rfl (by omega) (by decide) rfl (Nat.le_of_ble_eq_true rfl) 36 rfl dX12_placeOf_33 rfl ?_
        rcases Bool.eq_false_or_eq_true ((f_ahead o (nI t9) (nI s) (nI (2 ^ (M.1 0 - 1))))) with c36_2 | c36_2
        · skip
          refine a_if_eq 43 39 rfl dX12_placeOf_36 (by decide) (fun hc => absurd hc (f_i_T c36_2)) (fun _ => ?_)
          refine a_iconst (x := 1) 40 rfl dX12_placeOf_39 (by decide) ?_
          refine a_goto 44 dX12_placeOf_40 (by decide) ?_
          exact a_eq rfl (rfl) (by rw [c18_1, c36_2]; rfl) rfl key
        · skip
          refine a_if_eq 43 39 rfl dX12_placeOf_36 (by decide) (fun _ => ?_) (fun hc => absurd (f_i_F c36_2) hc)
          refine a_iconst (x := 0) 44 rfl dX12_placeOf_43 (by decide) ?_
          exact a_eq rfl (rfl) (by rw [c18_1, c36_2]; rfl) rfl key
    refine a_iadd 45 rfl dX12_placeOf_44 ?_
    refine a_eq (st2 := [.int (nI ((f_plM o (M.1 0) s t9) + Bool.toNat ((!(decide (t9 = s))) && (f_ahead o (nI t9) (nI s) (nI (2 ^ (M.1 0 - 1)))))))]) rfl rfl (congrArg (fun z9 => Value.int z9 :: []) (f_i_add (f_plM o (M.1 0) s t9) ((!(decide (t9 = s))) && (f_ahead o (nI t9) (nI s) (nI (2 ^ (M.1 0 - 1))))))) rfl ?_
    refine a_istore_n (lv' := [(3, .int (nI ((f_plM o (M.1 0) s t9) + Bool.toNat ((!(decide (t9 = s))) && (f_ahead o (nI t9) (nI s) (nI (2 ^ (M.1 0 - 1)))))))), (4, .int (nI t9)), (0, .ref (g_ad G 38)), (1, .int (nI o)), (2, .int (nI s))]) 46 rfl dX12_placeOf_45 rfl (by decide) rfl ?_
    refine a_iinc (y := nI (t9 + 1)) (lv' := [(4, .int (nI (t9 + 1))), (3, .int (nI ((f_plM o (M.1 0) s t9) + Bool.toNat ((!(decide (t9 = s))) && (f_ahead o (nI t9) (nI s) (nI (2 ^ (M.1 0 - 1)))))))), (0, .ref (g_ad G 38)), (1, .int (nI o)), (2, .int (nI s))]) 1 49 rfl dX12_placeOf_46 rfl (nI_1 t9) (by decide) rfl ?_
    refine a_goto 5 dX12_placeOf_49 (by decide) ?_
    refine a_sub (lv' := [(4, .int (nI (t9 + 1))), (3, .int (nI (f_plM o (M.1 0) s (t9 + 1)))), (0, .ref (g_ad G 38)), (1, .int (nI o)), (2, .int (nI s))]) [0, 1, 2, 3, 4] rfl ?_
    exact k_t9 trivial
  · skip
    refine a_iload 0 7 rfl dX12_placeOf_5 rfl ?_
    refine a_aload_n 2 8 rfl dX12_placeOf_7 rfl rfl ?_
    refine a_callV (as := []) (rest := [.int (nI (2 ^ M.1 0))]) (st2 := [.int (nI (2 ^ M.1 0)), .int (nI (2 ^ M.1 0))]) (u1 := 0) (v1 := 0) (u2 := 0) (v2 := 0) (r_allM hn) (⟨_, _, _, _, rfl, rfl⟩) oX12_all q_1253 q_1255 q_85 rfl (by omega) (by decide) rfl (Nat.le_of_ble_eq_true rfl) 11 rfl dX12_placeOf_8 rfl ?_
    refine a_icmp_ge 52 14 rfl dX12_placeOf_11 (by decide) (fun _ => ?_) (fun hc => absurd (nI_le (a := (2 ^ M.1 0)) (b := (2 ^ M.1 0)) (by omega) (by omega)) hc)
    refine a_iload_n 1 53 rfl dX12_placeOf_52 rfl rfl ?_
    exact a_ireturn .int rfl rfl (rfl) (rfl) dX12_placeOf_53
theorem r_fiM (hn : M.1 0 ≤ 6) (hn0 : 0 < M.1 0) (ho : o < 4) (hm : m ≤ 64) : g_Run G mX12_firsts 4 0 0 [.ref (g_ad G 38), .int (nI o), .int (nI m)] (g_hp G C (g_hm G M ++ ob)) (some (.long (f_fiM o (M.1 0) m))) (g_hp G C (g_hm G M ++ ob)) := by
  have hp : 2 ^ M.1 0 ≤ 64 := Nat.pow_le_pow_right (by decide) hn
  refine g_Run.of (lv := [(0, .ref (g_ad G 38)), (1, .int (nI o)), (2, .int (nI m))]) (by decide) (Nat.le_of_ble_eq_true rfl) rfl ?_
  refine a_lconst (x := 0) 1 rfl dX12_firsts_0 (by decide) ?_
  refine a_lstore_n (lv' := [(3, .long 0), (0, .ref (g_ad G 38)), (1, .int (nI o)), (2, .int (nI m))]) 2 rfl dX12_firsts_1 rfl (by decide) rfl ?_
  refine a_iconst (x := 0) 3 rfl dX12_firsts_2 (by decide) ?_
  refine a_istore (lv' := [(5, .int 0), (3, .long 0), (0, .ref (g_ad G 38)), (1, .int (nI o)), (2, .int (nI m))]) 5 rfl dX12_firsts_3 (by decide) rfl ?_
  refine a_sub (lv' := [(5, .int (nI 0)), (3, .long (f_or (fun s => cond (decide (f_plM o (M.1 0) s (2 ^ M.1 0) < m)) (f_sl 1 (nI s)) 0) 0)), (0, .ref (g_ad G 38)), (1, .int (nI o)), (2, .int (nI m))]) [0, 1, 2, 3, 4] rfl ?_
  refine g_for (P := fun t9 => True) (2 ^ M.1 0) (fun t9 => [(5, .int (nI t9)), (3, .long (f_or (fun s => cond (decide (f_plM o (M.1 0) s (2 ^ M.1 0) < m)) (f_sl 1 (nI s)) 0) t9)), (0, .ref (g_ad G 38)), (1, .int (nI o)), (2, .int (nI m))]) (fun t9 => (g_hp G C (g_hm G M ++ ob))) (trivial) (fun t9 h_t9 p_t9 k_t9 => ?_) (fun p_t9 => ?_)
  · skip
    have hl := f_plM_le o (M.1 0) t9 (2 ^ M.1 0)
    refine a_iload 0 7 rfl dX12_firsts_5 rfl ?_
    refine a_aload_n 2 8 rfl dX12_firsts_7 rfl rfl ?_
    refine a_callV (as := []) (rest := [.int (nI t9)]) (st2 := [.int (nI (2 ^ M.1 0)), .int (nI t9)]) (u1 := 0) (v1 := 0) (u2 := 0) (v2 := 0) (r_allM hn) (⟨_, _, _, _, rfl, rfl⟩) oX12_all q_1253 q_1255 q_85 rfl (by omega) (by decide) rfl (Nat.le_of_ble_eq_true rfl) 11 rfl dX12_firsts_8 rfl ?_
    refine a_icmp_ge 42 14 rfl dX12_firsts_11 (by decide) (fun hc => absurd hc (nI_ge (a := t9) (b := (2 ^ M.1 0)) (by omega) (by omega))) (fun _ => ?_)
    refine a_lload_n 1 15 rfl dX12_firsts_14 rfl rfl ?_
    refine a_aload_n 2 16 rfl dX12_firsts_15 rfl rfl ?_
    refine a_iload_n 3 17 rfl dX12_firsts_16 rfl rfl ?_
    refine a_iload 0 19 rfl dX12_firsts_17 rfl ?_
    refine a_callV (as := [.int (nI o), .int (nI t9)]) (rest := [.long (f_or (fun s => cond (decide (f_plM o (M.1 0) s (2 ^ M.1 0) < m)) (f_sl 1 (nI s)) 0) t9)]) (st2 := [.int (nI (f_plM o (M.1 0) t9 (2 ^ M.1 0))), .long (f_or (fun s => cond (decide (f_plM o (M.1 0) s (2 ^ M.1 0) < m)) (f_sl 1 (nI s)) 0) t9)]) (u1 := 0) (v1 := 0) (u2 := 0) (v2 := 0) (r_plM hn hn0 ho (s := t9) (by omega)) (⟨_, _, _, _, rfl, rfl⟩) oX12_placeOf q_1378 q_1380 q_100 rfl (by omega) (by decide) rfl (Nat.le_of_ble_eq_true rfl) 22 rfl dX12_firsts_19 rfl ?_
    refine a_iload_n 4 23 rfl dX12_firsts_22 rfl rfl ?_
    refine g_sfx (pc := 34) (lv := [(5, .int (nI t9)), (3, .long (f_or (fun s => cond (decide (f_plM o (M.1 0) s (2 ^ M.1 0) < m)) (f_sl 1 (nI s)) 0) t9)), (0, .ref (g_ad G 38)), (1, .int (nI o)), (2, .int (nI m))]) (st := [.long (cond (decide ((f_plM o (M.1 0) t9 (2 ^ M.1 0)) < m)) (f_sl (1 : Int64) (nI t9)) 0), .long (f_or (fun s => cond (decide (f_plM o (M.1 0) s (2 ^ M.1 0) < m)) (f_sl 1 (nI s)) 0) t9)]) (h := (g_hp G C (g_hm G M ++ ob))) (fun key => ?_) ?_
    · skip
      rcases Bool.eq_false_or_eq_true (decide ((f_plM o (M.1 0) t9 (2 ^ M.1 0)) < m)) with c23_1 | c23_1
      · skip
        refine a_icmp_ge 33 26 rfl dX12_firsts_23 (by decide) (fun hc => absurd hc (nI_ge (a := (f_plM o (M.1 0) t9 (2 ^ M.1 0))) (b := m) (of_decide_eq_true c23_1) (by omega))) (fun _ => ?_)
        refine a_lconst (x := 1) 27 rfl dX12_firsts_26 (by decide) ?_
        refine a_iload 0 29 rfl dX12_firsts_27 rfl ?_
        refine a_lshl 30 rfl dX12_firsts_29 ?_
        refine a_goto 34 dX12_firsts_30 (by decide) ?_
        exact a_eq rfl (rfl) (by rw [c23_1]; rfl) rfl key
      · skip
        refine a_icmp_ge 33 26 rfl dX12_firsts_23 (by decide) (fun _ => ?_) (fun hc => absurd (nI_le (a := m) (b := (f_plM o (M.1 0) t9 (2 ^ M.1 0))) (by have := of_decide_eq_false c23_1; omega) (by omega)) hc)
        refine a_lconst (x := 0) 34 rfl dX12_firsts_33 (by decide) ?_
        exact a_eq rfl (rfl) (by rw [c23_1]; rfl) rfl key
    refine a_lor 35 rfl dX12_firsts_34 ?_
    refine a_lstore_n (lv' := [(3, .long ((f_or (fun s => cond (decide (f_plM o (M.1 0) s (2 ^ M.1 0) < m)) (f_sl 1 (nI s)) 0) t9) ||| (cond (decide ((f_plM o (M.1 0) t9 (2 ^ M.1 0)) < m)) (f_sl (1 : Int64) (nI t9)) 0))), (5, .int (nI t9)), (0, .ref (g_ad G 38)), (1, .int (nI o)), (2, .int (nI m))]) 36 rfl dX12_firsts_35 rfl (by decide) rfl ?_
    refine a_iinc (y := nI (t9 + 1)) (lv' := [(5, .int (nI (t9 + 1))), (3, .long ((f_or (fun s => cond (decide (f_plM o (M.1 0) s (2 ^ M.1 0) < m)) (f_sl 1 (nI s)) 0) t9) ||| (cond (decide ((f_plM o (M.1 0) t9 (2 ^ M.1 0)) < m)) (f_sl (1 : Int64) (nI t9)) 0))), (0, .ref (g_ad G 38)), (1, .int (nI o)), (2, .int (nI m))]) 1 39 rfl dX12_firsts_36 rfl (nI_1 t9) (by decide) rfl ?_
    refine a_goto 5 dX12_firsts_39 (by decide) ?_
    refine a_sub (lv' := [(5, .int (nI (t9 + 1))), (3, .long (f_or (fun s => cond (decide (f_plM o (M.1 0) s (2 ^ M.1 0) < m)) (f_sl 1 (nI s)) 0) (t9 + 1))), (0, .ref (g_ad G 38)), (1, .int (nI o)), (2, .int (nI m))]) [0, 1, 2, 3, 4] rfl ?_
    exact k_t9 trivial
  · skip
    refine a_iload 0 7 rfl dX12_firsts_5 rfl ?_
    refine a_aload_n 2 8 rfl dX12_firsts_7 rfl rfl ?_
    refine a_callV (as := []) (rest := [.int (nI (2 ^ M.1 0))]) (st2 := [.int (nI (2 ^ M.1 0)), .int (nI (2 ^ M.1 0))]) (u1 := 0) (v1 := 0) (u2 := 0) (v2 := 0) (r_allM hn) (⟨_, _, _, _, rfl, rfl⟩) oX12_all q_1253 q_1255 q_85 rfl (by omega) (by decide) rfl (Nat.le_of_ble_eq_true rfl) 11 rfl dX12_firsts_8 rfl ?_
    refine a_icmp_ge 42 14 rfl dX12_firsts_11 (by decide) (fun _ => ?_) (fun hc => absurd (nI_le (a := (2 ^ M.1 0)) (b := (2 ^ M.1 0)) (by omega) (by omega)) hc)
    refine a_lload_n 1 43 rfl dX12_firsts_42 rfl rfl ?_
    exact a_lreturn rfl (rfl) (rfl) dX12_firsts_43
theorem r_ioM : g_Run G mX12_isOrder 2 0 0 [.int y] h (some (.int (f_i (decide ((0 : Int32) ≤ y ∧ y ≤ 3))))) h := by
  refine g_Run.of (lv := [(0, .int y)]) (by decide) (Nat.le_of_ble_eq_true rfl) rfl ?_
  refine a_iload_n 0 1 rfl dX12_isOrder_0 rfl rfl ?_
  refine a_i2l 2 rfl dX12_isOrder_1 ?_
  refine a_lconst (x := 0) 3 rfl dX12_isOrder_2 (by decide) ?_
  refine a_ldc2 q_1362 6 rfl dX12_isOrder_3 ?_
  refine a_callS (as := [.long y.toInt64, .long 0, .long 3]) (rest := []) (st2 := [.int (f_i (decide ((0 : Int32) ≤ y ∧ y ≤ 3)))]) (u1 := 0) (v1 := 0) (u2 := 0) (v2 := 0) (r_isInB (y := y) (a := 0) (b := 3) rfl rfl) oX12_isIn q_1242 q_1243 rfl (by omega) (by decide) rfl (Nat.le_of_ble_eq_true rfl) 9 rfl dX12_isOrder_6 rfl ?_
  exact a_ireturn .boolean rfl (f_i_nar _) (rfl) (rfl) dX12_isOrder_9
theorem r_odM_bad (hy : ¬ ((0 : Int32) ≤ y ∧ y ≤ 3)) : g_Run G mX12_ordered 6 0 0 [.ref (g_ad G 38), .int y, .int y2] (g_hp G C (g_hm G M ++ ob)) (some (.int (-1))) (g_hp G C (g_hm G M ++ ob)) := by
  refine g_Run.of (lv := [(0, .ref (g_ad G 38)), (1, .int y), (2, .int y2)]) (by decide) (Nat.le_of_ble_eq_true rfl) rfl ?_
  refine a_iload_n 1 1 rfl dX12_ordered_0 rfl rfl ?_
  refine a_callS (as := [.int y]) (rest := []) (st2 := [.int (f_i (decide ((0:Int32) ≤ y ∧ y ≤ 3)))]) (u1 := 0) (v1 := 0) (u2 := 0) (v2 := 0) (r_ioM) oX12_isOrder q_1375 q_1376 rfl (by omega) (by decide) rfl (Nat.le_of_ble_eq_true rfl) 4 rfl dX12_ordered_1 rfl ?_
  refine a_if_ne 9 7 rfl dX12_ordered_4 (by decide) (fun hc => absurd (f_i_F (decide_eq_false hy)) hc) (fun _ => ?_)
  refine a_iconst (x := (-1)) 8 rfl dX12_ordered_7 (by decide) ?_
  exact a_ireturn .int rfl rfl (rfl) (rfl) dX12_ordered_8
theorem f_ord {o : Nat} (ho : o < 4) : decide ((0 : Int32) ≤ nI o ∧ nI o ≤ 3) = true := decide_eq_true ⟨nI_pos' (by omega), nI_le (b := 3) (by omega) (by omega)⟩
theorem r_odM (hn : M.1 0 ≤ 6) (hn0 : 0 < M.1 0) (ho : o < 4) : g_Run G mX12_ordered 6 0 0 [.ref (g_ad G 38), .int (nI o), .int y2] (g_hp G C (g_hm G M ++ ob)) (some (.int (f_odM o (M.1 0) y2 (2 ^ M.1 0) 0))) (g_hp G C (g_hm G M ++ ob)) := by
  have hp : 2 ^ M.1 0 ≤ 64 := Nat.pow_le_pow_right (by decide) hn
  refine g_Run.of (lv := [(0, .ref (g_ad G 38)), (1, .int (nI o)), (2, .int y2)]) (by decide) (Nat.le_of_ble_eq_true rfl) rfl ?_
  refine a_iload_n 1 1 rfl dX12_ordered_0 rfl rfl ?_
  refine a_callS (as := [.int (nI o)]) (rest := []) (st2 := [.int (f_i (decide ((0:Int32) ≤ nI o ∧ nI o ≤ 3)))]) (u1 := 0) (v1 := 0) (u2 := 0) (v2 := 0) (r_ioM) oX12_isOrder q_1375 q_1376 rfl (by omega) (by decide) rfl (Nat.le_of_ble_eq_true rfl) 4 rfl dX12_ordered_1 rfl ?_
  refine a_if_ne 9 7 rfl dX12_ordered_4 (by decide) (fun _ => ?_) (fun hc => absurd hc (f_i_T (f_ord ho)))
  refine a_iconst (x := 0) 10 rfl dX12_ordered_9 (by decide) ?_
  refine a_istore_n (lv' := [(3, .int 0), (0, .ref (g_ad G 38)), (1, .int (nI o)), (2, .int y2)]) 11 rfl dX12_ordered_10 rfl (by decide) rfl ?_
  refine a_sub (lv' := [(3, .int (nI 0)), (0, .ref (g_ad G 38)), (1, .int (nI o)), (2, .int y2)]) [0, 1, 2, 3] rfl ?_
  refine g_for (P := fun t9 => f_odM o (M.1 0) y2 (2 ^ M.1 0) 0 = f_odM o (M.1 0) y2 (2 ^ M.1 0 - t9) t9) (2 ^ M.1 0) (fun t9 => [(3, .int (nI t9)), (0, .ref (g_ad G 38)), (1, .int (nI o)), (2, .int y2)]) (fun t9 => (g_hp G C (g_hm G M ++ ob))) (rfl) (fun t9 h_t9 p_t9 k_t9 => ?_) (fun p_t9 => ?_)
  · have e0 : 2 ^ M.1 0 - t9 = (2 ^ M.1 0 - (t9 + 1)) + 1 := by omega
    rw [e0, f_odM] at p_t9
    refine a_iload_n 0 12 rfl dX12_ordered_11 rfl rfl ?_
    refine a_aload_n 1 13 rfl dX12_ordered_12 rfl rfl ?_
    refine a_callV (as := []) (rest := [.int (nI t9)]) (st2 := [.int (nI (2 ^ M.1 0)), .int (nI t9)]) (u1 := 0) (v1 := 0) (u2 := 0) (v2 := 0) (r_allM hn) (⟨_, _, _, _, rfl, rfl⟩) oX12_all q_1253 q_1255 q_85 rfl (by omega) (by decide) rfl (Nat.le_of_ble_eq_true rfl) 16 rfl dX12_ordered_13 rfl ?_
    refine a_icmp_ge 37 19 rfl dX12_ordered_16 (by decide) (fun hc => absurd hc (nI_ge (a := t9) (b := (2 ^ M.1 0)) (by omega) (by omega))) (fun _ => ?_)
    refine a_aload_n 1 20 rfl dX12_ordered_19 rfl rfl ?_
    refine a_iload_n 2 21 rfl dX12_ordered_20 rfl rfl ?_
    refine a_iload_n 0 22 rfl dX12_ordered_21 rfl rfl ?_
    refine a_callV (as := [.int (nI o), .int (nI t9)]) (rest := []) (st2 := [.int (nI (f_plM o (M.1 0) t9 (2 ^ M.1 0)))]) (u1 := 0) (v1 := 0) (u2 := 0) (v2 := 0) (r_plM hn hn0 ho (s := t9) (by omega)) (⟨_, _, _, _, rfl, rfl⟩) oX12_placeOf q_1378 q_1380 q_100 rfl (by omega) (by decide) rfl (Nat.le_of_ble_eq_true rfl) 25 rfl dX12_ordered_22 rfl ?_
    refine a_iload_n 3 26 rfl dX12_ordered_25 rfl rfl ?_
    rcases Bool.eq_false_or_eq_true (decide ((nI (f_plM o (M.1 0) t9 (2 ^ M.1 0))) = y2)) with e1 | e1
    · rw [e1] at p_t9
      refine a_icmp_ne 31 29 rfl dX12_ordered_26 (by decide) (fun hc => absurd (of_decide_eq_true e1) hc) (fun _ => ?_)
      refine a_iload_n 0 30 rfl dX12_ordered_29 rfl rfl ?_
      exact a_ireturn .int rfl rfl ((by rw [p_t9]; rfl)) (rfl) dX12_ordered_30
    · rw [e1] at p_t9
      refine a_icmp_ne 31 29 rfl dX12_ordered_26 (by decide) (fun _ => ?_) (fun hc => absurd hc (of_decide_eq_false e1))
      refine a_iinc (y := nI (t9 + 1)) (lv' := [(3, .int (nI (t9 + 1))), (0, .ref (g_ad G 38)), (1, .int (nI o)), (2, .int y2)]) 0 34 rfl dX12_ordered_31 rfl (nI_1 t9) (by decide) rfl ?_
      refine a_goto 11 dX12_ordered_34 (by decide) ?_
      refine a_sub (lv' := [(3, .int (nI (t9 + 1))), (0, .ref (g_ad G 38)), (1, .int (nI o)), (2, .int y2)]) [0, 1, 2, 3] rfl ?_
      exact k_t9 (p_t9)
  · skip
    refine a_iload_n 0 12 rfl dX12_ordered_11 rfl rfl ?_
    refine a_aload_n 1 13 rfl dX12_ordered_12 rfl rfl ?_
    refine a_callV (as := []) (rest := [.int (nI (2 ^ M.1 0))]) (st2 := [.int (nI (2 ^ M.1 0)), .int (nI (2 ^ M.1 0))]) (u1 := 0) (v1 := 0) (u2 := 0) (v2 := 0) (r_allM hn) (⟨_, _, _, _, rfl, rfl⟩) oX12_all q_1253 q_1255 q_85 rfl (by omega) (by decide) rfl (Nat.le_of_ble_eq_true rfl) 16 rfl dX12_ordered_13 rfl ?_
    refine a_icmp_ge 37 19 rfl dX12_ordered_16 (by decide) (fun _ => ?_) (fun hc => absurd (nI_le (a := (2 ^ M.1 0)) (b := (2 ^ M.1 0)) (by omega) (by omega)) hc)
    refine a_bipush (x := (-2)) 39 rfl dX12_ordered_37 (by decide) ?_
    exact a_ireturn .int rfl rfl ((by rw [p_t9, Nat.sub_self]; rfl)) (rfl) dX12_ordered_39
theorem r_firM_bad (hn : M.1 0 ≤ 6) (hy : ¬ (((0 : Int32) ≤ y ∧ y ≤ 3) ∧ ((0 : Int32) ≤ y2 ∧ y2 ≤ nI (2 ^ M.1 0)))) : g_Run G mX12_first 6 0 0 [.ref (g_ad G 38), .int y, .int y2] (g_hp G C (g_hm G M ++ ob)) (some (.int (-1))) (g_hp G C (g_hm G M ++ ob)) := by
  refine g_Run.of (lv := [(0, .ref (g_ad G 38)), (1, .int y), (2, .int y2)]) (by decide) (Nat.le_of_ble_eq_true rfl) rfl ?_
  refine a_iload_n 1 1 rfl dX12_first_0 rfl rfl ?_
  refine a_callS (as := [.int y]) (rest := []) (st2 := [.int (f_i (decide ((0:Int32) ≤ y ∧ y ≤ 3)))]) (u1 := 0) (v1 := 0) (u2 := 0) (v2 := 0) (r_ioM) oX12_isOrder q_1375 q_1376 rfl (by omega) (by decide) rfl (Nat.le_of_ble_eq_true rfl) 4 rfl dX12_first_1 rfl ?_
  rcases Bool.eq_false_or_eq_true (decide ((0 : Int32) ≤ y ∧ y ≤ 3)) with e1 | e1
  · skip
    refine a_if_eq 34 7 rfl dX12_first_4 (by decide) (fun hc => absurd hc (f_i_T e1)) (fun _ => ?_)
    refine a_iload_n 2 8 rfl dX12_first_7 rfl rfl ?_
    refine a_i2l 9 rfl dX12_first_8 ?_
    refine a_lconst (x := 0) 10 rfl dX12_first_9 (by decide) ?_
    refine a_aload_n 0 11 rfl dX12_first_10 rfl rfl ?_
    refine a_callV (as := []) (rest := [.long 0, .long y2.toInt64]) (st2 := [.int (nI (2 ^ M.1 0)), .long 0, .long y2.toInt64]) (u1 := 0) (v1 := 0) (u2 := 0) (v2 := 0) (r_allM hn) (⟨_, _, _, _, rfl, rfl⟩) oX12_all q_1253 q_1255 q_85 rfl (by omega) (by decide) rfl (Nat.le_of_ble_eq_true rfl) 14 rfl dX12_first_11 rfl ?_
    refine a_i2l 15 rfl dX12_first_14 ?_
    refine a_callS (as := [.long y2.toInt64, .long 0, .long ((nI (2 ^ M.1 0)).toInt64)]) (rest := []) (st2 := [.int (f_i (decide ((0 : Int32) ≤ y2 ∧ y2 ≤ (nI (2 ^ M.1 0)))))]) (u1 := 0) (v1 := 0) (u2 := 0) (v2 := 0) (r_isInB (y := y2) (a := 0) (b := (nI (2 ^ M.1 0))) rfl rfl) oX12_isIn q_1242 q_1243 rfl (by omega) (by decide) rfl (Nat.le_of_ble_eq_true rfl) 18 rfl dX12_first_15 rfl ?_
    refine a_if_eq 34 21 rfl dX12_first_18 (by decide) (fun _ => ?_) (fun hc => absurd (f_i_F (decide_eq_false (fun z9 => hy ⟨of_decide_eq_true e1, z9⟩))) hc)
    refine a_iconst (x := (-1)) 35 rfl dX12_first_34 (by decide) ?_
    exact a_ireturn .int rfl rfl (rfl) (rfl) dX12_first_35
  · skip
    refine a_if_eq 34 7 rfl dX12_first_4 (by decide) (fun _ => ?_) (fun hc => absurd (f_i_F e1) hc)
    refine a_iconst (x := (-1)) 35 rfl dX12_first_34 (by decide) ?_
    exact a_ireturn .int rfl rfl (rfl) (rfl) dX12_first_35
theorem r_firM (hn : M.1 0 ≤ 6) (hn0 : 0 < M.1 0) (ho : o < 4) (hm : m ≤ 2 ^ M.1 0) (hf : M.1 1 ≤ 8) : g_Run G mX12_first 6 0 0 [.ref (g_ad G 38), .int (nI o), .int (nI m)] (g_hp G C (g_hm G M ++ ob)) (some (.int (if M.1 1 = 8 then -3 else nI (M.1 1)))) (g_hp G C (g_hm G (f_coM M (f_fiM o (M.1 0) m)) ++ ob)) := by
  have hp : 2 ^ M.1 0 ≤ 64 := Nat.pow_le_pow_right (by decide) hn
  have e2 : decide ((0 : Int32) ≤ nI m ∧ nI m ≤ nI (2 ^ M.1 0)) = true := decide_eq_true ⟨nI_pos' (by omega), nI_le (by omega) (by omega)⟩
  refine g_Run.of (lv := [(0, .ref (g_ad G 38)), (1, .int (nI o)), (2, .int (nI m))]) (by decide) (Nat.le_of_ble_eq_true rfl) rfl ?_
  refine a_iload_n 1 1 rfl dX12_first_0 rfl rfl ?_
  refine a_callS (as := [.int (nI o)]) (rest := []) (st2 := [.int (f_i (decide ((0:Int32) ≤ nI o ∧ nI o ≤ 3)))]) (u1 := 0) (v1 := 0) (u2 := 0) (v2 := 0) (r_ioM) oX12_isOrder q_1375 q_1376 rfl (by omega) (by decide) rfl (Nat.le_of_ble_eq_true rfl) 4 rfl dX12_first_1 rfl ?_
  refine a_if_eq 34 7 rfl dX12_first_4 (by decide) (fun hc => absurd hc (f_i_T (f_ord ho))) (fun _ => ?_)
  refine a_iload_n 2 8 rfl dX12_first_7 rfl rfl ?_
  refine a_i2l 9 rfl dX12_first_8 ?_
  refine a_lconst (x := 0) 10 rfl dX12_first_9 (by decide) ?_
  refine a_aload_n 0 11 rfl dX12_first_10 rfl rfl ?_
  refine a_callV (as := []) (rest := [.long 0, .long ((nI m).toInt64)]) (st2 := [.int (nI (2 ^ M.1 0)), .long 0, .long ((nI m).toInt64)]) (u1 := 0) (v1 := 0) (u2 := 0) (v2 := 0) (r_allM hn) (⟨_, _, _, _, rfl, rfl⟩) oX12_all q_1253 q_1255 q_85 rfl (by omega) (by decide) rfl (Nat.le_of_ble_eq_true rfl) 14 rfl dX12_first_11 rfl ?_
  refine a_i2l 15 rfl dX12_first_14 ?_
  refine a_callS (as := [.long ((nI m).toInt64), .long 0, .long ((nI (2 ^ M.1 0)).toInt64)]) (rest := []) (st2 := [.int (f_i (decide ((0 : Int32) ≤ (nI m) ∧ (nI m) ≤ (nI (2 ^ M.1 0)))))]) (u1 := 0) (v1 := 0) (u2 := 0) (v2 := 0) (r_isInB (y := (nI m)) (a := 0) (b := (nI (2 ^ M.1 0))) rfl rfl) oX12_isIn q_1242 q_1243 rfl (by omega) (by decide) rfl (Nat.le_of_ble_eq_true rfl) 18 rfl dX12_first_15 rfl ?_
  refine a_if_eq 34 21 rfl dX12_first_18 (by decide) (fun hc => absurd hc (f_i_T e2)) (fun _ => ?_)
  refine a_aload_n 0 22 rfl dX12_first_21 rfl rfl ?_
  refine a_aload_n 0 23 rfl dX12_first_22 rfl rfl ?_
  refine a_iload_n 1 24 rfl dX12_first_23 rfl rfl ?_
  refine a_iload_n 2 25 rfl dX12_first_24 rfl rfl ?_
  refine a_callV (as := [.int (nI o), .int (nI m)]) (rest := [.ref (g_ad G 38)]) (st2 := [.long (f_fiM o (M.1 0) m), .ref (g_ad G 38)]) (u1 := 0) (v1 := 0) (u2 := 0) (v2 := 0) (r_fiM hn hn0 ho (by omega)) (⟨_, _, _, _, rfl, rfl⟩) oX12_firsts q_1392 q_1394 q_101 rfl (by omega) (by decide) rfl (Nat.le_of_ble_eq_true rfl) 28 rfl dX12_first_25 rfl ?_
  refine a_callV (as := [.long (f_fiM o (M.1 0) m)]) (rest := []) (st2 := [.int (if M.1 1 = 8 then -3 else nI (M.1 1))]) (u1 := 0) (v1 := 0) (u2 := 0) (v2 := 0) (r_comes hf) (⟨_, _, _, _, rfl, rfl⟩) oX12_comes q_1261 q_1263 q_86 rfl (by omega) (by decide) rfl (Nat.le_of_ble_eq_true rfl) 31 rfl dX12_first_28 rfl ?_
  refine a_goto 35 dX12_first_31 (by decide) ?_
  exact a_ireturn .int rfl rfl (rfl) (rfl) dX12_first_35
end MD1
