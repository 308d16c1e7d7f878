/-! Cube: leaves -/
section CU1
variable {G : g_G} {h : List va_E} {a ka n : Nat} {x : Int64}
/-- the sets with an element -/
def f_hold (i : Nat) : Int64 := match i with
  | 0 => -6148914691236517206
  | 1 => -3689348814741910324
  | 2 => -1085102592571150096
  | 3 => -71777214294589696
  | 4 => -281470681808896
  | _ => -4294967296
theorem f_hold_at {i : Nat} (hi : i < 6) : g_hold (nI i).toNatClampNeg = .long (f_hold i) := by
  rw [nI_clamp (by omega)]
  match i, hi with
  | 0, _ => rfl
  | 1, _ => rfl
  | 2, _ => rfl
  | 3, _ => rfl
  | 4, _ => rfl
  | 5, _ => rfl
theorem r_X3_elements (hC : h[a]? = some (.inr (3, [.ref (g_ad G ka), .int (nI n)]))) : g_Run G mX3_elements 1 0 0 [.ref (g_ad G a)] h (some (.int (nI n))) h := by
  refine g_Run.of (lv := [(0, .ref (g_ad G a))]) (by decide) (Nat.le_of_ble_eq_true rfl) rfl ?_
  refine a_aload_n 0 1 rfl dX3_elements_0 rfl rfl ?_
  refine a_get 1 cl_3 f_RX3_9_3 (by decide) (hC) rfl 4 rfl dX3_elements_1 ?_
  exact a_ireturn .int rfl rfl (rfl) (rfl) dX3_elements_4
theorem r_X3_places (hC : h[a]? = some (.inr (3, [.ref (g_ad G ka), .int (nI n)]))) (hn : n ≤ 6) : g_Run G mX3_places 1 0 0 [.ref (g_ad G a)] h (some (.int (nI (2 ^ n)))) h := by
  refine g_Run.of (lv := [(0, .ref (g_ad G a))]) (by decide) (Nat.le_of_ble_eq_true rfl) rfl ?_
  refine a_iconst (x := 1) 1 rfl dX3_places_0 (by decide) ?_
  refine a_aload_n 0 2 rfl dX3_places_1 rfl rfl ?_
  refine a_get 1 cl_3 f_RX3_9_3 (by decide) (hC) rfl 5 rfl dX3_places_2 ?_
  refine a_ishl 6 rfl dX3_places_5 ?_
  exact a_ireturn .int rfl rfl ((by match n, hn with | 0, _ => rfl | 1, _ => rfl | 2, _ => rfl | 3, _ => rfl | 4, _ => rfl | 5, _ => rfl | 6, _ => rfl)) (rfl) dX3_places_6
theorem r_X3_reshape {y : Int32} (hC : h[a]? = some (.inr (3, [.ref (g_ad G ka), .int (nI n)]))) : g_Run G mX3_reshape 1 0 0 [.ref (g_ad G a), .int y] h none (h.set a (.inr (3, [.ref (g_ad G ka), .int y]))) := by
  refine g_Run.of (lv := [(0, .ref (g_ad G a)), (1, .int y)]) (by decide) (Nat.le_of_ble_eq_true rfl) rfl ?_
  refine a_aload_n 0 1 rfl dX3_reshape_0 rfl rfl ?_
  refine a_iload_n 1 2 rfl dX3_reshape_1 rfl rfl ?_
  refine a_put (fs' := [.ref (g_ad G ka), .int y]) 1 cl_3 f_RX3_9_3 (by decide) (hC) rfl rfl rfl (Nat.le_of_ble_eq_true rfl) rfl 5 rfl dX3_reshape_2 ?_
  exact a_return rfl (rfl) (rfl) dX3_reshape_5
theorem r_X3_holding {i : Nat} (hi : i < 6) : g_Run G mX3_holding 1 0 0 [.int (nI i)] h (some (.long (f_hold i))) h := by
  refine g_Run.of (lv := [(0, .int (nI i))]) (by decide) (Nat.le_of_ble_eq_true rfl) rfl ?_
  refine a_iload_n 0 1 rfl dX3_holding_0 rfl rfl ?_
  refine a_if_lt 20 4 rfl dX3_holding_1 (by decide) (fun hc => absurd hc (nI_pos (by omega))) (fun _ => ?_)
  refine a_iload_n 0 5 rfl dX3_holding_4 rfl rfl ?_
  refine a_getHold (Or.inr ⟨_, q_483⟩) 8 rfl dX3_holding_5 ?_
  refine a_lenHold 9 rfl dX3_holding_8 ?_
  refine a_icmp_ge 20 12 rfl dX3_holding_9 (by decide) (fun hc => absurd hc (nI_ge (b := 6) hi (by omega))) (fun _ => ?_)
  refine a_getHold (Or.inr ⟨_, q_483⟩) 15 rfl dX3_holding_12 ?_
  refine a_iload_n 0 16 rfl dX3_holding_15 rfl rfl ?_
  refine a_laldHold (x := f_hold i) (vp_in_nI hi (by omega)) (f_hold_at hi) 17 rfl dX3_holding_16 ?_
  refine a_goto 21 dX3_holding_17 (by decide) ?_
  exact a_lreturn rfl (rfl) (rfl) dX3_holding_21
/-- the shadow by the elements below i -/
def f_shadow (x : Int64) : Nat → Int64
  | 0 => 0
  | i + 1 => f_shadow x i ||| (((x &&& f_hold i).toUInt64 >>> (((1 : Int32) <<< (nI i &&& 31)).toInt64.toUInt64 &&& Int64.toUInt64 63)).toInt64)
theorem r_X3_shadowOf (hC : h[a]? = some (.inr (3, [.ref (g_ad G ka), .int (nI n)]))) (hn : n ≤ 6) : g_Run G mX3_shadowOf 2 0 0 [.ref (g_ad G a), .long x] h (some (.long (f_shadow x n))) h := by
  refine g_Run.of (lv := [(0, .ref (g_ad G a)), (1, .long x)]) (by decide) (Nat.le_of_ble_eq_true rfl) rfl ?_
  refine a_lconst (x := 0) 1 rfl dX3_shadowOf_0 (by decide) ?_
  refine a_lstore_n (lv' := [(3, .long 0), (0, .ref (g_ad G a)), (1, .long x)]) 2 rfl dX3_shadowOf_1 rfl (by decide) rfl ?_
  refine a_iconst (x := 0) 3 rfl dX3_shadowOf_2 (by decide) ?_
  refine a_istore (lv' := [(5, .int 0), (3, .long 0), (0, .ref (g_ad G a)), (1, .long x)]) 5 rfl dX3_shadowOf_3 (by decide) rfl ?_
  have key : ∀ j i : Nat, i + j = n → g_A G mX3_shadowOf 2 0 0 5 [(5, .int (nI i)), (3, .long (f_shadow x i)), (0, .ref (g_ad G a)), (1, .long x)] [] h (some (.long (f_shadow x n))) h := by
    intro j
    induction j with
    | zero =>
      intro i hi
      refine a_iload 0 7 rfl dX3_shadowOf_5 rfl ?_
      refine a_aload_n 2 8 rfl dX3_shadowOf_7 rfl rfl ?_
      refine a_get 1 cl_3 f_RX3_9_3 (by decide) (hC) rfl 11 rfl dX3_shadowOf_8 ?_
      refine a_icmp_ge 35 14 rfl dX3_shadowOf_11 (by decide) (fun _ => ?_) (fun hc => absurd (nI_le (by omega) (by omega)) hc)
      refine a_lload_n 1 36 rfl dX3_shadowOf_35 rfl rfl ?_
      exact a_lreturn rfl ((by rw [show i = n by omega])) (rfl) dX3_shadowOf_36
    | succ j ih =>
      intro i hi
      refine a_iload 0 7 rfl dX3_shadowOf_5 rfl ?_
      refine a_aload_n 2 8 rfl dX3_shadowOf_7 rfl rfl ?_
      refine a_get 1 cl_3 f_RX3_9_3 (by decide) (hC) rfl 11 rfl dX3_shadowOf_8 ?_
      refine a_icmp_ge 35 14 rfl dX3_shadowOf_11 (by decide) (fun hc => absurd hc (nI_ge (by omega) (by omega))) (fun _ => ?_)
      refine a_lload_n 1 15 rfl dX3_shadowOf_14 rfl rfl ?_
      refine a_lload_n 3 16 rfl dX3_shadowOf_15 rfl rfl ?_
      refine a_iload 0 18 rfl dX3_shadowOf_16 rfl ?_
      refine a_callS (as := [.int (nI i)]) (rest := [.long x, .long (f_shadow x i)]) (st2 := [.long (f_hold i), .long x, .long (f_shadow x i)]) (u1 := 0) (v1 := 0) (u2 := 0) (v2 := 0) (r_X3_holding (i := i) (by omega)) oX3_holding q_480 q_481 rfl (by decide) (by decide) rfl (Nat.le_of_ble_eq_true rfl) 21 rfl dX3_shadowOf_18 rfl ?_
      refine a_land 22 rfl dX3_shadowOf_21 ?_
      refine a_iconst (x := 1) 23 rfl dX3_shadowOf_22 (by decide) ?_
      refine a_iload 0 25 rfl dX3_shadowOf_23 rfl ?_
      refine a_ishl 26 rfl dX3_shadowOf_25 ?_
      refine a_lushr 27 rfl dX3_shadowOf_26 ?_
      refine a_lor 28 rfl dX3_shadowOf_27 ?_
      refine a_lstore_n (lv' := [(3, .long ((f_shadow x i) ||| (f_sr (x &&& (f_hold i)) ((1 : Int32) <<< ((nI i) &&& 31))))), (5, .int (nI i)), (0, .ref (g_ad G a)), (1, .long x)]) 29 rfl dX3_shadowOf_28 rfl (by decide) rfl ?_
      refine a_iinc (y := nI (i + 1)) (lv' := [(5, .int (nI (i + 1))), (3, .long ((f_shadow x i) ||| (f_sr (x &&& (f_hold i)) ((1 : Int32) <<< ((nI i) &&& 31))))), (0, .ref (g_ad G a)), (1, .long x)]) 1 32 rfl dX3_shadowOf_29 rfl (nI_1 i) (by decide) rfl ?_
      refine a_goto 5 dX3_shadowOf_32 (by decide) ?_
      exact ih (i + 1) (by omega)
  exact key n 0 (by omega)
end CU1
