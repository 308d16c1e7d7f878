/-! the law's own frame over the engine: b_A, a rule an instruction -/
def b_X (G : g_G) (b L : Nat) (xs : Nat → Int32) (u v : Nat) (lv : List (Nat × Value)) (h : List va_E) (p : Program) (s : State) (m : MethodId) (meth : Method) (c : Code) (H : Heap) (locs : List Loc) (ls : Array Slot) (cells slots : Nat) : Prop :=
  lw_At p s m meth c b L xs ∧ (g_T G s ∧ g_O G s s.heap) ∧ G.2.1 = s.heap.size ∧ va_S (g_In G) s.heap H locs ∧ va_P G.2.2.1 vwCl (g_ws G h) H ∧ H.size = G.2.1 + h.length ∧ lv_has ls 4 lv ∧ cells + u ≤ 669383 ∧ slots + v ≤ 7094098
def b_A (G : g_G) (b L : Nat) (xs : Nat → Int32) (u v pc : Nat) (lv : List (Nat × Value)) (st : List Value) (h : List va_E) : Prop :=
  ∀ (p : Program) (e : Env) (s : State) (m : MethodId) (below : List Frame) (meth : Method) (c : Code) (H : Heap) (locs : List Loc) (ls : Array Slot) (cells slots : Nat),
    b_X G b L xs u v lv h p s m meth c H locs ls cells slots → W p G.1 e room_1 s m #[Value.ref b] below meth c H locs cells slots (lw_Z below #[Value.ref b] s) (F0 m pc ls st)
section BL1
variable {G : g_G} {b L : Nat} {xs : Nat → Int32} {u v pc : Nat} {lv lv' : List (Nat × Value)} {st rest : List Value} {h h1 : List va_E}
theorem b_X.gw {p : Program} {s : State} {m : MethodId} {meth : Method} {c : Code} {H : Heap} {locs : List Loc} {ls : Array Slot} {cells slots : Nat} (X : b_X G b L xs u v lv h p s m meth c H locs ls cells slots) : ∀ w ∈ g_GW, w.before #[Value.ref b] s = true := fun w hw => X.1.2.2.2.2.2.1 w (List.mem_filter.mp hw).1
theorem b_X.nb {p : Program} {s : State} {m : MethodId} {meth : Method} {c : Code} {H : Heap} {locs : List Loc} {ls : Array Slot} {cells slots : Nat} (X : b_X G b L xs u v lv h p s m meth c H locs ls cells slots) : ¬ g_In G b := fun z => by
  have h1 : b < s.heap.size := X.1.2.2.2.2.2.2.2.1
  have h2 : G.2.1 = s.heap.size := X.2.2.1
  have h3 : G.2.1 ≤ b := z
  omega
theorem b_iconst {z : Int} {x : Int32} (hdg : decode code pc = .ok (.iconst z, 1)) (hv : Int32.ofInt z = x) (kk : b_A G b L xs u v (pc + 1) lv (.int x :: rest) h) : b_A G b L xs u v pc lv (rest) h :=
  fun p e s m below meth c H locs ls cells slots X => lv_iconst X.1.1 X.1.2.1 hdg hv (kk p e s m below meth c H locs ls cells slots X)
theorem b_bipush {z : Int} {x : Int32} (hdg : decode code pc = .ok (.bipush z, 2)) (hv : (Int8.ofInt z).toInt32 = x) (kk : b_A G b L xs u v (pc + 2) lv (.int x :: rest) h) : b_A G b L xs u v pc lv (rest) h :=
  fun p e s m below meth c H locs ls cells slots X => lv_bipush X.1.1 X.1.2.1 hdg hv (kk p e s m below meth c H locs ls cells slots X)
theorem b_iload_n (q : Nat) {kf : Fin 4} {i : Nat} {x : Int32} (hdg : decode code pc = .ok (.iload_n kf, 1)) (hi : (kf : Nat) = i) (hq : lv[q]? = some (i, .int x)) (kk : b_A G b L xs u v (pc + 1) lv (.int x :: rest) h) : b_A G b L xs u v pc lv (rest) h :=
  fun p e s m below meth c H locs ls cells slots X => lv_iload_n X.1.1 X.1.2.1 hdg hi (lv_at X.2.2.2.2.2.2.1 q hq) (kk p e s m below meth c H locs ls cells slots X)
theorem b_aload_n (q : Nat) {kf : Fin 4} {i : Nat} {x : Nat} (hdg : decode code pc = .ok (.aload_n kf, 1)) (hi : (kf : Nat) = i) (hq : lv[q]? = some (i, .ref x)) (kk : b_A G b L xs u v (pc + 1) lv (.ref x :: rest) h) : b_A G b L xs u v pc lv (rest) h :=
  fun p e s m below meth c H locs ls cells slots X => lv_aload_n X.1.1 X.1.2.1 hdg hi (lv_at X.2.2.2.2.2.2.1 q hq) (kk p e s m below meth c H locs ls cells slots X)
theorem b_iadd {x y : Int32} (hdg : decode code pc = .ok (.iadd, 1)) (kk : b_A G b L xs u v (pc + 1) lv (.int (x + y) :: rest) h) : b_A G b L xs u v pc lv (.int y :: .int x :: rest) h :=
  fun p e s m below meth c H locs ls cells slots X => lv_iadd X.1.1 X.1.2.1 hdg (kk p e s m below meth c H locs ls cells slots X)
theorem b_isub {x y : Int32} (hdg : decode code pc = .ok (.isub, 1)) (kk : b_A G b L xs u v (pc + 1) lv (.int (x - y) :: rest) h) : b_A G b L xs u v pc lv (.int y :: .int x :: rest) h :=
  fun p e s m below meth c H locs ls cells slots X => lv_isub X.1.1 X.1.2.1 hdg (kk p e s m below meth c H locs ls cells slots X)
theorem b_iand {x y : Int32} (hdg : decode code pc = .ok (.iand, 1)) (kk : b_A G b L xs u v (pc + 1) lv (.int (x &&& y) :: rest) h) : b_A G b L xs u v pc lv (.int y :: .int x :: rest) h :=
  fun p e s m below meth c H locs ls cells slots X => lv_iand X.1.1 X.1.2.1 hdg (kk p e s m below meth c H locs ls cells slots X)
theorem b_land {x y : Int64} (hdg : decode code pc = .ok (.land, 1)) (kk : b_A G b L xs u v (pc + 1) lv (.long (x &&& y) :: rest) h) : b_A G b L xs u v pc lv (.long y :: .long x :: rest) h :=
  fun p e s m below meth c H locs ls cells slots X => lv_land X.1.1 X.1.2.1 hdg (kk p e s m below meth c H locs ls cells slots X)
theorem b_lor {x y : Int64} (hdg : decode code pc = .ok (.lor, 1)) (kk : b_A G b L xs u v (pc + 1) lv (.long (x ||| y) :: rest) h) : b_A G b L xs u v pc lv (.long y :: .long x :: rest) h :=
  fun p e s m below meth c H locs ls cells slots X => lv_lor X.1.1 X.1.2.1 hdg (kk p e s m below meth c H locs ls cells slots X)
theorem b_lshl {x : Int64} {y : Int32} (hdg : decode code pc = .ok (.lshl, 1)) (kk : b_A G b L xs u v (pc + 1) lv (.long (x <<< (y.toInt64 &&& 63)) :: rest) h) : b_A G b L xs u v pc lv (.int y :: .long x :: rest) h :=
  fun p e s m below meth c H locs ls cells slots X => lv_lshl X.1.1 X.1.2.1 hdg rfl (kk p e s m below meth c H locs ls cells slots X)
theorem b_i2l {x : Int32} (hdg : decode code pc = .ok (.i2l, 1)) (kk : b_A G b L xs u v (pc + 1) lv (.long x.toInt64 :: rest) h) : b_A G b L xs u v pc lv (.int x :: rest) h :=
  fun p e s m below meth c H locs ls cells slots X => lv_i2l X.1.1 X.1.2.1 hdg rfl (kk p e s m below meth c H locs ls cells slots X)
theorem b_dup {x : Value} (hdg : decode code pc = .ok (.dup, 1)) (hc : x.category = 1) (kk : b_A G b L xs u v (pc + 1) lv (x :: x :: rest) h) : b_A G b L xs u v pc lv (x :: rest) h :=
  fun p e s m below meth c H locs ls cells slots X => lv_dup X.1.1 X.1.2.1 hdg hc (kk p e s m below meth c H locs ls cells slots X)
theorem b_istore_n {kf : Fin 4} {i : Nat} {x : Int32} (hdg : decode code pc = .ok (.istore_n kf, 1)) (hi : (kf : Nat) = i) (hn : i < 4) (hl : (i, Value.int x) :: lv.filter (fun q => !(q.1 == i) && !(q.1 + 1 == i && q.2.category == 2)) = lv') (kk : b_A G b L xs u v (pc + 1) lv' rest h) : b_A G b L xs u v pc lv (Value.int x :: rest) h :=
  fun p e s m below meth c H locs ls cells slots X => lv_istore_n X.1.1 X.1.2.1 hdg hi X.2.2.2.2.2.2.1 hn hl (fun ls' hl' => kk p e s m below meth c H locs ls' cells slots ⟨X.1, X.2.1, X.2.2.1, X.2.2.2.1, X.2.2.2.2.1, X.2.2.2.2.2.1, hl', X.2.2.2.2.2.2.2⟩)
theorem b_astore_n {kf : Fin 4} {i : Nat} {x : Nat} (hdg : decode code pc = .ok (.astore_n kf, 1)) (hi : (kf : Nat) = i) (hn : i < 4) (hl : (i, Value.ref x) :: lv.filter (fun q => !(q.1 == i) && !(q.1 + 1 == i && q.2.category == 2)) = lv') (kk : b_A G b L xs u v (pc + 1) lv' rest h) : b_A G b L xs u v pc lv (Value.ref x :: rest) h :=
  fun p e s m below meth c H locs ls cells slots X => lv_astore_n X.1.1 X.1.2.1 hdg hi X.2.2.2.2.2.2.1 hn hl (fun ls' hl' => kk p e s m below meth c H locs ls' cells slots ⟨X.1, X.2.1, X.2.2.1, X.2.2.2.1, X.2.2.2.2.1, X.2.2.2.2.2.1, hl', X.2.2.2.2.2.2.2⟩)
theorem b_iinc (q : Nat) {i : Nat} {z : Int} {x y : Int32} (hdg : decode code pc = .ok (.iinc i z, 3)) (hq : lv[q]? = some (i, .int x)) (hv : x + Int32.ofInt z = y) (hn : i < 4) (hl : (i, Value.int y) :: lv.filter (fun q => !(q.1 == i) && !(q.1 + 1 == i && q.2.category == 2)) = lv') (kk : b_A G b L xs u v (pc + 3) lv' rest h) : b_A G b L xs u v pc lv rest h :=
  fun p e s m below meth c H locs ls cells slots X => lv_iinc X.1.1 X.1.2.1 hdg X.2.2.2.2.2.2.1 hq hv hn hl (fun ls' hl' => kk p e s m below meth c H locs ls' cells slots ⟨X.1, X.2.1, X.2.2.1, X.2.2.2.1, X.2.2.2.2.1, X.2.2.2.2.2.1, hl', X.2.2.2.2.2.2.2⟩)
theorem b_goto (tgt : Nat) {off : Int} (hdg : decode code pc = .ok (.goto off, 3)) (ht : (pc : Int) + off = (tgt : Int)) (kk : b_A G b L xs u v tgt lv rest h) : b_A G b L xs u v pc lv rest h :=
  fun p e s m below meth c H locs ls cells slots X => lv_goto X.1.1 X.1.2.1 hdg ht (kk p e s m below meth c H locs ls cells slots X)
theorem b_sub (ks : List Nat) (hl : lv_pick lv ks = lv') (kk : b_A G b L xs u v pc lv' st h) : b_A G b L xs u v pc lv st h :=
  fun p e s m below meth c H locs ls cells slots X => kk p e s m below meth c H locs ls cells slots ⟨X.1, X.2.1, X.2.2.1, X.2.2.2.1, X.2.2.2.2.1, X.2.2.2.2.2.1, lv_sub X.2.2.2.2.2.2.1 ks hl, X.2.2.2.2.2.2.2⟩
theorem b_eq {pc2 : Nat} {lv2 : List (Nat × Value)} {st2 : List Value} {h2 : List va_E} (e1 : pc = pc2) (e2 : lv = lv2) (e3 : st = st2) (e4 : h = h2) (kk : b_A G b L xs u v pc2 lv2 st2 h2) : b_A G b L xs u v pc lv st h := by subst e1; subst e2; subst e3; subst e4; exact kk
theorem b_widen {u2 v2 : Nat} (h1 : u2 ≤ u) (h2 : v2 ≤ v) (kk : b_A G b L xs u2 v2 pc lv st h) : b_A G b L xs u v pc lv st h :=
  fun p e s m below meth c H locs ls cells slots X => kk p e s m below meth c H locs ls cells slots ⟨X.1, X.2.1, X.2.2.1, X.2.2.2.1, X.2.2.2.2.1, X.2.2.2.2.2.1, X.2.2.2.2.2.2.1, by have := X.2.2.2.2.2.2.2.1; omega, by have := X.2.2.2.2.2.2.2.2; omega⟩
theorem b_if_eq (tgt : Nat) {x : Int32} {off : Int} (hdg : decode code pc = .ok (.ifCond .eq off, 3)) (ht : (pc : Int) + off = (tgt : Int)) (kt : x = 0 → b_A G b L xs u v tgt lv rest h) (kf : ¬ x = 0 → b_A G b L xs u v (pc + 3) lv rest h) : b_A G b L xs u v pc lv (.int x :: rest) h :=
  fun p e s m below meth c H locs ls cells slots X => lv_if_eq X.1.1 X.1.2.1 hdg ht (fun hc => kt hc p e s m below meth c H locs ls cells slots X) (fun hc => kf hc p e s m below meth c H locs ls cells slots X)
theorem b_icmp_eq (tgt : Nat) {x y : Int32} {off : Int} (hdg : decode code pc = .ok (.if_icmp .eq off, 3)) (ht : (pc : Int) + off = (tgt : Int)) (kt : x = y → b_A G b L xs u v tgt lv rest h) (kf : ¬ x = y → b_A G b L xs u v (pc + 3) lv rest h) : b_A G b L xs u v pc lv (.int y :: .int x :: rest) h :=
  fun p e s m below meth c H locs ls cells slots X => lv_icmp_eq X.1.1 X.1.2.1 hdg ht (fun hc => kt hc p e s m below meth c H locs ls cells slots X) (fun hc => kf hc p e s m below meth c H locs ls cells slots X)
theorem b_icmp_gt (tgt : Nat) {x y : Int32} {off : Int} (hdg : decode code pc = .ok (.if_icmp .gt off, 3)) (ht : (pc : Int) + off = (tgt : Int)) (kt : y < x → b_A G b L xs u v tgt lv rest h) (kf : ¬ y < x → b_A G b L xs u v (pc + 3) lv rest h) : b_A G b L xs u v pc lv (.int y :: .int x :: rest) h :=
  fun p e s m below meth c H locs ls cells slots X => lv_icmp_gt X.1.1 X.1.2.1 hdg ht (fun hc => kt hc p e s m below meth c H locs ls cells slots X) (fun hc => kf hc p e s m below meth c H locs ls cells slots X)
theorem b_tableOut (tgt : Nat) {dflt lo hi : Int} {offs : Array Int} {len : Nat} {x : Int32} (hdg : decode code pc = .ok (.tableswitch dflt lo hi offs, len)) (hx : x.toInt < lo ∨ hi < x.toInt) (ht : (pc : Int) + dflt = (tgt : Int)) (kk : b_A G b L xs u v tgt lv rest h) : b_A G b L xs u v pc lv (.int x :: rest) h :=
  fun p e s m below meth c H locs ls cells slots X => lv_tableOut X.1.1 X.1.2.1 hdg hx ht (kk p e s m below meth c H locs ls cells slots X)
theorem b_tableIn (tgt : Nat) {dflt lo hi : Int} {offs : Array Int} {len : Nat} {x : Int32} {off : Int} (hdg : decode code pc = .ok (.tableswitch dflt lo hi offs, len)) (h1 : ¬ x.toInt < lo) (h2 : ¬ hi < x.toInt) (ho : offs[(x.toInt - lo).toNat]? = some off) (ht : (pc : Int) + off = (tgt : Int)) (kk : b_A G b L xs u v tgt lv rest h) : b_A G b L xs u v pc lv (.int x :: rest) h :=
  fun p e s m below meth c H locs ls cells slots X => lv_tableIn X.1.1 X.1.2.1 hdg h1 h2 ho ht (kk p e s m below meth c H locs ls cells slots X)
theorem b_lcmp {x y : Int64} (hdg : decode code pc = .ok (.lcmp, 1)) (kk : b_A G b L xs u v (pc + 1) lv (.int (lg_cmp x y) :: rest) h) : b_A G b L xs u v pc lv (.long y :: .long x :: rest) h :=
  fun p e s m below meth c H locs ls cells slots X => W.lcmp X.1.1 X.1.2.1 hdg (kk p e s m below meth c H locs ls cells slots X)
theorem b_ldc2 {index : Nat} {x : Int64} (hw : Cond.constantLong RL index x ∈ g_GW) (hdg : decode code pc = .ok (.ldc2_w index, 3)) (kk : b_A G b L xs u v (pc + 3) lv (.long x :: rest) h) : b_A G b L xs u v pc lv rest h :=
  fun p e s m below meth c H locs ls cells slots X => lv_ldc2 X.1.1 X.1.2.1 (show s.vm.findClass RL = some m.cls from X.1.2.2.2.2.1) (X.gw _ hw) hdg (kk p e s m below meth c H locs ls cells slots X)
theorem b_len (hdg : decode code pc = .ok (.arraylength, 1)) (kk : b_A G b L xs u v (pc + 1) lv (.int (nI L) :: rest) h) : b_A G b L xs u v pc lv (.ref b :: rest) h :=
  fun p e s m below meth c H locs ls cells slots X => va_slen X.1.1 X.1.2.1 X.1.2.2.2.2.2.2.1 X.1.2.2.2.2.2.2.2.1 X.nb X.2.2.2.1 hdg (kk p e s m below meth c H locs ls cells slots X)
theorem b_ld {i : Int32} {j : Nat} (hj : i.toNatClampNeg = j) (hin : vp_in i L) (hdg : decode code pc = .ok (.iaload, 1)) (kk : b_A G b L xs u v (pc + 1) lv (.int (xs j) :: rest) h) : b_A G b L xs u v pc lv (.int i :: .ref b :: rest) h := by
  subst hj
  exact fun p e s m below meth c H locs ls cells slots X => va_sld X.1.1 X.1.2.1 X.1.2.2.2.2.2.2.1 X.1.2.2.2.2.2.2.2.1 X.nb X.2.2.2.1 hin hdg (kk p e s m below meth c H locs ls cells slots X)
/-- script[i + k] -/
theorem b_arg {i k : Nat} {z : Int} (q q3 : Nat) (h0 : decode code pc = .ok (.aload_n 0, 1)) (h1 : decode code (pc + 1) = .ok (.iload_n 3, 1)) (h2 : decode code (pc + 2) = .ok (.iconst z, 1)) (hz : Int32.ofInt z = nI k) (h3 : decode code (pc + 3) = .ok (.iadd, 1)) (h4 : decode code (pc + 4) = .ok (.iaload, 1)) (hq : lv[q]? = some (0, .ref b)) (hq3 : lv[q3]? = some (3, .int (nI i))) (hi : i + k < L) (hL : L ≤ 3072) (kk : b_A G b L xs u v (pc + 5) lv (.int (xs (i + k)) :: rest) h) : b_A G b L xs u v pc lv rest h := by
  refine b_aload_n q h0 rfl hq ?_
  refine b_iload_n q3 h1 rfl hq3 ?_
  refine b_iconst (x := nI k) h2 hz ?_
  refine b_iadd h3 ?_
  rw [nI_add]
  exact b_ld (nI_clamp (by omega)) (vp_in_nI hi (by omega)) h4 kk
theorem b_push {n : Nat} {e1 : va_E} {p : Program} {s : State} {m : MethodId} {meth : Method} {c : Code} {H H1 : Heap} {locs : List Loc} {ls : Array Slot} {cells slots : Nat} (X : b_X G b L xs (u + 1) (v + n) lv h p s m meth c H locs ls cells slots) (z : H1.size = H.size + 1) (oq : ∀ q : Nat, q < H.size → H1[q]? = H[q]?) (hat : va_at G.2.2.1 vwCl (g_ad G h.length, e1) H1) : b_X G b L xs u v lv (h ++ [e1]) p s m meth c H1 locs ls (cells + 1) (slots + n) := by
  obtain ⟨X1, X2, X0, X3, X4, X5, X6, X7, X8⟩ := X
  refine ⟨X1, X2, X0, ⟨Nat.le_trans X3.1 (by omega), fun q h1 h2 => (oq q (Nat.lt_of_lt_of_le h1 X3.1)).trans (X3.2.1 q h1 h2), X3.2.2⟩, ?_, by rw [z, X5, List.length_append]; rfl, X6, by omega, by omega⟩
  rw [← g_ws_push]
  refine (X4.kept fun k q hq => oq q.1 (X4 k q hq).lt).app fun k q hq => ?_
  have hz : k < 1 := (List.getElem?_eq_some_iff.mp hq).1
  rw [show k = 0 by omega] at hq
  cases hq
  exact hat
theorem b_new {C : String} {T : u_T} {N cx index : Nat} {fs : List Value} {ty0 : Nat → FieldType} (hcl : g_Cl cx C T N ty0) (hw1 : Cond.classLink RL index C ∈ g_GW) (hw2 : Cond.instantiable C N ∈ g_GW) (hw3 : Cond.initialized C ∈ g_GW) (hfs : ∀ j, j < N → defaultValue (ty0 j) = vp_V fs j) (hdg : decode code pc = .ok (.new index, 3)) (kk : b_A G b L xs u v (pc + 3) lv (.ref (g_ad G h.length) :: rest) (h ++ [.inr (cx, fs)])) : b_A G b L xs (u + 1) (v + N) pc lv rest h := by
  intro p e s m below meth c H locs ls cells slots X
  obtain ⟨hc, hin, hty, hnm⟩ := hcl
  have hts := X.gw
  have hK := X.2.1.1.1
  have hz : H.size = G.2.1 + h.length := X.2.2.2.2.2.1
  have hlen : g_ad G h.length = H.size := by unfold g_ad; omega
  have hr1 := X.2.2.2.2.2.2.2.1
  have hr2 := X.2.2.2.2.2.2.2.2
  have hKn := hK.1 cx _ hc
  refine W.newcK X.1.1 X.1.2.1 (show s.vm.findClass RL = some m.cls from X.1.2.2.2.2.1) (hts _ hw1) (hts _ hw2) (hts _ hw3) rfl hdg (by show cells + 1 ≤ 669383; omega) (by show slots + N ≤ 7094098; omega) hKn.2.1 rfl fun H1 kC hkC e1 z1 o1 => ?_
  rw [← hlen]
  refine kk p e s m below meth c H1 locs ls (cells + 1) (slots + N) (b_push X z1 o1 ?_)
  rw [hlen]
  exact ⟨_, hc, (u_born ty0 hts hin hKn hkC e1 hty).to hfs⟩
theorem b_call {u1 u2 v1 v2 : Nat} {r1 : Option Value} {p : Program} {e : Env} {s : State} {m : MethodId} {below : List Frame} {meth : Method} {c : Code} {H : Heap} {locs : List Loc} {ls : Array Slot} {cells slots : Nat} {a : Array Value} {st0 : List Value}
    (X : b_X G b L xs (u1 + u2) (v1 + v2) lv h p s m meth c H locs ls cells slots)
    (hr : va_Run p G.1 e room_1 s m #[Value.ref b] below meth c H locs cells slots u1 v1 (F0 m pc ls st0) rest (g_Qc G r1 h1 a) (g_In G))
    (kk : b_A G b L xs u2 v2 (pc + 3) lv (r1.toList ++ rest) h1) : W p G.1 e room_1 s m #[Value.ref b] below meth c H locs cells slots (lw_Z below #[Value.ref b] s) (F0 m pc ls st0) := by
  intro T hT XT
  obtain ⟨x, st₀, t, T', LL, h0, X', hL, e1, e2, ⟨hv, hP1, hz1, hF1⟩, st⟩ := hr T hT XT
  cases hv
  obtain ⟨X1, X2, X0, X3, X4, X5, X6, X7, X8⟩ := X
  have hsz : H.size ≤ t.heap.size := by rw [← h0]; exact hF1.1
  have hkeep : ∀ q : Nat, q < H.size → ¬ g_In G q → t.heap[q]? = H[q]? := by rw [← h0]; exact hF1.2
  have hX1 : b_X G b L xs u2 v2 lv h1 p s m meth c T'.heap (locs ++ LL) ls (cells + u1) (slots + v1) := by
    refine ⟨X1, X2, X0, ⟨Nat.le_trans X3.1 (by rw [e1]; exact hsz), fun q hq hn => ?_, fun q hq => ?_⟩, by rw [e1]; exact hP1, by rw [e1]; exact hz1, X6, by omega, by omega⟩
    · rw [e1, hkeep q (Nat.lt_of_lt_of_le hq X3.1) hn]
      exact X3.2.1 q hq hn
    · rcases List.mem_append.mp hq with hq | hq
      · exact X3.2.2 q hq
      · exact hL q hq
  obtain ⟨t2, a1, b1⟩ := kk p e s m below meth c T'.heap (locs ++ LL) ls (cells + u1) (slots + v1) hX1 T' rfl X'
  exact ⟨t2, st t2 a1, b1⟩
theorem b_pre {as : List Value} {p : Program} {s : State} {m : MethodId} {meth : Method} {c : Code} {H : Heap} {locs : List Loc} {ls : Array Slot} {cells slots : Nat} (X : b_X G b L xs u v lv h p s m meth c H locs ls cells slots) : ∀ U : State, U.heap = H → s.WarmedH U.vm → va_Pc as (g_H G h) as.toArray U := by
  intro U hU hW
  obtain ⟨X1, X2, X0, X3, X4, X5, X6, X7, X8⟩ := X
  subst hU
  exact ⟨rfl, X4, X5, X2.1.warm hW, (X2.2.1.kept X3.2.1).moved hW.alike, (X2.2.2.kept X3.2.1).moved hW.alike⟩
theorem b_hR {d1 u1 v1 ml : Nat} (hdd : d1 ≤ 13) (hml : ml ≤ 40) : (g_room d1 u1 v1).frames + 1 ≤ room_1.frames ∧ 8 + (ml + 11) + (g_room d1 u1 v1).locals ≤ room_1.locals := by
  refine ⟨?_, ?_⟩
  · show d1 + 1 ≤ 2048
    omega
  · show 8 + (ml + 11) + (60 * d1 + 12) ≤ 84000
    omega
theorem b_room2 {u1 u2 v1 v2 : Nat} {p : Program} {s : State} {m : MethodId} {meth : Method} {c : Code} {H : Heap} {locs : List Loc} {ls : Array Slot} {cells slots : Nat} (X : b_X G b L xs (u1 + u2) (v1 + v2) lv h p s m meth c H locs ls cells slots) : cells + u1 ≤ room_1.cells ∧ slots + v1 ≤ room_1.slots := by
  have h7 := X.2.2.2.2.2.2.2.1
  have h8 := X.2.2.2.2.2.2.2.2
  refine ⟨?_, ?_⟩
  · show _ ≤ 669383
    omega
  · show _ ≤ 7094098
    omega
theorem b_recv {C : String} {a : Nat} {p : Program} {s : State} {m : MethodId} {meth : Method} {c : Code} {H : Heap} {locs : List Loc} {ls : Array Slot} {cells slots : Nat} (X : b_X G b L xs u v lv h p s m meth c H locs ls cells slots) (ho : g_Ob h C a) : ∃ cell : Cell, H[g_ad G a]? = some cell ∧ cell.vm.isStatics = false ∧ s.vm.findClass C = some cell.cls := by
  obtain ⟨c, T, N, fs, h1, h2⟩ := ho
  exact va_recv (q := (C, T, N)) X.2.1.1.1 X.2.2.2.2.1 h2 (g_ws_at h1)
theorem b_callV {Mc : g_M} {d1 u1 u2 v1 v2 index : Nat} {r1 : Option Value} {as st2 : List Value} {a : Nat} (hR : g_Run G Mc d1 u1 v1 (.ref (g_ad G a) :: as) h r1 h1) (ho : g_Ob h Mc.1.cls a) (hO : g_Own Mc) (hw : Cond.methodLink RL index Mc.1 ∈ g_GW) (hi : Cond.instanceMethod Mc.1 ∈ g_GW) (hs : Cond.selects Mc.1.cls Mc.1 Mc.1 ∈ g_GW) (hpd : (parseMethodDescriptor Mc.1.desc).map (fun d => d.parameters.length) = some as.length) (hdd : d1 ≤ 13) (hml : Mc.2.2.1 ≤ 40) (hst : st = as.reverse ++ .ref (g_ad G a) :: rest) (hrest : (rest.map fun v => v.category).sum ≤ 8) (pc2 : Nat) (hp : pc + 3 = pc2) (hdg : decode code pc = .ok (.invokevirtual index, 3)) (hst2 : r1.toList ++ rest = st2) (kk : b_A G b L xs u2 v2 pc2 lv st2 h1) : b_A G b L xs (u1 + u2) (v1 + v2) pc lv st h := by
  subst hp
  subst hst2
  intro p e s m below meth c H locs ls cells slots X
  have hown : s.vm.findClass RL = some m.cls := X.1.2.2.2.2.1
  refine b_call X (va_runV (As := as) (C := Mc.1.cls) ⟨X.1.1, X.1.2.1, X.1.2.2.2.1, hown, X.gw⟩ (hR u1 v1 (Nat.le_refl _) (Nat.le_refl _)) (cwV (ws := g_code Mc :: g_GW) as.length X.gw (g_goodA (g_goodL ?_) (g_goodC hO.1)) rfl rfl rfl ⟨rfl, hO.2.2.1, hO.2.2.2, hpd⟩ (b_hR hdd hml)) ⟨g_blind, b_recv X ho, b_pre X⟩ rfl rfl X.2.2.2.2.2.2.1.1 hst (lv_room hrest) hdg (b_room2 X)) kk
  intro w h
  rcases List.mem_cons.mp h with rfl | h
  · exact hw
  rcases List.mem_cons.mp h with rfl | h
  · exact hi
  rcases List.mem_cons.mp h with rfl | h
  · exact hs
  rcases List.mem_cons.mp h with rfl | h
  · exact hO.2.1
  cases h
theorem b_callI {Mc : g_M} {d1 u1 u2 v1 v2 index : Nat} {as : List Value} {a : Nat} (hR : g_Run G Mc d1 u1 v1 (.ref (g_ad G a) :: as) h none h1) (hret : Mc.2.2.2 = none) (hO : g_Own Mc) (hw : Cond.methodLink RL index Mc.1 ∈ g_GW) (hi : Cond.instanceMethod Mc.1 ∈ g_GW) (hn : Mc.1.name = "<init>") (hpd : (parseMethodDescriptor Mc.1.desc).map (fun d => d.parameters.length) = some as.length) (hdd : d1 ≤ 13) (hml : Mc.2.2.1 ≤ 40) (hst : st = as.reverse ++ .ref (g_ad G a) :: rest) (hrest : (rest.map fun v => v.category).sum ≤ 8) (pc2 : Nat) (hp : pc + 3 = pc2) (hdg : decode code pc = .ok (.invokespecial index, 3)) (kk : b_A G b L xs u2 v2 pc2 lv rest h1) : b_A G b L xs (u1 + u2) (v1 + v2) pc lv st h := by
  subst hp
  obtain ⟨y, bb, nl, rt⟩ := Mc
  dsimp only at hret hn hpd hml hi hw
  subst hret
  intro p e s m below meth c H locs ls cells slots X
  have hts := X.gw
  have hown : s.vm.findClass RL = some m.cls := X.1.2.2.2.2.1
  exact b_call X (va_runI (As := as) ⟨X.1.1, X.1.2.1, X.1.2.2.2.1, hown, hts⟩ (hR u1 v1 (Nat.le_refl _) (Nat.le_refl _)) (cwI (ws := g_code (y, bb, nl, none) :: g_GW) as.length hts (g_goodC hO.1) rfl rfl rfl (hts _ hO.2.1) (hts _ hw) (hts _ hi) hn ⟨hO.2.2.1, hO.2.2.2, hpd⟩ (b_hR (ml := nl) hdd hml)) ⟨g_blind, b_pre X⟩ rfl rfl X.2.2.2.2.2.2.1.1 hst (lv_room hrest) hdg (b_room2 X)) kk
theorem b_ret (hdg : decode code pc = .ok (.ireturn, 1)) : b_A G b L xs u v pc lv [.int 1] h := by
  intro p e s m below meth c H locs ls cells slots X
  have h7 := X.2.2.2.2.2.2.2.1
  have h8 := X.2.2.2.2.2.2.2.2
  refine va_forget (fun q hq => ?_) ?_
  · have h1 : G.2.1 ≤ q.base := X.2.2.2.1.2.2 q hq
    have h2 : G.2.1 = s.heap.size := X.2.2.1
    show s.heap.size ≤ q.base
    omega
  · refine W.widen (k := 669383) (n := 7094098) (by omega) (by omega) ?_
    refine W.base ?_
    exact lw_ret (Drawn.sameBut.refl s.drawn lw_cs) X.1.1 X.1.2.1 X.1.2.2.1 X.1.2.2.2.2.2.2.2.2.1 hdg
end BL1
