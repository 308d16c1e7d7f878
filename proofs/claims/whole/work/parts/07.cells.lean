/-! short names for cells, small rows on numbers -/
abbrev c_I (G : g_G) (n : Nat) (f : Nat → Int32) : va_E := .inl (g_ci G 0, n, .inl f)
abbrev c_L (G : g_G) (n : Nat) (f : Nat → Int64) : va_E := .inl (g_ci G 1, n, .inr (.inl f))
abbrev c_B (G : g_G) (n : Nat) (f : Nat → Int32) : va_E := .inl (g_ci G 2, n, .inl f)
abbrev c_Q (G : g_G) (t n : Nat) (f : Nat → Option Nat) : va_E := .inl (g_ci G t, n, .inr (.inr (.inr (.inr f))))
abbrev c_O (c : Nat) (fs : List Value) : va_E := .inr (c, fs)
theorem g_out_ge {x : Int32} {n : Nat} (hi : ¬ vp_in x n) (h0 : ¬ x < 0) (hn : n < 2 ^ 31) : nI n ≤ x := by
  obtain ⟨j, hj, rfl⟩ := nI_of h0
  rcases Nat.lt_or_ge j n with q | q
  · exact absurd (vp_in_nI q hn) hi
  · exact nI_le q hj
theorem g_cl {j : Nat} (h : j < 2 ^ 31) : (nI j).toNatClampNeg = j := nI_clamp h
theorem g_cmp_ne {x y : Int64} : ¬ lg_cmp x y = 0 ↔ ¬ x = y := by
  unfold lg_cmp
  by_cases h1 : y < x
  · simp [h1]
    intro e
    subst e
    simp at h1
  · by_cases h2 : x = y
    · simp [h1, h2]
    · simp [h1, h2]
theorem g_cmp_lt {x y : Int64} : lg_cmp x y < 0 ↔ x < y := by
  unfold lg_cmp
  by_cases h1 : y < x
  · simp only [h1, if_true]
    refine ⟨fun h => absurd h (by decide), fun h => ?_⟩
    exact absurd (Int64.lt_trans h h1) (by simp)
  · by_cases h2 : x = y
    · subst h2
      simp
    · simp only [h1, h2, if_false]
      refine ⟨fun _ => ?_, fun _ => by decide⟩
      rw [Int64.lt_iff_toInt_lt] at h1 ⊢
      have h3 : x.toInt ≠ y.toInt := fun q => h2 (Int64.toInt_inj.mp q)
      omega
theorem g_cmp_gt {x y : Int64} : 0 < lg_cmp x y ↔ y < x := by
  unfold lg_cmp
  by_cases h1 : y < x
  · simp only [h1, if_true]
    exact ⟨fun _ => trivial, fun _ => by decide⟩
  · by_cases h2 : x = y
    · simp [h1, h2]
    · simp only [h1, h2, if_false]
      exact ⟨fun h => absurd h (by decide), fun h => h.elim⟩
theorem g_cmp_eq {x y : Int64} : lg_cmp x y = 0 ↔ x = y := by
  have := @g_cmp_ne x y
  exact ⟨fun h => Decidable.not_not.mp fun q => (this.mpr q) h, fun h => Decidable.not_not.mp fun q => (this.mp q) h⟩
theorem g_cmp_ge {x y : Int64} : 0 ≤ lg_cmp x y ↔ y ≤ x := by
  have := @g_cmp_lt x y
  rw [← Int32.not_lt, this, Int64.not_lt]
theorem g_cmp_le {x y : Int64} : lg_cmp x y ≤ 0 ↔ x ≤ y := by
  have := @g_cmp_gt x y
  rw [← Int32.not_lt, this, Int64.not_lt]
theorem g_set_self {h : List va_E} {k : Nat} {e : va_E} (he : h[k]? = some e) : h.set k e = h := by
  apply List.ext_getElem?
  intro i
  rw [List.getElem?_set]
  by_cases hi : k = i
  · subst hi
    rw [if_pos rfl, if_pos (g_lt he), he]
  · rw [if_neg hi]
/-- shifts of longs, by an int -/
def f_sr (x : Int64) (y : Int32) : Int64 := (x.toUInt64 >>> (y.toInt64.toUInt64 &&& Int64.toUInt64 63)).toInt64
def f_sl (x : Int64) (y : Int32) : Int64 := x <<< (y.toInt64 &&& 63)
/-- 1 << i, an int -/
def f_pw (i : Nat) : Int32 := (1 : Int32) <<< (nI i &&& 31)
/-- null, or a family -/
def g_fam (G : g_G) (h : List va_E) (r : Option Nat) : Prop := ∀ x, r = some x → ∃ (o : Nat) (fs : List Value), x = g_ad G o ∧ h[o]? = some (c_O 5 fs)
theorem a_ast3R {G : g_G} {M : g_M} {d u v pc : Nat} {lv : List (Nat × Value)} {rest : List Value} {h h' : List va_E} {r0 : Option Value} {a n : Nat} {f : Nat → Option Nat} {i : Int32} {r : Option Nat} (he : h[a]? = some (c_Q G 3 n f)) (hr : g_fam G h r) (hin : vp_in i n) (pc2 : Nat) (hp : pc + 1 = pc2) (hdg : decode M.2.1 pc = .ok (.aastore, 1)) (kk : g_A G M d u v pc2 lv rest (h.set a (c_Q G 3 n (va_up f i.toNatClampNeg r))) r0 h') : g_A G M d u v pc lv (va_rf r :: .int i :: .ref (g_ad G a) :: rest) h r0 h' := by
  cases r with
  | none => exact a_ast3N he hin pc2 hp hdg kk
  | some x =>
    obtain ⟨o, fs, rfl, ho⟩ := hr x rfl
    exact a_ast3 he ho hin pc2 hp hdg kk
/-- the heap h1 is h but for the cells S, and may be longer -/
def g_kp (S : List Nat) (h h1 : List va_E) : Prop := h1.length = h.length ∧ ∀ k, k ∉ S → k < h.length → h1[k]? = h[k]?
theorem g_kp.rf {S : List Nat} {h : List va_E} : g_kp S h h := ⟨rfl, fun _ _ _ => rfl⟩
theorem g_kp.set {S : List Nat} {h h1 : List va_E} {k : Nat} {c : va_E} (hk : g_kp S h h1) (hs : k ∈ S) : g_kp S h (h1.set k c) :=
  ⟨by rw [List.length_set]; exact hk.1, fun j hj hl => by rw [List.getElem?_set_ne (fun (e : k = j) => hj (e ▸ hs))]; exact hk.2 j hj hl⟩
theorem g_kp.tr {S : List Nat} {h h1 h2 : List va_E} (ha : g_kp S h h1) (hb : g_kp S h1 h2) : g_kp S h h2 :=
  ⟨hb.1.trans ha.1, fun k hk hl => (hb.2 k hk (Nat.lt_of_lt_of_le hl (Nat.le_of_eq ha.1.symm))).trans (ha.2 k hk hl)⟩
theorem g_kp.mono {S T : List Nat} {h h1 : List va_E} (ha : g_kp S h h1) (hs : ∀ k ∈ S, k ∈ T) : g_kp T h h1 := ⟨ha.1, fun k hk hl => ha.2 k (fun z => hk (hs k z)) hl⟩
theorem g_kp.at {S : List Nat} {h h1 : List va_E} (ha : g_kp S h h1) {k : Nat} {e : va_E} (hk : k ∉ S) (he : h[k]? = some e) : h1[k]? = some e := (ha.2 k hk (g_lt he)).trans he
/-- a heap that is kept but for some cells, said by them -/
theorem g_kp.eq {S : List Nat} {h h1 h2 : List va_E} (ha : g_kp S h h1) (hl : h2.length = h.length) (hs : ∀ k ∈ S, h1[k]? = h2[k]?) (ho : ∀ k, k ∉ S → h2[k]? = h[k]?) : h1 = h2 := by
  refine List.ext_getElem? (fun k => ?_)
  by_cases hk : k ∈ S
  · exact hs k hk
  · rw [ho k hk]
    by_cases hz : k < h.length
    · exact ha.2 k hk hz
    · rw [List.getElem?_eq_none (by rw [ha.1]; omega), List.getElem?_eq_none (by omega)]
/-- a private method is selected whatever the receiver's class -/
theorem g_selP {C : String} {x0 y0 y : MethodName} {s : State} {args : Array Value} (hy : y.cls ≠ "java/lang/invoke/MethodHandle" ∧ y.cls ≠ "java/lang/invoke/VarHandle")
    (h0 : (Cond.selects C x0 y0).before args s = true) (hc : y0.cls = y.cls) (hpriv : (Cond.privateMethod y).before args s = true) (hinst : (Cond.instanceMethod y).before args s = true) :
    (Cond.selects C y y).before args s = true := by
  obtain ⟨c2, r2, m2, q1, q2, q3, q4, kP, hkP, hkPi⟩ := Cond.selects_spec h0
  obtain ⟨mk, methM, hnamed, hmethM, -, -⟩ := Cond.instanceMethod_spec hinst
  have hfound : s.methodFound? y.cls y.name y.desc = some mk := State.methodFound?_of_named hnamed hy
  have hsel : selectMethod {} s.vm c2 mk = .method mk := selectMethod_private hmethM (Cond.privateMethod_at hpriv mk methM hnamed hmethM)
  have hm2 := findClass_of_methodNamed q3
  rw [hc] at hm2
  have hcls : mk.cls = m2.cls := Option.some.inj ((findClass_of_methodNamed hnamed).symm.trans hm2)
  simp only [Cond.before, Cond.holds, Cond.value, q1, hfound, hnamed, hsel, hcls, hkP]
  simp
  exact hkPi
theorem a_callUP {G : g_G} {M Mc : g_M} {d d1 u1 v1 u2 v2 pc index : Nat} {lv : List (Nat × Value)} {st st2 rest as : List Value} {h h' h1 : List va_E} {r r1 : Option Value} {a : Nat} {C : String} {x0 y0 : MethodName} (hR : g_Run G Mc d1 u1 v1 (.ref (g_ad G a) :: as) h r1 h1) (ho : g_Ob h C a) (hO : g_Own Mc) (w1 : Cond.methodLink M.1.cls index Mc.1 ∈ g_GW) (w2 : Cond.sameMethod Mc.1.cls Mc.1.cls Mc.1.name Mc.1.desc ∈ g_GW) (w3 : Cond.selects C x0 y0 ∈ g_GW) (w4 : y0.cls = Mc.1.cls) (w5 : Cond.privateMethod Mc.1 ∈ g_NW) (hi : Cond.instanceMethod Mc.1 ∈ g_GW) (hpd : (parseMethodDescriptor Mc.1.desc).map (fun d => d.parameters.length) = some as.length) (hdd : d1 < d) (hml : Mc.2.2.1 ≤ 40) (hst : st = as.reverse ++ .ref (g_ad G a) :: rest) (hrest : (rest.map fun v => v.category).sum ≤ 8) (pc2 : Nat) (hp : pc + 3 = pc2) (hdg : decode M.2.1 pc = .ok (.invokevirtual index, 3)) (hst2 : r1.toList ++ rest = st2) (kk : g_A G M d u2 v2 pc2 lv st2 h1 r h') : g_A G M d (u1 + u2) (v1 + v2) pc lv st h r h' := by
  subst hp
  subst hst2
  intro p e s m args below meth c H locs ls cells slots K N X
  have hts := X.1.2.2.2.2.2.1
  have hcu : va_CU (g_room d K N) s args M.1.cls C Mc.1.cls index Mc.1 Mc.1 Mc.2.1 Mc.2.2.1 Mc.2.2.2 (g_code Mc :: g_GW) (g_room d1 u1 v1) u1 v1 as.length := by
    refine ⟨⟨rfl, rfl, (g_hR hdd hml).1, (g_hR hdd hml).2, pay_in hts (g_goodC hO.1), List.mem_cons_self⟩, hts _ hO.1, hts _ hO.2.1, ⟨hO.2.2.1, hO.2.2.2⟩, fun sig h => ?_, hts _ w1, hts _ w2, va_Decl.of (hts _ hi) (hts _ hO.1), g_selP ⟨hO.2.2.1, hO.2.2.2⟩ (hts _ w3) w4 (va_Nw.use rfl (X.2.1.1.2.1 _ w5)) (hts _ hi), hts _ hi⟩
    rw [h] at hpd
    exact (Option.some.inj hpd).symm
  exact g_call X (va_runU (As := as) (C := C) ⟨X.1.1, X.1.2.1, X.1.2.2.2.1, X.1.2.2.2.2.1, hts⟩ (hR u1 v1 (Nat.le_refl _) (Nat.le_refl _)) hcu ⟨g_blind, g_recv X ho, g_pre X⟩ rfl rfl (g_size X) hst (lv_room hrest) hdg (g_room2 X)) kk
