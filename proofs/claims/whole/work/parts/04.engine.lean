/-! THE ENGINE: a plain logic over the kit's W. g_G: the launch, the first new address, the classes' numbers, the array classes, HOLDING's address.
A heap is a list of cells: cell k stands at g_ad G k. g_Run G M d u v as h r h': method M, called with as in heap h, ends with r in heap h', with at most d frames, u new cells, v new slots.
g_A: the same from the middle of the method. -/
abbrev g_G : Type := Launch × Nat × va_G × (Nat → ClassId) × Nat
abbrev g_M : Type := MethodName × ByteArray × Nat × Option FieldType
def g_ad (G : g_G) (k : Nat) : Nat := G.2.1 + k
abbrev g_ci (G : g_G) (t : Nat) : ClassId := G.2.2.2.1 t
abbrev g_In (G : g_G) : Nat → Prop := fun q => G.2.1 ≤ q
def g_ws (G : g_G) (h : List va_E) : va_W := h.mapIdx (fun k e => (g_ad G k, e))
abbrev g_tys (G : g_G) : List (ClassId × FieldType) := [(g_ci G 0, .int), (g_ci G 1, .long), (g_ci G 2, .byte), (g_ci G 3, .object "LeastShadows$Family"), (g_ci G 4, .object "LeastShadows$Shelf"), (g_ci G 5, .object "LeastShadows$Numbers")]
def g_GW : List Cond := lw_tbl.filter goodWord
def g_nest : Cond → Bool
  | .methodLinkNest .. => true
  | .fieldLinkNest .. => true
  | .declares .. => true
  | .privateMethod .. => true
  | _ => false
def g_NW : List Cond := lw_tbl.filter g_nest
theorem g_w (i : Nat) {w : Cond} (h : lw_tbl[i]? = some w) (hg : goodWord w = true) : w ∈ g_GW := List.mem_filter.mpr ⟨List.mem_of_getElem? h, hg⟩
theorem g_wn (i : Nat) {w : Cond} (h : lw_tbl[i]? = some w) (hg : g_nest w = true) : w ∈ g_NW := List.mem_filter.mpr ⟨List.mem_of_getElem? h, hg⟩
theorem g_wm {w : Cond} (h : w ∈ lw_tbl) (hg : goodWord w = true) : w ∈ g_GW := List.mem_filter.mpr ⟨h, hg⟩
theorem g_wmn {w : Cond} (h : w ∈ lw_tbl) (hg : g_nest w = true) : w ∈ g_NW := List.mem_filter.mpr ⟨h, hg⟩
theorem g_t1 (i : Nat) {w : Cond} (h : tables_1_1[i]? = some w) : w ∈ lw_tbl := List.mem_append_right _ (List.mem_append_left _ (List.mem_of_getElem? h))
theorem g_t2 (i : Nat) {w : Cond} (h : tables_1_2[i]? = some w) : w ∈ lw_tbl := List.mem_append_right _ (List.mem_append_right _ (List.mem_append_left _ (List.mem_of_getElem? h)))
theorem g_t3 (i : Nat) {w : Cond} (h : tables_1_3[i]? = some w) : w ∈ lw_tbl := List.mem_append_right _ (List.mem_append_right _ (List.mem_append_right _ (List.mem_append_left _ (List.mem_of_getElem? h))))
theorem g_t4 (i : Nat) {w : Cond} (h : tables_1_4[i]? = some w) : w ∈ lw_tbl := List.mem_append_right _ (List.mem_append_right _ (List.mem_append_right _ (List.mem_append_right _ (List.mem_append_left _ (List.mem_of_getElem? h)))))
theorem g_t5 (i : Nat) {w : Cond} (h : tables_1_5[i]? = some w) : w ∈ lw_tbl := List.mem_append_right _ (List.mem_append_right _ (List.mem_append_right _ (List.mem_append_right _ (List.mem_append_right _ (List.mem_append_left _ (List.mem_of_getElem? h))))))
theorem g_t6 (i : Nat) {w : Cond} (h : tables_1_6[i]? = some w) : w ∈ lw_tbl := List.mem_append_right _ (List.mem_append_right _ (List.mem_append_right _ (List.mem_append_right _ (List.mem_append_right _ (List.mem_append_right _ (List.mem_append_left _ (List.mem_of_getElem? h)))))))
theorem g_t7 (i : Nat) {w : Cond} (h : tables_1_7[i]? = some w) : w ∈ lw_tbl := List.mem_append_right _ (List.mem_append_right _ (List.mem_append_right _ (List.mem_append_right _ (List.mem_append_right _ (List.mem_append_right _ (List.mem_append_right _ (List.mem_of_getElem? h)))))))
theorem g_t0 (i : Nat) {w : Cond} (h : (k2_sels lw_privs)[i]? = some w) : w ∈ lw_tbl := List.mem_append_left _ (List.mem_of_getElem? h)
theorem g_good : GoodIn g_GW g_GW := fun w h => ⟨h, good_of_word (List.mem_filter.mp h).2⟩
theorem g_goodC {c : Cond} (hc : c ∈ g_GW) : GoodIn g_GW (c :: g_GW) := fun w h => by
  rcases List.mem_cons.mp h with rfl | h
  · exact g_good _ hc
  · exact g_good _ h
theorem g_goodA {a b : List Cond} (ha : GoodIn g_GW a) (hb : GoodIn g_GW b) : GoodIn g_GW (a ++ b) := fun w h => (List.mem_append.mp h).elim (ha w) (hb w)
theorem g_goodL {a : List Cond} (ha : ∀ w ∈ a, w ∈ g_GW) : GoodIn g_GW a := fun w h => g_good w (ha w h)
theorem g_ad_inj {G : g_G} {a b : Nat} (h : g_ad G a = g_ad G b) : a = b := by unfold g_ad at h; omega
theorem g_ws_at {G : g_G} {h : List va_E} {k : Nat} {e : va_E} (hk : h[k]? = some e) : (g_ws G h)[k]? = some (g_ad G k, e) := by
  unfold g_ws
  rw [List.getElem?_mapIdx, hk]
  rfl
theorem g_ws_inv {G : g_G} {h : List va_E} {k : Nat} {q : Nat × va_E} (hk : (g_ws G h)[k]? = some q) : q.1 = g_ad G k ∧ h[k]? = some q.2 := by
  unfold g_ws at hk
  rw [List.getElem?_mapIdx] at hk
  cases hh : h[k]? with
  | none => rw [hh] at hk; cases hk
  | some e => rw [hh] at hk; cases hk; exact ⟨rfl, rfl⟩
theorem g_ws_set {G : g_G} {h : List va_E} {k : Nat} {e : va_E} : (g_ws G h).set k (g_ad G k, e) = g_ws G (h.set k e) := by
  apply List.ext_getElem?
  intro i
  unfold g_ws
  rw [List.getElem?_mapIdx, List.getElem?_set, List.getElem?_set, List.getElem?_mapIdx, List.length_mapIdx]
  by_cases hi : k = i
  · subst hi
    rw [if_pos rfl, if_pos rfl]
    by_cases hl : k < h.length
    · rw [if_pos hl, if_pos hl]; rfl
    · rw [if_neg hl, if_neg hl]; rfl
  · rw [if_neg hi, if_neg hi]
theorem g_ws_push {G : g_G} {h : List va_E} {e : va_E} : g_ws G h ++ [(g_ad G h.length, e)] = g_ws G (h ++ [e]) := by
  apply List.ext_getElem?
  intro i
  unfold g_ws
  rw [List.getElem?_mapIdx, List.getElem?_append, List.getElem?_append, List.length_mapIdx, List.getElem?_mapIdx]
  by_cases hi : i < h.length
  · rw [if_pos hi, if_pos hi]
  · rw [if_neg hi, if_neg hi]
    by_cases h0 : i = h.length
    · subst h0
      rw [Nat.sub_self]
      rfl
    · rw [List.getElem?_eq_none (by simp; omega), List.getElem?_eq_none (by simp; omega)]
      rfl
theorem g_D {G : g_G} {h : List va_E} : va_D (g_In G) (g_ws G h) := by
  refine ⟨fun i j p q hi hj he => ?_, fun k q hk => ?_⟩
  · have h1 := (g_ws_inv hi).1
    have h2 := (g_ws_inv hj).1
    exact g_ad_inj (G := G) (by rw [← h1, ← h2, he])
  · have h1 := (g_ws_inv hk).1
    show G.2.1 ≤ q.1
    rw [h1]
    unfold g_ad
    omega
/-- what the tables say -/
def g_T (G : g_G) (U : State) : Prop := va_K G.2.2.1 vwCl (g_tys G) U ∧ (∀ w ∈ g_NW, va_Nw w U) ∧ va_AO "LeastShadows$Family" U ∧ va_AO "LeastShadows$Shelf" U ∧ va_AO "LeastShadows$Numbers" U
theorem g_nest_on {w : Cond} (h : g_nest w = true) : w.onTables = true := by cases w <;> first | rfl | cases h
theorem g_T.warm {G : g_G} {s U : State} (hW : s.WarmedH U.vm) (h : g_T G s) : g_T G U := by
  refine ⟨va_K.moved hW.alike h.1, fun w hw => ?_, h.2.2.1.moved hW.alike, h.2.2.2.1.moved hW.alike, h.2.2.2.2.moved hW.alike⟩
  have h1 := h.2.1 w hw
  have h2 : g_nest w = true := (List.mem_filter.mp hw).2
  cases w <;> first | (exact absurd h2 (by decide)) | exact va_Nw.warmF hW h1 | exact va_Nw.warmM hW h1 | exact va_Nw.warmD hW h1 | exact va_tabs rfl (rfl : (s.setVm U.vm).vm = U.vm) (by rw [Cond.privateMethod_setVm hW.alike]; exact h1) | cases h2
theorem g_T.same {G : g_G} {u U : State} (hv : U.vm = u.vm) (h : g_T G u) : g_T G U := by
  refine ⟨va_K.moved (by rw [hv]; exact Vm.Alike.refl _) h.1, fun w hw => ?_, h.2.2.1.moved (by rw [hv]; exact Vm.Alike.refl _), h.2.2.2.1.moved (by rw [hv]; exact Vm.Alike.refl _), h.2.2.2.2.moved (by rw [hv]; exact Vm.Alike.refl _)⟩
  exact va_tabs (g_nest_on (List.mem_filter.mp hw).2) hv.symm (h.2.1 w hw)
def g_hold : Nat → Value := fun j => match j with
  | 0 => .long (-6148914691236517206)
  | 1 => .long (-3689348814741910324)
  | 2 => .long (-1085102592571150096)
  | 3 => .long (-71777214294589696)
  | 4 => .long (-281470681808896)
  | _ => .long (-4294967296)
/-- HOLDING, which nobody changes -/
def g_O (G : g_G) (U : State) (H : Heap) : Prop := va_Z "LeastShadows" "HOLDING" "[J" (.ref G.2.2.2.2) (g_In G) U H ∧ va_T .long G.2.2.2.2 6 g_hold (g_In G) U H
def g_H (G : g_G) (h : List va_E) (U : State) : Prop := va_P G.2.2.1 vwCl (g_ws G h) U.heap ∧ U.heap.size = G.2.1 + h.length ∧ g_T G U ∧ g_O G U U.heap
def g_room (d K N : Nat) : Room := { frames := d, cells := K, slots := N, locals := 60 * d + 12 }
def g_Qc (G : g_G) (r : Option Value) (h' : List va_E) : Array Value → State → Outcome → State → Prop := fun _ st oc t => oc = .returned r ∧ va_P G.2.2.1 vwCl (g_ws G h') t.heap ∧ t.heap.size = G.2.1 + h'.length ∧ va_F (g_In G) st t
def g_Run (G : g_G) (M : g_M) (d u v : Nat) (as : List Value) (h : List va_E) (r : Option Value) (h' : List va_E) : Prop :=
  ∀ K N : Nat, u ≤ K → v ≤ N → Met G.1 M.1 (.code M.1 M.2.1 M.2.2.1 M.2.2.2 :: g_GW) (g_room d K N) (va_Pc as (g_H G h)) (g_Qc G r h') K N (g_In G)
/-- the machine's side of a place in a method -/
def g_C (M : g_M) (p : Program) (s : State) (m : MethodId) (args : Array Value) (meth : Method) (c : Code) : Prop :=
  p.tables.exec = Jvm.exec ∧ c.code = M.2.1 ∧ meth.sig.returnType = M.2.2.2 ∧ c.maxLocals = M.2.2.1 ∧ s.vm.findClass M.1.cls = some m.cls ∧ (∀ w ∈ g_GW, w.before args s = true) ∧ meth.locks = false ∧ meth.name = M.1.name
def g_X (G : g_G) (M : g_M) (u v : Nat) (lv : List (Nat × Value)) (h : List va_E) (p : Program) (s : State) (m : MethodId) (args : Array Value) (meth : Method) (c : Code) (H : Heap) (locs : List Loc) (ls : Array Slot) (cells slots K N : Nat) : Prop :=
  g_C M p s m args meth c ∧ (g_T G s ∧ g_O G s s.heap) ∧ va_S (g_In G) s.heap H locs ∧ va_P G.2.2.1 vwCl (g_ws G h) H ∧ H.size = G.2.1 + h.length ∧ lv_has ls M.2.2.1 lv ∧ cells + u ≤ K ∧ slots + v ≤ N
def g_A (G : g_G) (M : g_M) (d u v pc : Nat) (lv : List (Nat × Value)) (st : List Value) (h : List va_E) (r : Option Value) (h' : List va_E) : Prop :=
  ∀ (p : Program) (e : Env) (s : State) (m : MethodId) (args : Array Value) (below : List Frame) (meth : Method) (c : Code) (H : Heap) (locs : List Loc) (ls : Array Slot) (cells slots K N : Nat),
    g_X G M u v lv h p s m args meth c H locs ls cells slots K N → W p G.1 e (g_room d K N) s m args below meth c H locs cells slots (MQ below (g_Qc G r h') args s K N (g_In G)) (F0 m pc ls st)
theorem g_Run.of {G : g_G} {M : g_M} {d u v : Nat} {as : List Value} {h : List va_E} {r : Option Value} {h' : List va_E} {lv : List (Nat × Value)} (hpl : plainName M.1.cls = true) (hlen : (lg_sl as).length ≤ M.2.2.1) (hlv : lv_args 0 as = lv) (hA : g_A G M d u v 0 lv [] h r h') (hB : G.2.1 ≤ G.2.1 + h.length := by omega) : g_Run G M d u v as h r h' := by
  subst hlv
  intro K N hu hv
  refine Met.ofW (cc := M.2.1) (maxL := M.2.2.1) (ret := M.2.2.2) hpl rfl ?_
  intro p e s m args below meth c s₁ B hml hw
  obtain ⟨rfl, hP, hz, hT, hO⟩ := hw
  have hts := atoms_spec (ws := .code M.1 M.2.1 M.2.2.1 M.2.2.2 :: g_GW) B.pre
  rw [lg_entry_eq]
  exact hA p e s m as.toArray below meth c s.heap [] _ 0 0 K N ⟨⟨B.exec, B.bytes, B.returns, hml, findClass_of_methodNamed B.named, fun w hw => hts w (List.mem_cons_of_mem _ hw), B.notSynchronized, (name_of_methodNamed B.named B.method).1⟩, ⟨hT, hO⟩, va_S.rf, hP, hz, lv_entry as hlen, by omega, by omega⟩

section G1
variable {G : g_G} {M : g_M} {d u v pc : Nat} {lv lv' : List (Nat × Value)} {st rest : List Value} {h h' : List va_E} {r : Option Value}
theorem a_eq {pc2 : Nat} {lv2 : List (Nat × Value)} {st2 : List Value} {h2 : List va_E} (e1 : pc = pc2) (e2 : lv = lv2) (e3 : st = st2) (e4 : h = h2) (kk : g_A G M d u v pc2 lv2 st2 h2 r h') : g_A G M d u v pc lv st h r h' := by subst e1; subst e2; subst e3; subst e4; exact kk
theorem a_sub (ks : List Nat) (hl : lv_pick lv ks = lv') (kk : g_A G M d u v pc lv' st h r h') : g_A G M d u v pc lv st h r h' :=
  fun p e s m args below meth c H locs ls cells slots K N X => kk p e s m args below meth c H locs ls cells slots K N ⟨X.1, X.2.1, X.2.2.1, X.2.2.2.1, X.2.2.2.2.1, lv_sub X.2.2.2.2.2.1 ks hl, X.2.2.2.2.2.2⟩
theorem a_widen {u2 v2 : Nat} (h1 : u2 ≤ u) (h2 : v2 ≤ v) (kk : g_A G M d u2 v2 pc lv st h r h') : g_A G M d u v pc lv st h r h' :=
  fun p e s m args below meth c H locs ls cells slots K N X => kk p e s m args below meth c H locs ls cells slots K N ⟨X.1, X.2.1, X.2.2.1, X.2.2.2.1, X.2.2.2.2.1, X.2.2.2.2.2.1, by have := X.2.2.2.2.2.2.1; omega, by have := X.2.2.2.2.2.2.2; omega⟩

theorem a_iconst {z : Int} {x : Int32} (pc2 : Nat) (hp : pc + 1 = pc2) (hdg : decode M.2.1 pc = .ok (.iconst z, 1)) (hv : Int32.ofInt z = x) (kk : g_A G M d u v pc2 lv (.int x :: rest) h r h') : g_A G M d u v pc lv (rest) h r h' := by
  subst hp
  exact fun p e s m args below meth c H locs ls cells slots K N X => lv_iconst X.1.1 X.1.2.1 hdg hv (kk p e s m args below meth c H locs ls cells slots K N X)
theorem a_bipush {z : Int} {x : Int32} (pc2 : Nat) (hp : pc + 2 = pc2) (hdg : decode M.2.1 pc = .ok (.bipush z, 2)) (hv : (Int8.ofInt z).toInt32 = x) (kk : g_A G M d u v pc2 lv (.int x :: rest) h r h') : g_A G M d u v pc lv (rest) h r h' := by
  subst hp
  exact fun p e s m args below meth c H locs ls cells slots K N X => lv_bipush X.1.1 X.1.2.1 hdg hv (kk p e s m args below meth c H locs ls cells slots K N X)
theorem a_sipush {z : Int} {x : Int32} (pc2 : Nat) (hp : pc + 3 = pc2) (hdg : decode M.2.1 pc = .ok (.sipush z, 3)) (hv : (Int16.ofInt z).toInt32 = x) (kk : g_A G M d u v pc2 lv (.int x :: rest) h r h') : g_A G M d u v pc lv (rest) h r h' := by
  subst hp
  exact fun p e s m args below meth c H locs ls cells slots K N X => lv_sipush X.1.1 X.1.2.1 hdg hv (kk p e s m args below meth c H locs ls cells slots K N X)
theorem a_lconst {z : Fin 2} {x : Int64} (pc2 : Nat) (hp : pc + 1 = pc2) (hdg : decode M.2.1 pc = .ok (.lconst z, 1)) (hv : Int64.ofNat (z : Nat) = x) (kk : g_A G M d u v pc2 lv (.long x :: rest) h r h') : g_A G M d u v pc lv (rest) h r h' := by
  subst hp
  exact fun p e s m args below meth c H locs ls cells slots K N X => lv_lconst X.1.1 X.1.2.1 hdg hv (kk p e s m args below meth c H locs ls cells slots K N X)
theorem a_fconst0 (pc2 : Nat) (hp : pc + 1 = pc2) (hdg : decode M.2.1 pc = .ok (.fconst 0, 1)) (kk : g_A G M d u v pc2 lv (.float FP.fconst0 :: rest) h r h') : g_A G M d u v pc lv (rest) h r h' := by
  subst hp
  exact fun p e s m args below meth c H locs ls cells slots K N X => lv_fconst0 X.1.1 X.1.2.1 hdg (kk p e s m args below meth c H locs ls cells slots K N X)
theorem a_fconst1 (pc2 : Nat) (hp : pc + 1 = pc2) (hdg : decode M.2.1 pc = .ok (.fconst 1, 1)) (kk : g_A G M d u v pc2 lv (.float FP.fconst1 :: rest) h r h') : g_A G M d u v pc lv (rest) h r h' := by
  subst hp
  exact fun p e s m args below meth c H locs ls cells slots K N X => lv_fconst1 X.1.1 X.1.2.1 hdg (kk p e s m args below meth c H locs ls cells slots K N X)
theorem a_fconst2 (pc2 : Nat) (hp : pc + 1 = pc2) (hdg : decode M.2.1 pc = .ok (.fconst 2, 1)) (kk : g_A G M d u v pc2 lv (.float FP.fconst2 :: rest) h r h') : g_A G M d u v pc lv (rest) h r h' := by
  subst hp
  exact fun p e s m args below meth c H locs ls cells slots K N X => lv_fconst2 X.1.1 X.1.2.1 hdg (kk p e s m args below meth c H locs ls cells slots K N X)
theorem a_dconst0 (pc2 : Nat) (hp : pc + 1 = pc2) (hdg : decode M.2.1 pc = .ok (.dconst 0, 1)) (kk : g_A G M d u v pc2 lv (.double FP.dconst0 :: rest) h r h') : g_A G M d u v pc lv (rest) h r h' := by
  subst hp
  exact fun p e s m args below meth c H locs ls cells slots K N X => lv_dconst0 X.1.1 X.1.2.1 hdg (kk p e s m args below meth c H locs ls cells slots K N X)
theorem a_dconst1 (pc2 : Nat) (hp : pc + 1 = pc2) (hdg : decode M.2.1 pc = .ok (.dconst 1, 1)) (kk : g_A G M d u v pc2 lv (.double FP.dconst1 :: rest) h r h') : g_A G M d u v pc lv (rest) h r h' := by
  subst hp
  exact fun p e s m args below meth c H locs ls cells slots K N X => lv_dconst1 X.1.1 X.1.2.1 hdg (kk p e s m args below meth c H locs ls cells slots K N X)
theorem a_null (pc2 : Nat) (hp : pc + 1 = pc2) (hdg : decode M.2.1 pc = .ok (.aconst_null, 1)) (kk : g_A G M d u v pc2 lv (.null :: rest) h r h') : g_A G M d u v pc lv (rest) h r h' := by
  subst hp
  exact fun p e s m args below meth c H locs ls cells slots K N X => lv_null X.1.1 X.1.2.1 hdg (kk p e s m args below meth c H locs ls cells slots K N X)
theorem a_iload_n (q : Nat) {kf : Fin 4} {i : Nat} {x : Int32} (pc2 : Nat) (hp : pc + 1 = pc2) (hdg : decode M.2.1 pc = .ok (.iload_n kf, 1)) (hi : (kf : Nat) = i) (hq : lv[q]? = some (i, .int x)) (kk : g_A G M d u v pc2 lv (.int x :: rest) h r h') : g_A G M d u v pc lv (rest) h r h' := by
  subst hp
  exact fun p e s m args below meth c H locs ls cells slots K N X => lv_iload_n X.1.1 X.1.2.1 hdg hi (lv_at X.2.2.2.2.2.1 q hq) (kk p e s m args below meth c H locs ls cells slots K N X)
theorem a_iload (q : Nat) {i : Nat} {x : Int32} (pc2 : Nat) (hp : pc + 2 = pc2) (hdg : decode M.2.1 pc = .ok (.iload i, 2)) (hq : lv[q]? = some (i, .int x)) (kk : g_A G M d u v pc2 lv (.int x :: rest) h r h') : g_A G M d u v pc lv (rest) h r h' := by
  subst hp
  exact fun p e s m args below meth c H locs ls cells slots K N X => lv_iload X.1.1 X.1.2.1 hdg (lv_at X.2.2.2.2.2.1 q hq) (kk p e s m args below meth c H locs ls cells slots K N X)
theorem a_istore_n {kf : Fin 4} {i : Nat} {x : Int32} (pc2 : Nat) (hp : pc + 1 = pc2) (hdg : decode M.2.1 pc = .ok (.istore_n kf, 1)) (hi : (kf : Nat) = i) (hn : i < M.2.2.1) (hl : (i, Value.int x) :: lv.filter (fun q => !(q.1 == i) && !(q.1 + 1 == i && q.2.category == 2)) = lv') (kk : g_A G M d u v pc2 lv' rest h r h') : g_A G M d u v pc lv (Value.int x :: rest) h r h' := by
  subst hp
  exact fun p e s m args below meth c H locs ls cells slots K N X => lv_istore_n X.1.1 X.1.2.1 hdg hi X.2.2.2.2.2.1 hn hl (fun ls' hl' => kk p e s m args below meth c H locs ls' cells slots K N ⟨X.1, X.2.1, X.2.2.1, X.2.2.2.1, X.2.2.2.2.1, hl', X.2.2.2.2.2.2⟩)
theorem a_istore {i : Nat} {x : Int32} (pc2 : Nat) (hp : pc + 2 = pc2) (hdg : decode M.2.1 pc = .ok (.istore i, 2)) (hn : i < M.2.2.1) (hl : (i, Value.int x) :: lv.filter (fun q => !(q.1 == i) && !(q.1 + 1 == i && q.2.category == 2)) = lv') (kk : g_A G M d u v pc2 lv' rest h r h') : g_A G M d u v pc lv (Value.int x :: rest) h r h' := by
  subst hp
  exact fun p e s m args below meth c H locs ls cells slots K N X => lv_istore X.1.1 X.1.2.1 hdg X.2.2.2.2.2.1 hn hl (fun ls' hl' => kk p e s m args below meth c H locs ls' cells slots K N ⟨X.1, X.2.1, X.2.2.1, X.2.2.2.1, X.2.2.2.2.1, hl', X.2.2.2.2.2.2⟩)
theorem a_lload_n (q : Nat) {kf : Fin 4} {i : Nat} {x : Int64} (pc2 : Nat) (hp : pc + 1 = pc2) (hdg : decode M.2.1 pc = .ok (.lload_n kf, 1)) (hi : (kf : Nat) = i) (hq : lv[q]? = some (i, .long x)) (kk : g_A G M d u v pc2 lv (.long x :: rest) h r h') : g_A G M d u v pc lv (rest) h r h' := by
  subst hp
  exact fun p e s m args below meth c H locs ls cells slots K N X => lv_lload_n X.1.1 X.1.2.1 hdg hi (lv_at X.2.2.2.2.2.1 q hq) (kk p e s m args below meth c H locs ls cells slots K N X)
theorem a_lload (q : Nat) {i : Nat} {x : Int64} (pc2 : Nat) (hp : pc + 2 = pc2) (hdg : decode M.2.1 pc = .ok (.lload i, 2)) (hq : lv[q]? = some (i, .long x)) (kk : g_A G M d u v pc2 lv (.long x :: rest) h r h') : g_A G M d u v pc lv (rest) h r h' := by
  subst hp
  exact fun p e s m args below meth c H locs ls cells slots K N X => lv_lload X.1.1 X.1.2.1 hdg (lv_at X.2.2.2.2.2.1 q hq) (kk p e s m args below meth c H locs ls cells slots K N X)
theorem a_lstore_n {kf : Fin 4} {i : Nat} {x : Int64} (pc2 : Nat) (hp : pc + 1 = pc2) (hdg : decode M.2.1 pc = .ok (.lstore_n kf, 1)) (hi : (kf : Nat) = i) (hn : i + 1 < M.2.2.1) (hl : (i, Value.long x) :: lv.filter (fun q => !(q.1 == i) && (!(q.1 == i + 1) && !(q.1 + 1 == i && q.2.category == 2))) = lv') (kk : g_A G M d u v pc2 lv' rest h r h') : g_A G M d u v pc lv (Value.long x :: rest) h r h' := by
  subst hp
  exact fun p e s m args below meth c H locs ls cells slots K N X => lv_lstore_n X.1.1 X.1.2.1 hdg hi X.2.2.2.2.2.1 hn hl (fun ls' hl' => kk p e s m args below meth c H locs ls' cells slots K N ⟨X.1, X.2.1, X.2.2.1, X.2.2.2.1, X.2.2.2.2.1, hl', X.2.2.2.2.2.2⟩)
theorem a_lstore {i : Nat} {x : Int64} (pc2 : Nat) (hp : pc + 2 = pc2) (hdg : decode M.2.1 pc = .ok (.lstore i, 2)) (hn : i + 1 < M.2.2.1) (hl : (i, Value.long x) :: lv.filter (fun q => !(q.1 == i) && (!(q.1 == i + 1) && !(q.1 + 1 == i && q.2.category == 2))) = lv') (kk : g_A G M d u v pc2 lv' rest h r h') : g_A G M d u v pc lv (Value.long x :: rest) h r h' := by
  subst hp
  exact fun p e s m args below meth c H locs ls cells slots K N X => lv_lstore X.1.1 X.1.2.1 hdg X.2.2.2.2.2.1 hn hl (fun ls' hl' => kk p e s m args below meth c H locs ls' cells slots K N ⟨X.1, X.2.1, X.2.2.1, X.2.2.2.1, X.2.2.2.2.1, hl', X.2.2.2.2.2.2⟩)
theorem a_fload_n (q : Nat) {kf : Fin 4} {i : Nat} {x : UInt32} (pc2 : Nat) (hp : pc + 1 = pc2) (hdg : decode M.2.1 pc = .ok (.fload_n kf, 1)) (hi : (kf : Nat) = i) (hq : lv[q]? = some (i, .float x)) (kk : g_A G M d u v pc2 lv (.float x :: rest) h r h') : g_A G M d u v pc lv (rest) h r h' := by
  subst hp
  exact fun p e s m args below meth c H locs ls cells slots K N X => lv_fload_n X.1.1 X.1.2.1 hdg hi (lv_at X.2.2.2.2.2.1 q hq) (kk p e s m args below meth c H locs ls cells slots K N X)
theorem a_fload (q : Nat) {i : Nat} {x : UInt32} (pc2 : Nat) (hp : pc + 2 = pc2) (hdg : decode M.2.1 pc = .ok (.fload i, 2)) (hq : lv[q]? = some (i, .float x)) (kk : g_A G M d u v pc2 lv (.float x :: rest) h r h') : g_A G M d u v pc lv (rest) h r h' := by
  subst hp
  exact fun p e s m args below meth c H locs ls cells slots K N X => lv_fload X.1.1 X.1.2.1 hdg (lv_at X.2.2.2.2.2.1 q hq) (kk p e s m args below meth c H locs ls cells slots K N X)
theorem a_fstore_n {kf : Fin 4} {i : Nat} {x : UInt32} (pc2 : Nat) (hp : pc + 1 = pc2) (hdg : decode M.2.1 pc = .ok (.fstore_n kf, 1)) (hi : (kf : Nat) = i) (hn : i < M.2.2.1) (hl : (i, Value.float x) :: lv.filter (fun q => !(q.1 == i) && !(q.1 + 1 == i && q.2.category == 2)) = lv') (kk : g_A G M d u v pc2 lv' rest h r h') : g_A G M d u v pc lv (Value.float x :: rest) h r h' := by
  subst hp
  exact fun p e s m args below meth c H locs ls cells slots K N X => lv_fstore_n X.1.1 X.1.2.1 hdg hi X.2.2.2.2.2.1 hn hl (fun ls' hl' => kk p e s m args below meth c H locs ls' cells slots K N ⟨X.1, X.2.1, X.2.2.1, X.2.2.2.1, X.2.2.2.2.1, hl', X.2.2.2.2.2.2⟩)
theorem a_fstore {i : Nat} {x : UInt32} (pc2 : Nat) (hp : pc + 2 = pc2) (hdg : decode M.2.1 pc = .ok (.fstore i, 2)) (hn : i < M.2.2.1) (hl : (i, Value.float x) :: lv.filter (fun q => !(q.1 == i) && !(q.1 + 1 == i && q.2.category == 2)) = lv') (kk : g_A G M d u v pc2 lv' rest h r h') : g_A G M d u v pc lv (Value.float x :: rest) h r h' := by
  subst hp
  exact fun p e s m args below meth c H locs ls cells slots K N X => lv_fstore X.1.1 X.1.2.1 hdg X.2.2.2.2.2.1 hn hl (fun ls' hl' => kk p e s m args below meth c H locs ls' cells slots K N ⟨X.1, X.2.1, X.2.2.1, X.2.2.2.1, X.2.2.2.2.1, hl', X.2.2.2.2.2.2⟩)
theorem a_dload_n (q : Nat) {kf : Fin 4} {i : Nat} {x : UInt64} (pc2 : Nat) (hp : pc + 1 = pc2) (hdg : decode M.2.1 pc = .ok (.dload_n kf, 1)) (hi : (kf : Nat) = i) (hq : lv[q]? = some (i, .double x)) (kk : g_A G M d u v pc2 lv (.double x :: rest) h r h') : g_A G M d u v pc lv (rest) h r h' := by
  subst hp
  exact fun p e s m args below meth c H locs ls cells slots K N X => lv_dload_n X.1.1 X.1.2.1 hdg hi (lv_at X.2.2.2.2.2.1 q hq) (kk p e s m args below meth c H locs ls cells slots K N X)
theorem a_dload (q : Nat) {i : Nat} {x : UInt64} (pc2 : Nat) (hp : pc + 2 = pc2) (hdg : decode M.2.1 pc = .ok (.dload i, 2)) (hq : lv[q]? = some (i, .double x)) (kk : g_A G M d u v pc2 lv (.double x :: rest) h r h') : g_A G M d u v pc lv (rest) h r h' := by
  subst hp
  exact fun p e s m args below meth c H locs ls cells slots K N X => lv_dload X.1.1 X.1.2.1 hdg (lv_at X.2.2.2.2.2.1 q hq) (kk p e s m args below meth c H locs ls cells slots K N X)
theorem a_dstore_n {kf : Fin 4} {i : Nat} {x : UInt64} (pc2 : Nat) (hp : pc + 1 = pc2) (hdg : decode M.2.1 pc = .ok (.dstore_n kf, 1)) (hi : (kf : Nat) = i) (hn : i + 1 < M.2.2.1) (hl : (i, Value.double x) :: lv.filter (fun q => !(q.1 == i) && (!(q.1 == i + 1) && !(q.1 + 1 == i && q.2.category == 2))) = lv') (kk : g_A G M d u v pc2 lv' rest h r h') : g_A G M d u v pc lv (Value.double x :: rest) h r h' := by
  subst hp
  exact fun p e s m args below meth c H locs ls cells slots K N X => lv_dstore_n X.1.1 X.1.2.1 hdg hi X.2.2.2.2.2.1 hn hl (fun ls' hl' => kk p e s m args below meth c H locs ls' cells slots K N ⟨X.1, X.2.1, X.2.2.1, X.2.2.2.1, X.2.2.2.2.1, hl', X.2.2.2.2.2.2⟩)
theorem a_dstore {i : Nat} {x : UInt64} (pc2 : Nat) (hp : pc + 2 = pc2) (hdg : decode M.2.1 pc = .ok (.dstore i, 2)) (hn : i + 1 < M.2.2.1) (hl : (i, Value.double x) :: lv.filter (fun q => !(q.1 == i) && (!(q.1 == i + 1) && !(q.1 + 1 == i && q.2.category == 2))) = lv') (kk : g_A G M d u v pc2 lv' rest h r h') : g_A G M d u v pc lv (Value.double x :: rest) h r h' := by
  subst hp
  exact fun p e s m args below meth c H locs ls cells slots K N X => lv_dstore X.1.1 X.1.2.1 hdg X.2.2.2.2.2.1 hn hl (fun ls' hl' => kk p e s m args below meth c H locs ls' cells slots K N ⟨X.1, X.2.1, X.2.2.1, X.2.2.2.1, X.2.2.2.2.1, hl', X.2.2.2.2.2.2⟩)
theorem a_aload_n (q : Nat) {kf : Fin 4} {i : Nat} {x : Nat} (pc2 : Nat) (hp : pc + 1 = pc2) (hdg : decode M.2.1 pc = .ok (.aload_n kf, 1)) (hi : (kf : Nat) = i) (hq : lv[q]? = some (i, .ref x)) (kk : g_A G M d u v pc2 lv (.ref x :: rest) h r h') : g_A G M d u v pc lv (rest) h r h' := by
  subst hp
  exact fun p e s m args below meth c H locs ls cells slots K N X => lv_aload_n X.1.1 X.1.2.1 hdg hi (lv_at X.2.2.2.2.2.1 q hq) (kk p e s m args below meth c H locs ls cells slots K N X)
theorem a_aload (q : Nat) {i : Nat} {x : Nat} (pc2 : Nat) (hp : pc + 2 = pc2) (hdg : decode M.2.1 pc = .ok (.aload i, 2)) (hq : lv[q]? = some (i, .ref x)) (kk : g_A G M d u v pc2 lv (.ref x :: rest) h r h') : g_A G M d u v pc lv (rest) h r h' := by
  subst hp
  exact fun p e s m args below meth c H locs ls cells slots K N X => lv_aload X.1.1 X.1.2.1 hdg (lv_at X.2.2.2.2.2.1 q hq) (kk p e s m args below meth c H locs ls cells slots K N X)
theorem a_astore_n {kf : Fin 4} {i : Nat} {x : Nat} (pc2 : Nat) (hp : pc + 1 = pc2) (hdg : decode M.2.1 pc = .ok (.astore_n kf, 1)) (hi : (kf : Nat) = i) (hn : i < M.2.2.1) (hl : (i, Value.ref x) :: lv.filter (fun q => !(q.1 == i) && !(q.1 + 1 == i && q.2.category == 2)) = lv') (kk : g_A G M d u v pc2 lv' rest h r h') : g_A G M d u v pc lv (Value.ref x :: rest) h r h' := by
  subst hp
  exact fun p e s m args below meth c H locs ls cells slots K N X => lv_astore_n X.1.1 X.1.2.1 hdg hi X.2.2.2.2.2.1 hn hl (fun ls' hl' => kk p e s m args below meth c H locs ls' cells slots K N ⟨X.1, X.2.1, X.2.2.1, X.2.2.2.1, X.2.2.2.2.1, hl', X.2.2.2.2.2.2⟩)
theorem a_astore {i : Nat} {x : Nat} (pc2 : Nat) (hp : pc + 2 = pc2) (hdg : decode M.2.1 pc = .ok (.astore i, 2)) (hn : i < M.2.2.1) (hl : (i, Value.ref x) :: lv.filter (fun q => !(q.1 == i) && !(q.1 + 1 == i && q.2.category == 2)) = lv') (kk : g_A G M d u v pc2 lv' rest h r h') : g_A G M d u v pc lv (Value.ref x :: rest) h r h' := by
  subst hp
  exact fun p e s m args below meth c H locs ls cells slots K N X => lv_astore X.1.1 X.1.2.1 hdg X.2.2.2.2.2.1 hn hl (fun ls' hl' => kk p e s m args below meth c H locs ls' cells slots K N ⟨X.1, X.2.1, X.2.2.1, X.2.2.2.1, X.2.2.2.2.1, hl', X.2.2.2.2.2.2⟩)
theorem a_aload_nN (q : Nat) {kf : Fin 4} {i : Nat} (pc2 : Nat) (hp : pc + 1 = pc2) (hdg : decode M.2.1 pc = .ok (.aload_n kf, 1)) (hi : (kf : Nat) = i) (hq : lv[q]? = some (i, .null)) (kk : g_A G M d u v pc2 lv (.null :: rest) h r h') : g_A G M d u v pc lv (rest) h r h' := by
  subst hp
  exact fun p e s m args below meth c H locs ls cells slots K N X => lv_aload_nN X.1.1 X.1.2.1 hdg hi (lv_at X.2.2.2.2.2.1 q hq) (kk p e s m args below meth c H locs ls cells slots K N X)
theorem a_aloadN (q : Nat) {i : Nat} (pc2 : Nat) (hp : pc + 2 = pc2) (hdg : decode M.2.1 pc = .ok (.aload i, 2)) (hq : lv[q]? = some (i, .null)) (kk : g_A G M d u v pc2 lv (.null :: rest) h r h') : g_A G M d u v pc lv (rest) h r h' := by
  subst hp
  exact fun p e s m args below meth c H locs ls cells slots K N X => lv_aloadN X.1.1 X.1.2.1 hdg (lv_at X.2.2.2.2.2.1 q hq) (kk p e s m args below meth c H locs ls cells slots K N X)
theorem a_astore_nN {kf : Fin 4} {i : Nat} (pc2 : Nat) (hp : pc + 1 = pc2) (hdg : decode M.2.1 pc = .ok (.astore_n kf, 1)) (hi : (kf : Nat) = i) (hn : i < M.2.2.1) (hl : (i, Value.null) :: lv.filter (fun q => !(q.1 == i) && !(q.1 + 1 == i && q.2.category == 2)) = lv') (kk : g_A G M d u v pc2 lv' rest h r h') : g_A G M d u v pc lv (Value.null :: rest) h r h' := by
  subst hp
  exact fun p e s m args below meth c H locs ls cells slots K N X => lv_astore_nN X.1.1 X.1.2.1 hdg hi X.2.2.2.2.2.1 hn hl (fun ls' hl' => kk p e s m args below meth c H locs ls' cells slots K N ⟨X.1, X.2.1, X.2.2.1, X.2.2.2.1, X.2.2.2.2.1, hl', X.2.2.2.2.2.2⟩)
theorem a_astoreN {i : Nat} (pc2 : Nat) (hp : pc + 2 = pc2) (hdg : decode M.2.1 pc = .ok (.astore i, 2)) (hn : i < M.2.2.1) (hl : (i, Value.null) :: lv.filter (fun q => !(q.1 == i) && !(q.1 + 1 == i && q.2.category == 2)) = lv') (kk : g_A G M d u v pc2 lv' rest h r h') : g_A G M d u v pc lv (Value.null :: rest) h r h' := by
  subst hp
  exact fun p e s m args below meth c H locs ls cells slots K N X => lv_astoreN X.1.1 X.1.2.1 hdg X.2.2.2.2.2.1 hn hl (fun ls' hl' => kk p e s m args below meth c H locs ls' cells slots K N ⟨X.1, X.2.1, X.2.2.1, X.2.2.2.1, X.2.2.2.2.1, hl', X.2.2.2.2.2.2⟩)
theorem a_iinc (q : Nat) {i : Nat} {z : Int} {x y : Int32} (pc2 : Nat) (hp : pc + 3 = pc2) (hdg : decode M.2.1 pc = .ok (.iinc i z, 3)) (hq : lv[q]? = some (i, .int x)) (hv : x + Int32.ofInt z = y) (hn : i < M.2.2.1) (hl : (i, Value.int y) :: lv.filter (fun q => !(q.1 == i) && !(q.1 + 1 == i && q.2.category == 2)) = lv') (kk : g_A G M d u v pc2 lv' rest h r h') : g_A G M d u v pc lv rest h r h' := by
  subst hp
  exact fun p e s m args below meth c H locs ls cells slots K N X => lv_iinc X.1.1 X.1.2.1 hdg X.2.2.2.2.2.1 hq hv hn hl (fun ls' hl' => kk p e s m args below meth c H locs ls' cells slots K N ⟨X.1, X.2.1, X.2.2.1, X.2.2.2.1, X.2.2.2.2.1, hl', X.2.2.2.2.2.2⟩)
theorem a_iadd {x y : Int32} (pc2 : Nat) (hp : pc + 1 = pc2) (hdg : decode M.2.1 pc = .ok (.iadd, 1)) (kk : g_A G M d u v pc2 lv (.int (x + y) :: rest) h r h') : g_A G M d u v pc lv (.int y :: .int x :: rest) h r h' := by
  subst hp
  exact fun p e s m args below meth c H locs ls cells slots K N X => lv_iadd X.1.1 X.1.2.1 hdg (kk p e s m args below meth c H locs ls cells slots K N X)
theorem a_ladd {x y : Int64} (pc2 : Nat) (hp : pc + 1 = pc2) (hdg : decode M.2.1 pc = .ok (.ladd, 1)) (kk : g_A G M d u v pc2 lv (.long (x + y) :: rest) h r h') : g_A G M d u v pc lv (.long y :: .long x :: rest) h r h' := by
  subst hp
  exact fun p e s m args below meth c H locs ls cells slots K N X => lv_ladd X.1.1 X.1.2.1 hdg (kk p e s m args below meth c H locs ls cells slots K N X)
theorem a_isub {x y : Int32} (pc2 : Nat) (hp : pc + 1 = pc2) (hdg : decode M.2.1 pc = .ok (.isub, 1)) (kk : g_A G M d u v pc2 lv (.int (x - y) :: rest) h r h') : g_A G M d u v pc lv (.int y :: .int x :: rest) h r h' := by
  subst hp
  exact fun p e s m args below meth c H locs ls cells slots K N X => lv_isub X.1.1 X.1.2.1 hdg (kk p e s m args below meth c H locs ls cells slots K N X)
theorem a_lsub {x y : Int64} (pc2 : Nat) (hp : pc + 1 = pc2) (hdg : decode M.2.1 pc = .ok (.lsub, 1)) (kk : g_A G M d u v pc2 lv (.long (x - y) :: rest) h r h') : g_A G M d u v pc lv (.long y :: .long x :: rest) h r h' := by
  subst hp
  exact fun p e s m args below meth c H locs ls cells slots K N X => lv_lsub X.1.1 X.1.2.1 hdg (kk p e s m args below meth c H locs ls cells slots K N X)
theorem a_imul {x y : Int32} (pc2 : Nat) (hp : pc + 1 = pc2) (hdg : decode M.2.1 pc = .ok (.imul, 1)) (kk : g_A G M d u v pc2 lv (.int (x * y) :: rest) h r h') : g_A G M d u v pc lv (.int y :: .int x :: rest) h r h' := by
  subst hp
  exact fun p e s m args below meth c H locs ls cells slots K N X => lv_imul X.1.1 X.1.2.1 hdg (kk p e s m args below meth c H locs ls cells slots K N X)
theorem a_lmul {x y : Int64} (pc2 : Nat) (hp : pc + 1 = pc2) (hdg : decode M.2.1 pc = .ok (.lmul, 1)) (kk : g_A G M d u v pc2 lv (.long (x * y) :: rest) h r h') : g_A G M d u v pc lv (.long y :: .long x :: rest) h r h' := by
  subst hp
  exact fun p e s m args below meth c H locs ls cells slots K N X => lv_lmul X.1.1 X.1.2.1 hdg (kk p e s m args below meth c H locs ls cells slots K N X)
theorem a_iand {x y : Int32} (pc2 : Nat) (hp : pc + 1 = pc2) (hdg : decode M.2.1 pc = .ok (.iand, 1)) (kk : g_A G M d u v pc2 lv (.int (x &&& y) :: rest) h r h') : g_A G M d u v pc lv (.int y :: .int x :: rest) h r h' := by
  subst hp
  exact fun p e s m args below meth c H locs ls cells slots K N X => lv_iand X.1.1 X.1.2.1 hdg (kk p e s m args below meth c H locs ls cells slots K N X)
theorem a_land {x y : Int64} (pc2 : Nat) (hp : pc + 1 = pc2) (hdg : decode M.2.1 pc = .ok (.land, 1)) (kk : g_A G M d u v pc2 lv (.long (x &&& y) :: rest) h r h') : g_A G M d u v pc lv (.long y :: .long x :: rest) h r h' := by
  subst hp
  exact fun p e s m args below meth c H locs ls cells slots K N X => lv_land X.1.1 X.1.2.1 hdg (kk p e s m args below meth c H locs ls cells slots K N X)
theorem a_ior {x y : Int32} (pc2 : Nat) (hp : pc + 1 = pc2) (hdg : decode M.2.1 pc = .ok (.ior, 1)) (kk : g_A G M d u v pc2 lv (.int (x ||| y) :: rest) h r h') : g_A G M d u v pc lv (.int y :: .int x :: rest) h r h' := by
  subst hp
  exact fun p e s m args below meth c H locs ls cells slots K N X => lv_ior X.1.1 X.1.2.1 hdg (kk p e s m args below meth c H locs ls cells slots K N X)
theorem a_lor {x y : Int64} (pc2 : Nat) (hp : pc + 1 = pc2) (hdg : decode M.2.1 pc = .ok (.lor, 1)) (kk : g_A G M d u v pc2 lv (.long (x ||| y) :: rest) h r h') : g_A G M d u v pc lv (.long y :: .long x :: rest) h r h' := by
  subst hp
  exact fun p e s m args below meth c H locs ls cells slots K N X => lv_lor X.1.1 X.1.2.1 hdg (kk p e s m args below meth c H locs ls cells slots K N X)
theorem a_ixor {x y : Int32} (pc2 : Nat) (hp : pc + 1 = pc2) (hdg : decode M.2.1 pc = .ok (.ixor, 1)) (kk : g_A G M d u v pc2 lv (.int (x ^^^ y) :: rest) h r h') : g_A G M d u v pc lv (.int y :: .int x :: rest) h r h' := by
  subst hp
  exact fun p e s m args below meth c H locs ls cells slots K N X => lv_ixor X.1.1 X.1.2.1 hdg (kk p e s m args below meth c H locs ls cells slots K N X)
theorem a_lxor {x y : Int64} (pc2 : Nat) (hp : pc + 1 = pc2) (hdg : decode M.2.1 pc = .ok (.lxor, 1)) (kk : g_A G M d u v pc2 lv (.long (x ^^^ y) :: rest) h r h') : g_A G M d u v pc lv (.long y :: .long x :: rest) h r h' := by
  subst hp
  exact fun p e s m args below meth c H locs ls cells slots K N X => lv_lxor X.1.1 X.1.2.1 hdg (kk p e s m args below meth c H locs ls cells slots K N X)
theorem a_idiv {x y : Int32} (pc2 : Nat) (hp : pc + 1 = pc2) (hdg : decode M.2.1 pc = .ok (.idiv, 1)) (hne : ¬ y = 0) (kk : g_A G M d u v pc2 lv (.int (x / y) :: rest) h r h') : g_A G M d u v pc lv (.int y :: .int x :: rest) h r h' := by
  subst hp
  exact fun p e s m args below meth c H locs ls cells slots K N X => lv_idiv X.1.1 X.1.2.1 hdg hne (kk p e s m args below meth c H locs ls cells slots K N X)
theorem a_ldiv {x y : Int64} (pc2 : Nat) (hp : pc + 1 = pc2) (hdg : decode M.2.1 pc = .ok (.ldiv, 1)) (hne : ¬ y = 0) (kk : g_A G M d u v pc2 lv (.long (x / y) :: rest) h r h') : g_A G M d u v pc lv (.long y :: .long x :: rest) h r h' := by
  subst hp
  exact fun p e s m args below meth c H locs ls cells slots K N X => lv_ldiv X.1.1 X.1.2.1 hdg hne (kk p e s m args below meth c H locs ls cells slots K N X)
theorem a_irem {x y : Int32} (pc2 : Nat) (hp : pc + 1 = pc2) (hdg : decode M.2.1 pc = .ok (.irem, 1)) (hne : ¬ y = 0) (kk : g_A G M d u v pc2 lv (.int (x - x / y * y) :: rest) h r h') : g_A G M d u v pc lv (.int y :: .int x :: rest) h r h' := by
  subst hp
  exact fun p e s m args below meth c H locs ls cells slots K N X => lv_irem X.1.1 X.1.2.1 hdg hne (kk p e s m args below meth c H locs ls cells slots K N X)
theorem a_ineg {x : Int32} (pc2 : Nat) (hp : pc + 1 = pc2) (hdg : decode M.2.1 pc = .ok (.ineg, 1)) (kk : g_A G M d u v pc2 lv (.int (-x) :: rest) h r h') : g_A G M d u v pc lv (.int x :: rest) h r h' := by
  subst hp
  exact fun p e s m args below meth c H locs ls cells slots K N X => lv_ineg X.1.1 X.1.2.1 hdg (kk p e s m args below meth c H locs ls cells slots K N X)
theorem a_lneg {x : Int64} (pc2 : Nat) (hp : pc + 1 = pc2) (hdg : decode M.2.1 pc = .ok (.lneg, 1)) (kk : g_A G M d u v pc2 lv (.long (-x) :: rest) h r h') : g_A G M d u v pc lv (.long x :: rest) h r h' := by
  subst hp
  exact fun p e s m args below meth c H locs ls cells slots K N X => lv_lneg X.1.1 X.1.2.1 hdg (kk p e s m args below meth c H locs ls cells slots K N X)
theorem a_ishl {x y : Int32} (pc2 : Nat) (hp : pc + 1 = pc2) (hdg : decode M.2.1 pc = .ok (.ishl, 1)) (kk : g_A G M d u v pc2 lv (.int (x <<< (y &&& 31)) :: rest) h r h') : g_A G M d u v pc lv (.int y :: .int x :: rest) h r h' := by
  subst hp
  exact fun p e s m args below meth c H locs ls cells slots K N X => lv_ishl X.1.1 X.1.2.1 hdg (kk p e s m args below meth c H locs ls cells slots K N X)
theorem a_ishr {x y : Int32} (pc2 : Nat) (hp : pc + 1 = pc2) (hdg : decode M.2.1 pc = .ok (.ishr, 1)) (kk : g_A G M d u v pc2 lv (.int (x >>> (y &&& 31)) :: rest) h r h') : g_A G M d u v pc lv (.int y :: .int x :: rest) h r h' := by
  subst hp
  exact fun p e s m args below meth c H locs ls cells slots K N X => lv_ishr X.1.1 X.1.2.1 hdg (kk p e s m args below meth c H locs ls cells slots K N X)
theorem a_iushr {x y : Int32} (pc2 : Nat) (hp : pc + 1 = pc2) (hdg : decode M.2.1 pc = .ok (.iushr, 1)) (kk : g_A G M d u v pc2 lv (.int ((x.toUInt32 >>> (y.toUInt32 &&& Int32.toUInt32 31)).toInt32) :: rest) h r h') : g_A G M d u v pc lv (.int y :: .int x :: rest) h r h' := by
  subst hp
  exact fun p e s m args below meth c H locs ls cells slots K N X => lv_iushr X.1.1 X.1.2.1 hdg rfl (kk p e s m args below meth c H locs ls cells slots K N X)
theorem a_lushr {x : Int64} {y : Int32} (pc2 : Nat) (hp : pc + 1 = pc2) (hdg : decode M.2.1 pc = .ok (.lushr, 1)) (kk : g_A G M d u v pc2 lv (.long ((x.toUInt64 >>> (y.toInt64.toUInt64 &&& Int64.toUInt64 63)).toInt64) :: rest) h r h') : g_A G M d u v pc lv (.int y :: .long x :: rest) h r h' := by
  subst hp
  exact fun p e s m args below meth c H locs ls cells slots K N X => lv_lushr X.1.1 X.1.2.1 hdg rfl (kk p e s m args below meth c H locs ls cells slots K N X)
theorem a_lshl {x : Int64} {y : Int32} (pc2 : Nat) (hp : pc + 1 = pc2) (hdg : decode M.2.1 pc = .ok (.lshl, 1)) (kk : g_A G M d u v pc2 lv (.long (x <<< (y.toInt64 &&& 63)) :: rest) h r h') : g_A G M d u v pc lv (.int y :: .long x :: rest) h r h' := by
  subst hp
  exact fun p e s m args below meth c H locs ls cells slots K N X => lv_lshl X.1.1 X.1.2.1 hdg rfl (kk p e s m args below meth c H locs ls cells slots K N X)
theorem a_lshr {x : Int64} {y : Int32} (pc2 : Nat) (hp : pc + 1 = pc2) (hdg : decode M.2.1 pc = .ok (.lshr, 1)) (kk : g_A G M d u v pc2 lv (.long (x >>> (y.toInt64 &&& 63)) :: rest) h r h') : g_A G M d u v pc lv (.int y :: .long x :: rest) h r h' := by
  subst hp
  exact fun p e s m args below meth c H locs ls cells slots K N X => lv_lshr X.1.1 X.1.2.1 hdg rfl (kk p e s m args below meth c H locs ls cells slots K N X)
theorem a_i2l {x : Int32} (pc2 : Nat) (hp : pc + 1 = pc2) (hdg : decode M.2.1 pc = .ok (.i2l, 1)) (kk : g_A G M d u v pc2 lv (.long x.toInt64 :: rest) h r h') : g_A G M d u v pc lv (.int x :: rest) h r h' := by
  subst hp
  exact fun p e s m args below meth c H locs ls cells slots K N X => lv_i2l X.1.1 X.1.2.1 hdg rfl (kk p e s m args below meth c H locs ls cells slots K N X)
theorem a_l2i {x : Int64} (pc2 : Nat) (hp : pc + 1 = pc2) (hdg : decode M.2.1 pc = .ok (.l2i, 1)) (kk : g_A G M d u v pc2 lv (.int x.toInt32 :: rest) h r h') : g_A G M d u v pc lv (.long x :: rest) h r h' := by
  subst hp
  exact fun p e s m args below meth c H locs ls cells slots K N X => lv_l2i X.1.1 X.1.2.1 hdg rfl (kk p e s m args below meth c H locs ls cells slots K N X)
theorem a_i2b {x : Int32} (pc2 : Nat) (hp : pc + 1 = pc2) (hdg : decode M.2.1 pc = .ok (.i2b, 1)) (kk : g_A G M d u v pc2 lv (.int x.toInt8.toInt32 :: rest) h r h') : g_A G M d u v pc lv (.int x :: rest) h r h' := by
  subst hp
  exact fun p e s m args below meth c H locs ls cells slots K N X => lv_i2b X.1.1 X.1.2.1 hdg rfl (kk p e s m args below meth c H locs ls cells slots K N X)
theorem a_dup {x : Value} (pc2 : Nat) (hp : pc + 1 = pc2) (hdg : decode M.2.1 pc = .ok (.dup, 1)) (hc : x.category = 1) (kk : g_A G M d u v pc2 lv (x :: x :: rest) h r h') : g_A G M d u v pc lv (x :: rest) h r h' := by
  subst hp
  exact fun p e s m args below meth c H locs ls cells slots K N X => lv_dup X.1.1 X.1.2.1 hdg hc (kk p e s m args below meth c H locs ls cells slots K N X)
theorem a_pop {x : Value} (pc2 : Nat) (hp : pc + 1 = pc2) (hdg : decode M.2.1 pc = .ok (.pop, 1)) (hc : x.category = 1) (kk : g_A G M d u v pc2 lv (rest) h r h') : g_A G M d u v pc lv (x :: rest) h r h' := by
  subst hp
  exact fun p e s m args below meth c H locs ls cells slots K N X => lv_pop X.1.1 X.1.2.1 hdg hc (kk p e s m args below meth c H locs ls cells slots K N X)
theorem a_dup_x1 {x y : Value} (pc2 : Nat) (hp : pc + 1 = pc2) (hdg : decode M.2.1 pc = .ok (.dup_x1, 1)) (hc : x.category = 1) (hc2 : y.category = 1) (kk : g_A G M d u v pc2 lv (x :: y :: x :: rest) h r h') : g_A G M d u v pc lv (x :: y :: rest) h r h' := by
  subst hp
  exact fun p e s m args below meth c H locs ls cells slots K N X => lv_dup_x1 X.1.1 X.1.2.1 hdg hc hc2 (kk p e s m args below meth c H locs ls cells slots K N X)
theorem a_dup2_11 {x y : Value} (pc2 : Nat) (hp : pc + 1 = pc2) (hdg : decode M.2.1 pc = .ok (.dup2, 1)) (hc : x.category = 1) (hc2 : y.category = 1) (kk : g_A G M d u v pc2 lv (x :: y :: x :: y :: rest) h r h') : g_A G M d u v pc lv (x :: y :: rest) h r h' := by
  subst hp
  exact fun p e s m args below meth c H locs ls cells slots K N X => lv_dup2_11 X.1.1 X.1.2.1 hdg hc hc2 (kk p e s m args below meth c H locs ls cells slots K N X)
-- branches
theorem a_if_eq (tgt : Nat) {x : Int32} {off : Int} (pc2 : Nat) (hp : pc + 3 = pc2) (hdg : decode M.2.1 pc = .ok (.ifCond .eq off, 3)) (ht : (pc : Int) + off = (tgt : Int)) (kt : x = 0 → g_A G M d u v tgt lv rest h r h') (kf : ¬ x = 0 → g_A G M d u v pc2 lv rest h r h') : g_A G M d u v pc lv (.int x :: rest) h r h' := by
  subst hp
  exact fun p e s m args below meth c H locs ls cells slots K N X => lv_if_eq X.1.1 X.1.2.1 hdg ht (fun hc => kt hc p e s m args below meth c H locs ls cells slots K N X) (fun hc => kf hc p e s m args below meth c H locs ls cells slots K N X)
theorem a_icmp_eq (tgt : Nat) {x y : Int32} {off : Int} (pc2 : Nat) (hp : pc + 3 = pc2) (hdg : decode M.2.1 pc = .ok (.if_icmp .eq off, 3)) (ht : (pc : Int) + off = (tgt : Int)) (kt : x = y → g_A G M d u v tgt lv rest h r h') (kf : ¬ x = y → g_A G M d u v pc2 lv rest h r h') : g_A G M d u v pc lv (.int y :: .int x :: rest) h r h' := by
  subst hp
  exact fun p e s m args below meth c H locs ls cells slots K N X => lv_icmp_eq X.1.1 X.1.2.1 hdg ht (fun hc => kt hc p e s m args below meth c H locs ls cells slots K N X) (fun hc => kf hc p e s m args below meth c H locs ls cells slots K N X)
theorem a_if_ne (tgt : Nat) {x : Int32} {off : Int} (pc2 : Nat) (hp : pc + 3 = pc2) (hdg : decode M.2.1 pc = .ok (.ifCond .ne off, 3)) (ht : (pc : Int) + off = (tgt : Int)) (kt : ¬ x = 0 → g_A G M d u v tgt lv rest h r h') (kf : x = 0 → g_A G M d u v pc2 lv rest h r h') : g_A G M d u v pc lv (.int x :: rest) h r h' := by
  subst hp
  exact fun p e s m args below meth c H locs ls cells slots K N X => lv_if_ne X.1.1 X.1.2.1 hdg ht (fun hc => kt hc p e s m args below meth c H locs ls cells slots K N X) (fun hc => kf hc p e s m args below meth c H locs ls cells slots K N X)
theorem a_icmp_ne (tgt : Nat) {x y : Int32} {off : Int} (pc2 : Nat) (hp : pc + 3 = pc2) (hdg : decode M.2.1 pc = .ok (.if_icmp .ne off, 3)) (ht : (pc : Int) + off = (tgt : Int)) (kt : ¬ x = y → g_A G M d u v tgt lv rest h r h') (kf : x = y → g_A G M d u v pc2 lv rest h r h') : g_A G M d u v pc lv (.int y :: .int x :: rest) h r h' := by
  subst hp
  exact fun p e s m args below meth c H locs ls cells slots K N X => lv_icmp_ne X.1.1 X.1.2.1 hdg ht (fun hc => kt hc p e s m args below meth c H locs ls cells slots K N X) (fun hc => kf hc p e s m args below meth c H locs ls cells slots K N X)
theorem a_if_lt (tgt : Nat) {x : Int32} {off : Int} (pc2 : Nat) (hp : pc + 3 = pc2) (hdg : decode M.2.1 pc = .ok (.ifCond .lt off, 3)) (ht : (pc : Int) + off = (tgt : Int)) (kt : x < 0 → g_A G M d u v tgt lv rest h r h') (kf : ¬ x < 0 → g_A G M d u v pc2 lv rest h r h') : g_A G M d u v pc lv (.int x :: rest) h r h' := by
  subst hp
  exact fun p e s m args below meth c H locs ls cells slots K N X => lv_if_lt X.1.1 X.1.2.1 hdg ht (fun hc => kt hc p e s m args below meth c H locs ls cells slots K N X) (fun hc => kf hc p e s m args below meth c H locs ls cells slots K N X)
theorem a_icmp_lt (tgt : Nat) {x y : Int32} {off : Int} (pc2 : Nat) (hp : pc + 3 = pc2) (hdg : decode M.2.1 pc = .ok (.if_icmp .lt off, 3)) (ht : (pc : Int) + off = (tgt : Int)) (kt : x < y → g_A G M d u v tgt lv rest h r h') (kf : ¬ x < y → g_A G M d u v pc2 lv rest h r h') : g_A G M d u v pc lv (.int y :: .int x :: rest) h r h' := by
  subst hp
  exact fun p e s m args below meth c H locs ls cells slots K N X => lv_icmp_lt X.1.1 X.1.2.1 hdg ht (fun hc => kt hc p e s m args below meth c H locs ls cells slots K N X) (fun hc => kf hc p e s m args below meth c H locs ls cells slots K N X)
theorem a_if_ge (tgt : Nat) {x : Int32} {off : Int} (pc2 : Nat) (hp : pc + 3 = pc2) (hdg : decode M.2.1 pc = .ok (.ifCond .ge off, 3)) (ht : (pc : Int) + off = (tgt : Int)) (kt : 0 ≤ x → g_A G M d u v tgt lv rest h r h') (kf : ¬ 0 ≤ x → g_A G M d u v pc2 lv rest h r h') : g_A G M d u v pc lv (.int x :: rest) h r h' := by
  subst hp
  exact fun p e s m args below meth c H locs ls cells slots K N X => lv_if_ge X.1.1 X.1.2.1 hdg ht (fun hc => kt hc p e s m args below meth c H locs ls cells slots K N X) (fun hc => kf hc p e s m args below meth c H locs ls cells slots K N X)
theorem a_icmp_ge (tgt : Nat) {x y : Int32} {off : Int} (pc2 : Nat) (hp : pc + 3 = pc2) (hdg : decode M.2.1 pc = .ok (.if_icmp .ge off, 3)) (ht : (pc : Int) + off = (tgt : Int)) (kt : y ≤ x → g_A G M d u v tgt lv rest h r h') (kf : ¬ y ≤ x → g_A G M d u v pc2 lv rest h r h') : g_A G M d u v pc lv (.int y :: .int x :: rest) h r h' := by
  subst hp
  exact fun p e s m args below meth c H locs ls cells slots K N X => lv_icmp_ge X.1.1 X.1.2.1 hdg ht (fun hc => kt hc p e s m args below meth c H locs ls cells slots K N X) (fun hc => kf hc p e s m args below meth c H locs ls cells slots K N X)
theorem a_if_gt (tgt : Nat) {x : Int32} {off : Int} (pc2 : Nat) (hp : pc + 3 = pc2) (hdg : decode M.2.1 pc = .ok (.ifCond .gt off, 3)) (ht : (pc : Int) + off = (tgt : Int)) (kt : 0 < x → g_A G M d u v tgt lv rest h r h') (kf : ¬ 0 < x → g_A G M d u v pc2 lv rest h r h') : g_A G M d u v pc lv (.int x :: rest) h r h' := by
  subst hp
  exact fun p e s m args below meth c H locs ls cells slots K N X => lv_if_gt X.1.1 X.1.2.1 hdg ht (fun hc => kt hc p e s m args below meth c H locs ls cells slots K N X) (fun hc => kf hc p e s m args below meth c H locs ls cells slots K N X)
theorem a_icmp_gt (tgt : Nat) {x y : Int32} {off : Int} (pc2 : Nat) (hp : pc + 3 = pc2) (hdg : decode M.2.1 pc = .ok (.if_icmp .gt off, 3)) (ht : (pc : Int) + off = (tgt : Int)) (kt : y < x → g_A G M d u v tgt lv rest h r h') (kf : ¬ y < x → g_A G M d u v pc2 lv rest h r h') : g_A G M d u v pc lv (.int y :: .int x :: rest) h r h' := by
  subst hp
  exact fun p e s m args below meth c H locs ls cells slots K N X => lv_icmp_gt X.1.1 X.1.2.1 hdg ht (fun hc => kt hc p e s m args below meth c H locs ls cells slots K N X) (fun hc => kf hc p e s m args below meth c H locs ls cells slots K N X)
theorem a_if_le (tgt : Nat) {x : Int32} {off : Int} (pc2 : Nat) (hp : pc + 3 = pc2) (hdg : decode M.2.1 pc = .ok (.ifCond .le off, 3)) (ht : (pc : Int) + off = (tgt : Int)) (kt : x ≤ 0 → g_A G M d u v tgt lv rest h r h') (kf : ¬ x ≤ 0 → g_A G M d u v pc2 lv rest h r h') : g_A G M d u v pc lv (.int x :: rest) h r h' := by
  subst hp
  exact fun p e s m args below meth c H locs ls cells slots K N X => lv_if_le X.1.1 X.1.2.1 hdg ht (fun hc => kt hc p e s m args below meth c H locs ls cells slots K N X) (fun hc => kf hc p e s m args below meth c H locs ls cells slots K N X)
theorem a_icmp_le (tgt : Nat) {x y : Int32} {off : Int} (pc2 : Nat) (hp : pc + 3 = pc2) (hdg : decode M.2.1 pc = .ok (.if_icmp .le off, 3)) (ht : (pc : Int) + off = (tgt : Int)) (kt : x ≤ y → g_A G M d u v tgt lv rest h r h') (kf : ¬ x ≤ y → g_A G M d u v pc2 lv rest h r h') : g_A G M d u v pc lv (.int y :: .int x :: rest) h r h' := by
  subst hp
  exact fun p e s m args below meth c H locs ls cells slots K N X => lv_icmp_le X.1.1 X.1.2.1 hdg ht (fun hc => kt hc p e s m args below meth c H locs ls cells slots K N X) (fun hc => kf hc p e s m args below meth c H locs ls cells slots K N X)
theorem a_acmp_eq (tgt : Nat) {rx ry : Option Nat} {off : Int} (pc2 : Nat) (hp : pc + 3 = pc2) (hdg : decode M.2.1 pc = .ok (.if_acmp .eq off, 3)) (ht : (pc : Int) + off = (tgt : Int)) (kt : rx = ry → g_A G M d u v tgt lv rest h r h') (kf : ¬ rx = ry → g_A G M d u v pc2 lv rest h r h') : g_A G M d u v pc lv (va_rf ry :: va_rf rx :: rest) h r h' := by
  subst hp
  exact fun p e s m args below meth c H locs ls cells slots K N X => lv_acmp_eq X.1.1 X.1.2.1 hdg ht (fun hc => kt hc p e s m args below meth c H locs ls cells slots K N X) (fun hc => kf hc p e s m args below meth c H locs ls cells slots K N X)
theorem a_acmp_ne (tgt : Nat) {rx ry : Option Nat} {off : Int} (pc2 : Nat) (hp : pc + 3 = pc2) (hdg : decode M.2.1 pc = .ok (.if_acmp .ne off, 3)) (ht : (pc : Int) + off = (tgt : Int)) (kt : ¬ rx = ry → g_A G M d u v tgt lv rest h r h') (kf : rx = ry → g_A G M d u v pc2 lv rest h r h') : g_A G M d u v pc lv (va_rf ry :: va_rf rx :: rest) h r h' := by
  subst hp
  exact fun p e s m args below meth c H locs ls cells slots K N X => lv_acmp_ne X.1.1 X.1.2.1 hdg ht (fun hc => kt hc p e s m args below meth c H locs ls cells slots K N X) (fun hc => kf hc p e s m args below meth c H locs ls cells slots K N X)
theorem a_goto (tgt : Nat) {off : Int} (hdg : decode M.2.1 pc = .ok (.goto off, 3)) (ht : (pc : Int) + off = (tgt : Int)) (kk : g_A G M d u v tgt lv rest h r h') : g_A G M d u v pc lv rest h r h' :=
  fun p e s m args below meth c H locs ls cells slots K N X => lv_goto X.1.1 X.1.2.1 hdg ht (kk p e s m args below meth c H locs ls cells slots K N X)
theorem a_ifnull {x : Nat} {off : Int} (pc2 : Nat) (hp : pc + 3 = pc2) (hdg : decode M.2.1 pc = .ok (.ifnull off, 3)) (kk : g_A G M d u v pc2 lv rest h r h') : g_A G M d u v pc lv (.ref x :: rest) h r h' := by
  subst hp
  exact fun p e s m args below meth c H locs ls cells slots K N X => lv_ifnull X.1.1 X.1.2.1 hdg (kk p e s m args below meth c H locs ls cells slots K N X)
theorem a_ifnullN (tgt : Nat) {off : Int} (hdg : decode M.2.1 pc = .ok (.ifnull off, 3)) (ht : (pc : Int) + off = (tgt : Int)) (kk : g_A G M d u v tgt lv rest h r h') : g_A G M d u v pc lv (.null :: rest) h r h' :=
  fun p e s m args below meth c H locs ls cells slots K N X => lv_ifnullN X.1.1 X.1.2.1 hdg ht (kk p e s m args below meth c H locs ls cells slots K N X)
theorem a_ifnonnull (tgt : Nat) {x : Nat} {off : Int} (hdg : decode M.2.1 pc = .ok (.ifnonnull off, 3)) (ht : (pc : Int) + off = (tgt : Int)) (kk : g_A G M d u v tgt lv rest h r h') : g_A G M d u v pc lv (.ref x :: rest) h r h' :=
  fun p e s m args below meth c H locs ls cells slots K N X => lv_ifnonnull X.1.1 X.1.2.1 hdg ht (kk p e s m args below meth c H locs ls cells slots K N X)
theorem a_ifnonnullN {off : Int} (pc2 : Nat) (hp : pc + 3 = pc2) (hdg : decode M.2.1 pc = .ok (.ifnonnull off, 3)) (kk : g_A G M d u v pc2 lv rest h r h') : g_A G M d u v pc lv (.null :: rest) h r h' := by
  subst hp
  exact fun p e s m args below meth c H locs ls cells slots K N X => lv_ifnonnullN X.1.1 X.1.2.1 hdg (kk p e s m args below meth c H locs ls cells slots K N X)
theorem a_lookup (tgt : Nat) {dflt : Int} {ps : Array (Int × Int)} {len : Nat} {x : Int32} {off : Int} (hdg : decode M.2.1 pc = .ok (.lookupswitch dflt ps, len)) (hp : (ps.toList.zip (ps.toList.drop 1)).all (fun (a, next) => a.1 < next.1) = true) (ho : Op.lookupswitch.offset ps.toList dflt x.toInt = off) (ht : (pc : Int) + off = (tgt : Int)) (kk : g_A G M d u v tgt lv rest h r h') : g_A G M d u v pc lv (.int x :: rest) h r h' :=
  fun p e s m args below meth c H locs ls cells slots K N X => lv_lookup X.1.1 X.1.2.1 hdg hp ho ht (kk p e s m args below meth c H locs ls cells slots K N X)
theorem a_tableOut (tgt : Nat) {dflt lo hi : Int} {offs : Array Int} {len : Nat} {x : Int32} (hdg : decode M.2.1 pc = .ok (.tableswitch dflt lo hi offs, len)) (hx : x.toInt < lo ∨ hi < x.toInt) (ht : (pc : Int) + dflt = (tgt : Int)) (kk : g_A G M d u v tgt lv rest h r h') : g_A G M d u v pc lv (.int x :: rest) h r h' :=
  fun p e s m args below meth c H locs ls cells slots K N X => lv_tableOut X.1.1 X.1.2.1 hdg hx ht (kk p e s m args below meth c H locs ls cells slots K N X)
theorem a_tableIn (tgt : Nat) {dflt lo hi : Int} {offs : Array Int} {len : Nat} {x : Int32} {off : Int} (hdg : decode M.2.1 pc = .ok (.tableswitch dflt lo hi offs, len)) (h1 : ¬ x.toInt < lo) (h2 : ¬ hi < x.toInt) (ho : offs[(x.toInt - lo).toNat]? = some off) (ht : (pc : Int) + off = (tgt : Int)) (kk : g_A G M d u v tgt lv rest h r h') : g_A G M d u v pc lv (.int x :: rest) h r h' :=
  fun p e s m args below meth c H locs ls cells slots K N X => lv_tableIn X.1.1 X.1.2.1 hdg h1 h2 ho ht (kk p e s m args below meth c H locs ls cells slots K N X)
theorem a_lcmp {x y : Int64} (pc2 : Nat) (hp : pc + 1 = pc2) (hdg : decode M.2.1 pc = .ok (.lcmp, 1)) (kk : g_A G M d u v pc2 lv (.int (lg_cmp x y) :: rest) h r h') : g_A G M d u v pc lv (.long y :: .long x :: rest) h r h' := by
  subst hp
  exact fun p e s m args below meth c H locs ls cells slots K N X => W.lcmp X.1.1 X.1.2.1 hdg (kk p e s m args below meth c H locs ls cells slots K N X)
theorem a_fdiv {x y : UInt32} (pc2 : Nat) (hp : pc + 1 = pc2) (hdg : decode M.2.1 pc = .ok (.fdiv, 1)) (hne : vf_n32 (FP.fdiv x y)) (kk : g_A G M d u v pc2 lv (.float (FP.fdiv x y) :: rest) h r h') : g_A G M d u v pc lv (.float y :: .float x :: rest) h r h' := by
  subst hp
  exact fun p e s m args below meth c H locs ls cells slots K N X => lv_fdiv X.1.1 X.1.2.1 hdg hne (kk p e s m args below meth c H locs ls cells slots K N X)
theorem a_fmul {x y : UInt32} (pc2 : Nat) (hp : pc + 1 = pc2) (hdg : decode M.2.1 pc = .ok (.fmul, 1)) (hne : vf_n32 (FP.fmul x y)) (kk : g_A G M d u v pc2 lv (.float (FP.fmul x y) :: rest) h r h') : g_A G M d u v pc lv (.float y :: .float x :: rest) h r h' := by
  subst hp
  exact fun p e s m args below meth c H locs ls cells slots K N X => lv_fmul X.1.1 X.1.2.1 hdg hne (kk p e s m args below meth c H locs ls cells slots K N X)
theorem a_ddiv {x y : UInt64} (pc2 : Nat) (hp : pc + 1 = pc2) (hdg : decode M.2.1 pc = .ok (.ddiv, 1)) (hne : vf_n64 (FP.ddiv x y)) (kk : g_A G M d u v pc2 lv (.double (FP.ddiv x y) :: rest) h r h') : g_A G M d u v pc lv (.double y :: .double x :: rest) h r h' := by
  subst hp
  exact fun p e s m args below meth c H locs ls cells slots K N X => lv_ddiv X.1.1 X.1.2.1 hdg hne (kk p e s m args below meth c H locs ls cells slots K N X)
theorem a_dmul {x y : UInt64} (pc2 : Nat) (hp : pc + 1 = pc2) (hdg : decode M.2.1 pc = .ok (.dmul, 1)) (hne : vf_n64 (FP.dmul x y)) (kk : g_A G M d u v pc2 lv (.double (FP.dmul x y) :: rest) h r h') : g_A G M d u v pc lv (.double y :: .double x :: rest) h r h' := by
  subst hp
  exact fun p e s m args below meth c H locs ls cells slots K N X => lv_dmul X.1.1 X.1.2.1 hdg hne (kk p e s m args below meth c H locs ls cells slots K N X)
theorem a_dadd {x y : UInt64} (pc2 : Nat) (hp : pc + 1 = pc2) (hdg : decode M.2.1 pc = .ok (.dadd, 1)) (hne : vf_n64 (FP.dadd x y)) (kk : g_A G M d u v pc2 lv (.double (FP.dadd x y) :: rest) h r h') : g_A G M d u v pc lv (.double y :: .double x :: rest) h r h' := by
  subst hp
  exact fun p e s m args below meth c H locs ls cells slots K N X => lv_dadd X.1.1 X.1.2.1 hdg hne (kk p e s m args below meth c H locs ls cells slots K N X)
theorem a_fcmp {x y : UInt32} {op : CmpOp} (pc2 : Nat) (hp : pc + 1 = pc2) (hdg : decode M.2.1 pc = .ok (.fcmp op, 1)) (kk : g_A G M d u v pc2 lv (.int (Op.cmpValue (FP.fcmp x y) op) :: rest) h r h') : g_A G M d u v pc lv (.float y :: .float x :: rest) h r h' := by
  subst hp
  exact fun p e s m args below meth c H locs ls cells slots K N X => lv_fcmp X.1.1 X.1.2.1 hdg (kk p e s m args below meth c H locs ls cells slots K N X)
theorem a_dcmp {x y : UInt64} {op : CmpOp} (pc2 : Nat) (hp : pc + 1 = pc2) (hdg : decode M.2.1 pc = .ok (.dcmp op, 1)) (kk : g_A G M d u v pc2 lv (.int (Op.cmpValue (FP.dcmp x y) op) :: rest) h r h') : g_A G M d u v pc lv (.double y :: .double x :: rest) h r h' := by
  subst hp
  exact fun p e s m args below meth c H locs ls cells slots K N X => lv_dcmp X.1.1 X.1.2.1 hdg (kk p e s m args below meth c H locs ls cells slots K N X)
theorem a_i2f {x : Int32} (pc2 : Nat) (hp : pc + 1 = pc2) (hdg : decode M.2.1 pc = .ok (.i2f, 1)) (kk : g_A G M d u v pc2 lv (.float (FP.i2f x) :: rest) h r h') : g_A G M d u v pc lv (.int x :: rest) h r h' := by
  subst hp
  exact fun p e s m args below meth c H locs ls cells slots K N X => lv_i2f X.1.1 X.1.2.1 hdg (kk p e s m args below meth c H locs ls cells slots K N X)
theorem a_f2i {x : UInt32} (pc2 : Nat) (hp : pc + 1 = pc2) (hdg : decode M.2.1 pc = .ok (.f2i, 1)) (kk : g_A G M d u v pc2 lv (.int (FP.f2i x) :: rest) h r h') : g_A G M d u v pc lv (.float x :: rest) h r h' := by
  subst hp
  exact fun p e s m args below meth c H locs ls cells slots K N X => lv_f2i X.1.1 X.1.2.1 hdg (kk p e s m args below meth c H locs ls cells slots K N X)
theorem a_f2l {x : UInt32} (pc2 : Nat) (hp : pc + 1 = pc2) (hdg : decode M.2.1 pc = .ok (.f2l, 1)) (kk : g_A G M d u v pc2 lv (.long (FP.f2l x) :: rest) h r h') : g_A G M d u v pc lv (.float x :: rest) h r h' := by
  subst hp
  exact fun p e s m args below meth c H locs ls cells slots K N X => lv_f2l X.1.1 X.1.2.1 hdg (kk p e s m args below meth c H locs ls cells slots K N X)
theorem a_l2d {x : Int64} (pc2 : Nat) (hp : pc + 1 = pc2) (hdg : decode M.2.1 pc = .ok (.l2d, 1)) (kk : g_A G M d u v pc2 lv (.double (FP.l2d x) :: rest) h r h') : g_A G M d u v pc lv (.long x :: rest) h r h' := by
  subst hp
  exact fun p e s m args below meth c H locs ls cells slots K N X => lv_l2d X.1.1 X.1.2.1 hdg (kk p e s m args below meth c H locs ls cells slots K N X)
theorem a_d2l {x : UInt64} (pc2 : Nat) (hp : pc + 1 = pc2) (hdg : decode M.2.1 pc = .ok (.d2l, 1)) (kk : g_A G M d u v pc2 lv (.long (FP.d2l x) :: rest) h r h') : g_A G M d u v pc lv (.double x :: rest) h r h' := by
  subst hp
  exact fun p e s m args below meth c H locs ls cells slots K N X => lv_d2l X.1.1 X.1.2.1 hdg (kk p e s m args below meth c H locs ls cells slots K N X)
theorem a_ldc {index : Nat} {x : Int32} (hw : Cond.constant M.1.cls index x ∈ g_GW) (pc2 : Nat) (hp : pc + 2 = pc2) (hdg : decode M.2.1 pc = .ok (.ldc index, 2)) (kk : g_A G M d u v pc2 lv (.int x :: rest) h r h') : g_A G M d u v pc lv rest h r h' := by
  subst hp
  exact fun p e s m args below meth c H locs ls cells slots K N X => lv_ldc X.1.1 X.1.2.1 X.1.2.2.2.2.1 (X.1.2.2.2.2.2.1 _ hw) hdg (kk p e s m args below meth c H locs ls cells slots K N X)
theorem a_ldcw {index : Nat} {x : Int32} (hw : Cond.constant M.1.cls index x ∈ g_GW) (pc2 : Nat) (hp : pc + 3 = pc2) (hdg : decode M.2.1 pc = .ok (.ldc_w index, 3)) (kk : g_A G M d u v pc2 lv (.int x :: rest) h r h') : g_A G M d u v pc lv rest h r h' := by
  subst hp
  exact fun p e s m args below meth c H locs ls cells slots K N X => lv_ldcw X.1.1 X.1.2.1 X.1.2.2.2.2.1 (X.1.2.2.2.2.2.1 _ hw) hdg (kk p e s m args below meth c H locs ls cells slots K N X)
theorem a_ldc2 {index : Nat} {x : Int64} (hw : Cond.constantLong M.1.cls index x ∈ g_GW) (pc2 : Nat) (hp : pc + 3 = pc2) (hdg : decode M.2.1 pc = .ok (.ldc2_w index, 3)) (kk : g_A G M d u v pc2 lv (.long x :: rest) h r h') : g_A G M d u v pc lv rest h r h' := by
  subst hp
  exact fun p e s m args below meth c H locs ls cells slots K N X => lv_ldc2 X.1.1 X.1.2.1 X.1.2.2.2.2.1 (X.1.2.2.2.2.2.1 _ hw) hdg (kk p e s m args below meth c H locs ls cells slots K N X)
theorem a_ldcf {index : Nat} {x : UInt32} (hw : Cond.constantFloat M.1.cls index x ∈ g_GW) (pc2 : Nat) (hp : pc + 2 = pc2) (hdg : decode M.2.1 pc = .ok (.ldc index, 2)) (kk : g_A G M d u v pc2 lv (.float x :: rest) h r h') : g_A G M d u v pc lv rest h r h' := by
  subst hp
  exact fun p e s m args below meth c H locs ls cells slots K N X => lv_ldcf X.1.1 X.1.2.1 X.1.2.2.2.2.1 (X.1.2.2.2.2.2.1 _ hw) hdg (kk p e s m args below meth c H locs ls cells slots K N X)
theorem a_ldc2d {index : Nat} {x : UInt64} (hw : Cond.constantDouble M.1.cls index x ∈ g_GW) (pc2 : Nat) (hp : pc + 3 = pc2) (hdg : decode M.2.1 pc = .ok (.ldc2_w index, 3)) (kk : g_A G M d u v pc2 lv (.double x :: rest) h r h') : g_A G M d u v pc lv rest h r h' := by
  subst hp
  exact fun p e s m args below meth c H locs ls cells slots K N X => lv_ldc2d X.1.1 X.1.2.1 X.1.2.2.2.2.1 (X.1.2.2.2.2.2.1 _ hw) hdg (kk p e s m args below meth c H locs ls cells slots K N X)
-- the heap
/-- a class of vwCl, its fields' types, its words -/
def g_Cl (c : Nat) (C : String) (T : u_T) (N : Nat) (ty : Nat → FieldType) : Prop := vwCl[c]? = some (C, T, N) ∧ (∀ w ∈ u_ws C T N, w ∈ g_GW) ∧ (∀ k, k < N → parseFieldDescriptor (T k).2.2.1 = some (ty k)) ∧ (∀ a, a < N → ∀ b, b < N → a ≠ b → (T a).2.1 ≠ (T b).2.1)
/-- a field's link, of the own class or of a nest mate's -/
def g_Lk (own : String) (index : Nat) (T : u_T) (j : Nat) : Prop := Cond.fieldLink own index (T j).1 (T j).2.1 (T j).2.2.1 ∈ g_GW ∨ ∃ host, Cond.fieldLinkNest own index (T j).1 (T j).2.1 (T j).2.2.1 host ∈ g_NW
theorem g_lt {h : List va_E} {a : Nat} {e : va_E} (he : h[a]? = some e) : a < h.length := (List.getElem?_eq_some_iff.mp he).1
theorem g_put {p : Program} {s : State} {m : MethodId} {args : Array Value} {meth : Method} {c : Code} {H H1 : Heap} {locs : List Loc} {ls : Array Slot} {cells slots K N a k : Nat} {e0 e1 : va_E} (X : g_X G M u v lv h p s m args meth c H locs ls cells slots K N) (he : h[a]? = some e0) (z : H1.size = H.size) (oq : ∀ q : Nat, q ≠ g_ad G a → H1[q]? = H[q]?) (hat : va_at G.2.2.1 vwCl (g_ad G a, e1) H1) : g_X G M u v lv (h.set a e1) p s m args meth c H1 (locs ++ [⟨g_ad G a, k⟩]) ls cells slots K N := by
  have hA : g_In G (g_ad G a) := (g_D (G := G) (h := h)).2 a _ (g_ws_at he)
  refine ⟨X.1, X.2.1, X.2.2.1.put z oq hA, ?_, by rw [z, List.length_set]; exact X.2.2.2.2.1, X.2.2.2.2.2⟩
  rw [← g_ws_set]
  exact X.2.2.2.1.set g_D (g_ws_at he) hat oq
theorem g_push {p : Program} {s : State} {m : MethodId} {args : Array Value} {meth : Method} {c : Code} {H H1 : Heap} {locs : List Loc} {ls : Array Slot} {cells slots K N n : Nat} {e1 : va_E} (X : g_X G M (u + 1) (v + n) lv h p s m args meth c H locs ls cells slots K N) (z : H1.size = H.size + 1) (oq : ∀ q : Nat, q < H.size → H1[q]? = H[q]?) (hat : va_at G.2.2.1 vwCl (g_ad G h.length, e1) H1) : g_X G M u v lv (h ++ [e1]) p s m args meth c H1 locs ls (cells + 1) (slots + n) K N := by
  obtain ⟨X1, X2, X3, X4, X5, X6, X7, X8⟩ := X
  refine ⟨X1, X2, ⟨Nat.le_trans X3.1 (by omega), fun q h1 h2 => (oq q (Nat.lt_of_lt_of_le h1 X3.1)).trans (X3.2.1 q h1 h2), X3.2.2⟩, ?_, by rw [z, X5, List.length_append]; rfl, X6, by omega, by omega⟩
  rw [← g_ws_push]
  refine (X4.kept fun k q hq => oq q.1 (X4 k q hq).lt).app fun k q hq => ?_
  have hz : k < 1 := (List.getElem?_eq_some_iff.mp hq).1
  rw [show k = 0 by omega] at hq
  cases hq
  exact hat
theorem a_get {C : String} {T : u_T} {N cx index a : Nat} (j : Nat) {fs : List Value} {ty0 : Nat → FieldType} {x : Value} (hcl : g_Cl cx C T N ty0) (hlk : g_Lk M.1.cls index T j) (hj : j < N) (he : h[a]? = some (.inr (cx, fs))) (hv : fs[j]? = some x) (pc2 : Nat) (hp : pc + 3 = pc2) (hdg : decode M.2.1 pc = .ok (.getfield index, 3)) (kk : g_A G M d u v pc2 lv (x :: rest) h r h') : g_A G M d u v pc lv (.ref (g_ad G a) :: rest) h r h' := by
  subst hp
  intro p e s m args below meth c H locs ls cells slots K N' X
  rcases hlk with hl | ⟨host, hl⟩
  · exact va_get X.1.1 X.1.2.1 X.1.2.2.2.2.2.1 hcl.2.1 X.1.2.2.2.2.1 X.2.1.1.1 X.2.2.2.1 a (g_ws_at he) hcl.1 j hj (X.1.2.2.2.2.2.1 _ hl) (fun x h => h) hv hdg (kk p e s m args below meth c H locs ls cells slots K N' X)
  · exact va_getN X.1.1 X.1.2.1 X.1.2.2.2.2.2.1 hcl.2.1 X.1.2.2.2.2.1 X.2.1.1.1 X.2.2.2.1 a (g_ws_at he) hcl.1 j hj (va_Nw.use rfl (X.2.1.1.2.1 _ hl)) (fun x h => h) hv hdg (kk p e s m args below meth c H locs ls cells slots K N' X)
theorem a_put {C : String} {T : u_T} {N cx index a : Nat} (j : Nat) {fs fs' : List Value} {ty0 : Nat → FieldType} {x : Value} (hcl : g_Cl cx C T N ty0) (hlk : g_Lk M.1.cls index T j) (hj : j < N) (he : h[a]? = some (.inr (cx, fs))) (hfin : (T j).2.2.2 = false) (hn : narrow (ty0 j) x = x) (hfit : fits (ty0 j) x = true) (hlen : j < fs.length) (hfs : fs.set j x = fs') (pc2 : Nat) (hp : pc + 3 = pc2) (hdg : decode M.2.1 pc = .ok (.putfield index, 3)) (kk : g_A G M d u v pc2 lv rest (h.set a (.inr (cx, fs'))) r h') : g_A G M d u v pc lv (x :: .ref (g_ad G a) :: rest) h r h' := by
  subst hp
  subst hfs
  intro p e s m args below meth c H locs ls cells slots K N' X
  obtain ⟨hc, hin, hty, hnm⟩ := hcl
  have hts := X.1.2.2.2.2.2.1
  have hown := X.1.2.2.2.2.1
  have hK := X.2.1.1.1
  have hap := va_apart (own := C) hts hin ty0 hty hnm hK hc
  obtain ⟨r0, h1, cell, q1, q2, q3, q4⟩ := X.2.2.2.1 a _ (g_ws_at he)
  have hr : r0 = (C, T, N) := Option.some.inj (h1.symm.trans hc)
  subst hr
  obtain ⟨hS, hfc, kC, hkC, hkind⟩ := hK.1 cx _ hc
  obtain ⟨cf, kf, fi, f, hi, hsl⟩ := hS j hj
  have hlay := hts _ (hin _ (u_in_lay hj))
  unfold u_lay at hlay
  rw [if_neg (by rw [hfin]; decide)] at hlay
  have hst := (u_facts hfc hkC (u_lays hts hin hj) hi).1
  have h6 := u_store hfc hkC hkind hlay hi (hty j hj) hn hfit
  rcases hlk with hl | ⟨host, hl⟩
  · refine W.putK X.1.1 X.1.2.1 (f := f) ⟨hown, hts _ hl, ⟨_, _, _, hi⟩, hst⟩ (by rw [q2]; exact h6) q1 q3 (by rw [hsl]; exact k2_hasslot (q4 j hj)) rfl rfl hdg fun H' e1 e2 e3 => ?_
    rw [hsl] at e1 ⊢
    exact kk p e s m args below meth c H' _ ls cells slots K N' (g_put X he e2 e3 ⟨_, hc, t_OB.to (V := updV (vp_V fs) j x) ⟨_, e1, q2, q3, t_set q4 hap hj x⟩ (fun i _ => vp_updV_set hlen x i)⟩)
  · refine va_WputK X.1.1 X.1.2.1 (f := f) hown (va_Nw.use rfl (X.2.1.1.2.1 _ hl)) hi hst (by rw [q2]; exact h6) q1 q3 (by rw [hsl]; exact k2_hasslot (q4 j hj)) rfl rfl hdg fun H' e1 e2 e3 => ?_
    rw [hsl] at e1 ⊢
    exact kk p e s m args below meth c H' _ ls cells slots K N' (g_put X he e2 e3 ⟨_, hc, t_OB.to (V := updV (vp_V fs) j x) ⟨_, e1, q2, q3, t_set q4 hap hj x⟩ (fun i _ => vp_updV_set hlen x i)⟩)
/-- a final field, in its own constructor -/
theorem a_putF {C : String} {T : u_T} {N cx index a : Nat} (j : Nat) {fs fs' : List Value} {ty0 : Nat → FieldType} {x : Value} (hcl : g_Cl cx C T N ty0) (hl : Cond.fieldLink M.1.cls index (T j).1 (T j).2.1 (T j).2.2.1 ∈ g_GW) (hj : j < N) (he : h[a]? = some (.inr (cx, fs))) (hfin : (T j).2.2.2 = true) (hini : M.1.name = "<init>") (hdecl : (T j).1 = M.1.cls) (hn : narrow (ty0 j) x = x) (hfit : fits (ty0 j) x = true) (hlen : j < fs.length) (hfs : fs.set j x = fs') (pc2 : Nat) (hp : pc + 3 = pc2) (hdg : decode M.2.1 pc = .ok (.putfield index, 3)) (kk : g_A G M d u v pc2 lv rest (h.set a (.inr (cx, fs'))) r h') : g_A G M d u v pc lv (x :: .ref (g_ad G a) :: rest) h r h' := by
  subst hp
  subst hfs
  intro p e s m args below meth c H locs ls cells slots K N' X
  obtain ⟨hc, hin, hty, hnm⟩ := hcl
  have hts := X.1.2.2.2.2.2.1
  have hown := X.1.2.2.2.2.1
  have hK := X.2.1.1.1
  have hap := va_apart (own := C) hts hin ty0 hty hnm hK hc
  obtain ⟨r0, h1, cell, q1, q2, q3, q4⟩ := X.2.2.2.1 a _ (g_ws_at he)
  have hr : r0 = (C, T, N) := Option.some.inj (h1.symm.trans hc)
  subst hr
  obtain ⟨hS, hfc, kC, hkC, hkind⟩ := hK.1 cx _ hc
  obtain ⟨cf, kf, fi, f, hi, hsl⟩ := hS j hj
  have hlay := hts _ (hin _ (u_in_lay hj))
  unfold u_lay at hlay
  rw [if_pos hfin] at hlay
  have hst := (u_facts hfc hkC (u_lays hts hin hj) hi).1
  have hcf : m.cls = cf := by
    obtain ⟨_, _, c', _, _, _, -, -, hf', -, -, -, hown2, -⟩ := Cond.laysFinal_spec hlay
    have e1 : c' = cf := by have := hi.symm.trans hf'; simp at this; exact this.1.symm
    rw [hdecl] at hown2
    rw [← e1]; exact Option.some.inj (hown.symm.trans hown2)
  have h6 := u_fits hfc hkC hkind (Or.inr hlay) hi (hty j hj) hn hfit
  refine W.putFinK X.1.1 X.1.2.1 hown (hts _ hl) hi hst hcf (X.1.2.2.2.2.2.2.2.trans hini) (by rw [q2]; exact h6) q1 q3 (by rw [hsl]; exact k2_hasslot (q4 j hj)) rfl rfl hdg fun H' e1 e2 e3 => ?_
  rw [hsl] at e1 ⊢
  exact kk p e s m args below meth c H' _ ls cells slots K N' (g_put X he e2 e3 ⟨_, hc, t_OB.to (V := updV (vp_V fs) j x) ⟨_, e1, q2, q3, t_set q4 hap hj x⟩ (fun i _ => vp_updV_set hlen x i)⟩)
theorem a_iald {a n : Nat} {f : Nat → Int32} {i : Int32} (he : h[a]? = some (.inl (g_ci G 0, n, .inl f))) (hin : vp_in i n) (pc2 : Nat) (hp : pc + 1 = pc2) (hdg : decode M.2.1 pc = .ok (.iaload, 1)) (kk : g_A G M d u v pc2 lv (.int (f i.toNatClampNeg) :: rest) h r h') : g_A G M d u v pc lv (.int i :: .ref (g_ad G a) :: rest) h r h' := by
  subst hp
  exact fun p e s m args below meth c H locs ls cells slots K N X => va_iald X.1.1 X.1.2.1 X.2.1.1.1 X.2.2.2.1 a 0 (g_ws_at he) rfl hin hdg (kk p e s m args below meth c H locs ls cells slots K N X)
theorem a_iast {a n : Nat} {f : Nat → Int32} {i : Int32} {x : Int32} (he : h[a]? = some (.inl (g_ci G 0, n, .inl f))) (hin : vp_in i n) (pc2 : Nat) (hp : pc + 1 = pc2) (hdg : decode M.2.1 pc = .ok (.iastore, 1)) (kk : g_A G M d u v pc2 lv rest (h.set a (.inl (g_ci G 0, n, .inl (upd f i.toNatClampNeg x)))) r h') : g_A G M d u v pc lv (.int x :: .int i :: .ref (g_ad G a) :: rest) h r h' := by
  subst hp
  intro p e s m args below meth c H locs ls cells slots K N' X
  refine W.iast X.1.1 X.1.2.1 (X.2.2.2.1 a _ (g_ws_at he)) ((X.2.1.1.1.2 0 _ rfl).1 n (fun j => .int (f j))) (fun q => by cases q) (by show ¬ (i < 0 ∨ (arrV _ _ _).slots.size ≤ _); rw [arrV_size]; exact hin) rfl rfl hdg fun H1 e1 z oq => ?_
  refine kk p e s m args below meth c H1 _ ls cells slots K N' (g_put X he z oq ?_)
  show H1[_]? = some (vp_cell _ _)
  rw [e1]
  rw [vp_cell_i, vp_cell_i, arrV_store]
  congr 2
  funext q
  by_cases hq : q = i.toNatClampNeg
  · subst hq
    first | (simp [updV, upd]; done) | (simp [updV, upd, vp_nar]; done) | (simp [updV, upd, vp_nar, narrow])
  · simp [updV, upd, hq]
theorem a_bald {a n : Nat} {f : Nat → Int32} {i : Int32} (he : h[a]? = some (.inl (g_ci G 2, n, .inl f))) (hin : vp_in i n) (pc2 : Nat) (hp : pc + 1 = pc2) (hdg : decode M.2.1 pc = .ok (.baload, 1)) (kk : g_A G M d u v pc2 lv (.int (f i.toNatClampNeg) :: rest) h r h') : g_A G M d u v pc lv (.int i :: .ref (g_ad G a) :: rest) h r h' := by
  subst hp
  exact fun p e s m args below meth c H locs ls cells slots K N X => va_bald X.1.1 X.1.2.1 X.2.1.1.1 X.2.2.2.1 a 2 (g_ws_at he) rfl hin hdg (kk p e s m args below meth c H locs ls cells slots K N X)
theorem a_bast {a n : Nat} {f : Nat → Int32} {i : Int32} {x : Int32} (he : h[a]? = some (.inl (g_ci G 2, n, .inl f))) (hin : vp_in i n) (pc2 : Nat) (hp : pc + 1 = pc2) (hdg : decode M.2.1 pc = .ok (.bastore, 1)) (kk : g_A G M d u v pc2 lv rest (h.set a (.inl (g_ci G 2, n, .inl (upd f i.toNatClampNeg (vp_nar .byte x))))) r h') : g_A G M d u v pc lv (.int x :: .int i :: .ref (g_ad G a) :: rest) h r h' := by
  subst hp
  intro p e s m args below meth c H locs ls cells slots K N' X
  refine W.bast X.1.1 X.1.2.1 (X.2.2.2.1 a _ (g_ws_at he)) ((X.2.1.1.1.2 2 _ rfl).1 n (fun j => .int (f j))) (fun q => by cases q) (by show ¬ (i < 0 ∨ (arrV _ _ _).slots.size ≤ _); rw [arrV_size]; exact hin) rfl rfl hdg fun H1 e1 z oq => ?_
  refine kk p e s m args below meth c H1 _ ls cells slots K N' (g_put X he z oq ?_)
  show H1[_]? = some (vp_cell _ _)
  rw [e1]
  rw [vp_cell_i, vp_cell_i, arrV_store]
  congr 2
  funext q
  by_cases hq : q = i.toNatClampNeg
  · subst hq
    first | (simp [updV, upd]; done) | (simp [updV, upd, vp_nar]; done) | (simp [updV, upd, vp_nar, narrow])
  · simp [updV, upd, hq]
theorem a_lald {a n : Nat} {f : Nat → Int64} {i : Int32} (he : h[a]? = some (.inl (g_ci G 1, n, .inr (.inl f)))) (hin : vp_in i n) (pc2 : Nat) (hp : pc + 1 = pc2) (hdg : decode M.2.1 pc = .ok (.laload, 1)) (kk : g_A G M d u v pc2 lv (.long (f i.toNatClampNeg) :: rest) h r h') : g_A G M d u v pc lv (.int i :: .ref (g_ad G a) :: rest) h r h' := by
  subst hp
  exact fun p e s m args below meth c H locs ls cells slots K N X => va_lald X.1.1 X.1.2.1 X.2.1.1.1 X.2.2.2.1 a 1 (g_ws_at he) rfl hin hdg (kk p e s m args below meth c H locs ls cells slots K N X)
theorem a_last {a n : Nat} {f : Nat → Int64} {i : Int32} {x : Int64} (he : h[a]? = some (.inl (g_ci G 1, n, .inr (.inl f)))) (hin : vp_in i n) (pc2 : Nat) (hp : pc + 1 = pc2) (hdg : decode M.2.1 pc = .ok (.lastore, 1)) (kk : g_A G M d u v pc2 lv rest (h.set a (.inl (g_ci G 1, n, .inr (.inl (vp_updL f i.toNatClampNeg x))))) r h') : g_A G M d u v pc lv (.long x :: .int i :: .ref (g_ad G a) :: rest) h r h' := by
  subst hp
  intro p e s m args below meth c H locs ls cells slots K N' X
  refine W.last X.1.1 X.1.2.1 (X.2.2.2.1 a _ (g_ws_at he)) ((X.2.1.1.1.2 1 _ rfl).1 n (fun j => .long (f j))) (fun q => by cases q) (by show ¬ (i < 0 ∨ (arrV _ _ _).slots.size ≤ _); rw [arrV_size]; exact hin) rfl rfl hdg fun H1 e1 z oq => ?_
  refine kk p e s m args below meth c H1 _ ls cells slots K N' (g_put X he z oq ?_)
  show H1[_]? = some (vp_cell _ _)
  rw [e1]
  rw [vp_cell_l, vp_cell_l, arrV_store]
  congr 2
  funext q
  by_cases hq : q = i.toNatClampNeg
  · subst hq
    first | (simp [updV, vp_updL]; done) | (simp [updV, vp_updL, vp_nar]; done) | (simp [updV, vp_updL, vp_nar, narrow])
  · simp [updV, vp_updL, hq]
theorem a_ald3 {a n : Nat} {f : Nat → Option Nat} {i : Int32} (he : h[a]? = some (.inl (g_ci G 3, n, .inr (.inr (.inr (.inr f)))))) (hin : vp_in i n) (pc2 : Nat) (hp : pc + 1 = pc2) (hdg : decode M.2.1 pc = .ok (.aaload, 1)) (kk : g_A G M d u v pc2 lv (va_rf (f i.toNatClampNeg) :: rest) h r h') : g_A G M d u v pc lv (.int i :: .ref (g_ad G a) :: rest) h r h' := by
  subst hp
  exact fun p e s m args below meth c H locs ls cells slots K N X => va_aldq X.1.1 X.1.2.1 X.2.1.1.1 X.2.2.2.1 a 3 (g_ws_at he) rfl hin hdg (kk p e s m args below meth c H locs ls cells slots K N X)
theorem a_ast3 {a n o : Nat} {f : Nat → Option Nat} {i : Int32} {fs : List Value} (he : h[a]? = some (.inl (g_ci G 3, n, .inr (.inr (.inr (.inr f)))))) (ho : h[o]? = some (.inr (5, fs))) (hin : vp_in i n) (pc2 : Nat) (hp : pc + 1 = pc2) (hdg : decode M.2.1 pc = .ok (.aastore, 1)) (kk : g_A G M d u v pc2 lv rest (h.set a (.inl (g_ci G 3, n, .inr (.inr (.inr (.inr (va_up f i.toNatClampNeg (some (g_ad G o))))))))) r h') : g_A G M d u v pc lv (.ref (g_ad G o) :: .int i :: .ref (g_ad G a) :: rest) h r h' := by
  subst hp
  intro p e s m args below meth c H locs ls cells slots K N' X
  have hlt : i.toNatClampNeg < n := Nat.not_le.mp fun q => hin (Or.inr q)
  have h0 : ¬ i < 0 := fun q => hin (Or.inl q)
  have hK := X.2.1.1.1
  have hc : vwCl[5]? = some (vwCl.getD 5 ("", TX0, 0)) := rfl
  obtain ⟨r', hr', cellV, g1, g2, g3, -⟩ := X.2.2.2.1 o _ (g_ws_at ho)
  have hcls := (hK.1 5 _ hc).2
  obtain ⟨kA, comp, k1, k2, k3, -⟩ := (hK.2 3 _ rfl).2
  have hcomp : comp = G.2.2.1.1 5 := Option.some.inj (k3.symm.trans hcls.1)
  subst hcomp
  obtain ⟨kC, hkC, -⟩ := hcls.2
  refine W.aast X.1.1 X.1.2.1 (X.2.2.2.1 a _ (g_ws_at he)) (fun q h => by cases h) (fun h => by cases h) k1 k2 rfl hkC ⟨h0, by show _ < (arrV _ _ _).slots.size; rw [arrV_size]; exact hlt⟩ g1 (fun q h => by rw [g3] at h; cases h) (by rw [g2]; exact hkC) (by rw [g2]; exact va_assign hcls) rfl rfl hdg fun H1 e1 z oq => ?_
  refine kk p e s m args below meth c H1 _ ls cells slots K N' (g_put X he z oq ?_)
  show H1[_]? = some (vp_cell _ _)
  rw [e1]
  rw [vp_cell_q, vp_cell_q, arrV_store]
  congr 2
  funext q
  by_cases hq : q = i.toNatClampNeg
  · subst hq
    simp [updV, va_up, va_rf]
  · simp [updV, va_up, hq]
theorem a_ast3N {a n : Nat} {f : Nat → Option Nat} {i : Int32} (he : h[a]? = some (.inl (g_ci G 3, n, .inr (.inr (.inr (.inr f)))))) (hin : vp_in i n) (pc2 : Nat) (hp : pc + 1 = pc2) (hdg : decode M.2.1 pc = .ok (.aastore, 1)) (kk : g_A G M d u v pc2 lv rest (h.set a (.inl (g_ci G 3, n, .inr (.inr (.inr (.inr (va_up f i.toNatClampNeg none))))))) r h') : g_A G M d u v pc lv (.null :: .int i :: .ref (g_ad G a) :: rest) h r h' := by
  subst hp
  intro p e s m args below meth c H locs ls cells slots K N' X
  refine va_WaastN (C := "LeastShadows$Family") X.1.1 X.1.2.1 (X.2.2.2.1 a _ (g_ws_at he)) ((X.2.1.1.1.2 3 _ rfl).1 n (fun j => va_rf (f j))) (fun h => by cases h) (by show ¬ (i < 0 ∨ (arrV _ _ _).slots.size ≤ _); rw [arrV_size]; exact hin) rfl rfl hdg fun H1 e1 z oq => ?_
  refine kk p e s m args below meth c H1 _ ls cells slots K N' (g_put X he z oq ?_)
  show H1[_]? = some (vp_cell _ _)
  rw [e1]
  rw [vp_cell_q, vp_cell_q, arrV_store]
  congr 2
  funext q
  by_cases hq : q = i.toNatClampNeg
  · subst hq
    simp [updV, va_up, va_rf]
  · simp [updV, va_up, hq]
theorem a_anew3 {n : Nat} {i : Int32} {index : Nat} (hw : Cond.classLink M.1.cls index "LeastShadows$Family" ∈ g_GW) (hn : ¬ i < 0) (hN : i.toNatClampNeg = n) (hb : n ≤ 100000) (pc2 : Nat) (hp : pc + 3 = pc2) (hdg : decode M.2.1 pc = .ok (.anewarray index, 3)) (kk : g_A G M d u v pc2 lv (.ref (g_ad G h.length) :: rest) (h ++ [.inl (g_ci G 3, n, .inr (.inr (.inr (.inr (fun _ => none)))))]) r h') : g_A G M d (u + 1) (v + n) pc lv (.int i :: rest) h r h' := by
  subst hp
  subst hN
  intro p e s m args below meth c H locs ls cells slots K N' X
  have hz := X.2.2.2.2.1
  have hlen : g_ad G h.length = H.size := by unfold g_ad; omega
  have hr1 := X.2.2.2.2.2.2.1
  have hr2 := X.2.2.2.2.2.2.2
  refine W.anew X.1.1 X.1.2.1 X.1.2.2.2.2.1 (X.1.2.2.2.2.2.1 _ hw) (va_AO.use X.2.1.1.2.2.1) rfl hdg rfl hn (by omega) (by show _ ≤ K; omega) (by show _ ≤ N'; omega) fun cA kA comp f1 f2 f3 f4 => ?_
  have hcA : cA = g_ci G 3 := by
    obtain ⟨_, _, _, _, _, k4⟩ := (X.2.1.1.1.2 3 _ rfl).2
    exact Option.some.inj (f1.symm.trans k4)
  subst hcA
  rw [← hlen]
  refine kk p e s m args below meth c _ locs ls (cells + 1) (slots + i.toNatClampNeg) K N' (g_push X (by rw [Array.size_push]) (fun q hq => by rw [Array.getElem?_push, if_neg (Nat.ne_of_lt hq)]) ?_)
  show (H.push _)[g_ad G h.length]? = some (vp_cell _ _)
  rw [hlen, Array.getElem?_push_size, vp_cell_q]
  exact congrArg some (arrV_new _ _ _)
theorem a_ald4 {a n : Nat} {f : Nat → Option Nat} {i : Int32} (he : h[a]? = some (.inl (g_ci G 4, n, .inr (.inr (.inr (.inr f)))))) (hin : vp_in i n) (pc2 : Nat) (hp : pc + 1 = pc2) (hdg : decode M.2.1 pc = .ok (.aaload, 1)) (kk : g_A G M d u v pc2 lv (va_rf (f i.toNatClampNeg) :: rest) h r h') : g_A G M d u v pc lv (.int i :: .ref (g_ad G a) :: rest) h r h' := by
  subst hp
  exact fun p e s m args below meth c H locs ls cells slots K N X => va_aldq X.1.1 X.1.2.1 X.2.1.1.1 X.2.2.2.1 a 4 (g_ws_at he) rfl hin hdg (kk p e s m args below meth c H locs ls cells slots K N X)
theorem a_ast4 {a n o : Nat} {f : Nat → Option Nat} {i : Int32} {fs : List Value} (he : h[a]? = some (.inl (g_ci G 4, n, .inr (.inr (.inr (.inr f)))))) (ho : h[o]? = some (.inr (8, fs))) (hin : vp_in i n) (pc2 : Nat) (hp : pc + 1 = pc2) (hdg : decode M.2.1 pc = .ok (.aastore, 1)) (kk : g_A G M d u v pc2 lv rest (h.set a (.inl (g_ci G 4, n, .inr (.inr (.inr (.inr (va_up f i.toNatClampNeg (some (g_ad G o))))))))) r h') : g_A G M d u v pc lv (.ref (g_ad G o) :: .int i :: .ref (g_ad G a) :: rest) h r h' := by
  subst hp
  intro p e s m args below meth c H locs ls cells slots K N' X
  have hlt : i.toNatClampNeg < n := Nat.not_le.mp fun q => hin (Or.inr q)
  have h0 : ¬ i < 0 := fun q => hin (Or.inl q)
  have hK := X.2.1.1.1
  have hc : vwCl[8]? = some (vwCl.getD 8 ("", TX0, 0)) := rfl
  obtain ⟨r', hr', cellV, g1, g2, g3, -⟩ := X.2.2.2.1 o _ (g_ws_at ho)
  have hcls := (hK.1 8 _ hc).2
  obtain ⟨kA, comp, k1, k2, k3, -⟩ := (hK.2 4 _ rfl).2
  have hcomp : comp = G.2.2.1.1 8 := Option.some.inj (k3.symm.trans hcls.1)
  subst hcomp
  obtain ⟨kC, hkC, -⟩ := hcls.2
  refine W.aast X.1.1 X.1.2.1 (X.2.2.2.1 a _ (g_ws_at he)) (fun q h => by cases h) (fun h => by cases h) k1 k2 rfl hkC ⟨h0, by show _ < (arrV _ _ _).slots.size; rw [arrV_size]; exact hlt⟩ g1 (fun q h => by rw [g3] at h; cases h) (by rw [g2]; exact hkC) (by rw [g2]; exact va_assign hcls) rfl rfl hdg fun H1 e1 z oq => ?_
  refine kk p e s m args below meth c H1 _ ls cells slots K N' (g_put X he z oq ?_)
  show H1[_]? = some (vp_cell _ _)
  rw [e1]
  rw [vp_cell_q, vp_cell_q, arrV_store]
  congr 2
  funext q
  by_cases hq : q = i.toNatClampNeg
  · subst hq
    simp [updV, va_up, va_rf]
  · simp [updV, va_up, hq]
theorem a_ast4N {a n : Nat} {f : Nat → Option Nat} {i : Int32} (he : h[a]? = some (.inl (g_ci G 4, n, .inr (.inr (.inr (.inr f)))))) (hin : vp_in i n) (pc2 : Nat) (hp : pc + 1 = pc2) (hdg : decode M.2.1 pc = .ok (.aastore, 1)) (kk : g_A G M d u v pc2 lv rest (h.set a (.inl (g_ci G 4, n, .inr (.inr (.inr (.inr (va_up f i.toNatClampNeg none))))))) r h') : g_A G M d u v pc lv (.null :: .int i :: .ref (g_ad G a) :: rest) h r h' := by
  subst hp
  intro p e s m args below meth c H locs ls cells slots K N' X
  refine va_WaastN (C := "LeastShadows$Shelf") X.1.1 X.1.2.1 (X.2.2.2.1 a _ (g_ws_at he)) ((X.2.1.1.1.2 4 _ rfl).1 n (fun j => va_rf (f j))) (fun h => by cases h) (by show ¬ (i < 0 ∨ (arrV _ _ _).slots.size ≤ _); rw [arrV_size]; exact hin) rfl rfl hdg fun H1 e1 z oq => ?_
  refine kk p e s m args below meth c H1 _ ls cells slots K N' (g_put X he z oq ?_)
  show H1[_]? = some (vp_cell _ _)
  rw [e1]
  rw [vp_cell_q, vp_cell_q, arrV_store]
  congr 2
  funext q
  by_cases hq : q = i.toNatClampNeg
  · subst hq
    simp [updV, va_up, va_rf]
  · simp [updV, va_up, hq]
theorem a_anew4 {n : Nat} {i : Int32} {index : Nat} (hw : Cond.classLink M.1.cls index "LeastShadows$Shelf" ∈ g_GW) (hn : ¬ i < 0) (hN : i.toNatClampNeg = n) (hb : n ≤ 100000) (pc2 : Nat) (hp : pc + 3 = pc2) (hdg : decode M.2.1 pc = .ok (.anewarray index, 3)) (kk : g_A G M d u v pc2 lv (.ref (g_ad G h.length) :: rest) (h ++ [.inl (g_ci G 4, n, .inr (.inr (.inr (.inr (fun _ => none)))))]) r h') : g_A G M d (u + 1) (v + n) pc lv (.int i :: rest) h r h' := by
  subst hp
  subst hN
  intro p e s m args below meth c H locs ls cells slots K N' X
  have hz := X.2.2.2.2.1
  have hlen : g_ad G h.length = H.size := by unfold g_ad; omega
  have hr1 := X.2.2.2.2.2.2.1
  have hr2 := X.2.2.2.2.2.2.2
  refine W.anew X.1.1 X.1.2.1 X.1.2.2.2.2.1 (X.1.2.2.2.2.2.1 _ hw) (va_AO.use X.2.1.1.2.2.2.1) rfl hdg rfl hn (by omega) (by show _ ≤ K; omega) (by show _ ≤ N'; omega) fun cA kA comp f1 f2 f3 f4 => ?_
  have hcA : cA = g_ci G 4 := by
    obtain ⟨_, _, _, _, _, k4⟩ := (X.2.1.1.1.2 4 _ rfl).2
    exact Option.some.inj (f1.symm.trans k4)
  subst hcA
  rw [← hlen]
  refine kk p e s m args below meth c _ locs ls (cells + 1) (slots + i.toNatClampNeg) K N' (g_push X (by rw [Array.size_push]) (fun q hq => by rw [Array.getElem?_push, if_neg (Nat.ne_of_lt hq)]) ?_)
  show (H.push _)[g_ad G h.length]? = some (vp_cell _ _)
  rw [hlen, Array.getElem?_push_size, vp_cell_q]
  exact congrArg some (arrV_new _ _ _)
theorem a_ald5 {a n : Nat} {f : Nat → Option Nat} {i : Int32} (he : h[a]? = some (.inl (g_ci G 5, n, .inr (.inr (.inr (.inr f)))))) (hin : vp_in i n) (pc2 : Nat) (hp : pc + 1 = pc2) (hdg : decode M.2.1 pc = .ok (.aaload, 1)) (kk : g_A G M d u v pc2 lv (va_rf (f i.toNatClampNeg) :: rest) h r h') : g_A G M d u v pc lv (.int i :: .ref (g_ad G a) :: rest) h r h' := by
  subst hp
  exact fun p e s m args below meth c H locs ls cells slots K N X => va_aldq X.1.1 X.1.2.1 X.2.1.1.1 X.2.2.2.1 a 5 (g_ws_at he) rfl hin hdg (kk p e s m args below meth c H locs ls cells slots K N X)
theorem a_ast5 {a n o : Nat} {f : Nat → Option Nat} {i : Int32} {fs : List Value} (he : h[a]? = some (.inl (g_ci G 5, n, .inr (.inr (.inr (.inr f)))))) (ho : h[o]? = some (.inr (7, fs))) (hin : vp_in i n) (pc2 : Nat) (hp : pc + 1 = pc2) (hdg : decode M.2.1 pc = .ok (.aastore, 1)) (kk : g_A G M d u v pc2 lv rest (h.set a (.inl (g_ci G 5, n, .inr (.inr (.inr (.inr (va_up f i.toNatClampNeg (some (g_ad G o))))))))) r h') : g_A G M d u v pc lv (.ref (g_ad G o) :: .int i :: .ref (g_ad G a) :: rest) h r h' := by
  subst hp
  intro p e s m args below meth c H locs ls cells slots K N' X
  have hlt : i.toNatClampNeg < n := Nat.not_le.mp fun q => hin (Or.inr q)
  have h0 : ¬ i < 0 := fun q => hin (Or.inl q)
  have hK := X.2.1.1.1
  have hc : vwCl[7]? = some (vwCl.getD 7 ("", TX0, 0)) := rfl
  obtain ⟨r', hr', cellV, g1, g2, g3, -⟩ := X.2.2.2.1 o _ (g_ws_at ho)
  have hcls := (hK.1 7 _ hc).2
  obtain ⟨kA, comp, k1, k2, k3, -⟩ := (hK.2 5 _ rfl).2
  have hcomp : comp = G.2.2.1.1 7 := Option.some.inj (k3.symm.trans hcls.1)
  subst hcomp
  obtain ⟨kC, hkC, -⟩ := hcls.2
  refine W.aast X.1.1 X.1.2.1 (X.2.2.2.1 a _ (g_ws_at he)) (fun q h => by cases h) (fun h => by cases h) k1 k2 rfl hkC ⟨h0, by show _ < (arrV _ _ _).slots.size; rw [arrV_size]; exact hlt⟩ g1 (fun q h => by rw [g3] at h; cases h) (by rw [g2]; exact hkC) (by rw [g2]; exact va_assign hcls) rfl rfl hdg fun H1 e1 z oq => ?_
  refine kk p e s m args below meth c H1 _ ls cells slots K N' (g_put X he z oq ?_)
  show H1[_]? = some (vp_cell _ _)
  rw [e1]
  rw [vp_cell_q, vp_cell_q, arrV_store]
  congr 2
  funext q
  by_cases hq : q = i.toNatClampNeg
  · subst hq
    simp [updV, va_up, va_rf]
  · simp [updV, va_up, hq]
theorem a_ast5N {a n : Nat} {f : Nat → Option Nat} {i : Int32} (he : h[a]? = some (.inl (g_ci G 5, n, .inr (.inr (.inr (.inr f)))))) (hin : vp_in i n) (pc2 : Nat) (hp : pc + 1 = pc2) (hdg : decode M.2.1 pc = .ok (.aastore, 1)) (kk : g_A G M d u v pc2 lv rest (h.set a (.inl (g_ci G 5, n, .inr (.inr (.inr (.inr (va_up f i.toNatClampNeg none))))))) r h') : g_A G M d u v pc lv (.null :: .int i :: .ref (g_ad G a) :: rest) h r h' := by
  subst hp
  intro p e s m args below meth c H locs ls cells slots K N' X
  refine va_WaastN (C := "LeastShadows$Numbers") X.1.1 X.1.2.1 (X.2.2.2.1 a _ (g_ws_at he)) ((X.2.1.1.1.2 5 _ rfl).1 n (fun j => va_rf (f j))) (fun h => by cases h) (by show ¬ (i < 0 ∨ (arrV _ _ _).slots.size ≤ _); rw [arrV_size]; exact hin) rfl rfl hdg fun H1 e1 z oq => ?_
  refine kk p e s m args below meth c H1 _ ls cells slots K N' (g_put X he z oq ?_)
  show H1[_]? = some (vp_cell _ _)
  rw [e1]
  rw [vp_cell_q, vp_cell_q, arrV_store]
  congr 2
  funext q
  by_cases hq : q = i.toNatClampNeg
  · subst hq
    simp [updV, va_up, va_rf]
  · simp [updV, va_up, hq]
theorem a_anew5 {n : Nat} {i : Int32} {index : Nat} (hw : Cond.classLink M.1.cls index "LeastShadows$Numbers" ∈ g_GW) (hn : ¬ i < 0) (hN : i.toNatClampNeg = n) (hb : n ≤ 100000) (pc2 : Nat) (hp : pc + 3 = pc2) (hdg : decode M.2.1 pc = .ok (.anewarray index, 3)) (kk : g_A G M d u v pc2 lv (.ref (g_ad G h.length) :: rest) (h ++ [.inl (g_ci G 5, n, .inr (.inr (.inr (.inr (fun _ => none)))))]) r h') : g_A G M d (u + 1) (v + n) pc lv (.int i :: rest) h r h' := by
  subst hp
  subst hN
  intro p e s m args below meth c H locs ls cells slots K N' X
  have hz := X.2.2.2.2.1
  have hlen : g_ad G h.length = H.size := by unfold g_ad; omega
  have hr1 := X.2.2.2.2.2.2.1
  have hr2 := X.2.2.2.2.2.2.2
  refine W.anew X.1.1 X.1.2.1 X.1.2.2.2.2.1 (X.1.2.2.2.2.2.1 _ hw) (va_AO.use X.2.1.1.2.2.2.2) rfl hdg rfl hn (by omega) (by show _ ≤ K; omega) (by show _ ≤ N'; omega) fun cA kA comp f1 f2 f3 f4 => ?_
  have hcA : cA = g_ci G 5 := by
    obtain ⟨_, _, _, _, _, k4⟩ := (X.2.1.1.1.2 5 _ rfl).2
    exact Option.some.inj (f1.symm.trans k4)
  subst hcA
  rw [← hlen]
  refine kk p e s m args below meth c _ locs ls (cells + 1) (slots + i.toNatClampNeg) K N' (g_push X (by rw [Array.size_push]) (fun q hq => by rw [Array.getElem?_push, if_neg (Nat.ne_of_lt hq)]) ?_)
  show (H.push _)[g_ad G h.length]? = some (vp_cell _ _)
  rw [hlen, Array.getElem?_push_size, vp_cell_q]
  exact congrArg some (arrV_new _ _ _)
theorem a_newI {n : Nat} {i : Int32} (hw : Cond.arrayClass .int ∈ g_GW) (hn : ¬ i < 0) (hN : i.toNatClampNeg = n) (hb : n ≤ 100000) (pc2 : Nat) (hp : pc + 2 = pc2) (hdg : decode M.2.1 pc = .ok (.newarray .int, 2)) (kk : g_A G M d u v pc2 lv (.ref (g_ad G h.length) :: rest) (h ++ [.inl (g_ci G 0, n, .inl (fun _ => 0))]) r h') : g_A G M d (u + 1) (v + n) pc lv (.int i :: rest) h r h' := by
  subst hp
  intro p e s m args below meth c H locs ls cells slots K N' X
  have hz := X.2.2.2.2.1
  have hlen : g_ad G h.length = H.size := by unfold g_ad; omega
  have hr1 := X.2.2.2.2.2.2.1
  have hr2 := X.2.2.2.2.2.2.2
  refine va_newaK (atype := .int) X.1.1 X.1.2.1 (X.1.2.2.2.2.2.1 _ hw) rfl hdg rfl hn hN (by show n * _ ≤ _; simp [newarray.typeOf, componentBytes]; omega) (by show _ ≤ K; omega) (by show _ ≤ N'; omega) rfl fun H1 cA e1 z1 o1 hAr hNm => ?_
  have hcA : cA = g_ci G 0 := by
    have k4 := (X.2.1.1.1.2 0 _ rfl).2
    exact Option.some.inj (hNm.symm.trans k4)
  subst hcA
  rw [← hlen]
  refine kk p e s m args below meth c H1 locs ls (cells + 1) (slots + n) K N' (g_push X z1 o1 ?_)
  show H1[g_ad G h.length]? = some (vp_cell _ _)
  rw [hlen, e1]
  rfl
theorem a_newL {n : Nat} {i : Int32} (hw : Cond.arrayClass .long ∈ g_GW) (hn : ¬ i < 0) (hN : i.toNatClampNeg = n) (hb : n ≤ 100000) (pc2 : Nat) (hp : pc + 2 = pc2) (hdg : decode M.2.1 pc = .ok (.newarray .long, 2)) (kk : g_A G M d u v pc2 lv (.ref (g_ad G h.length) :: rest) (h ++ [.inl (g_ci G 1, n, .inr (.inl (fun _ => 0)))]) r h') : g_A G M d (u + 1) (v + n) pc lv (.int i :: rest) h r h' := by
  subst hp
  intro p e s m args below meth c H locs ls cells slots K N' X
  have hz := X.2.2.2.2.1
  have hlen : g_ad G h.length = H.size := by unfold g_ad; omega
  have hr1 := X.2.2.2.2.2.2.1
  have hr2 := X.2.2.2.2.2.2.2
  refine va_newaK (atype := .long) X.1.1 X.1.2.1 (X.1.2.2.2.2.2.1 _ hw) rfl hdg rfl hn hN (by show n * _ ≤ _; simp [newarray.typeOf, componentBytes]; omega) (by show _ ≤ K; omega) (by show _ ≤ N'; omega) rfl fun H1 cA e1 z1 o1 hAr hNm => ?_
  have hcA : cA = g_ci G 1 := by
    have k4 := (X.2.1.1.1.2 1 _ rfl).2
    exact Option.some.inj (hNm.symm.trans k4)
  subst hcA
  rw [← hlen]
  refine kk p e s m args below meth c H1 locs ls (cells + 1) (slots + n) K N' (g_push X z1 o1 ?_)
  show H1[g_ad G h.length]? = some (vp_cell _ _)
  rw [hlen, e1]
  rfl
theorem a_newB {n : Nat} {i : Int32} (hw : Cond.arrayClass .byte ∈ g_GW) (hn : ¬ i < 0) (hN : i.toNatClampNeg = n) (hb : n ≤ 100000) (pc2 : Nat) (hp : pc + 2 = pc2) (hdg : decode M.2.1 pc = .ok (.newarray .byte, 2)) (kk : g_A G M d u v pc2 lv (.ref (g_ad G h.length) :: rest) (h ++ [.inl (g_ci G 2, n, .inl (fun _ => 0))]) r h') : g_A G M d (u + 1) (v + n) pc lv (.int i :: rest) h r h' := by
  subst hp
  intro p e s m args below meth c H locs ls cells slots K N' X
  have hz := X.2.2.2.2.1
  have hlen : g_ad G h.length = H.size := by unfold g_ad; omega
  have hr1 := X.2.2.2.2.2.2.1
  have hr2 := X.2.2.2.2.2.2.2
  refine va_newaK (atype := .byte) X.1.1 X.1.2.1 (X.1.2.2.2.2.2.1 _ hw) rfl hdg rfl hn hN (by show n * _ ≤ _; simp [newarray.typeOf, componentBytes]; omega) (by show _ ≤ K; omega) (by show _ ≤ N'; omega) rfl fun H1 cA e1 z1 o1 hAr hNm => ?_
  have hcA : cA = g_ci G 2 := by
    have k4 := (X.2.1.1.1.2 2 _ rfl).2
    exact Option.some.inj (hNm.symm.trans k4)
  subst hcA
  rw [← hlen]
  refine kk p e s m args below meth c H1 locs ls (cells + 1) (slots + n) K N' (g_push X z1 o1 ?_)
  show H1[g_ad G h.length]? = some (vp_cell _ _)
  rw [hlen, e1]
  rfl
theorem a_new {C : String} {T : u_T} {N cx index : Nat} {fs : List Value} {ty0 : Nat → FieldType} (hcl : g_Cl cx C T N ty0) (hw1 : Cond.classLink M.1.cls index C ∈ g_GW) (hw2 : Cond.instantiable C N ∈ g_GW) (hw3 : Cond.initialized C ∈ g_GW) (hfs : ∀ j, j < N → defaultValue (ty0 j) = vp_V fs j) (pc2 : Nat) (hp : pc + 3 = pc2) (hdg : decode M.2.1 pc = .ok (.new index, 3)) (kk : g_A G M d u v pc2 lv (.ref (g_ad G h.length) :: rest) (h ++ [.inr (cx, fs)]) r h') : g_A G M d (u + 1) (v + N) pc lv rest h r h' := by
  subst hp
  intro p e s m args below meth c H locs ls cells slots K N' X
  obtain ⟨hc, hin, hty, hnm⟩ := hcl
  have hts := X.1.2.2.2.2.2.1
  have hK := X.2.1.1.1
  have hz := X.2.2.2.2.1
  have hlen : g_ad G h.length = H.size := by unfold g_ad; omega
  have hr1 := X.2.2.2.2.2.2.1
  have hr2 := X.2.2.2.2.2.2.2
  have hKn := hK.1 cx _ hc
  refine W.newcK X.1.1 X.1.2.1 X.1.2.2.2.2.1 (hts _ hw1) (hts _ hw2) (hts _ hw3) rfl hdg (by show _ ≤ K; omega) (by show _ ≤ N'; omega) hKn.2.1 rfl fun H1 kC hkC e1 z1 o1 => ?_
  rw [← hlen]
  refine kk p e s m args below meth c H1 locs ls (cells + 1) (slots + N) K N' (g_push X z1 o1 ?_)
  rw [hlen]
  exact ⟨_, hc, (u_born ty0 hts hin hKn hkC e1 hty).to hfs⟩
theorem a_getHold {index : Nat} (hl : Cond.fieldLink M.1.cls index "LeastShadows" "HOLDING" "[J" ∈ g_GW ∨ ∃ host, Cond.fieldLinkNest M.1.cls index "LeastShadows" "HOLDING" "[J" host ∈ g_NW) (pc2 : Nat) (hp : pc + 3 = pc2) (hdg : decode M.2.1 pc = .ok (.getstatic index, 3)) (kk : g_A G M d u v pc2 lv (.ref G.2.2.2.2 :: rest) h r h') : g_A G M d u v pc lv rest h r h' := by
  subst hp
  intro p e s m args below meth c H locs ls cells slots K N' X
  rcases hl with hl | ⟨host, hl⟩
  · exact va_gets X.1.1 X.1.2.1 X.2.1.2.1 X.2.2.1 X.1.2.2.2.2.1 (X.1.2.2.2.2.2.1 _ hl) (fun x h => h) hdg (kk p e s m args below meth c H locs ls cells slots K N' X)
  · exact va_getsN X.1.1 X.1.2.1 X.2.1.2.1 X.2.2.1 X.1.2.2.2.2.1 (va_Nw.use rfl (X.2.1.1.2.1 _ hl)) (fun x h => h) hdg (kk p e s m args below meth c H locs ls cells slots K N' X)
theorem a_lenHold (pc2 : Nat) (hp : pc + 1 = pc2) (hdg : decode M.2.1 pc = .ok (.arraylength, 1)) (kk : g_A G M d u v pc2 lv (.int 6 :: rest) h r h') : g_A G M d u v pc lv (.ref G.2.2.2.2 :: rest) h r h' := by
  subst hp
  exact fun p e s m args below meth c H locs ls cells slots K N X => va_tlen X.1.1 X.1.2.1 X.2.1.2.2 X.2.2.1 rfl hdg (kk p e s m args below meth c H locs ls cells slots K N X)
theorem a_laldHold {i : Int32} {x : Int64} (hin : vp_in i 6) (hx : g_hold i.toNatClampNeg = .long x) (pc2 : Nat) (hp : pc + 1 = pc2) (hdg : decode M.2.1 pc = .ok (.laload, 1)) (kk : g_A G M d u v pc2 lv (.long x :: rest) h r h') : g_A G M d u v pc lv (.int i :: .ref G.2.2.2.2 :: rest) h r h' := by
  subst hp
  exact fun p e s m args below meth c H locs ls cells slots K N X => va_tl X.1.1 X.1.2.1 X.2.1.2.2 X.2.2.1 hin hx hdg (kk p e s m args below meth c H locs ls cells slots K N X)
theorem a_alen {a : Nat} (t : Nat) {x : vp_A} {cA : ClassId} {ty : FieldType} {y : Int32} (he : h[a]? = some (.inl (cA, x))) (ht : (g_tys G)[t]? = some (cA, ty)) (hy : Int32.ofNat x.1 = y) (pc2 : Nat) (hp : pc + 1 = pc2) (hdg : decode M.2.1 pc = .ok (.arraylength, 1)) (kk : g_A G M d u v pc2 lv (.int y :: rest) h r h') : g_A G M d u v pc lv (.ref (g_ad G a) :: rest) h r h' := by
  subst hp
  exact fun p e s m args below meth c H locs ls cells slots K N X => va_alen X.1.1 X.1.2.1 X.2.1.1.1 X.2.2.2.1 a t (g_ws_at he) ht hy hdg (kk p e s m args below meth c H locs ls cells slots K N X)
theorem a_objInit {a index : Nat} (h1 : Cond.methodLink M.1.cls index Lib.objectInit ∈ g_GW) (h2 : Cond.instanceMethod Lib.objectInit ∈ g_GW) (h3 : Cond.code Lib.objectInit ⟨#[0xb1]⟩ 1 none ∈ g_GW) (hr : (rest.map fun v => v.category).sum ≤ 8) (hd : 1 ≤ d) (pc2 : Nat) (hp : pc + 3 = pc2) (hdg : decode M.2.1 pc = .ok (.invokespecial index, 3)) (kk : g_A G M d u v pc2 lv rest h r h') : g_A G M d u v pc lv (.ref a :: rest) h r h' := by
  subst hp
  intro p e s m args below meth c H locs ls cells slots K N X
  have hts := X.1.2.2.2.2.2.1
  exact W.objInit X.1.1 X.1.2.1 X.1.2.2.2.2.1 (hts _ h1) (hts _ h2) (hts _ h3) rfl (X.2.2.2.2.2.1.1.trans X.1.2.2.2.1.symm) rfl hdg (show 1 ≤ d from hd) (by show 2 * 0 + _ + 12 ≤ 60 * d + 12; omega) (kk p e s m args below meth c H locs ls cells slots K N X)
-- ends
theorem g_endQ {p : Program} {s t : State} {m : MethodId} {args : Array Value} {meth : Method} {c : Code} {H : Heap} {locs : List Loc} {ls : Array Slot} {cells slots K N : Nat} {ro : Option Value} (X : g_X G M u v lv h p s m args meth c H locs ls cells slots K N) (ht : t.heap = H) : g_Qc G ro h args s (.returned ro) t := ⟨rfl, by rw [ht]; exact X.2.2.2.1, by rw [ht]; exact X.2.2.2.2.1, X.2.2.1.F ht⟩
theorem a_ireturn {x : Int32} (ty : FieldType) (hret : M.2.2.2 = some ty) (hn : narrow ty (.int x) = .int x) (hr : some (.int x) = r) (hh : h = h') (hdg : decode M.2.1 pc = .ok (.ireturn, 1)) : g_A G M d u v pc lv [.int x] h r h' := by
  subst hr; subst hh
  intro p e s m args below meth c H locs ls cells slots K N X
  have hr1 := X.2.2.2.2.2.2.1
  have hr2 := X.2.2.2.2.2.2.2
  exact W.widen (k := K) (n := N) (by omega) (by omega) (W.zret X.1.1 X.1.2.1 (X.1.2.2.1.trans hret) hn (fun t ht _ => g_endQ X ht) X.2.2.1.2.2 hdg X.1.2.2.2.2.2.2.1)
theorem a_lreturn {x : Int64} (hret : M.2.2.2 = some .long) (hr : some (.long x) = r) (hh : h = h') (hdg : decode M.2.1 pc = .ok (.lreturn, 1)) : g_A G M d u v pc lv [.long x] h r h' := by
  subst hr; subst hh
  intro p e s m args below meth c H locs ls cells slots K N X
  have hr1 := X.2.2.2.2.2.2.1
  have hr2 := X.2.2.2.2.2.2.2
  exact W.widen (k := K) (n := N) (by omega) (by omega) (W.lret X.1.1 X.1.2.1 (X.1.2.2.1.trans hret) (fun t ht _ => g_endQ X ht) X.2.2.1.2.2 hdg X.1.2.2.2.2.2.2.1)
theorem a_dreturn {x : UInt64} (hret : M.2.2.2 = some .double) (hr : some (.double x) = r) (hh : h = h') (hdg : decode M.2.1 pc = .ok (.dreturn, 1)) : g_A G M d u v pc lv [.double x] h r h' := by
  subst hr; subst hh
  intro p e s m args below meth c H locs ls cells slots K N X
  have hr1 := X.2.2.2.2.2.2.1
  have hr2 := X.2.2.2.2.2.2.2
  exact W.widen (k := K) (n := N) (by omega) (by omega) (W.dret X.1.1 X.1.2.1 (X.1.2.2.1.trans hret) (fun t ht _ => g_endQ X ht) X.2.2.1.2.2 hdg X.1.2.2.2.2.2.2.1)
theorem a_areturn {x : Value} {rt : FieldType} (hret : M.2.2.2 = some rt) (hrt : (∃ n, rt = .object n) ∨ ∃ t, rt = .array t) (hx : x = .null ∨ ∃ a, x = .ref a) (hr : some x = r) (hh : h = h') (hdg : decode M.2.1 pc = .ok (.areturn, 1)) : g_A G M d u v pc lv [x] h r h' := by
  subst hr; subst hh
  intro p e s m args below meth c H locs ls cells slots K N X
  have hr1 := X.2.2.2.2.2.2.1
  have hr2 := X.2.2.2.2.2.2.2
  exact W.widen (k := K) (n := N) (by omega) (by omega) (W.aret X.1.1 X.1.2.1 (X.1.2.2.1.trans hret) hrt hx (fun t ht _ => g_endQ X ht) X.2.2.1.2.2 hdg X.1.2.2.2.2.2.2.1)
theorem a_return (hret : M.2.2.2 = none) (hr : none = r) (hh : h = h') (hdg : decode M.2.1 pc = .ok (.return_, 1)) : g_A G M d u v pc lv [] h r h' := by
  subst hr; subst hh
  intro p e s m args below meth c H locs ls cells slots K N X
  have hr1 := X.2.2.2.2.2.2.1
  have hr2 := X.2.2.2.2.2.2.2
  exact W.widen (k := K) (n := N) (by omega) (by omega) (W.vret X.1.1 X.1.2.1 (X.1.2.2.1.trans hret) (fun t ht _ => g_endQ X ht) X.2.2.1.2.2 hdg X.1.2.2.2.2.2.2.1)
end G1
