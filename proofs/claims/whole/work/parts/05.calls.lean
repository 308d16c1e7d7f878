/-! CALLS over the engine: a callee's g_Run takes the caller on -/
section GC
variable {G : g_G} {M Mc : g_M} {d d1 u v u1 v1 u2 v2 pc index : Nat} {lv : List (Nat × Value)} {st st2 rest as : List Value} {h h' h1 : List va_E} {r r1 : Option Value}
theorem g_call {p : Program} {e : Env} {s : State} {m : MethodId} {args : Array Value} {below : List Frame} {meth : Method} {c : Code} {H : Heap} {locs : List Loc} {ls : Array Slot} {cells slots K N : Nat} {a : Array Value} {st0 : List Value}
    (X : g_X G M (u1 + u2) (v1 + v2) lv h p s m args meth c H locs ls cells slots K N)
    (hr : va_Run p G.1 e (g_room d K N) s m args below meth c H locs cells slots u1 v1 (F0 m pc ls st0) rest (g_Qc G r1 h1 a) (g_In G))
    (kk : g_A G M d u2 v2 (pc + 3) lv (r1.toList ++ rest) h1 r h') : W p G.1 e (g_room d K N) s m args below meth c H locs cells slots (MQ below (g_Qc G r h') args s K N (g_In G)) (F0 m pc ls st0) := by
  intro T hT XT
  obtain ⟨x, st₀, t, T', L, h0, X', hL, e1, e2, ⟨hv, hP1, hz1, hF1⟩, st⟩ := hr T hT XT
  cases hv
  obtain ⟨X1, X2, X3, X4, X5, X6, X7, X8⟩ := X
  have hsz : H.size ≤ t.heap.size := by rw [← h0]; exact hF1.1
  have hkeep : ∀ q : Nat, q < H.size → ¬ g_In G q → t.heap[q]? = H[q]? := by rw [← h0]; exact hF1.2
  have hX1 : g_X G M u2 v2 lv h1 p s m args meth c T'.heap (locs ++ L) ls (cells + u1) (slots + v1) K N := by
    refine ⟨X1, X2, ⟨Nat.le_trans X3.1 (by rw [e1]; exact hsz), fun q hq hn => ?_, fun q hq => ?_⟩, by rw [e1]; exact hP1, by rw [e1]; exact hz1, X6, by omega, by omega⟩
    · rw [e1, hkeep q (Nat.lt_of_lt_of_le hq X3.1) hn]
      exact X3.2.1 q hq hn
    · rcases List.mem_append.mp hq with hq | hq
      · exact X3.2.2 q hq
      · exact hL q hq
  obtain ⟨t2, a1, b1⟩ := kk p e s m args below meth c T'.heap (locs ++ L) ls (cells + u1) (slots + v1) K N hX1 T' rfl X'
  exact ⟨t2, st t2 a1, b1⟩
theorem g_blind : FrameBlind (va_Pc as (g_H G h)) := fun a U g mk q =>
  ⟨q.1, q.2.1, q.2.2.1, g_T.same (u := U) (U := U.calling g mk a) rfl q.2.2.2.1, va_Z.moved (u := U) (U := U.calling g mk a) (Vm.Alike.refl U.vm) q.2.2.2.2.1, va_T.moved (u := U) (U := U.calling g mk a) (Vm.Alike.refl U.vm) q.2.2.2.2.2⟩
theorem g_pre {p : Program} {s : State} {m : MethodId} {args : Array Value} {meth : Method} {c : Code} {H : Heap} {locs : List Loc} {ls : Array Slot} {cells slots K N : Nat} (X : g_X G M u v lv h p s m args meth c H locs ls cells slots K N) : ∀ U : State, U.heap = H → s.WarmedH U.vm → va_Pc as (g_H G h) as.toArray U := by
  intro U hU hW
  obtain ⟨X1, X2, X3, X4, X5, X6, X7, X8⟩ := X
  subst hU
  exact ⟨rfl, X4, X5, X2.1.warm hW, (X2.2.1.kept X3.2.1).moved hW.alike, (X2.2.2.kept X3.2.1).moved hW.alike⟩
theorem g_hR {K N : Nat} (hdd : d1 < d) (hml : Mc.2.2.1 ≤ 40) : (g_room d1 u1 v1).frames + 1 ≤ (g_room d K N).frames ∧ 8 + (Mc.2.2.1 + 11) + (g_room d1 u1 v1).locals ≤ (g_room d K N).locals := by
  refine ⟨hdd, ?_⟩
  show 8 + (Mc.2.2.1 + 11) + (60 * d1 + 12) ≤ 60 * d + 12
  omega
abbrev g_code (Mc : g_M) : Cond := .code Mc.1 Mc.2.1 Mc.2.2.1 Mc.2.2.2
/-- a method's own words: its code, its class; it is none of the two strange ones -/
def g_Own (Mc : g_M) : Prop := g_code Mc ∈ g_GW ∧ Cond.initialized Mc.1.cls ∈ g_GW ∧ (Mc.1.cls ≠ "java/lang/invoke/MethodHandle" ∧ Mc.1.cls ≠ "java/lang/invoke/VarHandle")
theorem g_size {p : Program} {s : State} {m : MethodId} {args : Array Value} {meth : Method} {c : Code} {H : Heap} {locs : List Loc} {ls : Array Slot} {cells slots K N : Nat} (X : g_X G M u v lv h p s m args meth c H locs ls cells slots K N) : ls.size = M.2.2.1 := X.2.2.2.2.2.1.1
theorem g_room2 {p : Program} {s : State} {m : MethodId} {args : Array Value} {meth : Method} {c : Code} {H : Heap} {locs : List Loc} {ls : Array Slot} {cells slots K N : Nat} (X : g_X G M (u1 + u2) (v1 + v2) lv h p s m args meth c H locs ls cells slots K N) : cells + u1 ≤ (g_room d K N).cells ∧ slots + v1 ≤ (g_room d K N).slots := by
  have h7 := X.2.2.2.2.2.2.1
  have h8 := X.2.2.2.2.2.2.2
  refine ⟨?_, ?_⟩
  · show _ ≤ K
    omega
  · show _ ≤ N
    omega
theorem a_callS (hR : g_Run G Mc d1 u1 v1 as h r1 h1) (hO : g_Own Mc) (hw : Cond.methodLink M.1.cls index Mc.1 ∈ g_GW) (hs : Cond.static Mc.1 ∈ g_GW) (hpd : (parseMethodDescriptor Mc.1.desc).map (fun d => d.parameters.length) = some as.length) (hdd : d1 < d) (hml : Mc.2.2.1 ≤ 40) (hst : st = as.reverse ++ rest) (hrest : (rest.map fun v => v.category).sum ≤ 8) (pc2 : Nat) (hp : pc + 3 = pc2) (hdg : decode M.2.1 pc = .ok (.invokestatic index, 3)) (hst2 : r1.toList ++ rest = st2) (kk : g_A G M d u2 v2 pc2 lv st2 h1 r h') : g_A G M d (u1 + u2) (v1 + v2) pc lv st h r h' := by
  subst hp
  subst hst2
  intro p e s m args below meth c H locs ls cells slots K N X
  refine g_call X (va_runS (As := as) ⟨X.1.1, X.1.2.1, X.1.2.2.2.1, X.1.2.2.2.2.1, X.1.2.2.2.2.2.1⟩ (hR u1 v1 (Nat.le_refl _) (Nat.le_refl _)) (va_cwS (ws := g_code Mc :: g_GW) as.length X.1.2.2.2.2.2.1 (g_goodA (g_goodL ?_) (g_goodC hO.1)) rfl rfl rfl ⟨hO.2.2.1, hO.2.2.2, hpd⟩ (g_hR hdd hml)) ⟨g_blind, g_pre X⟩ rfl rfl (g_size X) hst (lv_room hrest) hdg (g_room2 X)) kk
  intro w h
  rcases List.mem_cons.mp h with rfl | h
  · exact hw
  rcases List.mem_cons.mp h with rfl | h
  · exact hs
  rcases List.mem_cons.mp h with rfl | h
  · exact hO.2.1
  cases h
theorem a_callSN {host : String} (hR : g_Run G Mc d1 u1 v1 as h r1 h1) (hO : g_Own Mc) (hw : Cond.methodLinkNest M.1.cls index Mc.1 host ∈ g_NW) (hs : Cond.static Mc.1 ∈ g_GW) (hpd : (parseMethodDescriptor Mc.1.desc).map (fun d => d.parameters.length) = some as.length) (hdd : d1 < d) (hml : Mc.2.2.1 ≤ 40) (hst : st = as.reverse ++ rest) (hrest : (rest.map fun v => v.category).sum ≤ 8) (pc2 : Nat) (hp : pc + 3 = pc2) (hdg : decode M.2.1 pc = .ok (.invokestatic index, 3)) (hst2 : r1.toList ++ rest = st2) (kk : g_A G M d u2 v2 pc2 lv st2 h1 r h') : g_A G M d (u1 + u2) (v1 + v2) pc lv st h r h' := by
  subst hp
  subst hst2
  intro p e s m args below meth c H locs ls cells slots K N X
  have hts := X.1.2.2.2.2.2.1
  exact g_call X (va_runSN (As := as) ⟨X.1.1, X.1.2.1, X.1.2.2.2.1, X.1.2.2.2.2.1, hts⟩ (hR u1 v1 (Nat.le_refl _) (Nat.le_refl _)) ⟨va_cnB (ws := g_code Mc :: g_GW) as.length hts (g_goodC hO.1) rfl rfl rfl (X.2.1.1.2.1 _ hw) (hts _ hO.2.1) ⟨hO.2.2.1, hO.2.2.2, hpd⟩ (g_hR hdd hml), hts _ hs, trivial⟩ ⟨g_blind, g_pre X⟩ rfl rfl (g_size X) hst (lv_room hrest) hdg (g_room2 X)) kk
/-- an object's place: its class -/
def g_Ob (h : List va_E) (C : String) (a : Nat) : Prop := ∃ (c : Nat) (T : u_T) (N : Nat) (fs : List Value), h[a]? = some (.inr (c, fs)) ∧ vwCl[c]? = some (C, T, N)
theorem g_recv {C : String} {a : Nat} {p : Program} {s : State} {m : MethodId} {args : Array Value} {meth : Method} {c : Code} {H : Heap} {locs : List Loc} {ls : Array Slot} {cells slots K N : Nat} (X : g_X G M u v lv h p s m args meth c H locs ls cells slots K N) (ho : g_Ob h C a) : ∃ cell : Cell, H[g_ad G a]? = some cell ∧ cell.vm.isStatics = false ∧ s.vm.findClass C = some cell.cls := by
  obtain ⟨c, T, N, fs, h1, h2⟩ := ho
  exact va_recv (q := (C, T, N)) X.2.1.1.1 X.2.2.2.1 h2 (g_ws_at h1)
theorem a_callV {a : Nat} (hR : g_Run G Mc d1 u1 v1 (.ref (g_ad G a) :: as) h r1 h1) (ho : g_Ob h Mc.1.cls a) (hO : g_Own Mc) (hw : Cond.methodLink M.1.cls index Mc.1 ∈ g_GW) (hi : Cond.instanceMethod Mc.1 ∈ g_GW) (hs : Cond.selects Mc.1.cls Mc.1 Mc.1 ∈ g_GW) (hpd : (parseMethodDescriptor Mc.1.desc).map (fun d => d.parameters.length) = some as.length) (hdd : d1 < d) (hml : Mc.2.2.1 ≤ 40) (hst : st = as.reverse ++ .ref (g_ad G a) :: rest) (hrest : (rest.map fun v => v.category).sum ≤ 8) (pc2 : Nat) (hp : pc + 3 = pc2) (hdg : decode M.2.1 pc = .ok (.invokevirtual index, 3)) (hst2 : r1.toList ++ rest = st2) (kk : g_A G M d u2 v2 pc2 lv st2 h1 r h') : g_A G M d (u1 + u2) (v1 + v2) pc lv st h r h' := by
  subst hp
  subst hst2
  intro p e s m args below meth c H locs ls cells slots K N X
  refine g_call X (va_runV (As := as) (C := Mc.1.cls) ⟨X.1.1, X.1.2.1, X.1.2.2.2.1, X.1.2.2.2.2.1, X.1.2.2.2.2.2.1⟩ (hR u1 v1 (Nat.le_refl _) (Nat.le_refl _)) (cwV (ws := g_code Mc :: g_GW) as.length X.1.2.2.2.2.2.1 (g_goodA (g_goodL ?_) (g_goodC hO.1)) rfl rfl rfl ⟨rfl, hO.2.2.1, hO.2.2.2, hpd⟩ (g_hR hdd hml)) ⟨g_blind, g_recv X ho, g_pre X⟩ rfl rfl (g_size X) hst (lv_room hrest) hdg (g_room2 X)) kk
  intro w h
  rcases List.mem_cons.mp h with rfl | h
  · exact hw
  rcases List.mem_cons.mp h with rfl | h
  · exact hi
  rcases List.mem_cons.mp h with rfl | h
  · exact hs
  rcases List.mem_cons.mp h with rfl | h
  · exact hO.2.1
  cases h
theorem a_callVN {a : Nat} {host : String} (hR : g_Run G Mc d1 u1 v1 (.ref (g_ad G a) :: as) h r1 h1) (ho : g_Ob h Mc.1.cls a) (hO : g_Own Mc) (hw : Cond.methodLinkNest M.1.cls index Mc.1 host ∈ g_NW) (hi : Cond.instanceMethod Mc.1 ∈ g_GW) (hs : Cond.selects Mc.1.cls Mc.1 Mc.1 ∈ g_GW) (hpd : (parseMethodDescriptor Mc.1.desc).map (fun d => d.parameters.length) = some as.length) (hdd : d1 < d) (hml : Mc.2.2.1 ≤ 40) (hst : st = as.reverse ++ .ref (g_ad G a) :: rest) (hrest : (rest.map fun v => v.category).sum ≤ 8) (pc2 : Nat) (hp : pc + 3 = pc2) (hdg : decode M.2.1 pc = .ok (.invokevirtual index, 3)) (hst2 : r1.toList ++ rest = st2) (kk : g_A G M d u2 v2 pc2 lv st2 h1 r h') : g_A G M d (u1 + u2) (v1 + v2) pc lv st h r h' := by
  subst hp
  subst hst2
  intro p e s m args below meth c H locs ls cells slots K N X
  have hts := X.1.2.2.2.2.2.1
  exact g_call X (va_runVN (As := as) (C := Mc.1.cls) ⟨X.1.1, X.1.2.1, X.1.2.2.2.1, X.1.2.2.2.2.1, hts⟩ (hR u1 v1 (Nat.le_refl _) (Nat.le_refl _)) ⟨va_cnB (ws := g_code Mc :: g_GW) as.length hts (g_goodC hO.1) rfl rfl rfl (X.2.1.1.2.1 _ hw) (hts _ hO.2.1) ⟨hO.2.2.1, hO.2.2.2, hpd⟩ (g_hR hdd hml), hts _ hi, hts _ hs⟩ ⟨g_blind, g_recv X ho, g_pre X⟩ rfl rfl (g_size X) hst (lv_room hrest) hdg (g_room2 X)) kk
/-- an inherited or overriding method: x is what the reference names, owner its declarer, C the receiver's class, Mc what is selected -/
def g_Sel (own : String) (index : Nat) (C owner : String) (x : MethodName) (Mc : g_M) : Prop := Cond.methodLink own index x ∈ g_GW ∧ Cond.sameMethod x.cls owner x.name x.desc ∈ g_GW ∧ Cond.selects C x Mc.1 ∈ g_GW ∧ Cond.instanceMethod Mc.1 ∈ g_GW ∧ (owner ≠ "java/lang/invoke/MethodHandle" ∧ owner ≠ "java/lang/invoke/VarHandle") ∧ (Mc.1 = ⟨owner, x.name, x.desc⟩ ∨ Cond.declares ⟨owner, x.name, x.desc⟩ ∈ g_NW)
theorem a_callU {a : Nat} {C owner : String} {x : MethodName} (hR : g_Run G Mc d1 u1 v1 (.ref (g_ad G a) :: as) h r1 h1) (ho : g_Ob h C a) (hO : g_Own Mc) (hw : g_Sel M.1.cls index C owner x Mc) (hpd : (parseMethodDescriptor x.desc).map (fun d => d.parameters.length) = some as.length) (hdd : d1 < d) (hml : Mc.2.2.1 ≤ 40) (hst : st = as.reverse ++ .ref (g_ad G a) :: rest) (hrest : (rest.map fun v => v.category).sum ≤ 8) (pc2 : Nat) (hp : pc + 3 = pc2) (hdg : decode M.2.1 pc = .ok (.invokevirtual index, 3)) (hst2 : r1.toList ++ rest = st2) (kk : g_A G M d u2 v2 pc2 lv st2 h1 r h') : g_A G M d (u1 + u2) (v1 + v2) pc lv st h r h' := by
  subst hp
  subst hst2
  intro p e s m args below meth c H locs ls cells slots K N X
  have hts := X.1.2.2.2.2.2.1
  obtain ⟨w1, w2, w3, w4, w5, w6⟩ := hw
  have hg : GoodIn g_GW (va_wsU M.1.cls index C owner x Mc.1 (g_code Mc :: g_GW)) := by
    refine g_goodA (g_goodL ?_) (g_goodC hO.1)
    intro w h
    rcases List.mem_cons.mp h with rfl | h
    · exact w1
    rcases List.mem_cons.mp h with rfl | h
    · exact w2
    rcases List.mem_cons.mp h with rfl | h
    · exact w3
    rcases List.mem_cons.mp h with rfl | h
    · exact w4
    rcases List.mem_cons.mp h with rfl | h
    · exact hO.2.1
    cases h
  have hcu : va_CU (g_room d K N) s args M.1.cls C owner index x Mc.1 Mc.2.1 Mc.2.2.1 Mc.2.2.2 (g_code Mc :: g_GW) (g_room d1 u1 v1) u1 v1 as.length := by
    rcases w6 with w6 | w6
    · exact va_cwU as.length hts hg rfl rfl rfl w6 ⟨w5.1, w5.2, hpd⟩ (g_hR hdd hml)
    · exact va_cwA as.length hts hg rfl rfl rfl (X.2.1.1.2.1 _ w6) ⟨w5.1, w5.2, hpd⟩ (g_hR hdd hml)
  exact g_call X (va_runU (As := as) (C := C) ⟨X.1.1, X.1.2.1, X.1.2.2.2.1, X.1.2.2.2.2.1, hts⟩ (hR u1 v1 (Nat.le_refl _) (Nat.le_refl _)) hcu ⟨g_blind, g_recv X ho, g_pre X⟩ rfl rfl (g_size X) hst (lv_room hrest) hdg (g_room2 X)) kk
theorem a_callI {a : Nat} (hR : g_Run G Mc d1 u1 v1 (.ref (g_ad G a) :: as) h none h1) (hret : Mc.2.2.2 = none) (hO : g_Own Mc) (hw : Cond.methodLink M.1.cls index Mc.1 ∈ g_GW) (hi : Cond.instanceMethod Mc.1 ∈ g_GW) (hn : Mc.1.name = "<init>") (hpd : (parseMethodDescriptor Mc.1.desc).map (fun d => d.parameters.length) = some as.length) (hdd : d1 < d) (hml : Mc.2.2.1 ≤ 40) (hst : st = as.reverse ++ .ref (g_ad G a) :: rest) (hrest : (rest.map fun v => v.category).sum ≤ 8) (pc2 : Nat) (hp : pc + 3 = pc2) (hdg : decode M.2.1 pc = .ok (.invokespecial index, 3)) (kk : g_A G M d u2 v2 pc2 lv rest h1 r h') : g_A G M d (u1 + u2) (v1 + v2) pc lv st h r h' := by
  subst hp
  obtain ⟨y, b, nl, rt⟩ := Mc
  dsimp only at hret hn hpd hml hi hw
  subst hret
  intro p e s m args below meth c H locs ls cells slots K N X
  have hts := X.1.2.2.2.2.2.1
  exact g_call X (va_runI (As := as) ⟨X.1.1, X.1.2.1, X.1.2.2.2.1, X.1.2.2.2.2.1, hts⟩ (hR u1 v1 (Nat.le_refl _) (Nat.le_refl _)) (cwI (ws := g_code (y, b, nl, none) :: g_GW) as.length hts (g_goodC hO.1) rfl rfl rfl (hts _ hO.2.1) (hts _ hw) (hts _ hi) hn ⟨hO.2.2.1, hO.2.2.2, hpd⟩ (g_hR (Mc := (y, b, nl, none)) hdd hml)) ⟨g_blind, g_pre X⟩ rfl rfl (g_size X) hst (lv_room hrest) hdg (g_room2 X)) kk
theorem a_callIN {a : Nat} {host : String} (hR : g_Run G Mc d1 u1 v1 (.ref (g_ad G a) :: as) h none h1) (hret : Mc.2.2.2 = none) (hO : g_Own Mc) (hw : Cond.methodLinkNest M.1.cls index Mc.1 host ∈ g_NW) (hi : Cond.instanceMethod Mc.1 ∈ g_GW) (hn : Mc.1.name = "<init>") (hpd : (parseMethodDescriptor Mc.1.desc).map (fun d => d.parameters.length) = some as.length) (hdd : d1 < d) (hml : Mc.2.2.1 ≤ 40) (hst : st = as.reverse ++ .ref (g_ad G a) :: rest) (hrest : (rest.map fun v => v.category).sum ≤ 8) (pc2 : Nat) (hp : pc + 3 = pc2) (hdg : decode M.2.1 pc = .ok (.invokespecial index, 3)) (kk : g_A G M d u2 v2 pc2 lv rest h1 r h') : g_A G M d (u1 + u2) (v1 + v2) pc lv st h r h' := by
  subst hp
  obtain ⟨y, b, nl, rt⟩ := Mc
  dsimp only at hret hn hpd hml hi hw
  subst hret
  intro p e s m args below meth c H locs ls cells slots K N X
  have hts := X.1.2.2.2.2.2.1
  exact g_call X (va_runIN (As := as) ⟨X.1.1, X.1.2.1, X.1.2.2.2.1, X.1.2.2.2.2.1, hts⟩ (hR u1 v1 (Nat.le_refl _) (Nat.le_refl _)) ⟨va_cnB (ws := g_code (y, b, nl, none) :: g_GW) as.length hts (g_goodC hO.1) rfl rfl rfl (X.2.1.1.2.1 _ hw) (hts _ hO.2.1) ⟨hO.2.2.1, hO.2.2.2, hpd⟩ (g_hR (Mc := (y, b, nl, none)) hdd hml), hn, hts _ hi⟩ ⟨g_blind, g_pre X⟩ rfl rfl (g_size X) hst (lv_room hrest) hdg (g_room2 X)) kk
-- the library's own
theorem g_roomL {n d K N : Nat} (hn : n ≤ 20) (hrest : (rest.map fun v => v.category).sum ≤ 8) (hd : 1 ≤ d) : (rest.map fun v => v.category).sum + n ≤ (g_room d K N).locals := by
  show _ ≤ 60 * d + 12
  omega
theorem a_maxII {x y : Int32} (hw : Cond.methodLink M.1.cls index Lib.Math.max.name ∈ g_GW) (hs : Cond.static Lib.Math.max.name ∈ g_GW) (hi : Cond.initialized "java/lang/Math" ∈ g_GW) (hc : Cond.code Lib.Math.max.name Lib.Math.max.code 2 (some .int) ∈ g_GW) (hd : 1 ≤ d) (hrest : (rest.map fun v => v.category).sum ≤ 8) (pc2 : Nat) (hp : pc + 3 = pc2) (hdg : decode M.2.1 pc = .ok (.invokestatic index, 3)) (kk : g_A G M d u v pc2 lv (.int (if x < y then y else x) :: rest) h r h') : g_A G M d u v pc lv (.int y :: .int x :: rest) h r h' := by
  subst hp
  intro p e s m args below meth c H locs ls cells slots K N X
  have hts := X.1.2.2.2.2.2.1
  have h7 := X.2.2.2.2.2.2.1
  have h8 := X.2.2.2.2.2.2.2
  exact va_mmax X.1.1 X.1.2.1 (X.1.2.2.2.1.trans (g_size X).symm) X.1.2.2.2.2.1 (hts _ hw) (hts _ hs) (hts _ hi) (hts _ hc) hd (g_roomL (by omega) hrest hd) (show cells ≤ K by omega) (show slots ≤ N by omega) hdg (kk p e s m args below meth c H locs ls cells slots K N X)
theorem a_minJJ {x y : Int64} (hw : Cond.methodLink M.1.cls index Lib.MathLoose.min_long.x ∈ g_GW) (hs : Cond.static Lib.MathLoose.min_long.x ∈ g_GW) (hi : Cond.initialized "java/lang/Math" ∈ g_GW) (hc : Cond.code Lib.MathLoose.min_long.x Lib.MathLoose.min_long.code 4 (some .long) ∈ g_GW) (hd : 1 ≤ d) (hrest : (rest.map fun v => v.category).sum ≤ 8) (pc2 : Nat) (hp : pc + 3 = pc2) (hdg : decode M.2.1 pc = .ok (.invokestatic index, 3)) (kk : g_A G M d u v pc2 lv (.long (if y < x then y else x) :: rest) h r h') : g_A G M d u v pc lv (.long y :: .long x :: rest) h r h' := by
  subst hp
  intro p e s m args below meth c H locs ls cells slots K N X
  have hts := X.1.2.2.2.2.2.1
  have h7 := X.2.2.2.2.2.2.1
  have h8 := X.2.2.2.2.2.2.2
  exact va_mmin_long X.1.1 X.1.2.1 (X.1.2.2.2.1.trans (g_size X).symm) X.1.2.2.2.2.1 (hts _ hw) (hts _ hs) (hts _ hi) (hts _ hc) hd (g_roomL (by omega) hrest hd) (show cells ≤ K by omega) (show slots ≤ N by omega) hdg (kk p e s m args below meth c H locs ls cells slots K N X)
theorem a_d2raw {x : UInt64} (hw : Cond.methodLink M.1.cls index ⟨"java/lang/Double", "doubleToRawLongBits", "(D)J"⟩ ∈ g_GW) (hn : Cond.native ⟨"java/lang/Double", "doubleToRawLongBits", "(D)J"⟩ ∈ g_GW) (hs : Cond.static ⟨"java/lang/Double", "doubleToRawLongBits", "(D)J"⟩ ∈ g_GW) (hi : Cond.initialized "java/lang/Double" ∈ g_GW) (hd : 1 ≤ d) (hrest : (rest.map fun v => v.category).sum ≤ 8) (pc2 : Nat) (hp : pc + 3 = pc2) (hdg : decode M.2.1 pc = .ok (.invokestatic index, 3)) (kk : g_A G M d u v pc2 lv (.long x.toInt64 :: rest) h r h') : g_A G M d u v pc lv (.double x :: rest) h r h' := by
  subst hp
  intro p e s m args below meth c H locs ls cells slots K N X
  have hts := X.1.2.2.2.2.2.1
  exact vn_d2l X.1.1 X.1.2.1 (X.1.2.2.2.1.trans (g_size X).symm) X.1.2.2.2.2.1 (hts _ hw) (hts _ hn) (hts _ hs) (hts _ hi) hd (g_roomL (by omega) hrest hd) hdg (kk p e s m args below meth c H locs ls cells slots K N X)
theorem a_f2raw {x : UInt32} (hw : Cond.methodLink M.1.cls index ⟨"java/lang/Float", "floatToRawIntBits", "(F)I"⟩ ∈ g_GW) (hn : Cond.native ⟨"java/lang/Float", "floatToRawIntBits", "(F)I"⟩ ∈ g_GW) (hs : Cond.static ⟨"java/lang/Float", "floatToRawIntBits", "(F)I"⟩ ∈ g_GW) (hi : Cond.initialized "java/lang/Float" ∈ g_GW) (hd : 1 ≤ d) (hrest : (rest.map fun v => v.category).sum ≤ 8) (pc2 : Nat) (hp : pc + 3 = pc2) (hdg : decode M.2.1 pc = .ok (.invokestatic index, 3)) (kk : g_A G M d u v pc2 lv (.int x.toInt32 :: rest) h r h') : g_A G M d u v pc lv (.float x :: rest) h r h' := by
  subst hp
  intro p e s m args below meth c H locs ls cells slots K N X
  have hts := X.1.2.2.2.2.2.1
  exact vn_f2i X.1.1 X.1.2.1 (X.1.2.2.2.1.trans (g_size X).symm) X.1.2.2.2.2.1 (hts _ hw) (hts _ hn) (hts _ hs) (hts _ hi) hd (g_roomL (by omega) hrest hd) hdg (kk p e s m args below meth c H locs ls cells slots K N X)
end GC
theorem g_set_eq {h : List va_E} {k : Nat} {e e0 : va_E} (he : h[k]? = some e0) : (h.set k e)[k]? = some e := List.getElem?_set_self (g_lt he)
theorem g_set_ne {h : List va_E} {k j : Nat} {c e : va_E} (hne : k ≠ j) (he : h[j]? = some e) : (h.set k c)[j]? = some e := by rw [List.getElem?_set_ne hne]; exact he

