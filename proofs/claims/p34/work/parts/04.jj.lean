/-! the judgement jm_J, contracts jm_K, and what joins them -/
def jm_nests : List (String × Nat × MethodName × String) := [(RX3, 25, yX1_init, RX3), (RX1, 21, yX3_isWithin, RX3), (RX0, 84, yX3_hasBit, RX3)]
def jm_strs : List (String × Nat × String) := [(RX3, 54, "there are 8 films"), (RX3, 79, "there is no such setting"), (RX3, 124, "there are 6 guests"), (RX3, 139, "the juror goes to it already, or cannot"), (RX3, 150, "the juror has not seen the film"), (RX3, 158, "the buffer has 60 characters"), (RX3, 181, "there is no saved state"), (RX3, 191, "there is no snapshot"), (RX3, 208, "there is no such guest"), (RX3, 280, "there is no such film"), (RX3, 282, "there is no such showing"), (RX3, 284, "there is no such screen"), (RX3, 286, "there is no such juror"), (RX3, 290, "an argument is out of range"), (RX3, 293, "the showing is refused")]
def jm_thrs : List String := ["java/lang/IllegalArgumentException", "java/lang/IllegalStateException", "java/lang/IndexOutOfBoundsException"]
def jm_decl : List MethodName := [Bundle.initS "java/lang/RuntimeException", Bundle.initS "java/lang/Exception", Bundle.initS Bundle.tN]
/-- what stands in the machine all the time -/
def jm_Sf (N0 : Nat) (dC : Nat → ClassId) (dI : Nat → Nat → Nat) (dA : Nat → Nat) (U : State) : Prop :=
  N0 ≤ U.heap.size ∧ va_K (dC, dI) vwCl (jm_ty dA) U ∧ (∀ q ∈ jm_nests, va_Nw (.methodLinkNest q.1 q.2.1 q.2.2.1 q.2.2.2) U) ∧ (∀ q ∈ jm_strs, ∃ a, vk_R q.1 q.2.1 q.2.2 a U) ∧ (va_AO "ReelScreens$Festival" U ∧ ∀ x ∈ jm_decl, va_Nw (.declares x) U) ∧
  (∀ E ∈ jm_thrs, va_Nw (.castable E E) U) ∧ (∀ E ∈ jm_thrs, ∀ E' ∈ jm_thrs, E ≠ E' → va_Nc E E' U) ∧ vx_Zq Bundle.tN "UNASSIGNED_STACK" Bundle.steD (jm_N N0) U U.heap ∧ vx_Zq Bundle.tN "SUPPRESSED_SENTINEL" Bundle.listD (jm_N N0) U U.heap
theorem jm_Sf.go {N0 : Nat} {dC : Nat → ClassId} {dI : Nat → Nat → Nat} {dA : Nat → Nat} {s U : State} {locs : List Loc} (h : jm_Sf N0 dC dI dA s) (hW : s.WarmedH U.vm) (hS : va_S (jm_N N0) s.heap U.heap locs) : jm_Sf N0 dC dI dA U := by
  obtain ⟨h1, h2, h3, h4, h5, h6, h7, h8, h9⟩ := h
  refine ⟨Nat.le_trans h1 hS.1, va_K.moved hW.alike h2, fun q hq => va_Nw.warmM hW (h3 q hq), fun q hq => ?_, ⟨va_AO.moved hW.alike h5.1, fun x hx => va_Nw.warmD hW (h5.2 x hx)⟩, fun E hE => va_Nw.warmC hW (h6 E hE), fun E hE E' hE' hne => va_Nc.moved hW.alike (h7 E hE E' hE' hne), ?_, ?_⟩
  · obtain ⟨a, ha⟩ := h4 q hq
    exact ⟨a, vk_R.warm hW ha⟩
  · exact (vx_Zq.moved hW.alike h8).kept (fun a h1 h2 => hS.2.1 a h1 h2)
  · exact (vx_Zq.moved hW.alike h9).kept (fun a h1 h2 => hS.2.1 a h1 h2)
theorem jm_Sf.blind {N0 : Nat} {dC : Nat → ClassId} {dI : Nat → Nat → Nat} {dA : Nat → Nat} {u U : State} (hv : u.vm = U.vm) (hh : u.heap = U.heap) (h : jm_Sf N0 dC dI dA u) : jm_Sf N0 dC dI dA U := by
  obtain ⟨h1, h2, h3, h4, h5, h6, h7, h8, h9⟩ := h
  have hal : u.vm.Alike U.vm := by rw [hv]; exact Vm.Alike.refl U.vm
  refine ⟨by rw [← hh]; exact h1, va_K.moved hal h2, fun q hq => va_Nw.same rfl hv (h3 q hq), fun q hq => ?_, ⟨va_AO.moved hal h5.1, fun x hx => va_Nw.same rfl hv (h5.2 x hx)⟩, fun E hE => va_Nw.same rfl hv (h6 E hE), fun E hE E' hE' hne => va_Nc.moved hal (h7 E hE E' hE' hne), ?_, ?_⟩
  · obtain ⟨a, ha⟩ := h4 q hq
    exact ⟨a, vk_R.same hv.symm ha⟩
  · rw [← hh]; exact vx_Zq.moved hal h8
  · rw [← hh]; exact vx_Zq.moved hal h9
/-! ## contracts -/
def jm_Pc (N0 : Nat) (dC : Nat → ClassId) (dI : Nat → Nat → Nat) (dA ad : Nat → Nat) (as : List Value) (h : jm_H) : Array Value → State → Prop := va_Pc (as.map (jm_V ad)) (fun U => jm_Sf N0 dC dI dA U ∧ jm_P N0 dC dI dA ad h U.heap)
def jm_Qc (M : jm_M) (N0 : Nat) (dC : Nat → ClassId) (dI : Nat → Nat → Nat) (dA ad : Nat → Nat) (n0 : Nat) (X : jm_X) : Array Value → State → Outcome → State → Prop := fun _ st o t =>
  ∃ (v : Option Value) (ad' : Nat → Nat), X.1 = .inl v ∧ o = .returned (v.map (jm_V ad')) ∧ jm_Rel M n0 ad ad' ∧ n0 ≤ X.2.length ∧ jm_P N0 dC dI dA ad' X.2 t.heap ∧ va_F (jm_N N0) st t
def jm_XC (M : jm_M) (N0 : Nat) (dC : Nat → ClassId) (dI : Nat → Nat → Nat) (dA ad : Nat → Nat) (n0 : Nat) (X : jm_X) : String → State → State → Prop := fun E st t =>
  ∃ (ad' : Nat → Nat), X.1 = .inr E ∧ jm_Rel M n0 ad ad' ∧ n0 ≤ X.2.length ∧ jm_P N0 dC dI dA ad' X.2 t.heap ∧ va_F (jm_N N0) st t
def jm_rm (M : jm_M) : Room := { frames := jm_fr M, cells := jm_mc M, slots := jm_ms M, locals := jm_lo M }
def jm_cd (M : jm_M) : Cond := if jm_hh M = [] then .code (jm_y M) (jm_by M) (jm_nL M) (jm_rt M) else .codeWith (jm_y M) (jm_by M) (jm_nL M) (jm_rt M) (jm_hh M)
def jm_K (M : jm_M) (as : List Value) (h : jm_H) (X : jm_X) : Prop := ∀ (l : Launch) (N0 : Nat) (dC : Nat → ClassId) (dI : Nat → Nat → Nat) (dA ad : Nat → Nat), l.stackTraces = false →
  vx_Met l (jm_y M) (jm_cd M :: jm_WS) (jm_rm M) (jm_Pc N0 dC dI dA ad as h) (jm_Qc M N0 dC dI dA ad h.length X) (jm_XC M N0 dC dI dA ad h.length X) (jm_mc M) (jm_ms M) (jm_N N0)
theorem jm_Pc.blind {N0 : Nat} {dC : Nat → ClassId} {dI : Nat → Nat → Nat} {dA ad : Nat → Nat} {as : List Value} {h : jm_H} : FrameBlind (jm_Pc N0 dC dI dA ad as h) := by
  intro a U g mk hp
  obtain ⟨h1, h2, h3⟩ := hp
  exact ⟨h1, jm_Sf.blind (u := U) (U := U.calling g mk a) rfl rfl h2, h3⟩
/-! ## the judgement -/
/-- the shapes of a method's end -/
def jm_fit (M : jm_M) (pc : Nat) (v : Option Value) : Prop :=
  (jm_rt M = none ∧ v = none ∧ decode (jm_by M) pc = .ok (.return_, 1)) ∨
  (∃ (ty : FieldType) (x : Int32), jm_rt M = some ty ∧ v = some (.int x) ∧ narrow ty (.int x) = .int x ∧ decode (jm_by M) pc = .ok (.ireturn, 1)) ∨
  (∃ x : Int64, jm_rt M = some .long ∧ v = some (.long x) ∧ decode (jm_by M) pc = .ok (.lreturn, 1)) ∨
  (∃ x : UInt64, jm_rt M = some .double ∧ v = some (.double x) ∧ decode (jm_by M) pc = .ok (.dreturn, 1))
def jm_Ret (M : jm_M) (X : jm_X) (p : Program) (l : Launch) (e : Env) (R : Room) (s : State) (m : MethodId) (args : Array Value) (below : List Frame) (meth : Method) (c : Code) (N0 : Nat) (dC : Nat → ClassId) (dI : Nat → Nat → Nat) (dA ad0 : Nat → Nat) (n0 : Nat) (Q : State → Prop) : Prop :=
  ∀ (v : Option Value) (pc : Nat) (ad : Nat → Nat) (H : Heap) (locs : List Loc) (lsA : Array Slot) (kc ks : Nat), X.1 = .inl v → jm_fit M pc v → jm_Rel M n0 ad0 ad → n0 ≤ X.2.length → jm_P N0 dC dI dA ad X.2 H → va_S (jm_N N0) s.heap H locs → kc ≤ jm_mc M → ks ≤ jm_ms M →
    W p l e R s m args below meth c H locs kc ks Q (F0 m pc lsA (v.map (jm_V ad)).toList)
def jm_Thr (M : jm_M) (X : jm_X) (s : State) (args : Array Value) (below : List Frame) (N0 : Nat) (dC : Nat → ClassId) (dI : Nat → Nat → Nat) (dA ad0 : Nat → Nat) (n0 : Nat) (Q : State → Prop) : Prop :=
  ∀ E : String, X.1 = .inr E → ∃ (Qc : Array Value → State → Outcome → State → Prop) (XC : String → State → State → Prop), Q = vx_MQ below Qc XC args s (jm_mc M) (jm_ms M) (jm_N N0) ∧
    ∀ (ad : Nat → Nat) (t : State), jm_Rel M n0 ad0 ad → n0 ≤ X.2.length → jm_P N0 dC dI dA ad X.2 t.heap → va_F (jm_N N0) s t → XC E s t
def jm_Cx (M : jm_M) (X : jm_X) (p : Program) (l : Launch) (e : Env) (R : Room) (s : State) (m : MethodId) (args : Array Value) (below : List Frame) (meth : Method) (c : Code) (N0 : Nat) (dC : Nat → ClassId) (dI : Nat → Nat → Nat) (dA ad0 : Nat → Nat) (n0 : Nat) (Q : State → Prop) : Prop :=
  p.tables.exec = Jvm.exec ∧ c.code = jm_by M ∧ c.maxLocals = jm_nL M ∧ s.vm.findClass (jm_ow M) = some m.cls ∧ (∀ w ∈ jm_WS, w.before args s = true) ∧ meth.locks = false ∧
  ((jm_hh M = [] → c.exceptionTable.toList = []) ∧ (jm_hh M ≠ [] → c.exceptionTable.toList = tableOf (jm_hh M))) ∧ meth.name = (jm_y M).name ∧ l.stackTraces = false ∧ jm_Sf N0 dC dI dA s ∧
  (jm_fr M ≤ R.frames ∧ jm_lo M ≤ R.locals ∧ jm_mc M ≤ R.cells ∧ jm_ms M ≤ R.slots) ∧ (∀ (L : Nat) (xs : Nat → Int32), jm_sc M = some (L, xs) → va_X (ad0 1000000) L xs s s.heap ∧ ad0 1000000 < N0 ∧ N0 ≤ s.heap.size) ∧
  jm_Ret M X p l e R s m args below meth c N0 dC dI dA ad0 n0 Q ∧ jm_Thr M X s args below N0 dC dI dA ad0 n0 Q
def jm_Hy (M : jm_M) (s : State) (N0 : Nat) (dC : Nat → ClassId) (dI : Nat → Nat → Nat) (dA ad0 : Nat → Nat) (n0 : Nat) (ls : List (Nat × Value)) (h : jm_H) (ad : Nat → Nat) (H : Heap) (locs : List Loc) (lsA : Array Slot) : Prop :=
  jm_Rel M n0 ad0 ad ∧ n0 ≤ h.length ∧ jm_P N0 dC dI dA ad h H ∧ va_S (jm_N N0) s.heap H locs ∧ lv_has lsA (jm_nL M) (jm_L ad ls)
/-- from here (pc, locals, stack, heap; so many cells and slots made) the method ends with X -/
def jm_J (M : jm_M) (pc : Nat) (ls : List (Nat × Value)) (st : List Value) (h : jm_H) (kc ks : Nat) (X : jm_X) : Prop :=
  ∀ (p : Program) (l : Launch) (e : Env) (R : Room) (s : State) (m : MethodId) (args : Array Value) (below : List Frame) (meth : Method) (c : Code) (N0 : Nat) (dC : Nat → ClassId) (dI : Nat → Nat → Nat) (dA ad0 : Nat → Nat) (n0 : Nat) (Q : State → Prop),
    jm_Cx M X p l e R s m args below meth c N0 dC dI dA ad0 n0 Q → ∀ (ad : Nat → Nat) (H : Heap) (locs : List Loc) (lsA : Array Slot), jm_Hy M s N0 dC dI dA ad0 n0 ls h ad H locs lsA →
      W p l e R s m args below meth c H locs kc ks Q (F0 m pc lsA (st.map (jm_V ad)))
/-- E flies from pc -/
def jm_JX (M : jm_M) (pc : Nat) (E : String) (ls : List (Nat × Value)) (h : jm_H) (kc ks : Nat) (X : jm_X) : Prop :=
  ∀ (p : Program) (l : Launch) (e : Env) (R : Room) (s : State) (m : MethodId) (args : Array Value) (below : List Frame) (meth : Method) (c : Code) (N0 : Nat) (dC : Nat → ClassId) (dI : Nat → Nat → Nat) (dA ad0 : Nat → Nat) (n0 : Nat) (Q : State → Prop),
    jm_Cx M X p l e R s m args below meth c N0 dC dI dA ad0 n0 Q → ∀ (ad : Nat → Nat) (H : Heap) (locs : List Loc) (lsA : Array Slot) (rest : List Value) (q : Addr) (ce : Cell), jm_Hy M s N0 dC dI dA ad0 n0 ls h ad H locs lsA → H[q]? = some ce → ce.vm = .none → s.vm.findClass E = some ce.cls →
      vx_W p l e R s m args below meth c H locs kc ks Q (F0 m pc lsA rest) q
theorem jm_lens {M : jm_M} {s : State} {N0 : Nat} {dC : Nat → ClassId} {dI : Nat → Nat → Nat} {dA ad0 : Nat → Nat} {n0 : Nat} {ls ls' : List (Nat × Value)} {h : jm_H} {ad : Nat → Nat} {H : Heap} {locs : List Loc} {lsA lsA' : Array Slot} (hy : jm_Hy M s N0 dC dI dA ad0 n0 ls h ad H locs lsA) (hl : lv_has lsA' (jm_nL M) (jm_L ad ls')) : jm_Hy M s N0 dC dI dA ad0 n0 ls' h ad H locs lsA' := ⟨hy.1, hy.2.1, hy.2.2.1, hy.2.2.2.1, hl⟩
theorem jm_at {ad : Nat → Nat} {lsA : Array Slot} {n : Nat} {ls : List (Nat × Value)} (h : lv_has lsA n (jm_L ad ls)) {i : Nat} {v : Value} (hi : (i, v) ∈ ls) : lsA[i]? = some (.val (jm_V ad v)) := h.2.2 (i, jm_V ad v) (List.mem_map.mpr ⟨(i, v), hi, rfl⟩)
theorem jm_subL {ad : Nat → Nat} {lsA : Array Slot} {n : Nat} {ls ls' : List (Nat × Value)} (h : lv_has lsA n (jm_L ad ls)) (hs : ∀ q ∈ ls', q ∈ ls) : lv_has lsA n (jm_L ad ls') := ⟨h.1, h.2.1, fun q hq => by
  obtain ⟨x, hx, rfl⟩ := List.mem_map.mp hq
  exact h.2.2 _ (List.mem_map.mpr ⟨x, hs x hx, rfl⟩)⟩
/-- fewer locals known, in any order -/
theorem jj_sub {M : jm_M} {pc : Nat} {ls ls' : List (Nat × Value)} {st : List Value} {h : jm_H} {kc ks : Nat} {X : jm_X} (hs : ∀ q ∈ ls', q ∈ ls) (k : jm_J M pc ls' st h kc ks X) : jm_J M pc ls st h kc ks X := fun p l e R s m args below meth c N0 dC dI dA ad0 n0 Q C ad H locs lsA hy =>
  k p l e R s m args below meth c N0 dC dI dA ad0 n0 Q C ad H locs lsA (jm_lens hy (jm_subL hy.2.2.2.2 hs))
theorem jj_wide {M : jm_M} {pc : Nat} {ls : List (Nat × Value)} {st : List Value} {h : jm_H} {kc ks kc' ks' : Nat} {X : jm_X} (h1 : kc ≤ kc') (h2 : ks ≤ ks') (k : jm_J M pc ls st h kc' ks' X) : jm_J M pc ls st h kc ks X := fun p l e R s m args below meth c N0 dC dI dA ad0 n0 Q C ad H locs lsA hy =>
  W.widen h1 h2 (k p l e R s m args below meth c N0 dC dI dA ad0 n0 Q C ad H locs lsA hy)
