/-! contracts out of the judgement; calls, throws, handlers, what is new, the machine's own methods -/
section JK
theorem jm_args (ad : Nat → Nat) : ∀ (as : List Value) (i : Nat), lv_args i (as.map (jm_V ad)) = jm_L ad (lv_args i as)
  | [], _ => rfl
  | v :: vs, i => by
    show (i, jm_V ad v) :: lv_args (if (jm_V ad v).category = 2 then i + 2 else i + 1) (vs.map (jm_V ad)) = (i, jm_V ad v) :: jm_L ad (lv_args (if v.category = 2 then i + 2 else i + 1) vs)
    rw [jm_cat, jm_args ad vs]
theorem jm_slots (ad : Nat → Nat) : ∀ as : List Value, (lg_sl (as.map (jm_V ad))).length = (lg_sl as).length
  | [] => rfl
  | v :: vs => by
    have ih := jm_slots ad vs
    simp only [lg_sl, List.map_cons, List.flatMap_cons, List.length_append, jm_cat] at ih ⊢
    rw [ih]
    by_cases hc : v.category = 2 <;> simp [hc]
theorem jk_body {M : jm_M} {as : List Value} {h : jm_H} {X : jm_X} (hcls : (jm_y M).cls = jm_ow M) (hsc : jm_sc M = none) (hlen : (lg_sl as).length ≤ jm_nL M) (J : jm_J M 0 (lv_args 0 as) [] h 0 0 X)
    {p : Program} {l : Launch} {e : Env} {s s₁ : State} {m : MethodId} {args : Array Value} {below : List Frame} {meth : Method} {c : Code} {N0 : Nat} {dC : Nat → ClassId} {dI : Nat → Nat → Nat} {dA ad : Nat → Nat} (hl : l.stackTraces = false)
    (B : BodyLoose p l (jm_y M) (headSpec (jm_cd M :: jm_WS) (jm_rm M)) (jm_by M) (jm_nL M) (jm_rt M) e s m args below meth c s₁) (hml : c.maxLocals = jm_nL M) (htb : (jm_hh M = [] → c.exceptionTable.toList = []) ∧ (jm_hh M ≠ [] → c.exceptionTable.toList = tableOf (jm_hh M)))
    (hv : jm_Pc N0 dC dI dA ad as h args s) : W p l e (headSpec (jm_cd M :: jm_WS) (jm_rm M)).room s m args below meth c s.heap [] 0 0 (vx_MQ below (jm_Qc M N0 dC dI dA ad h.length X) (jm_XC M N0 dC dI dA ad h.length X) args s (jm_mc M) (jm_ms M) (jm_N N0)) (entryFrame m args (jm_nL M)) := by
  obtain ⟨rfl, hsf, hP⟩ := hv
  have hx := B.exec
  have hb := B.bytes
  have hr := B.returns
  have hts := atoms_spec (ws := jm_cd M :: jm_WS) B.pre
  have hown : s.vm.findClass (jm_ow M) = some m.cls := by rw [← hcls]; exact findClass_of_methodNamed B.named
  have hlocks := B.notSynchronized
  have hin : meth.name = (jm_y M).name := (name_of_methodNamed B.named B.method).1
  have hlv := lv_entry (as.map (jm_V ad)) (n := jm_nL M) (by rw [jm_slots]; exact hlen)
  rw [jm_args] at hlv
  rw [lg_entry_eq]
  generalize (lg_sl (as.map (jm_V ad)) ++ List.replicate (jm_nL M - (lg_sl (as.map (jm_V ad))).length) Slot.unset).toArray = lsA at hlv ⊢
  refine J p l e _ s m _ below meth c N0 dC dI dA ad h.length _ ⟨hx, hb, hml, hown, fun w hw => hts w (List.mem_cons_of_mem _ hw), hlocks, htb, hin, hl, hsf, ⟨Nat.le_refl _, Nat.le_refl _, Nat.le_refl _, Nat.le_refl _⟩, fun L xs hs => by (rw [hsc] at hs; cases hs), ?_, ?_⟩ ad s.heap [] lsA ⟨⟨fun _ => rfl, fun _ _ => rfl⟩, Nat.le_refl _, hP, va_S.rf, hlv⟩
  · intro v pc ad' H locs lsA' kc ks hX hfit hrel hn hP' hS hkc hks
    refine W.widen hkc hks (vx_ret ?_)
    rcases hfit with ⟨hrt, rfl, hd⟩ | ⟨ty, x, hrt, rfl, hnar, hd⟩ | ⟨x, hrt, rfl, hd⟩ | ⟨x, hrt, rfl, hd⟩
    · exact W.vret hx hb (hr.trans hrt) (fun t ht hW => ⟨none, ad', hX, rfl, hrel, hn, by rw [ht]; exact hP', hS.F ht⟩) hS.2.2 hd
    · exact W.zret hx hb (hr.trans hrt) hnar (fun t ht hW => ⟨some (.int x), ad', hX, rfl, hrel, hn, by rw [ht]; exact hP', hS.F ht⟩) hS.2.2 hd
    · exact W.lret hx hb (hr.trans hrt) (fun t ht hW => ⟨some (.long x), ad', hX, rfl, hrel, hn, by rw [ht]; exact hP', hS.F ht⟩) hS.2.2 hd
    · exact W.dret hx hb (hr.trans hrt) (fun t ht hW => ⟨some (.double x), ad', hX, rfl, hrel, hn, by rw [ht]; exact hP', hS.F ht⟩) hS.2.2 hd
  · intro E hE
    exact ⟨_, _, rfl, fun ad' t h1 h2 h3 h4 => ⟨ad', hE, h1, h2, h3, h4⟩⟩
theorem jk_of {M : jm_M} {as : List Value} {h : jm_H} {X : jm_X} (hcls : (jm_y M).cls = jm_ow M) (hpl : Jvm.plainName (jm_y M).cls = true) (hhh : jm_hh M = []) (hsc : jm_sc M = none) (hlen : (lg_sl as).length ≤ jm_nL M) (J : jm_J M 0 (lv_args 0 as) [] h 0 0 X) : jm_K M as h X := by
  intro l N0 dC dI dA ad hl
  refine vx_ofW (cc := jm_by M) (maxL := jm_nL M) (ret := jm_rt M) (ws' := jm_WS) hpl (by simp [jm_cd, hhh]) ?_
  intro p e s m args below meth c s₁ B hml htb hv
  exact jk_body hcls hsc hlen J hl B hml ⟨fun _ => List.eq_nil_iff_forall_not_mem.mpr (fun x hx => htb x hx), fun h0 => absurd hhh h0⟩ hv
theorem jk_ofH {M : jm_M} {as : List Value} {h : jm_H} {X : jm_X} (hcls : (jm_y M).cls = jm_ow M) (hpl : Jvm.plainName (jm_y M).cls = true) (hhh : jm_hh M ≠ []) (hsc : jm_sc M = none) (hlen : (lg_sl as).length ≤ jm_nL M) (J : jm_J M 0 (lv_args 0 as) [] h 0 0 X) : jm_K M as h X := by
  intro l N0 dC dI dA ad hl
  have hcd : jm_cd M = Cond.codeWith (jm_y M) (jm_by M) (jm_nL M) (jm_rt M) (jm_hh M) := by simp [jm_cd, hhh]
  refine vx_ofWH (cc := jm_by M) (maxL := jm_nL M) (ret := jm_rt M) (hh := jm_hh M) (ws' := jm_WS) hpl (by rw [hcd]) ?_
  intro p e s m args below meth c s₁ B hml hv
  exact jk_body hcls hsc hlen J hl B hml ⟨fun h0 => absurd h0 hhh, fun _ => vx_table (x := jm_y M) B (by
    have := atoms_spec (ws := jm_cd M :: jm_WS) B.pre (jm_cd M) List.mem_cons_self
    rw [hcd] at this
    exact this)⟩ hv
end JK
/-! ends -/
section JE
variable {M : jm_M} {pc pc' : Nat} {ls : List (Nat × Value)} {st : List Value} {h : jm_H} {kc ks : Nat} {X : jm_X}
theorem jj_ret (v : Option Value) (hfit : jm_fit M pc v) (hc : kc ≤ jm_mc M ∧ ks ≤ jm_ms M) (hF : some ((.inl v, h) : jm_X) = some X) : jm_J M pc ls v.toList h kc ks X := by
  intro p l e R s m args below meth c N0 dC dI dA ad0 n0 Q Cx ad H locs lsA hy
  obtain ⟨hx, hb, hml, hown, hts, hlk, htb, hin, hl, hsf, hR, hs, hret, hthr⟩ := id Cx
  cases hF
  have := hret v pc ad H locs lsA kc ks rfl hfit hy.1 hy.2.1 hy.2.2.1 hy.2.2.2.1 hc.1 hc.2
  cases v <;> exact this
theorem jj_retV (hrt : jm_rt M = none) (hd : decode (jm_by M) pc = .ok (.return_, 1)) (hc : kc ≤ jm_mc M ∧ ks ≤ jm_ms M) (hF : some ((.inl none, h) : jm_X) = some X) : jm_J M pc ls [] h kc ks X :=
  jj_ret none (Or.inl ⟨hrt, rfl, hd⟩) hc hF
theorem jj_retI {ty : FieldType} {x : Int32} (hrt : jm_rt M = some ty) (hn : narrow ty (.int x) = .int x) (hd : decode (jm_by M) pc = .ok (.ireturn, 1)) (hc : kc ≤ jm_mc M ∧ ks ≤ jm_ms M) (hF : some ((.inl (some (.int x)), h) : jm_X) = some X) : jm_J M pc ls [.int x] h kc ks X :=
  jj_ret (some (.int x)) (Or.inr (Or.inl ⟨ty, x, hrt, rfl, hn, hd⟩)) hc hF
/-- a boolean's answer that is no constant -/
def jf_z (x : Int32) (r : Option jm_X) : Option jm_X := if x = 0 ∨ x = 1 then r else none
theorem jj_retZ {x : Int32} (hrt : jm_rt M = some .boolean) (hd : decode (jm_by M) pc = .ok (.ireturn, 1)) (hc : kc ≤ jm_mc M ∧ ks ≤ jm_ms M) (hF : jf_z x (some ((.inl (some (.int x)), h) : jm_X)) = some X) : jm_J M pc ls [.int x] h kc ks X := by
  unfold jf_z at hF
  split at hF
  · next hx =>
    refine jj_retI hrt ?_ hd hc hF
    rcases hx with rfl | rfl <;> rfl
  · cases hF
theorem jj_retL {x : Int64} (hrt : jm_rt M = some .long) (hd : decode (jm_by M) pc = .ok (.lreturn, 1)) (hc : kc ≤ jm_mc M ∧ ks ≤ jm_ms M) (hF : some ((.inl (some (.long x)), h) : jm_X) = some X) : jm_J M pc ls [.long x] h kc ks X :=
  jj_ret (some (.long x)) (Or.inr (Or.inr (Or.inl ⟨x, hrt, rfl, hd⟩))) hc hF
theorem jj_retD {x : UInt64} (hrt : jm_rt M = some .double) (hd : decode (jm_by M) pc = .ok (.dreturn, 1)) (hc : kc ≤ jm_mc M ∧ ks ≤ jm_ms M) (hF : some ((.inl (some (.double x)), h) : jm_X) = some X) : jm_J M pc ls [.double x] h kc ks X :=
  jj_ret (some (.double x)) (Or.inr (Or.inr (Or.inr ⟨x, hrt, rfl, hd⟩))) hc hF
def jm_sup : List String := ["java/lang/RuntimeException", "java/lang/Exception"]
def jm_tf (own cls : String) (ik ic : Nat) : Prop := cls ∈ jm_thrs ∧ Cond.classLink own ik cls ∈ jm_WS ∧ Cond.initialized cls ∈ jm_WS ∧ (∀ w ∈ vx_atS own ic cls jm_sup, goodWord w = true → w ∈ jm_WS) ∧ (∀ w ∈ vx_atS own ic cls jm_sup, goodWord w = false → w ∈ Cond.castable cls cls :: jm_decl.map Cond.declares) ∧ (∀ w ∈ Cond.classLink own ik cls :: Cond.initialized cls :: vx_atS own ic cls jm_sup, vx_ot w = true) ∧ Bundle.fit cls = true
theorem jm_supfit : ∀ n ∈ jm_sup, Bundle.fit n = true := by decide +kernel
theorem jj_throw {cls text : String} {ik is ic : Nat} (tf : jm_tf (jm_ow M) cls ik ic) (hstr : (jm_ow M, is, text) ∈ jm_strs)
    (d0 : decode (jm_by M) pc = .ok (.new ik, 3)) (d3 : decode (jm_by M) (pc + 3) = .ok (.dup, 1)) (d4 : decode (jm_by M) (pc + 4) = .ok (.ldc is, 2)) (d6 : decode (jm_by M) (pc + 6) = .ok (.invokespecial ic, 3)) (d9 : decode (jm_by M) (pc + 9) = .ok (.athrow, 1))
    (hhh : jm_hh M = []) (hro : 6 ≤ jm_fr M ∧ (st.map fun v => v.category).sum + 82 ≤ jm_lo M) (hco : kc + 1 ≤ jm_mc M ∧ ks + 6 ≤ jm_ms M) (hF : some ((.inr cls, h) : jm_X) = some X) : jm_J M pc ls st h kc ks X := by
  intro p l e R s m args below meth c N0 dC dI dA ad0 n0 Q Cx ad H locs lsA hy
  obtain ⟨hx, hb, hml, hown, hts, hlk, htb, hin, hl, hsf, hR, hs, hret, hthr⟩ := id Cx
  obtain ⟨t1, t2, t3, t4, t5, t6, t7⟩ := tf
  cases hF
  obtain ⟨Qc, XC, rfl, hXC⟩ := hthr cls rfl
  obtain ⟨sa, hsa⟩ := hsf.2.2.2.1 (jm_ow M, is, text) hstr
  have hcast : (Cond.castable cls cls).before args s = true := va_Nw.use rfl (hsf.2.2.2.2.2.1 cls t1)
  have hat : ∀ w ∈ vx_atS (jm_ow M) ic cls jm_sup, w.before args s = true := fun w hw => by
    cases hg : goodWord w with
    | true => exact hts w (t4 w hw hg)
    | false =>
      rcases List.mem_cons.mp (t5 w hw hg) with rfl | hm
      · exact hcast
      · obtain ⟨x, hx, rfl⟩ := List.mem_map.mp hm
        exact va_Nw.use rfl (hsf.2.2.2.2.1.2 x hx)
  have hst : ((st.map (jm_V ad)).map fun v => v.category).sum = (st.map fun v => v.category).sum := by
    rw [List.map_map]; congr 1; exact List.map_congr_left (fun v _ => jm_cat ad v)
  refine vx_throwS (A := jm_N N0) (names := jm_sup) (text := text) (sa := sa) hx hb hl hown t7 jm_supfit (hts _ t2) (hts _ t3) hsa hat t6 hsf.2.2.2.2.2.2.2.1 hsf.2.2.2.2.2.2.2.2 hy.2.2.2.1 (by rw [hml]; exact hy.2.2.2.2.1) d0 d3 d4 d6 d9 (fun x hx' => by (rw [htb.1 hhh] at hx'; cases hx')) (Nat.lt_of_lt_of_le (Nat.lt_of_lt_of_le (by decide) hro.1) hR.1) (by rw [hst]; exact Nat.le_trans hro.2 hR.2.1) (Nat.le_trans hco.1 hR.2.2.1) (Nat.le_trans hco.2 hR.2.2.2) hlk ?_ hy.2.2.2.1.2.2 hco.1 hco.2
  intro t hal hsz hk
  have hP := hy.2.2.1
  refine hXC ad t hy.1 hy.2.1 ⟨hP.1.kept (fun k q hq => hk q.1 ((hP.1 k q hq).lt)), hP.2⟩ ⟨Nat.le_trans hy.2.2.2.1.1 hsz, fun q h1 h2 => ?_⟩
  rw [hk q (Nat.lt_of_lt_of_le h1 hy.2.2.2.1.1)]
  exact hy.2.2.2.1.2.1 q h1 h2
/-- what flies leaves the method -/
theorem jx_out {E : String} (hhh : jm_hh M = []) (hc : kc ≤ jm_mc M ∧ ks ≤ jm_ms M) (hF : some ((.inr E, h) : jm_X) = some X) : jm_JX M pc E ls h kc ks X := by
  intro p l e R s m args below meth c N0 dC dI dA ad0 n0 Q Cx ad H locs lsA rest q ce hy hq hv hcl
  obtain ⟨hx, hb, hml, hown, hts, hlk, htb, hin, hl, hsf, hR, hs, hret, hthr⟩ := id Cx
  cases hF
  obtain ⟨Qc, XC, rfl, hXC⟩ := hthr E rfl
  exact vx_out (fun x hx' => by (rw [htb.1 hhh] at hx'; cases hx')) hlk hq hv hcl (fun t ht hal => hXC ad t hy.1 hy.2.1 (by rw [ht]; exact hy.2.2.1) (hy.2.2.2.1.F ht)) hy.2.2.2.1.2.2 hc.1 hc.2
end JE
/-! calls -/
def jm_Go (M N : jm_M) (pc : Nat) (st0 rest : List Value) (h : jm_H) (kc ks : Nat) (X' : jm_X) : Prop :=
  ∀ (p : Program) (l : Launch) (e : Env) (R : Room) (s : State) (m : MethodId) (args : Array Value) (below : List Frame) (meth : Method) (c : Code) (N0 : Nat) (dC : Nat → ClassId) (dI : Nat → Nat → Nat) (dA ad0 : Nat → Nat) (n0 : Nat) (Q : State → Prop) (X : jm_X),
    jm_Cx M X p l e R s m args below meth c N0 dC dI dA ad0 n0 Q → ∀ (ad : Nat → Nat) (H : Heap) (locs : List Loc) (lsA : Array Slot) (ls : List (Nat × Value)), jm_Hy M s N0 dC dI dA ad0 n0 ls h ad H locs lsA →
      vx_Run p l e R s m args below meth c H locs kc ks (jm_mc N) (jm_ms N) (F0 m pc lsA (st0.map (jm_V ad))) (rest.map (jm_V ad)) (jm_Qc N N0 dC dI dA ad h.length X' #[]) (jm_XC N N0 dC dI dA ad h.length X') (jm_N N0)
theorem jm_after {M N : jm_M} {pc : Nat} {ls : List (Nat × Value)} {st0 rest : List Value} {h : jm_H} {kc ks kc' ks' : Nat} {X X' : jm_X} (go : jm_Go M N pc st0 rest h kc ks X') (hal : jm_al N = false ∨ ((∀ q ∈ ls, jm_kV h.length q.2) ∧ (∀ v ∈ rest, jm_kV h.length v) ∧ jm_al M = true)) (ekc : kc + jm_mc N = kc') (eks : ks + jm_ms N = ks')
    (kk : ∀ v, X'.1 = .inl v → jm_J M (pc + 3) ls (v.toList ++ rest) X'.2 kc' ks' X) (kx : ∀ E, X'.1 = .inr E → jm_JX M pc E ls X'.2 kc' ks' X) : jm_J M pc ls st0 h kc ks X := by
  subst ekc
  subst eks
  intro p l e R s m args below meth c N0 dC dI dA ad0 n0 Q Cx ad H locs lsA hy T hT Xs
  have keep : ∀ ad' : Nat → Nat, jm_Rel N h.length ad ad' → jm_Rel M n0 ad0 ad' ∧ jm_L ad' ls = jm_L ad ls ∧ rest.map (jm_V ad') = rest.map (jm_V ad) := by
    intro ad' hr
    rcases hal with hal | ⟨h1, h2, h3⟩
    · have := hr.1 hal
      subst this
      exact ⟨hy.1, rfl, rfl⟩
    · refine ⟨⟨fun hf => by (rw [h3] at hf; cases hf), fun k hk => ?_⟩, jm_L_ag h1 hr.2, jm_st_ag h2 hr.2⟩
      rw [hr.2 k (hk.imp (fun hlt => Nat.lt_of_lt_of_le hlt hy.2.1) id)]
      exact hy.1.2 k hk
  rcases go p l e R s m args below meth c N0 dC dI dA ad0 n0 Q X Cx ad H locs lsA ls hy T hT Xs with ⟨v, st₀, t, T', L, h0, X9, hL, e1, e2, hQ, st⟩ | ⟨q, st₀, t, T', L, E, ce, h0, X9, hL, e1, e2, hQ, hce, hcv, hcl, st⟩
  · obtain ⟨v0, ad', hv0, hr, hrel, hln, hP, hF⟩ := hQ
    obtain ⟨k1, k2, k3⟩ := vx_keep h0 e1 hy.2.2.2.1 (fun _ _ z => z) (fun _ z => z) hL hF
    obtain ⟨hR', hls, hrs⟩ := keep ad' hrel
    have hvv : v = v0.map (jm_V ad') := by injection hr
    obtain ⟨t2, a1, b1⟩ := kk v0 hv0 p l e R s m args below meth c N0 dC dI dA ad0 n0 Q Cx ad' T'.heap (locs ++ L) lsA ⟨hR', Nat.le_trans hy.2.1 hln, by rw [e1]; exact hP, k3, by rw [hls]; exact hy.2.2.2.2⟩ T' rfl X9
    refine ⟨t2, st t2 ?_, b1⟩
    have hs : v.toList ++ rest.map (jm_V ad) = (v0.toList ++ rest).map (jm_V ad') := by
      rw [List.map_append, hrs, hvv]
      cases v0 <;> rfl
    show Steps p.tables e below (T'.setTop (F0 m (pc + 3) lsA (v.toList ++ rest.map (jm_V ad)))) t2
    rw [hs]
    exact a1
  · obtain ⟨ad', hv0, hrel, hln, hP, hF⟩ := hQ
    obtain ⟨k1, k2, k3⟩ := vx_keep h0 e1 hy.2.2.2.1 (fun _ _ z => z) (fun _ z => z) hL hF
    obtain ⟨hR', hls, hrs⟩ := keep ad' hrel
    obtain ⟨t2, a1, b1⟩ := kx E hv0 p l e R s m args below meth c N0 dC dI dA ad0 n0 Q Cx ad' T'.heap (locs ++ L) lsA (rest.map (jm_V ad)) q ce ⟨hR', Nat.le_trans hy.2.1 hln, by rw [e1]; exact hP, k3, by rw [hls]; exact hy.2.2.2.2⟩ (by rw [e1]; exact hce) hcv hcl T' rfl X9
    exact ⟨t2, st.trans a1, b1⟩
def jm_mh (c : String) : Prop := c ≠ "java/lang/invoke/MethodHandle" ∧ c ≠ "java/lang/invoke/VarHandle"
def jm_cfV (own : String) (idx : Nat) (N : jm_M) (n : Nat) : Prop := (Cond.methodLink own idx (jm_y N) ∈ jm_WS ∧ Cond.instanceMethod (jm_y N) ∈ jm_WS ∧ Cond.selects (jm_y N).cls (jm_y N) (jm_y N) ∈ jm_WS ∧ Cond.initialized (jm_y N).cls ∈ jm_WS ∧ jm_cd N ∈ jm_WS) ∧ jm_hh N = [] ∧ jm_mh (jm_y N).cls ∧ (parseMethodDescriptor (jm_y N).desc).map (fun d => d.parameters.length) = some n
def jm_cfS (own : String) (idx : Nat) (N : jm_M) (n : Nat) : Prop := (Cond.methodLink own idx (jm_y N) ∈ jm_WS ∧ Cond.static (jm_y N) ∈ jm_WS ∧ Cond.initialized (jm_y N).cls ∈ jm_WS ∧ jm_cd N ∈ jm_WS) ∧ jm_mh (jm_y N).cls ∧ (parseMethodDescriptor (jm_y N).desc).map (fun d => d.parameters.length) = some n
def jm_cfI (own : String) (idx : Nat) (N : jm_M) (n : Nat) : Prop := (Cond.methodLink own idx (jm_y N) ∈ jm_WS ∧ Cond.instanceMethod (jm_y N) ∈ jm_WS ∧ Cond.initialized (jm_y N).cls ∈ jm_WS ∧ jm_cd N ∈ jm_WS) ∧ jm_hh N = [] ∧ jm_mh (jm_y N).cls ∧ (parseMethodDescriptor (jm_y N).desc).map (fun d => d.parameters.length) = some n ∧ (jm_y N).name = "<init>" ∧ jm_rt N = none
/-- nest mates: the link is a fact of its own -/
def jm_cfN (own : String) (idx : Nat) (N : jm_M) (host : String) (n : Nat) (w : Cond) : Prop := ((own, idx, jm_y N, host) ∈ jm_nests ∧ w ∈ jm_WS ∧ Cond.initialized (jm_y N).cls ∈ jm_WS ∧ jm_cd N ∈ jm_WS) ∧ jm_hh N = [] ∧ jm_mh (jm_y N).cls ∧ (parseMethodDescriptor (jm_y N).desc).map (fun d => d.parameters.length) = some n
theorem jm_cd0 {N : jm_M} (h : jm_hh N = []) : jm_cd N = Cond.code (jm_y N) (jm_by N) (jm_nL N) (jm_rt N) := by simp [jm_cd, h]
theorem jm_cdH {N : jm_M} (h : jm_hh N ≠ []) : jm_cd N = Cond.codeWith (jm_y N) (jm_by N) (jm_nL N) (jm_rt N) (jm_hh N) := by simp [jm_cd, h]
theorem jm_gN {N : jm_M} {ws : List Cond} (hc : jm_cd N ∈ jm_WS) (hw : ∀ w ∈ ws, w ∈ jm_WS) : GoodIn jm_WS (ws ++ (jm_cd N :: jm_WS)) := jm_gIn (fun w h => by
  rcases List.mem_append.mp h with h | h
  · exact hw w h
  · rcases List.mem_cons.mp h with rfl | h
    · exact hc
    · exact h)
theorem jm_stk (ad : Nat → Nat) (as : List Value) (b : Nat) (rest : List Value) : (as.reverse ++ .ref b :: rest).map (jm_V ad) = (as.map (jm_V ad)).reverse ++ .ref (ad b) :: rest.map (jm_V ad) := by
  simp [List.map_append, List.map_reverse, jm_V]
theorem jm_stk0 (ad : Nat → Nat) (as rest : List Value) : (as.reverse ++ rest).map (jm_V ad) = (as.map (jm_V ad)).reverse ++ rest.map (jm_V ad) := by
  simp [List.map_append, List.map_reverse]
theorem jm_sum (ad : Nat → Nat) (rest : List Value) : ((rest.map (jm_V ad)).map fun v => v.category).sum = (rest.map fun v => v.category).sum := by
  rw [List.map_map]; congr 1; exact List.map_congr_left (fun v _ => jm_cat ad v)
theorem jm_pre {M : jm_M} {as : List Value} {h : jm_H} {s : State} {N0 : Nat} {dC : Nat → ClassId} {dI : Nat → Nat → Nat} {dA ad0 ad : Nat → Nat} {n0 : Nat} {ls : List (Nat × Value)} {H : Heap} {locs : List Loc} {lsA : Array Slot} (hsf : jm_Sf N0 dC dI dA s) (hy : jm_Hy M s N0 dC dI dA ad0 n0 ls h ad H locs lsA) {vs : List Value} (hvs : vs = as.map (jm_V ad)) :
    ∀ U : State, U.heap = H → s.WarmedH U.vm → jm_Pc N0 dC dI dA ad as h vs.toArray U := by
  intro U hU hW
  subst hvs
  subst hU
  exact ⟨rfl, jm_Sf.go hsf hW hy.2.2.2.1, hy.2.2.1⟩
theorem jm_met {N : jm_M} {as : List Value} {h : jm_H} {v : Option Value} {h' : jm_H} (hK : jm_K N as h (.inl v, h')) {l : Launch} {N0 : Nat} {dC : Nat → ClassId} {dI : Nat → Nat → Nat} {dA ad : Nat → Nat} (hl : l.stackTraces = false) : Met l (jm_y N) (jm_cd N :: jm_WS) (jm_rm N) (jm_Pc N0 dC dI dA ad as h) (jm_Qc N N0 dC dI dA ad h.length (.inl v, h')) (jm_mc N) (jm_ms N) (jm_N N0) := by
  refine MetFree.mono (hK l N0 dC dI dA ad hl) (fun _ _ h => h) (fun _ _ _ _ _ h => h) (fun a s o s' _ hq => ?_)
  rcases hq with hq | ⟨q, -, E, ce, L, hx, -⟩
  · exact hq
  · obtain ⟨ad', hE, -⟩ := hx
    cases hE
theorem jm_vx {p : Program} {l : Launch} {e : Env} {R : Room} {s : State} {m : MethodId} {args : Array Value} {below : List Frame} {meth : Method} {c : Code} {H : Heap} {locs : List Loc} {kc ks mc ms : Nat} {g : JFrame} {rest : List Value} {Qa : State → Outcome → State → Prop} {XC : String → State → State → Prop} {fr : Addr → Prop} (h : va_Run p l e R s m args below meth c H locs kc ks mc ms g rest Qa fr) : vx_Run p l e R s m args below meth c H locs kc ks mc ms g rest Qa XC fr := fun T hT X => Or.inl (h T hT X)
section JG
variable {M N : jm_M} {pc idx n : Nat} {as rest : List Value} {h : jm_H} {kc ks : Nat} {X' : jm_X}
abbrev jm_ro (M N : jm_M) : Prop := jm_fr N + 1 ≤ jm_fr M ∧ 8 + (jm_nL N + 11) + jm_lo N ≤ jm_lo M
abbrev jm_co (M N : jm_M) (kc ks : Nat) : Prop := kc + jm_mc N ≤ jm_mc M ∧ ks + jm_ms N ≤ jm_ms M
theorem jm_goV {o : Nat} (cf : jm_cfV (jm_ow M) idx N n) (hd : decode (jm_by M) pc = .ok (.invokevirtual idx, 3)) (hn : as.length = n) (hro : jm_ro M N) (hco : jm_co M N kc ks) (h8 : (rest.map fun v => v.category).sum ≤ 8)
    (hob : ∃ (ci : Nat) (q : vw_C) (fs : List Value), h[o]? = some (.inr (ci, fs)) ∧ vwCl[ci]? = some q ∧ q.1 = (jm_y N).cls) (hK : jm_K N (.ref o :: as) h X') : jm_Go M N pc (as.reverse ++ .ref o :: rest) rest h kc ks X' := by
  intro p l e R s m args below meth c N0 dC dI dA ad0 n0 Q X Cx ad H locs lsA ls hy
  obtain ⟨hx, hb, hml, hown, hts, hlk, htb, hin, hl, hsf, hR, hs, hret, hthr⟩ := id Cx
  obtain ⟨⟨c1, c2, c3, c4, c5⟩, chh, cmh, cn⟩ := cf
  obtain ⟨ci, q, fs, hob1, hob2, hob3⟩ := hob
  have hre := va_recv hsf.2.1 hy.2.2.1.1 hob2 (jm_get hob1)
  rw [jm_stk]
  have hG : GoodIn jm_WS (wsV (jm_ow M) idx (jm_y N).cls (jm_y N) (jm_cd N :: jm_WS)) := jm_gN c5 (fun w hw => by
    simp only [List.mem_cons, List.not_mem_nil, or_false] at hw
    rcases hw with rfl | rfl | rfl | rfl <;> assumption)
  exact vx_runV (Ts := jm_WS) ⟨hx, hb, hml, hown, hts⟩ (hK l N0 dC dI dA ad hl) (cwV n hts hG (by rw [jm_cd0 chh]) rfl rfl ⟨rfl, cmh.1, cmh.2, cn⟩ ⟨Nat.le_trans hro.1 hR.1, Nat.le_trans hro.2 hR.2.1⟩)
    ⟨jm_Pc.blind, by rw [← hob3]; exact hre, jm_pre hsf hy rfl⟩ rfl (by rw [List.length_map]; exact hn) hy.2.2.2.2.1 rfl (lv_room (by rw [jm_sum]; exact h8)) hd ⟨Nat.le_trans hco.1 hR.2.2.1, Nat.le_trans hco.2 hR.2.2.2⟩
theorem jm_goS (cf : jm_cfS (jm_ow M) idx N n) (hhh : jm_hh N = []) (hd : decode (jm_by M) pc = .ok (.invokestatic idx, 3)) (hn : as.length = n) (hro : jm_ro M N) (hco : jm_co M N kc ks) (h8 : (rest.map fun v => v.category).sum ≤ 8)
    (hK : jm_K N as h X') : jm_Go M N pc (as.reverse ++ rest) rest h kc ks X' := by
  intro p l e R s m args below meth c N0 dC dI dA ad0 n0 Q X Cx ad H locs lsA ls hy
  obtain ⟨hx, hb, hml, hown, hts, hlk, htb, hin, hl, hsf, hR, hs, hret, hthr⟩ := id Cx
  obtain ⟨⟨c1, c2, c3, c4⟩, cmh, cn⟩ := cf
  rw [jm_stk0]
  refine vx_runS (Ts := jm_WS) (As := as.map (jm_V ad)) ⟨hx, hb, hml, hown, hts⟩ (hK l N0 dC dI dA ad hl) ⟨callB_of n hts (jm_gN (ws := []) c4 (fun w hw => nomatch hw)) (by rw [jm_cd0 hhh]) rfl rfl (hts _ c3) (hts _ c1) ⟨cmh.1, cmh.2, cn⟩ ⟨Nat.le_trans hro.1 hR.1, Nat.le_trans hro.2 hR.2.1⟩, hts _ c2⟩
    ⟨jm_Pc.blind, jm_pre hsf hy rfl⟩ rfl (by rw [List.length_map]; exact hn) hy.2.2.2.2.1 rfl (lv_room (by rw [jm_sum]; exact h8)) hd ⟨Nat.le_trans hco.1 hR.2.2.1, Nat.le_trans hco.2 hR.2.2.2⟩
theorem jm_goH (cf : jm_cfS (jm_ow M) idx N n) (hhh : jm_hh N ≠ []) (hd : decode (jm_by M) pc = .ok (.invokestatic idx, 3)) (hn : as.length = n) (hro : jm_ro M N) (hco : jm_co M N kc ks) (h8 : (rest.map fun v => v.category).sum ≤ 8)
    (hK : jm_K N as h X') : jm_Go M N pc (as.reverse ++ rest) rest h kc ks X' := by
  intro p l e R s m args below meth c N0 dC dI dA ad0 n0 Q X Cx ad H locs lsA ls hy
  obtain ⟨hx, hb, hml, hown, hts, hlk, htb, hin, hl, hsf, hR, hs, hret, hthr⟩ := id Cx
  obtain ⟨⟨c1, c2, c3, c4⟩, cmh, cn⟩ := cf
  rw [jm_stk0]
  have hG : GoodIn jm_WS (va_wsS (jm_ow M) idx (jm_y N) (jm_cd N :: jm_WS)) := jm_gN c4 (fun w hw => by
    simp only [List.mem_cons, List.not_mem_nil, or_false] at hw
    rcases hw with rfl | rfl | rfl <;> assumption)
  exact vx_runSX (Ts := jm_WS) (As := as.map (jm_V ad)) (hh := jm_hh N) ⟨hx, hb, hml, hown, hts⟩ (hK l N0 dC dI dA ad hl) (vx_cwSW n hts hG (by rw [jm_cdH hhh]) rfl rfl ⟨cmh.1, cmh.2, cn⟩ ⟨Nat.le_trans hro.1 hR.1, Nat.le_trans hro.2 hR.2.1⟩)
    ⟨jm_Pc.blind, jm_pre hsf hy rfl⟩ rfl (by rw [List.length_map]; exact hn) hy.2.2.2.2.1 rfl (lv_room (by rw [jm_sum]; exact h8)) hd ⟨Nat.le_trans hco.1 hR.2.2.1, Nat.le_trans hco.2 hR.2.2.2⟩
theorem jm_goI {o : Nat} {v : Option Value} {h' : jm_H} (cf : jm_cfI (jm_ow M) idx N n) (hd : decode (jm_by M) pc = .ok (.invokespecial idx, 3)) (hn : as.length = n) (hro : jm_ro M N) (hco : jm_co M N kc ks) (h8 : (rest.map fun v => v.category).sum ≤ 8)
    (hK : jm_K N (.ref o :: as) h (.inl v, h')) : jm_Go M N pc (as.reverse ++ .ref o :: rest) rest h kc ks (.inl v, h') := by
  intro p l e R s m args below meth c N0 dC dI dA ad0 n0 Q X Cx ad H locs lsA ls hy
  obtain ⟨hx, hb, hml, hown, hts, hlk, htb, hin, hl, hsf, hR, hs, hret, hthr⟩ := id Cx
  obtain ⟨⟨c1, c2, c3, c4⟩, chh, cmh, cn, cni, crt⟩ := cf
  rw [jm_stk]
  exact jm_vx (va_runI (Ts := jm_WS) ⟨hx, hb, hml, hown, hts⟩ (jm_met hK hl) ⟨callB_of n hts (jm_gN (ws := []) c4 (fun w hw => nomatch hw)) (by rw [jm_cd0 chh, crt]) rfl rfl (hts _ c3) (hts _ c1) ⟨cmh.1, cmh.2, cn⟩ ⟨Nat.le_trans hro.1 hR.1, Nat.le_trans hro.2 hR.2.1⟩, cni, hts _ c2⟩
    ⟨jm_Pc.blind, jm_pre hsf hy rfl⟩ rfl (by rw [List.length_map]; exact hn) hy.2.2.2.2.1 rfl (lv_room (by rw [jm_sum]; exact h8)) hd ⟨Nat.le_trans hco.1 hR.2.2.1, Nat.le_trans hco.2 hR.2.2.2⟩)
theorem jm_goIN {o : Nat} {v : Option Value} {h' : jm_H} {host : String} (cf : jm_cfN (jm_ow M) idx N host n (.instanceMethod (jm_y N))) (hni : (jm_y N).name = "<init>") (crt : jm_rt N = none) (hd : decode (jm_by M) pc = .ok (.invokespecial idx, 3)) (hn : as.length = n) (hro : jm_ro M N) (hco : jm_co M N kc ks) (h8 : (rest.map fun v => v.category).sum ≤ 8)
    (hK : jm_K N (.ref o :: as) h (.inl v, h')) : jm_Go M N pc (as.reverse ++ .ref o :: rest) rest h kc ks (.inl v, h') := by
  intro p l e R s m args below meth c N0 dC dI dA ad0 n0 Q X Cx ad H locs lsA ls hy
  obtain ⟨hx, hb, hml, hown, hts, hlk, htb, hin, hl, hsf, hR, hs, hret, hthr⟩ := id Cx
  obtain ⟨⟨c1, c2, c3, c4⟩, chh, cmh, cn⟩ := cf
  rw [jm_stk]
  exact jm_vx (va_runIN (Ts := jm_WS) ⟨hx, hb, hml, hown, hts⟩ (jm_met hK hl) ⟨va_cnB (host := host) n hts (jm_gN (ws := []) c4 (fun w hw => nomatch hw)) (by rw [jm_cd0 chh, crt]) rfl rfl (hsf.2.2.1 _ c1) (hts _ c3) ⟨cmh.1, cmh.2, cn⟩ ⟨Nat.le_trans hro.1 hR.1, Nat.le_trans hro.2 hR.2.1⟩, hni, hts _ c2⟩
    ⟨jm_Pc.blind, jm_pre hsf hy rfl⟩ rfl (by rw [List.length_map]; exact hn) hy.2.2.2.2.1 rfl (lv_room (by rw [jm_sum]; exact h8)) hd ⟨Nat.le_trans hco.1 hR.2.2.1, Nat.le_trans hco.2 hR.2.2.2⟩)
theorem jm_goSN {v : Option Value} {h' : jm_H} {host : String} (cf : jm_cfN (jm_ow M) idx N host n (.static (jm_y N))) (hd : decode (jm_by M) pc = .ok (.invokestatic idx, 3)) (hn : as.length = n) (hro : jm_ro M N) (hco : jm_co M N kc ks) (h8 : (rest.map fun v => v.category).sum ≤ 8)
    (hK : jm_K N as h (.inl v, h')) : jm_Go M N pc (as.reverse ++ rest) rest h kc ks (.inl v, h') := by
  intro p l e R s m args below meth c N0 dC dI dA ad0 n0 Q X Cx ad H locs lsA ls hy
  obtain ⟨hx, hb, hml, hown, hts, hlk, htb, hin, hl, hsf, hR, hs, hret, hthr⟩ := id Cx
  obtain ⟨⟨c1, c2, c3, c4⟩, chh, cmh, cn⟩ := cf
  rw [jm_stk0]
  exact jm_vx (va_runSN (Ts := jm_WS) (As := as.map (jm_V ad)) ⟨hx, hb, hml, hown, hts⟩ (jm_met hK hl) ⟨va_cnB (host := host) n hts (jm_gN (ws := []) c4 (fun w hw => nomatch hw)) (by rw [jm_cd0 chh]) rfl rfl (hsf.2.2.1 _ c1) (hts _ c3) ⟨cmh.1, cmh.2, cn⟩ ⟨Nat.le_trans hro.1 hR.1, Nat.le_trans hro.2 hR.2.1⟩, hts _ c2, trivial⟩
    ⟨jm_Pc.blind, jm_pre hsf hy rfl⟩ rfl (by rw [List.length_map]; exact hn) hy.2.2.2.2.1 rfl (lv_room (by rw [jm_sum]; exact h8)) hd ⟨Nat.le_trans hco.1 hR.2.2.1, Nat.le_trans hco.2 hR.2.2.2⟩)
end JG
