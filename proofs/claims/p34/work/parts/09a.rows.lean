/-! p34: instructions more, a call whose objects are forgotten, a method that takes the script -/
section R34
variable {M : jm_M} {pc pc' : Nat} {ls : List (Nat × Value)} {st : List Value} {h : jm_H} {kc ks : Nat} {X : jm_X}
theorem jj_land {x y : Int64} (hd : decode (jm_by M) pc = .ok (.land, 1)) (hp : pc + 1 = pc') (k : jm_J M pc' ls (.long (x &&& y) :: st) h kc ks X) : jm_J M pc ls (.long y :: .long x :: st) h kc ks X := by
  subst hp
  intro p l e R s m args below meth c N0 dC dI dA ad0 n0 Q C ad H locs lsA hy
  obtain ⟨hx, hb, hml, hown, hts, -⟩ := id C
  exact lv_land hx hb hd (k p l e R s m args below meth c N0 dC dI dA ad0 n0 Q C ad H locs lsA hy)
theorem jj_lshr {x : Int64} {y : Int32} (hd : decode (jm_by M) pc = .ok (.lshr, 1)) (hp : pc + 1 = pc') (k : jm_J M pc' ls (.long (x >>> (y.toInt64 &&& 63)) :: st) h kc ks X) : jm_J M pc ls (.int y :: .long x :: st) h kc ks X := by
  subst hp
  intro p l e R s m args below meth c N0 dC dI dA ad0 n0 Q C ad H locs lsA hy
  obtain ⟨hx, hb, hml, hown, hts, -⟩ := id C
  exact lv_lshr hx hb hd rfl (k p l e R s m args below meth c N0 dC dI dA ad0 n0 Q C ad H locs lsA hy)
theorem jj_ldiv {x y : Int64} (hd : decode (jm_by M) pc = .ok (.ldiv, 1)) (hne : ¬ y = 0) (hp : pc + 1 = pc') (k : jm_J M pc' ls (.long (x / y) :: st) h kc ks X) : jm_J M pc ls (.long y :: .long x :: st) h kc ks X := by
  subst hp
  intro p l e R s m args below meth c N0 dC dI dA ad0 n0 Q C ad H locs lsA hy
  obtain ⟨hx, hb, hml, hown, hts, -⟩ := id C
  exact lv_ldiv hx hb hd hne (k p l e R s m args below meth c N0 dC dI dA ad0 n0 Q C ad H locs lsA hy)
theorem jj_lrem {x y : Int64} (hd : decode (jm_by M) pc = .ok (.lrem, 1)) (hne : ¬ y = 0) (hp : pc + 1 = pc') (k : jm_J M pc' ls (.long (x - x / y * y) :: st) h kc ks X) : jm_J M pc ls (.long y :: .long x :: st) h kc ks X := by
  subst hp
  intro p l e R s m args below meth c N0 dC dI dA ad0 n0 Q C ad H locs lsA hy
  obtain ⟨hx, hb, hml, hown, hts, -⟩ := id C
  exact lv_lrem hx hb hd hne (k p l e R s m args below meth c N0 dC dI dA ad0 n0 Q C ad H locs lsA hy)
theorem jj_l2i {x : Int64} (hd : decode (jm_by M) pc = .ok (.l2i, 1)) (hp : pc + 1 = pc') (k : jm_J M pc' ls (.int x.toInt32 :: st) h kc ks X) : jm_J M pc ls (.long x :: st) h kc ks X := by
  subst hp
  intro p l e R s m args below meth c N0 dC dI dA ad0 n0 Q C ad H locs lsA hy
  obtain ⟨hx, hb, hml, hown, hts, -⟩ := id C
  exact lv_l2i hx hb hd rfl (k p l e R s m args below meth c N0 dC dI dA ad0 n0 Q C ad H locs lsA hy)
theorem jj_d2i {x : UInt64} (hd : decode (jm_by M) pc = .ok (.d2i, 1)) (hp : pc + 1 = pc') (k : jm_J M pc' ls (.int (FP.d2i x) :: st) h kc ks X) : jm_J M pc ls (.double x :: st) h kc ks X := by
  subst hp
  intro p l e R s m args below meth c N0 dC dI dA ad0 n0 Q C ad H locs lsA hy
  obtain ⟨hx, hb, hml, hown, hts, -⟩ := id C
  exact lv_d2i hx hb hd (k p l e R s m args below meth c N0 dC dI dA ad0 n0 Q C ad H locs lsA hy)
/-- a divisor that is not 0 -/
def jf_d (y : Int32) (r : Option jm_X) : Option jm_X := if y = 0 then none else r
theorem jf_d_inv {y : Int32} {r : Option jm_X} {X : jm_X} (hF : jf_d y r = some X) : ¬ y = 0 ∧ r = some X := by
  unfold jf_d at hF
  split at hF
  · cases hF
  · next hy => exact ⟨hy, hF⟩
theorem jm_W_take {dA ad : Nat → Nat} {h : jm_H} {n k : Nat} {q : Nat × va_E} (hk : (jm_W dA ad (h.take n))[k]? = some q) : (jm_W dA ad h)[k]? = some q := by
  simp only [jm_W, List.getElem?_mapIdx] at hk ⊢
  by_cases hn : k < n
  · rw [List.getElem?_take_of_lt hn] at hk
    exact hk
  · rw [List.getElem?_eq_none (by rw [List.length_take]; omega)] at hk
    cases hk
theorem jm_P_take {N0 : Nat} {dC : Nat → ClassId} {dI : Nat → Nat → Nat} {dA ad : Nat → Nat} {h : jm_H} {H : Heap} {n : Nat} (hP : jm_P N0 dC dI dA ad h H) : jm_P N0 dC dI dA ad (h.take n) H :=
  ⟨va_P.by hP.1 id (fun _ _ hk => jm_W_take hk), va_D.by hP.2 id (fun _ _ hk => jm_W_take hk) (fun _ _ _ _ e => e)⟩
theorem jm_afterF {N : jm_M} {st0 rest : List Value} {kc' ks' : Nat} {X' : jm_X} (go : jm_Go M N pc st0 rest h kc ks X') (hal : (∀ q ∈ ls, jm_kV h.length q.2) ∧ (∀ v ∈ rest, jm_kV h.length v) ∧ jm_al M = true) (ekc : kc + jm_mc N = kc') (eks : ks + jm_ms N = ks')
    (kk : ∀ v, X'.1 = .inl v → jm_J M (pc + 3) ls (v.toList ++ rest) (X'.2.take h.length) kc' ks' X) (kx : ∀ E, X'.1 = .inr E → jm_JX M pc E ls X'.2 kc' ks' X) : jm_J M pc ls st0 h kc ks X := by
  subst ekc
  subst eks
  intro p l e R s m args below meth c N0 dC dI dA ad0 n0 Q Cx ad H locs lsA hy T hT Xs
  have keep : ∀ ad' : Nat → Nat, jm_Rel N h.length ad ad' → jm_Rel M n0 ad0 ad' ∧ jm_L ad' ls = jm_L ad ls ∧ rest.map (jm_V ad') = rest.map (jm_V ad) := by
    intro ad' hr
    obtain ⟨h1, h2, h3⟩ := hal
    refine ⟨⟨fun hf => by (rw [h3] at hf; cases hf), fun k hk => ?_⟩, jm_L_ag h1 hr.2, jm_st_ag h2 hr.2⟩
    rw [hr.2 k (hk.imp (fun hlt => Nat.lt_of_lt_of_le hlt hy.2.1) id)]
    exact hy.1.2 k hk
  rcases go p l e R s m args below meth c N0 dC dI dA ad0 n0 Q X Cx ad H locs lsA ls hy T hT Xs with ⟨v, st₀, t, T', L, h0, X9, hL, e1, e2, hQ, st⟩ | ⟨q, st₀, t, T', L, E, ce, h0, X9, hL, e1, e2, hQ, hce, hcv, hcl, st⟩
  · obtain ⟨v0, ad', hv0, hr, hrel, hln, hP, hF⟩ := hQ
    obtain ⟨k1, k2, k3⟩ := vx_keep h0 e1 hy.2.2.2.1 (fun _ _ z => z) (fun _ z => z) hL hF
    obtain ⟨hR', hls, hrs⟩ := keep ad' hrel
    have hvv : v = v0.map (jm_V ad') := by injection hr
    obtain ⟨t2, a1, b1⟩ := kk v0 hv0 p l e R s m args below meth c N0 dC dI dA ad0 n0 Q Cx ad' T'.heap (locs ++ L) lsA ⟨hR', by rw [List.length_take, Nat.min_eq_left hln]; exact hy.2.1, by rw [e1]; exact jm_P_take hP, k3, by rw [hls]; exact hy.2.2.2.2⟩ T' rfl X9
    refine ⟨t2, st t2 ?_, b1⟩
    have hs : v.toList ++ rest.map (jm_V ad) = (v0.toList ++ rest).map (jm_V ad') := by
      rw [List.map_append, hrs, hvv]
      cases v0 <;> rfl
    show Steps p.tables e below (T'.setTop (F0 m (pc + 3) lsA (v.toList ++ rest.map (jm_V ad)))) t2
    rw [hs]
    exact a1
  · obtain ⟨ad', hv0, hrel, hln, hP, hF⟩ := hQ
    obtain ⟨k1, k2, k3⟩ := vx_keep h0 e1 hy.2.2.2.1 (fun _ _ z => z) (fun _ z => z) hL hF
    obtain ⟨hR', hls, hrs⟩ := keep ad' hrel
    obtain ⟨t2, a1, b1⟩ := kx E hv0 p l e R s m args below meth c N0 dC dI dA ad0 n0 Q Cx ad' T'.heap (locs ++ L) lsA (rest.map (jm_V ad)) q ce ⟨hR', Nat.le_trans hy.2.1 hln, by rw [e1]; exact hP, k3, by rw [hls]; exact hy.2.2.2.2⟩ (by rw [e1]; exact hce) hcv hcl T' rfl X9
    exact ⟨t2, st.trans a1, b1⟩
/-- a method of an int that makes objects: behind it they are forgotten -/
noncomputable def jf_F (n : Nat) (lv : List Nat) (r : Option jm_X) (f : Int32 → jm_H → Option jm_X) : Option jm_X := jf_lv n lv (jf_I r (fun v h' => f v (h'.take n)))
/-- what is made in a loop, counted at its end -/
def jf_w (kc ks B S : Nat) (r : Option jm_X) : Option jm_X := if kc ≤ B ∧ ks ≤ S then r else none
theorem jf_w_inv {kc ks B S : Nat} {r : Option jm_X} {X : jm_X} (hF : jf_w kc ks B S r = some X) : (kc ≤ B ∧ ks ≤ S) ∧ r = some X := by
  unfold jf_w at hF
  split at hF
  · next hc => exact ⟨hc, hF⟩
  · cases hF
theorem jj_cF {N : jm_M} {st0 rest : List Value} {kc' ks' : Nat} {r : Option jm_X} {lv : List Nat} {f : Int32 → jm_H → Option jm_X} (go : ∀ X', r = some X' → jm_Go M N pc st0 rest h kc ks X') (hal : jm_al M = true) (hl : (∀ q ∈ ls, ∀ a, q.2 = .ref a → a ∈ lv) ∧ (∀ v ∈ rest, ∀ a, v = .ref a → a ∈ lv)) (hhh : jm_hh M = []) (ekc : kc + jm_mc N = kc') (eks : ks + jm_ms N = ks') (hco : kc' ≤ jm_mc M ∧ ks' ≤ jm_ms M) (hp : pc + 3 = pc')
    (hF : jf_F h.length lv r f = some X) (K : ∀ v h', f v h' = some X → jm_J M pc' ls (.int v :: rest) h' kc' ks' X) : jm_J M pc ls st0 h kc ks X := by
  subst hp
  unfold jf_F at hF
  obtain ⟨hlv, hF⟩ := jf_lv_inv hF
  have hk : (∀ q ∈ ls, jm_kV h.length q.2) ∧ (∀ v ∈ rest, jm_kV h.length v) ∧ jm_al M = true := ⟨fun q hq a ha => hlv a (hl.1 q hq a ha), fun v hv a ha => hlv a (hl.2 v hv a ha), hal⟩
  rcases jf_I_inv hF with ⟨v, h', hr, hf⟩ | ⟨E, h', hr, hX⟩
  · exact jm_afterF (go _ hr) hk ekc eks (fun v9 hv => by cases hv; exact K v _ hf) (fun E hE => nomatch hE)
  · exact jm_afterF (go _ hr) hk ekc eks (fun v9 hv => nomatch hv) (fun E9 hE => by cases hE; exact jx_out hhh hco hX)
/-! a method that takes the script -/
def jm_SF (M : jm_M) (N0 : Nat) (ad : Nat → Nat) (U : State) : Prop := ∀ (L : Nat) (xs : Nat → Int32), jm_sc M = some (L, xs) → va_X (ad 1000000) L xs U U.heap ∧ ad 1000000 < N0 ∧ N0 ≤ U.heap.size
def jm_PcS (M : jm_M) (N0 : Nat) (dC : Nat → ClassId) (dI : Nat → Nat → Nat) (dA ad : Nat → Nat) (as : List Value) (h : jm_H) : Array Value → State → Prop := fun A U => jm_Pc N0 dC dI dA ad as h A U ∧ jm_SF M N0 ad U
theorem jm_PcS.blind {N0 : Nat} {dC : Nat → ClassId} {dI : Nat → Nat → Nat} {dA ad : Nat → Nat} {as : List Value} : FrameBlind (jm_PcS M N0 dC dI dA ad as h) := by
  intro a U g mk hp
  refine ⟨jm_Pc.blind a U g mk hp.1, fun L xs hs => ?_⟩
  obtain ⟨h1, h2, h3⟩ := hp.2 L xs hs
  exact ⟨va_X.moved (u := U) (U := U.calling g mk a) (Vm.Alike.refl U.vm) h1, h2, h3⟩
def jm_KS (M : jm_M) (as : List Value) (h : jm_H) (X : jm_X) : Prop := ∀ (l : Launch) (N0 : Nat) (dC : Nat → ClassId) (dI : Nat → Nat → Nat) (dA ad : Nat → Nat), l.stackTraces = false →
  vx_Met l (jm_y M) (jm_cd M :: jm_WS) (jm_rm M) (jm_PcS M N0 dC dI dA ad as h) (jm_Qc M N0 dC dI dA ad h.length X) (jm_XC M N0 dC dI dA ad h.length X) (jm_mc M) (jm_ms M) (jm_N N0)
theorem jk_ofS {as : List Value} (hcls : (jm_y M).cls = jm_ow M) (hpl : Jvm.plainName (jm_y M).cls = true) (hhh : jm_hh M = []) (hlen : (lg_sl as).length ≤ jm_nL M) (J : jm_J M 0 (lv_args 0 as) [] h 0 0 X) : jm_KS M as h X := by
  intro l N0 dC dI dA ad hl
  refine vx_ofW (cc := jm_by M) (maxL := jm_nL M) (ret := jm_rt M) (ws' := jm_WS) hpl (by simp [jm_cd, hhh]) ?_
  intro p e s m args below meth c s₁ B hml htb hv
  obtain ⟨⟨rfl, hsf, hP⟩, hSF⟩ := hv
  have hx := B.exec
  have hb := B.bytes
  have hr := B.returns
  have hts := atoms_spec (ws := jm_cd M :: jm_WS) B.pre
  have hown : s.vm.findClass (jm_ow M) = some m.cls := by rw [← hcls]; exact findClass_of_methodNamed B.named
  have hlocks := B.notSynchronized
  have hin : meth.name = (jm_y M).name := (name_of_methodNamed B.named B.method).1
  have hlv := lv_entry (as.map (jm_V ad)) (n := jm_nL M) (by rw [jm_slots]; exact hlen)
  rw [jm_args] at hlv
  rw [lg_entry_eq]
  generalize (lg_sl (as.map (jm_V ad)) ++ List.replicate (jm_nL M - (lg_sl (as.map (jm_V ad))).length) Slot.unset).toArray = lsA at hlv ⊢
  refine J p l e _ s m _ below meth c N0 dC dI dA ad h.length _ ⟨hx, hb, hml, hown, fun w hw => hts w (List.mem_cons_of_mem _ hw), hlocks, ⟨fun _ => List.eq_nil_iff_forall_not_mem.mpr (fun x hx => htb x hx), fun h0 => absurd hhh h0⟩, hin, hl, hsf, ⟨Nat.le_refl _, Nat.le_refl _, Nat.le_refl _, Nat.le_refl _⟩, hSF, ?_, ?_⟩ ad s.heap [] lsA ⟨⟨fun _ => rfl, fun _ _ => rfl⟩, Nat.le_refl _, hP, va_S.rf, hlv⟩
  · intro v pc ad' H locs lsA' kc ks hX hfit hrel hn hP' hS hkc hks
    refine W.widen hkc hks (vx_ret ?_)
    rcases hfit with ⟨hrt, rfl, hd⟩ | ⟨ty, x, hrt, rfl, hnar, hd⟩ | ⟨x, hrt, rfl, hd⟩ | ⟨x, hrt, rfl, hd⟩
    · exact W.vret hx hb (hr.trans hrt) (fun t ht hW => ⟨none, ad', hX, rfl, hrel, hn, by rw [ht]; exact hP', hS.F ht⟩) hS.2.2 hd
    · exact W.zret hx hb (hr.trans hrt) hnar (fun t ht hW => ⟨some (.int x), ad', hX, rfl, hrel, hn, by rw [ht]; exact hP', hS.F ht⟩) hS.2.2 hd
    · exact W.lret hx hb (hr.trans hrt) (fun t ht hW => ⟨some (.long x), ad', hX, rfl, hrel, hn, by rw [ht]; exact hP', hS.F ht⟩) hS.2.2 hd
    · exact W.dret hx hb (hr.trans hrt) (fun t ht hW => ⟨some (.double x), ad', hX, rfl, hrel, hn, by rw [ht]; exact hP', hS.F ht⟩) hS.2.2 hd
  · intro E hE
    exact ⟨_, _, rfl, fun ad' t h1 h2 h3 h4 => ⟨ad', hE, h1, h2, h3, h4⟩⟩
theorem jg_SS {N : jm_M} {as st0 rest : List Value} {idx n : Nat} {r : Option jm_X} (cf : jm_cfS (jm_ow M) idx N n) (hhh : jm_hh N = []) (hsc : jm_sc N = jm_sc M) (hd : decode (jm_by M) pc = .ok (.invokestatic idx, 3)) (hn : as.length = n) (hst : as.reverse ++ rest = st0) (hro : jm_ro M N) (hco : jm_co M N kc ks) (h8 : (rest.map fun v => v.category).sum ≤ 8)
    (hK : ∀ X', r = some X' → jm_KS N as h X') : ∀ X', r = some X' → jm_Go M N pc st0 rest h kc ks X' := by
  intro X' hX
  subst hst
  intro p l e R s m args below meth c N0 dC dI dA ad0 n0 Q X9 Cx ad H locs lsA ls hy
  obtain ⟨hx, hb, hml, hown, hts, hlk, htb, hin, hl, hsf, hR, hs, hret, hthr⟩ := id Cx
  obtain ⟨⟨c1, c2, c3, c4⟩, cmh, cn⟩ := cf
  rw [jm_stk0]
  refine vx_runS (Ts := jm_WS) (As := as.map (jm_V ad)) ⟨hx, hb, hml, hown, hts⟩ (hK X' hX l N0 dC dI dA ad hl) ⟨callB_of n hts (jm_gN (ws := []) c4 (fun w hw => nomatch hw)) (by rw [jm_cd0 hhh]) rfl rfl (hts _ c3) (hts _ c1) ⟨cmh.1, cmh.2, cn⟩ ⟨Nat.le_trans hro.1 hR.1, Nat.le_trans hro.2 hR.2.1⟩, hts _ c2⟩
    ⟨jm_PcS.blind, fun U hU hW => ⟨jm_pre hsf hy rfl U hU hW, fun L xs hs9 => ?_⟩⟩ rfl (by rw [List.length_map]; exact hn) hy.2.2.2.2.1 rfl (lv_room (by rw [jm_sum]; exact h8)) hd ⟨Nat.le_trans hco.1 hR.2.2.1, Nat.le_trans hco.2 hR.2.2.2⟩
  obtain ⟨hX1, hbN, hN⟩ := hs L xs (by rw [← hsc]; exact hs9)
  have e9 : ad 1000000 = ad0 1000000 := hy.1.2 1000000 (Or.inr rfl)
  have hS := hy.2.2.2.1
  subst hU
  rw [e9]
  refine ⟨?_, hbN, Nat.le_trans hN hS.1⟩
  exact (va_X.moved hW.alike hX1).kept (hS.2.1 _ (Nat.lt_of_lt_of_le hbN hN) (Nat.not_le.mpr hbN))
end R34
