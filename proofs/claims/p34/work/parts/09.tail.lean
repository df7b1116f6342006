/-! smaller helps for the printed walks -/
section JT
variable {M : jm_M} {pc pc' : Nat} {ls ls' : List (Nat × Value)} {st : List Value} {h : jm_H} {kc ks kc' ks' : Nat} {X : jm_X}
theorem jj_pick (is : List Nat) (hl : is.filterMap (fun i => ls[i]?) = ls') (k : jm_J M pc ls' st h kc ks X) : jm_J M pc ls st h kc ks X := jj_sub (fun q hq => by
  subst hl
  obtain ⟨i, -, hi⟩ := List.mem_filterMap.mp hq
  exact List.mem_of_getElem? hi) k
def jm_rf (vs : List Value) : List Nat := vs.filterMap (fun v => match v with | .ref a => some a | _ => none)
theorem jm_live {lv : List Nat} (h : jm_rf (ls.map (fun q => q.2) ++ st) = lv) : (∀ q ∈ ls, ∀ a, q.2 = .ref a → a ∈ lv) ∧ (∀ v ∈ st, ∀ a, v = .ref a → a ∈ lv) := by
  subst h
  refine ⟨fun q hq a ha => ?_, fun v hv a ha => ?_⟩
  · exact List.mem_filterMap.mpr ⟨.ref a, List.mem_append_left _ (List.mem_map.mpr ⟨q, hq, ha⟩), rfl⟩
  · exact List.mem_filterMap.mpr ⟨.ref a, List.mem_append_right _ (by rw [← ha]; exact hv), rfl⟩
theorem jj_throwW {cls text : String} {ik is ic : Nat} (tf : jm_tf (jm_ow M) cls ik ic) (hstr : (jm_ow M, is, text) ∈ jm_strs)
    (d0 : decode (jm_by M) pc = .ok (.new ik, 3)) (d3 : decode (jm_by M) (pc + 3) = .ok (.dup, 1)) (d4 : decode (jm_by M) (pc + 4) = .ok (.ldc_w is, 3)) (d6 : decode (jm_by M) (pc + 7) = .ok (.invokespecial ic, 3)) (d9 : decode (jm_by M) (pc + 10) = .ok (.athrow, 1))
    (hhh : jm_hh M = []) (hro : 6 ≤ jm_fr M ∧ (st.map fun v => v.category).sum + 82 ≤ jm_lo M) (hco : kc + 1 ≤ jm_mc M ∧ ks + 6 ≤ jm_ms M) (hF : some ((.inr cls, h) : jm_X) = some X) : jm_J M pc ls st h kc ks X := by
  intro p l e R s m args below meth c N0 dC dI dA ad0 n0 Q Cx ad H locs lsA hy
  obtain ⟨hx, hb, hml, hown, hts, hlk, htb, hin, hl, hsf, hR, hs, hret, hthr⟩ := id Cx
  obtain ⟨t1, t2, t3, t4, t5, t6, t7⟩ := tf
  cases hF
  obtain ⟨Qc, XC, rfl, hXC⟩ := hthr cls rfl
  obtain ⟨sa, hsa⟩ := hsf.2.2.2.1 (jm_ow M, is, text) hstr
  have hcast : (Cond.castable cls cls).before args s = true := va_Nw.use rfl (hsf.2.2.2.2.2.1 cls t1)
  have hat : ∀ w ∈ vx_atS (jm_ow M) ic cls jm_sup, w.before args s = true := fun w hw => by
    cases hg : goodWord w with
    | true => exact hts w (t4 w hw hg)
    | false =>
      rcases List.mem_cons.mp (t5 w hw hg) with rfl | hm
      · exact hcast
      · obtain ⟨x, hx, rfl⟩ := List.mem_map.mp hm
        exact va_Nw.use rfl (hsf.2.2.2.2.1.2 x hx)
  refine vx_throwSW (A := jm_N N0) (names := jm_sup) (text := text) (sa := sa) hx hb hl hown t7 jm_supfit (hts _ t2) (hts _ t3) hsa hat t6 hsf.2.2.2.2.2.2.2.1 hsf.2.2.2.2.2.2.2.2 hy.2.2.2.1 (by rw [hml]; exact hy.2.2.2.2.1) d0 d3 d4 d6 d9 (fun x hx' => by (rw [htb.1 hhh] at hx'; cases hx')) (Nat.lt_of_lt_of_le (Nat.lt_of_lt_of_le (by decide) hro.1) hR.1) (by rw [jm_sum]; exact Nat.le_trans hro.2 hR.2.1) (Nat.le_trans hco.1 hR.2.2.1) (Nat.le_trans hco.2 hR.2.2.2) hlk ?_ hy.2.2.2.1.2.2 hco.1 hco.2
  intro t hal hsz hk
  have hP := hy.2.2.1
  refine hXC ad t hy.1 hy.2.1 ⟨hP.1.kept (fun k q hq => hk q.1 ((hP.1 k q hq).lt)), hP.2⟩ ⟨Nat.le_trans hy.2.2.2.1.1 hsz, fun q h1 h2 => ?_⟩
  rw [hk q (Nat.lt_of_lt_of_le h1 hy.2.2.2.1.1)]
  exact hy.2.2.2.1.2.1 q h1 h2
/-- an int array whose length is reckoned, of at most B places -/
noncomputable def jf_naB (B : Nat) (N : Int32) (h : jm_H) (lv : List Nat) (f : Nat → jm_H → Option jm_X) : Option jm_X := if N < 0 ∨ B < N.toNatClampNeg then none else jf_nw (.inl (0, (N.toNatClampNeg, .inl (fun _ => 0)))) h lv f
theorem jj_naB {B : Nat} {N : Int32} {f : Nat → jm_H → Option jm_X} {lv : List Nat} (hd : decode (jm_by M) pc = .ok (.newarray .int, 2)) (hp : pc + 2 = pc') (hw : Cond.arrayClass .int ∈ jm_WS) (hB : B ≤ 1000) (hal : jm_al M = true) (hl : (∀ q ∈ ls, ∀ a, q.2 = .ref a → a ∈ lv) ∧ (∀ v ∈ st, ∀ a, v = .ref a → a ∈ lv)) (ekc : kc + 1 = kc') (eks : ks + B = ks') (hco : kc' ≤ jm_mc M ∧ ks' ≤ jm_ms M)
    (hF : jf_naB B N h lv f = some X) (K : ∀ o h', f o h' = some X → jm_J M pc' ls (.ref o :: st) h' kc' ks' X) : jm_J M pc ls (.int N :: st) h kc ks X := by
  unfold jf_naB at hF
  split at hF
  · cases hF
  · next hc =>
    simp only [not_or, Nat.not_lt] at hc
    subst eks
    refine jj_na (atype := .int) (ty := .int) (t := 0) (n := N.toNatClampNeg) (a0 := (N.toNatClampNeg, .inl (fun _ => 0))) (ks' := ks + N.toNatClampNeg) hd hp rfl hw (fun _ => rfl) (fun _ => rfl) ⟨fun _ => rfl, fun _ => trivial⟩ ⟨hc.1, rfl, ?_⟩ hal hl ekc rfl ⟨hco.1, Nat.le_trans (Nat.add_le_add_left hc.2 _) hco.2⟩ hF (fun o h' hf => jj_wide (Nat.le_refl _) (Nat.add_le_add_left hc.2 _) (K o h' hf))
    have : componentBytes .int = 4 := rfl
    rw [this]
    omega
/-- a row of the script -/
def jf_s (L : Nat) (i : Int32) (r : Option jm_X) : Option jm_X := if i < 0 ∨ L ≤ i.toNatClampNeg then none else r
theorem jf_s_inv {L : Nat} {i : Int32} {r : Option jm_X} (hF : jf_s L i r = some X) : vp_in i L ∧ r = some X := by
  unfold jf_s at hF
  split at hF
  · cases hF
  · next hi => exact ⟨hi, hF⟩
end JT
/-- a number that is none -/
def jf_n (x : UInt64) (r : Option jm_X) : Option jm_X := if x &&& 0x7fffffffffffffff ≤ 0x7ff0000000000000 then r else none
theorem jf_n_inv {x : UInt64} {r : Option jm_X} {X : jm_X} (hF : jf_n x r = some X) : vf_n64 x ∧ r = some X := by
  unfold jf_n at hF
  split at hF
  · next hi => exact ⟨hi, hF⟩
  · cases hF
