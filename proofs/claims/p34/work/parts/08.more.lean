/-! what a call gives back, in words of F; handlers; new objects; the machine's own methods -/
def jf_I (r : Option jm_X) (f : Int32 → jm_H → Option jm_X) : Option jm_X := match r with
  | some (.inl (some (.int v)), h) => f v h
  | some (.inr E, h) => some (.inr E, h)
  | _ => none
def jf_L (r : Option jm_X) (f : Int64 → jm_H → Option jm_X) : Option jm_X := match r with
  | some (.inl (some (.long v)), h) => f v h
  | some (.inr E, h) => some (.inr E, h)
  | _ => none
def jf_D (r : Option jm_X) (f : UInt64 → jm_H → Option jm_X) : Option jm_X := match r with
  | some (.inl (some (.double v)), h) => f v h
  | some (.inr E, h) => some (.inr E, h)
  | _ => none
def jf_V (r : Option jm_X) (f : jm_H → Option jm_X) : Option jm_X := match r with
  | some (.inl none, h) => f h
  | some (.inr E, h) => some (.inr E, h)
  | _ => none
def jf_TI (r : Option jm_X) (f : Int32 → jm_H → Option jm_X) (g : String → jm_H → Option jm_X) : Option jm_X := match r with
  | some (.inl (some (.int v)), h) => f v h
  | some (.inr E, h) => g E h
  | _ => none
def jf_TD (r : Option jm_X) (f : UInt64 → jm_H → Option jm_X) (g : String → jm_H → Option jm_X) : Option jm_X := match r with
  | some (.inl (some (.double v)), h) => f v h
  | some (.inr E, h) => g E h
  | _ => none
def jf_o (ci o : Nat) (h : jm_H) (r : Option jm_X) : Option jm_X := match h[o]? with
  | some (.inr (c, _)) => if c = ci then r else none
  | _ => none
theorem jf_o_inv {ci o : Nat} {h : jm_H} {r : Option jm_X} {X : jm_X} (hF : jf_o ci o h r = some X) : ∃ fs : List Value, h[o]? = some (.inr (ci, fs)) ∧ r = some X := by
  unfold jf_o at hF
  split at hF
  · next c fs hh =>
    split at hF
    · next hc => subst hc; exact ⟨fs, hh, hF⟩
    · cases hF
  · cases hF
theorem jf_I_inv {r : Option jm_X} {f : Int32 → jm_H → Option jm_X} {X : jm_X} (hF : jf_I r f = some X) : (∃ v h', r = some (.inl (some (.int v)), h') ∧ f v h' = some X) ∨ ∃ E h', r = some (.inr E, h') ∧ (some (.inr E, h') : Option jm_X) = some X := by
  unfold jf_I at hF
  split at hF
  · exact Or.inl ⟨_, _, rfl, hF⟩
  · exact Or.inr ⟨_, _, rfl, hF⟩
  · cases hF
theorem jf_L_inv {r : Option jm_X} {f : Int64 → jm_H → Option jm_X} {X : jm_X} (hF : jf_L r f = some X) : (∃ v h', r = some (.inl (some (.long v)), h') ∧ f v h' = some X) ∨ ∃ E h', r = some (.inr E, h') ∧ (some (.inr E, h') : Option jm_X) = some X := by
  unfold jf_L at hF
  split at hF
  · exact Or.inl ⟨_, _, rfl, hF⟩
  · exact Or.inr ⟨_, _, rfl, hF⟩
  · cases hF
theorem jf_D_inv {r : Option jm_X} {f : UInt64 → jm_H → Option jm_X} {X : jm_X} (hF : jf_D r f = some X) : (∃ v h', r = some (.inl (some (.double v)), h') ∧ f v h' = some X) ∨ ∃ E h', r = some (.inr E, h') ∧ (some (.inr E, h') : Option jm_X) = some X := by
  unfold jf_D at hF
  split at hF
  · exact Or.inl ⟨_, _, rfl, hF⟩
  · exact Or.inr ⟨_, _, rfl, hF⟩
  · cases hF
theorem jf_V_inv {r : Option jm_X} {f : jm_H → Option jm_X} {X : jm_X} (hF : jf_V r f = some X) : (∃ h', r = some (.inl none, h') ∧ f h' = some X) ∨ ∃ E h', r = some (.inr E, h') ∧ (some (.inr E, h') : Option jm_X) = some X := by
  unfold jf_V at hF
  split at hF
  · exact Or.inl ⟨_, rfl, hF⟩
  · exact Or.inr ⟨_, _, rfl, hF⟩
  · cases hF
theorem jf_TI_inv {r : Option jm_X} {f : Int32 → jm_H → Option jm_X} {g : String → jm_H → Option jm_X} {X : jm_X} (hF : jf_TI r f g = some X) : (∃ v h', r = some (.inl (some (.int v)), h') ∧ f v h' = some X) ∨ ∃ E h', r = some (.inr E, h') ∧ g E h' = some X := by
  unfold jf_TI at hF
  split at hF
  · exact Or.inl ⟨_, _, rfl, hF⟩
  · exact Or.inr ⟨_, _, rfl, hF⟩
  · cases hF
theorem jf_TD_inv {r : Option jm_X} {f : UInt64 → jm_H → Option jm_X} {g : String → jm_H → Option jm_X} {X : jm_X} (hF : jf_TD r f g = some X) : (∃ v h', r = some (.inl (some (.double v)), h') ∧ f v h' = some X) ∨ ∃ E h', r = some (.inr E, h') ∧ g E h' = some X := by
  unfold jf_TD at hF
  split at hF
  · exact Or.inl ⟨_, _, rfl, hF⟩
  · exact Or.inr ⟨_, _, rfl, hF⟩
  · cases hF
/-- refs that stay: the live ones are below the heap's end -/
def jm_lv (n : Nat) (lv : List Nat) : Prop := ∀ r ∈ lv, r < n ∨ r = 1000000
noncomputable def jf_lv (n : Nat) (lv : List Nat) (r : Option jm_X) : Option jm_X := @ite _ (jm_lv n lv) (Classical.propDecidable _) r none
theorem jf_lv_inv {n : Nat} {lv : List Nat} {r : Option jm_X} {X : jm_X} (hF : jf_lv n lv r = some X) : jm_lv n lv ∧ r = some X := by
  unfold jf_lv at hF
  by_cases hc : jm_lv n lv
  · rw [if_pos hc] at hF; exact ⟨hc, hF⟩
  · rw [if_neg hc] at hF; cases hF
theorem jf_lv_eq {n : Nat} {lv : List Nat} {r : Option jm_X} (h : jm_lv n lv) : jf_lv n lv r = r := by
  unfold jf_lv; rw [if_pos h]
/-- room that is counted as the run goes -/
def jf_k (M : jm_M) (kc ks : Nat) (r : Option jm_X) : Option jm_X := if kc ≤ jm_mc M ∧ ks ≤ jm_ms M then r else none
theorem jf_k_inv {M : jm_M} {kc ks : Nat} {r : Option jm_X} {X : jm_X} (hF : jf_k M kc ks r = some X) : (kc ≤ jm_mc M ∧ ks ≤ jm_ms M) ∧ r = some X := by
  unfold jf_k at hF
  split at hF
  · next hc => exact ⟨hc, hF⟩
  · cases hF
section JG2
variable {M N : jm_M} {pc pc' idx n : Nat} {ls : List (Nat × Value)} {as st0 rest : List Value} {h : jm_H} {kc ks kc' ks' : Nat} {X : jm_X} {r : Option jm_X}
theorem jg_V {o ci : Nat} {q : vw_C} (cf : jm_cfV (jm_ow M) idx N n) (hd : decode (jm_by M) pc = .ok (.invokevirtual idx, 3)) (hq : vwCl[ci]? = some q ∧ q.1 = (jm_y N).cls) (hn : as.length = n) (hst : as.reverse ++ .ref o :: rest = st0) (hro : jm_ro M N) (hco : jm_co M N kc ks) (h8 : (rest.map fun v => v.category).sum ≤ 8)
    (hK : ∀ X', r = some X' → jm_K N (.ref o :: as) h X') : ∀ X', jf_o ci o h r = some X' → jm_Go M N pc st0 rest h kc ks X' := by
  intro X' hX
  obtain ⟨fs, hh, hr⟩ := jf_o_inv hX
  subst hst
  exact jm_goV cf hd hn hro hco h8 ⟨ci, q, fs, hh, hq.1, hq.2⟩ (hK X' hr)
theorem jg_S (cf : jm_cfS (jm_ow M) idx N n) (hhh : jm_hh N = []) (hd : decode (jm_by M) pc = .ok (.invokestatic idx, 3)) (hn : as.length = n) (hst : as.reverse ++ rest = st0) (hro : jm_ro M N) (hco : jm_co M N kc ks) (h8 : (rest.map fun v => v.category).sum ≤ 8)
    (hK : ∀ X', r = some X' → jm_K N as h X') : ∀ X', r = some X' → jm_Go M N pc st0 rest h kc ks X' := by
  intro X' hX
  subst hst
  exact jm_goS cf hhh hd hn hro hco h8 (hK X' hX)
theorem jg_H (cf : jm_cfS (jm_ow M) idx N n) (hhh : jm_hh N ≠ []) (hd : decode (jm_by M) pc = .ok (.invokestatic idx, 3)) (hn : as.length = n) (hst : as.reverse ++ rest = st0) (hro : jm_ro M N) (hco : jm_co M N kc ks) (h8 : (rest.map fun v => v.category).sum ≤ 8)
    (hK : ∀ X', r = some X' → jm_K N as h X') : ∀ X', r = some X' → jm_Go M N pc st0 rest h kc ks X' := by
  intro X' hX
  subst hst
  exact jm_goH cf hhh hd hn hro hco h8 (hK X' hX)
/-- a method of an int, or what flies through -/
theorem jj_cI {f : Int32 → jm_H → Option jm_X} (go : ∀ X', r = some X' → jm_Go M N pc st0 rest h kc ks X') (hal : jm_al N = false) (hhh : jm_hh M = []) (ekc : kc + jm_mc N = kc') (eks : ks + jm_ms N = ks') (hco : kc' ≤ jm_mc M ∧ ks' ≤ jm_ms M) (hp : pc + 3 = pc') (hF : jf_I r f = some X) (K : ∀ v h', f v h' = some X → jm_J M pc' ls (.int v :: rest) h' kc' ks' X) : jm_J M pc ls st0 h kc ks X := by
  subst hp
  rcases jf_I_inv hF with ⟨v, h', hr, hf⟩ | ⟨E, h', hr, hX⟩
  · exact jm_after (go _ hr) (Or.inl hal) ekc eks (fun v9 hv => by cases hv; exact K v h' hf) (fun E hE => nomatch hE)
  · exact jm_after (go _ hr) (Or.inl hal) ekc eks (fun v9 hv => nomatch hv) (fun E9 hE => by cases hE; exact jx_out hhh hco hX)
theorem jj_cL {f : Int64 → jm_H → Option jm_X} (go : ∀ X', r = some X' → jm_Go M N pc st0 rest h kc ks X') (hal : jm_al N = false) (hhh : jm_hh M = []) (ekc : kc + jm_mc N = kc') (eks : ks + jm_ms N = ks') (hco : kc' ≤ jm_mc M ∧ ks' ≤ jm_ms M) (hp : pc + 3 = pc') (hF : jf_L r f = some X) (K : ∀ v h', f v h' = some X → jm_J M pc' ls (.long v :: rest) h' kc' ks' X) : jm_J M pc ls st0 h kc ks X := by
  subst hp
  rcases jf_L_inv hF with ⟨v, h', hr, hf⟩ | ⟨E, h', hr, hX⟩
  · exact jm_after (go _ hr) (Or.inl hal) ekc eks (fun v9 hv => by cases hv; exact K v h' hf) (fun E hE => nomatch hE)
  · exact jm_after (go _ hr) (Or.inl hal) ekc eks (fun v9 hv => nomatch hv) (fun E9 hE => by cases hE; exact jx_out hhh hco hX)
theorem jj_cD {f : UInt64 → jm_H → Option jm_X} (go : ∀ X', r = some X' → jm_Go M N pc st0 rest h kc ks X') (hal : jm_al N = false) (hhh : jm_hh M = []) (ekc : kc + jm_mc N = kc') (eks : ks + jm_ms N = ks') (hco : kc' ≤ jm_mc M ∧ ks' ≤ jm_ms M) (hp : pc + 3 = pc') (hF : jf_D r f = some X) (K : ∀ v h', f v h' = some X → jm_J M pc' ls (.double v :: rest) h' kc' ks' X) : jm_J M pc ls st0 h kc ks X := by
  subst hp
  rcases jf_D_inv hF with ⟨v, h', hr, hf⟩ | ⟨E, h', hr, hX⟩
  · exact jm_after (go _ hr) (Or.inl hal) ekc eks (fun v9 hv => by cases hv; exact K v h' hf) (fun E hE => nomatch hE)
  · exact jm_after (go _ hr) (Or.inl hal) ekc eks (fun v9 hv => nomatch hv) (fun E9 hE => by cases hE; exact jx_out hhh hco hX)
theorem jj_cV {f : jm_H → Option jm_X} (go : ∀ X', r = some X' → jm_Go M N pc st0 rest h kc ks X') (hal : jm_al N = false) (hhh : jm_hh M = []) (ekc : kc + jm_mc N = kc') (eks : ks + jm_ms N = ks') (hco : kc' ≤ jm_mc M ∧ ks' ≤ jm_ms M) (hp : pc + 3 = pc') (hF : jf_V r f = some X) (K : ∀ h', f h' = some X → jm_J M pc' ls rest h' kc' ks' X) : jm_J M pc ls st0 h kc ks X := by
  subst hp
  rcases jf_V_inv hF with ⟨h', hr, hf⟩ | ⟨E, h', hr, hX⟩
  · exact jm_after (go _ hr) (Or.inl hal) ekc eks (fun v9 hv => by cases hv; exact K h' hf) (fun E hE => nomatch hE)
  · exact jm_after (go _ hr) (Or.inl hal) ekc eks (fun v9 hv => nomatch hv) (fun E9 hE => by cases hE; exact jx_out hhh hco hX)
/-- a method that never throws: F hands its value on, or nothing -/
def jf_cI (r : Option jm_X) (f : Int32 → jm_H → Option jm_X) : Option jm_X := match r with
  | some (.inl (some (.int v)), h) => f v h
  | _ => none
def jf_cV (r : Option jm_X) (f : jm_H → Option jm_X) : Option jm_X := match r with
  | some (.inl none, h) => f h
  | _ => none
theorem jf_cI_inv {r : Option jm_X} {f : Int32 → jm_H → Option jm_X} {X : jm_X} (hF : jf_cI r f = some X) : ∃ v h', r = some (.inl (some (.int v)), h') ∧ f v h' = some X := by
  unfold jf_cI at hF
  split at hF
  · exact ⟨_, _, rfl, hF⟩
  · cases hF
theorem jf_cV_inv {r : Option jm_X} {f : jm_H → Option jm_X} {X : jm_X} (hF : jf_cV r f = some X) : ∃ h', r = some (.inl none, h') ∧ f h' = some X := by
  unfold jf_cV at hF
  split at hF
  · exact ⟨_, rfl, hF⟩
  · cases hF
/-- a static nest mate of an int -/
theorem jj_nS {f : Int32 → jm_H → Option jm_X} {host : String} (cf : jm_cfN (jm_ow M) idx N host n (.static (jm_y N))) (hd : decode (jm_by M) pc = .ok (.invokestatic idx, 3)) (hn : as.length = n) (hst : as.reverse ++ rest = st0) (hro : jm_ro M N) (hco : jm_co M N kc ks) (h8 : (rest.map fun v => v.category).sum ≤ 8)
    (hK : ∀ X', r = some X' → jm_K N as h X') (hal : jm_al N = false) (ekc : kc + jm_mc N = kc') (eks : ks + jm_ms N = ks') (hp : pc + 3 = pc') (hF : jf_cI r f = some X) (K : ∀ v h', f v h' = some X → jm_J M pc' ls (.int v :: rest) h' kc' ks' X) : jm_J M pc ls st0 h kc ks X := by
  subst hp
  subst hst
  obtain ⟨v, h', hr, hf⟩ := jf_cI_inv hF
  exact jm_after (jm_goSN cf hd hn hro hco h8 (hK _ hr)) (Or.inl hal) ekc eks (fun v9 hv => by cases hv; exact K v h' hf) (fun E hE => nomatch hE)
/-- a constructor; lv: the live refs, which stay -/
theorem jj_ini {f : jm_H → Option jm_X} {o : Nat} {lv : List Nat} (cf : jm_cfI (jm_ow M) idx N n) (hd : decode (jm_by M) pc = .ok (.invokespecial idx, 3)) (hn : as.length = n) (hst : as.reverse ++ .ref o :: rest = st0) (hro : jm_ro M N) (hco : jm_co M N kc ks) (h8 : (rest.map fun v => v.category).sum ≤ 8)
    (hK : ∀ X', r = some X' → jm_K N (.ref o :: as) h X') (hal : jm_al M = true) (hl : (∀ q ∈ ls, ∀ a, q.2 = .ref a → a ∈ lv) ∧ (∀ v ∈ rest, ∀ a, v = .ref a → a ∈ lv)) (ekc : kc + jm_mc N = kc') (eks : ks + jm_ms N = ks') (hp : pc + 3 = pc') (hF : jf_lv h.length lv (jf_cV r f) = some X) (K : ∀ h', f h' = some X → jm_J M pc' ls rest h' kc' ks' X) : jm_J M pc ls st0 h kc ks X := by
  subst hp
  subst hst
  obtain ⟨hlv, hF⟩ := jf_lv_inv hF
  obtain ⟨h', hr, hf⟩ := jf_cV_inv hF
  exact jm_after (jm_goI cf hd hn hro hco h8 (hK _ hr)) (Or.inr ⟨fun q hq a ha => hlv a (hl.1 q hq a ha), fun v hv a ha => hlv a (hl.2 v hv a ha), hal⟩) ekc eks (fun v9 hv => by cases hv; exact K h' hf) (fun E hE => nomatch hE)
theorem jj_iniN {f : jm_H → Option jm_X} {o : Nat} {host : String} {lv : List Nat} (cf : jm_cfN (jm_ow M) idx N host n (.instanceMethod (jm_y N))) (hni : (jm_y N).name = "<init>") (crt : jm_rt N = none) (hd : decode (jm_by M) pc = .ok (.invokespecial idx, 3)) (hn : as.length = n) (hst : as.reverse ++ .ref o :: rest = st0) (hro : jm_ro M N) (hco : jm_co M N kc ks) (h8 : (rest.map fun v => v.category).sum ≤ 8)
    (hK : ∀ X', r = some X' → jm_K N (.ref o :: as) h X') (hal : jm_al M = true) (hl : (∀ q ∈ ls, ∀ a, q.2 = .ref a → a ∈ lv) ∧ (∀ v ∈ rest, ∀ a, v = .ref a → a ∈ lv)) (ekc : kc + jm_mc N = kc') (eks : ks + jm_ms N = ks') (hp : pc + 3 = pc') (hF : jf_lv h.length lv (jf_cV r f) = some X) (K : ∀ h', f h' = some X → jm_J M pc' ls rest h' kc' ks' X) : jm_J M pc ls st0 h kc ks X := by
  subst hp
  subst hst
  obtain ⟨hlv, hF⟩ := jf_lv_inv hF
  obtain ⟨h', hr, hf⟩ := jf_cV_inv hF
  exact jm_after (jm_goIN cf hni crt hd hn hro hco h8 (hK _ hr)) (Or.inr ⟨fun q hq a ha => hlv a (hl.1 q hq a ha), fun v hv a ha => hlv a (hl.2 v hv a ha), hal⟩) ekc eks (fun v9 hv => by cases hv; exact K h' hf) (fun E hE => nomatch hE)
/-- calls under a table of handlers -/
theorem jj_tI {f : Int32 → jm_H → Option jm_X} {g : String → jm_H → Option jm_X} (go : ∀ X', r = some X' → jm_Go M N pc st0 rest h kc ks X') (hal : jm_al N = false) (ekc : kc + jm_mc N = kc') (eks : ks + jm_ms N = ks') (hp : pc + 3 = pc') (hF : jf_TI r f g = some X) (Kx : ∀ E h', g E h' = some X → jm_JX M pc E ls h' kc' ks' X) (K : ∀ v h', f v h' = some X → jm_J M pc' ls (.int v :: rest) h' kc' ks' X) : jm_J M pc ls st0 h kc ks X := by
  subst hp
  rcases jf_TI_inv hF with ⟨v, h', hr, hf⟩ | ⟨E, h', hr, hX⟩
  · exact jm_after (go _ hr) (Or.inl hal) ekc eks (fun v9 hv => by cases hv; exact K v h' hf) (fun E hE => nomatch hE)
  · exact jm_after (go _ hr) (Or.inl hal) ekc eks (fun v9 hv => nomatch hv) (fun E9 hE => by cases hE; exact Kx E h' hX)
theorem jj_tD {f : UInt64 → jm_H → Option jm_X} {g : String → jm_H → Option jm_X} (go : ∀ X', r = some X' → jm_Go M N pc st0 rest h kc ks X') (hal : jm_al N = false) (ekc : kc + jm_mc N = kc') (eks : ks + jm_ms N = ks') (hp : pc + 3 = pc') (hF : jf_TD r f g = some X) (Kx : ∀ E h', g E h' = some X → jm_JX M pc E ls h' kc' ks' X) (K : ∀ v h', f v h' = some X → jm_J M pc' ls (.double v :: rest) h' kc' ks' X) : jm_J M pc ls st0 h kc ks X := by
  subst hp
  rcases jf_TD_inv hF with ⟨v, h', hr, hf⟩ | ⟨E, h', hr, hX⟩
  · exact jm_after (go _ hr) (Or.inl hal) ekc eks (fun v9 hv => by cases hv; exact K v h' hf) (fun E hE => nomatch hE)
  · exact jm_after (go _ hr) (Or.inl hal) ekc eks (fun v9 hv => nomatch hv) (fun E9 hE => by cases hE; exact Kx E h' hX)
/-- a handler, whose first row puts the thrown one away -/
theorem jx_h {E : String} {i len pc2 : Nat} {ls' : List (Nat × Value)} (pre suf : List ExceptionTableEntry) (x : ExceptionTableEntry) (ig : Instr) (hhh : jm_hh M ≠ []) (hsplit : tableOf (jm_hh M) = pre ++ x :: suf)
    (hpass : ∀ z ∈ pre, z.catchType ≠ 0 ∧ ∃ nm : String, Cond.classLink (jm_ow M) z.catchType nm ∈ jm_WS ∧ nm ∈ jm_thrs ∧ E ≠ nm) (hx : covers x pc = true) (h0 : x.catchType ≠ 0) (hlink : Cond.classLink (jm_ow M) x.catchType E ∈ jm_WS) (hE : E ∈ jm_thrs)
    (hd : decode (jm_by M) x.handlerPc = .ok (ig, len)) (hig : (∃ k : Fin 4, ig = .astore_n k ∧ (k : Nat) = i ∧ len = 1) ∨ (ig = .astore i ∧ len = 2)) (hn : i < jm_nL M) (hl : ls.filter (fun q => !(q.1 == i) && !(q.1 + 1 == i && q.2.category == 2)) = ls') (hp : x.handlerPc + len = pc2) (K : jm_J M pc2 ls' [] h kc ks X) : jm_JX M pc E ls h kc ks X := by
  subst hp
  intro p l e R s m args below meth c N0 dC dI dA ad0 n0 Q Cx ad H locs lsA rest' q ce hy hq hv hcl
  obtain ⟨hx9, hb, hml, hown, hts, hlk, htb, hin, hl9, hsf, -⟩ := id Cx
  refine vx_catch (ls := lsA) hown pre x suf (by rw [htb.2 hhh]; exact hsplit) (fun z hz => Or.inr ?_) hx h0 (hts _ hlink) (va_Nw.use rfl (hsf.2.2.2.2.2.1 E hE)) hq hv hcl ?_
  · obtain ⟨z0, nm, z1, z2, z3⟩ := hpass z hz
    exact ⟨z0, nm, hts _ z1, hsf.2.2.2.2.2.2.1 E hE nm z2 z3⟩
  · have hfl : (jm_L ad ls).filter (fun q => !(q.1 == i) && !(q.1 + 1 == i && q.2.category == 2)) = jm_L ad ls' := by
      rw [← hl]
      exact (jm_filt ad (fun a b => !(a == i) && !(a + 1 == i && b == 2)) ls).symm
    have hK : ∀ lsA' : Array Slot, lv_has lsA' (jm_nL M) ((i, .ref q) :: jm_L ad ls') → W p l e R s m args below meth c H locs kc ks Q (F0 m (x.handlerPc + len) lsA' []) := fun lsA' hA' =>
      K p l e R s m args below meth c N0 dC dI dA ad0 n0 Q Cx ad H locs lsA' (jm_lens hy ⟨hA'.1, hA'.2.1, fun z hz => hA'.2.2 z (List.mem_cons_of_mem _ hz)⟩)
    rcases hig with ⟨k, rfl, hk, rfl⟩ | ⟨rfl, rfl⟩
    · exact lv_astore_n (lv' := (i, .ref q) :: jm_L ad ls') hx9 hb hd hk hy.2.2.2.2 hn (by rw [hfl]) hK
    · exact lv_astore (lv' := (i, .ref q) :: jm_L ad ls') hx9 hb hd hy.2.2.2.2 hn (by rw [hfl]) hK
end JG2
/-! what is new -/
noncomputable def jf_nw (c : jm_C) (h : jm_H) (lv : List Nat) (f : Nat → jm_H → Option jm_X) : Option jm_X := @ite _ (jm_ok h.length h ∧ (∀ r ∈ lv, r ≠ h.length) ∧ h.length < 1000000) (Classical.propDecidable _) (f h.length (h ++ [c])) none
theorem jf_nw_inv {c : jm_C} {h : jm_H} {lv : List Nat} {f : Nat → jm_H → Option jm_X} {X : jm_X} (hF : jf_nw c h lv f = some X) : (jm_ok h.length h ∧ (∀ r ∈ lv, r ≠ h.length) ∧ h.length < 1000000) ∧ f h.length (h ++ [c]) = some X := by
  unfold jf_nw at hF
  by_cases hc : jm_ok h.length h ∧ (∀ r ∈ lv, r ≠ h.length) ∧ h.length < 1000000
  · rw [if_pos hc] at hF; exact ⟨hc, hF⟩
  · rw [if_neg hc] at hF; cases hF
theorem jf_nw_eq {c : jm_C} {h : jm_H} {lv : List Nat} {f : Nat → jm_H → Option jm_X} (h1 : jm_ok h.length h) (h2 : ∀ r ∈ lv, r ≠ h.length) (h3 : h.length < 1000000) : jf_nw c h lv f = f h.length (h ++ [c]) := by
  unfold jf_nw; rw [if_pos ⟨h1, h2, h3⟩]
section JN
variable {M : jm_M} {pc pc' : Nat} {ls : List (Nat × Value)} {st : List Value} {h : jm_H} {kc ks kc' ks' : Nat} {X : jm_X}
theorem jm_Hnew {s : State} {N0 : Nat} {dC : Nat → ClassId} {dI : Nat → Nat → Nat} {dA ad0 : Nat → Nat} {n0 q : Nat} {c : jm_C} {lv : List Nat} {ad : Nat → Nat} {H H1 : Heap} {locs locs1 : List Loc} {lsA : Array Slot} (hal : jm_al M = true) (hy : jm_Hy M s N0 dC dI dA ad0 n0 ls h ad H locs lsA) (hw : jm_ok h.length h ∧ (∀ r ∈ lv, r ≠ h.length) ∧ h.length < 1000000) (hc : jm_okC h.length c) (hl : (∀ q ∈ ls, ∀ a, q.2 = .ref a → a ∈ lv) ∧ (∀ v ∈ st, ∀ a, v = .ref a → a ∈ lv))
    (hP : va_P (dC, dI) vwCl (jm_W dA ad h ++ [(q, jm_E dA ad c)]) H1) (hD : va_D (jm_N N0) (jm_W dA ad h ++ [(q, jm_E dA ad c)])) (hS : va_S (jm_N N0) s.heap H1 locs1) :
    jm_Hy M s N0 dC dI dA ad0 n0 ls (h ++ [c]) (va_up ad h.length q) H1 locs1 lsA ∧ st.map (jm_V (va_up ad h.length q)) = st.map (jm_V ad) := by
  rw [← jm_push hw.1 hc] at hP hD
  refine ⟨⟨⟨fun hf => by (rw [hal] at hf; cases hf), fun k hk => ?_⟩, ?_, ⟨hP, hD⟩, hS, ?_⟩, jm_st_up (fun v hv hr => hw.2.1 _ (hl.2 v hv _ hr) rfl)⟩
  · rw [← hy.1.2 k hk]
    have hne : k ≠ h.length := by
      rcases hk with hk | hk
      · exact Nat.ne_of_lt (Nat.lt_of_lt_of_le hk hy.2.1)
      · have := hw.2.2; omega
    simp [va_up, hne]
  · rw [List.length_append]; exact Nat.le_trans hy.2.1 (Nat.le_add_right _ _)
  · rw [jm_L_up (fun x hx hr => hw.2.1 _ (hl.1 x hx _ hr) rfl)]
    exact hy.2.2.2.2
theorem jj_new {C : String} {T : u_T} {N ci idx : Nat} {fs : List Value} {f : Nat → jm_H → Option jm_X} {ty : Nat → FieldType} {lv : List Nat} (hd : decode (jm_by M) pc = .ok (.new idx, 3)) (hp : pc + 3 = pc') (hc : vwCl[ci]? = some (C, T, N)) (hin : ∀ w ∈ u_ws C T N, w ∈ jm_WS) (hty : ∀ k, k < N → parseFieldDescriptor (T k).2.2.1 = some (ty k)) (hw : Cond.classLink (jm_ow M) idx C ∈ jm_WS ∧ Cond.instantiable C N ∈ jm_WS ∧ Cond.initialized C ∈ jm_WS)
    (hfs : ∀ j, j < N → defaultValue (ty j) = vp_V fs j) (hfr : ∀ v ∈ fs, ∀ n, v ≠ .ref n) (hal : jm_al M = true) (hl : (∀ q ∈ ls, ∀ a, q.2 = .ref a → a ∈ lv) ∧ (∀ v ∈ st, ∀ a, v = .ref a → a ∈ lv)) (ekc : kc + 1 = kc') (eks : ks + N = ks') (hco : kc' ≤ jm_mc M ∧ ks' ≤ jm_ms M)
    (hF : jf_nw (.inr (ci, fs)) h lv f = some X) (K : ∀ o h', f o h' = some X → jm_J M pc' ls (.ref o :: st) h' kc' ks' X) : jm_J M pc ls st h kc ks X := by
  subst hp
  subst ekc
  subst eks
  obtain ⟨hw9, hF⟩ := jf_nw_inv hF
  intro p l e R s m args below meth c N0 dC dI dA ad0 n0 Q Cx ad H locs lsA hy
  obtain ⟨hx, hb, hml, hown, hts, hlk, htb, hin', hl', hsf, hR, -⟩ := id Cx
  have hfs0 : fs.map (jm_V ad) = fs := by
    rw [List.map_congr_left (g := id) (fun v hv => by cases v <;> first | rfl | exact absurd rfl (hfr _ hv _))]
    exact List.map_id fs
  refine va_new (D := (dC, dI)) (ci := ci) (fs := fs) (A := jm_N N0) (H0 := s.heap) hx hb hts hin ty hty hown (hts _ hw.1) (hts _ hw.2.1) (hts _ hw.2.2) hsf.2.1 hy.2.2.1.1 hy.2.2.1.2 hy.2.2.2.1 (fun q hq => Nat.le_trans hsf.1 hq) hc hfs (Nat.le_trans hco.1 hR.2.2.1) (Nat.le_trans hco.2 hR.2.2.2) hd (fun q H1 hP hD hS => ?_)
  have hE : jm_E dA ad (.inr (ci, fs)) = (.inr (ci, fs) : va_E) := by show (Sum.inr (ci, fs.map (jm_V ad)) : va_E) = _; rw [hfs0]
  rw [← hE] at hP hD
  obtain ⟨hy', hst⟩ := jm_Hnew (st := st) (lv := lv) (c := .inr (ci, fs)) hal hy hw9 (show ∀ v ∈ fs, jm_okV h.length v from fun v hv hr => hfr v hv _ hr) hl hP hD hS
  have := K _ _ hF p l e R s m args below meth c N0 dC dI dA ad0 n0 Q Cx _ H1 locs lsA hy'
  rw [List.map_cons, hst] at this
  have hq : jm_V (va_up ad h.length q) (.ref h.length) = .ref q := by simp [jm_V, va_up]
  rw [hq] at this
  exact this
theorem jm_cls {dC : Nat → ClassId} {dI : Nat → Nat → Nat} {dA : Nat → Nat} {s : State} {t cA : Nat} {ty : FieldType} (hK : va_K (dC, dI) vwCl (jm_ty dA) s) (ht : (jm_ty dA)[t]? = some (dA t, ty)) (hK2 : va_K (dC, dI) vwCl (jm_ty dA ++ [(cA, ty)]) s) : cA = dA t := by
  have h1 := (hK.2 t _ ht).2
  have h2 := (hK2.2 4 (cA, ty) rfl).2
  cases ty with
  | object C =>
    obtain ⟨_, _, _, _, _, e1⟩ := h1
    obtain ⟨_, _, _, _, _, e2⟩ := h2
    exact Option.some.inj (e2.symm.trans e1)
  | _ => exact Option.some.inj (Eq.trans (Eq.symm h2) h1)
theorem jj_na {atype : ArrayType} {ty : FieldType} {t n : Nat} {N : Int32} {a0 : vp_A} {f : Nat → jm_H → Option jm_X} {lv : List Nat} (hd : decode (jm_by M) pc = .ok (.newarray atype, 2)) (hp : pc + 2 = pc') (hty : newarray.typeOf atype = ty) (hw : Cond.arrayClass (newarray.typeOf atype) ∈ jm_WS) (ht : ∀ dA : Nat → Nat, (jm_ty dA)[t]? = some (dA t, ty)) (ha : ∀ cA : ClassId, vp_cell cA a0 = arrV cA n (fun _ => defaultValue ty)) (ha1 : (∀ ad : Nat → Nat, jm_A ad a0 = a0) ∧ ∀ m : Nat, jm_okC m (.inl (t, a0)))
    (hn : ¬ N < 0 ∧ N.toNatClampNeg = n ∧ n * componentBytes ty ≤ 536870912) (hal : jm_al M = true) (hl : (∀ q ∈ ls, ∀ a, q.2 = .ref a → a ∈ lv) ∧ (∀ v ∈ st, ∀ a, v = .ref a → a ∈ lv)) (ekc : kc + 1 = kc') (eks : ks + n = ks') (hco : kc' ≤ jm_mc M ∧ ks' ≤ jm_ms M)
    (hF : jf_nw (.inl (t, a0)) h lv f = some X) (K : ∀ o h', f o h' = some X → jm_J M pc' ls (.ref o :: st) h' kc' ks' X) : jm_J M pc ls (.int N :: st) h kc ks X := by
  subst hp
  subst ekc
  subst eks
  obtain ⟨hw9, hF⟩ := jf_nw_inv hF
  intro p l e R s m args below meth c N0 dC dI dA ad0 n0 Q Cx ad H locs lsA hy
  obtain ⟨hx, hb, hml, hown, hts, hlk, htb, hin', hl', hsf, hR, -⟩ := id Cx
  refine va_newa (D := (dC, dI)) (A := jm_N N0) (H0 := s.heap) (a0 := a0) (tys := jm_ty dA) hx hb (hts _ hw) hty hsf.2.1 hy.2.2.1.1 hy.2.2.1.2 hy.2.2.2.1 (fun q hq => Nat.le_trans hsf.1 hq) ha hn.1 hn.2.1 hn.2.2 (Nat.le_trans hco.1 hR.2.2.1) (Nat.le_trans hco.2 hR.2.2.2) hd (fun q cA H1 hK2 hP hD hS => ?_)
  have hcA := jm_cls hsf.2.1 (ht dA) hK2
  subst hcA
  have hE : jm_E dA ad (.inl (t, a0)) = (.inl (dA t, a0) : va_E) := by show (Sum.inl (dA t, jm_A ad a0) : va_E) = _; rw [ha1.1]
  rw [← hE] at hP hD
  obtain ⟨hy', hst⟩ := jm_Hnew (st := st) (lv := lv) hal hy hw9 (ha1.2 _) hl hP hD hS
  have := K _ _ hF p l e R s m args below meth c N0 dC dI dA ad0 n0 Q Cx _ H1 locs lsA hy'
  rw [List.map_cons, hst] at this
  have hq : jm_V (va_up ad h.length q) (.ref h.length) = .ref q := by simp [jm_V, va_up]
  rw [hq] at this
  exact this
theorem jj_nq {idx n : Nat} {N : Int32} {f : Nat → jm_H → Option jm_X} {lv : List Nat} (hd : decode (jm_by M) pc = .ok (.anewarray idx, 3)) (hp : pc + 3 = pc') (hw : Cond.classLink (jm_ow M) idx "ReelScreens$Festival" ∈ jm_WS)
    (hn : ¬ N < 0 ∧ N.toNatClampNeg = n ∧ n * 4 ≤ 536870912) (hal : jm_al M = true) (hl : (∀ q ∈ ls, ∀ a, q.2 = .ref a → a ∈ lv) ∧ (∀ v ∈ st, ∀ a, v = .ref a → a ∈ lv)) (ekc : kc + 1 = kc') (eks : ks + n = ks') (hco : kc' ≤ jm_mc M ∧ ks' ≤ jm_ms M)
    (hF : jf_nw (.inl (3, (n, .inr (.inr (.inr (.inr (fun _ => none))))))) h lv f = some X) (K : ∀ o h', f o h' = some X → jm_J M pc' ls (.ref o :: st) h' kc' ks' X) : jm_J M pc ls (.int N :: st) h kc ks X := by
  subst hp
  subst ekc
  subst eks
  obtain ⟨hw9, hF⟩ := jf_nw_inv hF
  intro p l e R s m args below meth c N0 dC dI dA ad0 n0 Q Cx ad H locs lsA hy
  obtain ⟨hx, hb, hml, hown, hts, hlk, htb, hin', hl', hsf, hR, -⟩ := id Cx
  refine va_newq (D := (dC, dI)) (A := jm_N N0) (H0 := s.heap) (tys := jm_ty dA) hx hb hown (hts _ hw) hsf.2.2.2.2.1.1 hsf.2.1 hy.2.2.1.1 hy.2.2.1.2 hy.2.2.2.1 (fun q hq => Nat.le_trans hsf.1 hq) hn.1 hn.2.1 hn.2.2 (Nat.le_trans hco.1 hR.2.2.1) (Nat.le_trans hco.2 hR.2.2.2) hd (fun q cA H1 hK2 hP hD hS => ?_)
  have hcA := jm_cls (t := 3) hsf.2.1 rfl hK2
  subst hcA
  have hE : jm_E dA ad (.inl (3, (n, .inr (.inr (.inr (.inr (fun _ => none))))))) = (.inl (dA 3, (n, .inr (.inr (.inr (.inr (fun _ => none)))))) : va_E) := rfl
  rw [← hE] at hP hD
  obtain ⟨hy', hst⟩ := jm_Hnew (st := st) (lv := lv) (c := .inl (3, (n, .inr (.inr (.inr (.inr (fun _ => none))))))) hal hy hw9 (show ∀ j : Nat, (none : Option Nat) ≠ some h.length from fun j => nofun) hl hP hD hS
  have := K _ _ hF p l e R s m args below meth c N0 dC dI dA ad0 n0 Q Cx _ H1 locs lsA hy'
  rw [List.map_cons, hst] at this
  have hq : jm_V (va_up ad h.length q) (.ref h.length) = .ref q := by simp [jm_V, va_up]
  rw [hq] at this
  exact this
theorem jj_obj {idx o : Nat} (hd : decode (jm_by M) pc = .ok (.invokespecial idx, 3)) (hp : pc + 3 = pc') (hw : Cond.methodLink (jm_ow M) idx objectInit ∈ jm_WS ∧ Cond.instanceMethod objectInit ∈ jm_WS ∧ Cond.code objectInit ⟨#[0xb1]⟩ 1 none ∈ jm_WS) (hro : 1 ≤ jm_fr M ∧ (st.map fun v => v.category).sum + 12 ≤ jm_lo M) (k : jm_J M pc' ls st h kc ks X) : jm_J M pc ls (.ref o :: st) h kc ks X := by
  subst hp
  intro p l e R s m args below meth c N0 dC dI dA ad0 n0 Q Cx ad H locs lsA hy
  obtain ⟨hx, hb, hml, hown, hts, hlk, htb, hin', hl', hsf, hR, -⟩ := id Cx
  refine W.objInit hx hb hown (hts _ hw.1) (hts _ hw.2.1) (hts _ hw.2.2) rfl (by rw [hml]; exact hy.2.2.2.2.1) rfl hd (Nat.le_trans hro.1 hR.1) ?_ ?_
  · show 2 * 0 + ((st.map (jm_V ad)).map fun v => v.category).sum + 12 ≤ R.locals
    rw [jm_sum]
    have := Nat.le_trans hro.2 hR.2.1
    omega
  · exact k p l e R s m args below meth c N0 dC dI dA ad0 n0 Q Cx ad H locs lsA hy
theorem jj_max {idx : Nat} {x y : Int32} (hd : decode (jm_by M) pc = .ok (.invokestatic idx, 3)) (hp : pc + 3 = pc') (hw : Cond.methodLink (jm_ow M) idx Lib.Math.max.name ∈ jm_WS ∧ Cond.static Lib.Math.max.name ∈ jm_WS ∧ Cond.initialized "java/lang/Math" ∈ jm_WS ∧ Cond.code Lib.Math.max.name Lib.Math.max.code 2 (some .int) ∈ jm_WS) (hro : 1 ≤ jm_fr M ∧ (st.map fun v => v.category).sum + 13 ≤ jm_lo M) (hco : kc ≤ jm_mc M ∧ ks ≤ jm_ms M) (k : jm_J M pc' ls (.int (if x < y then y else x) :: st) h kc ks X) : jm_J M pc ls (.int y :: .int x :: st) h kc ks X := by
  subst hp
  intro p l e R s m args below meth c N0 dC dI dA ad0 n0 Q Cx ad H locs lsA hy
  obtain ⟨hx, hb, hml, hown, hts, hlk, htb, hin', hl', hsf, hR, -⟩ := id Cx
  exact va_mmax hx hb (by rw [hml]; exact hy.2.2.2.2.1.symm) hown (hts _ hw.1) (hts _ hw.2.1) (hts _ hw.2.2.1) (hts _ hw.2.2.2) (Nat.le_trans hro.1 hR.1) (by rw [jm_sum]; exact Nat.le_trans hro.2 hR.2.1) (Nat.le_trans hco.1 hR.2.2.1) (Nat.le_trans hco.2 hR.2.2.2) hd (k p l e R s m args below meth c N0 dC dI dA ad0 n0 Q Cx ad H locs lsA hy)
theorem jj_raw {idx : Nat} {b : UInt64} (hd : decode (jm_by M) pc = .ok (.invokestatic idx, 3)) (hp : pc + 3 = pc') (hw : Cond.methodLink (jm_ow M) idx ⟨"java/lang/Double", "doubleToRawLongBits", "(D)J"⟩ ∈ jm_WS ∧ Cond.native ⟨"java/lang/Double", "doubleToRawLongBits", "(D)J"⟩ ∈ jm_WS ∧ Cond.static ⟨"java/lang/Double", "doubleToRawLongBits", "(D)J"⟩ ∈ jm_WS ∧ Cond.initialized "java/lang/Double" ∈ jm_WS) (hro : 1 ≤ jm_fr M ∧ (st.map fun v => v.category).sum + 15 ≤ jm_lo M) (k : jm_J M pc' ls (.long b.toInt64 :: st) h kc ks X) : jm_J M pc ls (.double b :: st) h kc ks X := by
  subst hp
  intro p l e R s m args below meth c N0 dC dI dA ad0 n0 Q Cx ad H locs lsA hy
  obtain ⟨hx, hb, hml, hown, hts, hlk, htb, hin', hl', hsf, hR, -⟩ := id Cx
  exact vn_d2l hx hb (by rw [hml]; exact hy.2.2.2.2.1.symm) hown (hts _ hw.1) (hts _ hw.2.1) (hts _ hw.2.2.1) (hts _ hw.2.2.2) (Nat.le_trans hro.1 hR.1) (by rw [jm_sum]; exact Nat.le_trans hro.2 hR.2.1) hd (k p l e R s m args below meth c N0 dC dI dA ad0 n0 Q Cx ad H locs lsA hy)
def jf_cp (h : jm_H) (a : Nat) (sp : Int32) (b : Nat) (dp n : Int32) (g : jm_H → Option jm_X) : Option jm_X := match h[a]?, h[b]? with
  | some (.inl (0, (n0, .inl f))), some (.inl (0, (n1, .inl f1))) => if sp < 0 ∨ dp < 0 ∨ n < 0 ∨ ¬ sp.toNatClampNeg + n.toNatClampNeg ≤ n0 ∨ ¬ dp.toNatClampNeg + n.toNatClampNeg ≤ n1 then none else g (h.set b (.inl (0, (n1, .inl (va_cpy f f1 sp.toNatClampNeg dp.toNatClampNeg n.toNatClampNeg)))))
  | _, _ => none
theorem jj_cp {idx a b : Nat} {sp dp n : Int32} {g : jm_H → Option jm_X} (hd : decode (jm_by M) pc = .ok (.invokestatic idx, 3)) (hp : pc + 3 = pc') (hw : Cond.methodLink (jm_ow M) idx arraycopyName ∈ jm_WS ∧ Cond.native arraycopyName ∈ jm_WS ∧ Cond.static arraycopyName ∈ jm_WS ∧ Cond.initialized "java/lang/System" ∈ jm_WS) (hro : 1 ≤ jm_fr M ∧ (st.map fun v => v.category).sum + (nativeFrameWords "java/lang/System" "arraycopy" 5 + 11) ≤ jm_lo M) (hF : jf_cp h a sp b dp n g = some X) (K : ∀ h', g h' = some X → jm_J M pc' ls st h' kc ks X) : jm_J M pc ls (.int n :: .int dp :: .ref b :: .int sp :: .ref a :: st) h kc ks X := by
  subst hp
  intro p l e R s m args below meth c N0 dC dI dA ad0 n0 Q Cx ad H locs lsA hy
  obtain ⟨hx, hb, hml, hown, hts, hlk, htb, hin', hl', hsf, hR, -⟩ := id Cx
  unfold jf_cp at hF
  split at hF
  · next n0' f n1 f1 ha hb' =>
    split at hF
    · cases hF
    · next hc =>
      simp only [not_or, Classical.not_not] at hc
      obtain ⟨c1, c2, c3, c4, c5⟩ := hc
      exact va_copyi (D := (dC, dI)) (A := jm_N N0) (H0 := s.heap) (ty := .int) hx hb (by rw [hml]; exact hy.2.2.2.2.1.symm) hown (hts _ hw.1) (hts _ hw.2.1) (hts _ hw.2.2.1) (hts _ hw.2.2.2) hsf.2.1 hy.2.2.1.1 hy.2.2.1.2 hy.2.2.2.1 a b 0 0 (jm_get ha) (jm_get hb') rfl rfl rfl c1 c2 c3 c4 c5 (fun _ _ => rfl) (Nat.le_trans hro.1 hR.1) (by rw [jm_sum]; exact Nat.le_trans hro.2 hR.2.1) hd (fun H1 locs1 hP hD hS => K _ hF p l e R s m args below meth c N0 dC dI dA ad0 n0 Q Cx ad H1 locs1 lsA (jm_Hset hy rfl hP hD hS))
  · cases hF
end JN
