/-! the heap's rows for jm_J: fields, arrays, what is new -/
def jf_gI (ci : Nat) (h : jm_H) (o k : Nat) (f : Int32 → Option jm_X) : Option jm_X := match h[o]? with
  | some (.inr (c, fs)) => if c = ci then (match fs[k]? with | some (.int v) => f v | _ => none) else none
  | _ => none
def jf_gL (ci : Nat) (h : jm_H) (o k : Nat) (f : Int64 → Option jm_X) : Option jm_X := match h[o]? with
  | some (.inr (c, fs)) => if c = ci then (match fs[k]? with | some (.long v) => f v | _ => none) else none
  | _ => none
def jf_gR (ci : Nat) (h : jm_H) (o k : Nat) (f : Nat → Option jm_X) : Option jm_X := match h[o]? with
  | some (.inr (c, fs)) => if c = ci then (match fs[k]? with | some (.ref v) => f v | _ => none) else none
  | _ => none
def jf_p (ci : Nat) (h : jm_H) (o k : Nat) (v : Value) (f : jm_H → Option jm_X) : Option jm_X := match h[o]? with
  | some (.inr (c, fs)) => if c = ci ∧ k < fs.length then f (h.set o (.inr (ci, fs.set k v))) else none
  | _ => none
theorem jf_gI_inv {ci : Nat} {h : jm_H} {o k : Nat} {f : Int32 → Option jm_X} {X : jm_X} (hF : jf_gI ci h o k f = some X) : ∃ (fs : List Value) (v : Int32), h[o]? = some (.inr (ci, fs)) ∧ fs[k]? = some (.int v) ∧ f v = some X := by
  unfold jf_gI at hF
  split at hF
  · next c fs hh =>
    split at hF
    · next hc =>
      subst hc
      split at hF
      · next v hv => exact ⟨fs, v, hh, hv, hF⟩
      · cases hF
    · cases hF
  · cases hF
theorem jf_gL_inv {ci : Nat} {h : jm_H} {o k : Nat} {f : Int64 → Option jm_X} {X : jm_X} (hF : jf_gL ci h o k f = some X) : ∃ (fs : List Value) (v : Int64), h[o]? = some (.inr (ci, fs)) ∧ fs[k]? = some (.long v) ∧ f v = some X := by
  unfold jf_gL at hF
  split at hF
  · next c fs hh =>
    split at hF
    · next hc =>
      subst hc
      split at hF
      · next v hv => exact ⟨fs, v, hh, hv, hF⟩
      · cases hF
    · cases hF
  · cases hF
theorem jf_gR_inv {ci : Nat} {h : jm_H} {o k : Nat} {f : Nat → Option jm_X} {X : jm_X} (hF : jf_gR ci h o k f = some X) : ∃ (fs : List Value) (v : Nat), h[o]? = some (.inr (ci, fs)) ∧ fs[k]? = some (.ref v) ∧ f v = some X := by
  unfold jf_gR at hF
  split at hF
  · next c fs hh =>
    split at hF
    · next hc =>
      subst hc
      split at hF
      · next v hv => exact ⟨fs, v, hh, hv, hF⟩
      · cases hF
    · cases hF
  · cases hF
theorem jf_p_inv {ci : Nat} {h : jm_H} {o k : Nat} {v : Value} {f : jm_H → Option jm_X} {X : jm_X} (hF : jf_p ci h o k v f = some X) : ∃ (fs : List Value), h[o]? = some (.inr (ci, fs)) ∧ k < fs.length ∧ f (h.set o (.inr (ci, fs.set k v))) = some X := by
  unfold jf_p at hF
  split at hF
  · next c fs hh =>
    split at hF
    · next hc =>
      obtain ⟨hc, hk⟩ := hc
      subst hc
      exact ⟨fs, hh, hk, hF⟩
    · cases hF
  · cases hF
section JHP
variable {M : jm_M} {pc pc' : Nat} {ls : List (Nat × Value)} {st : List Value} {h : jm_H} {kc ks : Nat} {X : jm_X}
theorem jj_g {C : String} {T : u_T} {N ci idx k o : Nat} {fs : List Value} {v : Value} (hd : decode (jm_by M) pc = .ok (.getfield idx, 3)) (hp : pc + 3 = pc') (hc : vwCl[ci]? = some (C, T, N)) (hin : ∀ w ∈ u_ws C T N, w ∈ jm_WS) (hk : k < N) (hw : Cond.fieldLink (jm_ow M) idx (T k).1 (T k).2.1 (T k).2.2.1 ∈ jm_WS)
    (hh : h[o]? = some (.inr (ci, fs))) (hv : fs[k]? = some v) (K : jm_J M pc' ls (v :: st) h kc ks X) : jm_J M pc ls (.ref o :: st) h kc ks X := by
  subst hp
  intro p l e R s m args below meth c N0 dC dI dA ad0 n0 Q Cx ad H locs lsA hy
  obtain ⟨hx, hb, hml, hown, hts, hlk, htb, hin', hl, hsf, -⟩ := id Cx
  exact va_get (D := (dC, dI)) (ci := ci) (v := jm_V ad v) hx hb hts hin hown hsf.2.1 hy.2.2.1.1 o (jm_get hh) hc k hk (hts _ hw) (fun _ h9 => h9) (by rw [List.getElem?_map, hv]; rfl) hd (K p l e R s m args below meth c N0 dC dI dA ad0 n0 Q Cx ad H locs lsA hy)
theorem jj_gI {C : String} {T : u_T} {N ci idx k o : Nat} {f : Int32 → Option jm_X} (hd : decode (jm_by M) pc = .ok (.getfield idx, 3)) (hp : pc + 3 = pc') (hc : vwCl[ci]? = some (C, T, N)) (hin : ∀ w ∈ u_ws C T N, w ∈ jm_WS) (hk : k < N) (hw : Cond.fieldLink (jm_ow M) idx (T k).1 (T k).2.1 (T k).2.2.1 ∈ jm_WS)
    (hF : jf_gI ci h o k f = some X) (K : ∀ v : Int32, f v = some X → jm_J M pc' ls (.int v :: st) h kc ks X) : jm_J M pc ls (.ref o :: st) h kc ks X := by
  obtain ⟨fs, v, hh, hv, hF⟩ := jf_gI_inv hF
  exact jj_g hd hp hc hin hk hw hh hv (K v hF)
theorem jj_gL {C : String} {T : u_T} {N ci idx k o : Nat} {f : Int64 → Option jm_X} (hd : decode (jm_by M) pc = .ok (.getfield idx, 3)) (hp : pc + 3 = pc') (hc : vwCl[ci]? = some (C, T, N)) (hin : ∀ w ∈ u_ws C T N, w ∈ jm_WS) (hk : k < N) (hw : Cond.fieldLink (jm_ow M) idx (T k).1 (T k).2.1 (T k).2.2.1 ∈ jm_WS)
    (hF : jf_gL ci h o k f = some X) (K : ∀ v : Int64, f v = some X → jm_J M pc' ls (.long v :: st) h kc ks X) : jm_J M pc ls (.ref o :: st) h kc ks X := by
  obtain ⟨fs, v, hh, hv, hF⟩ := jf_gL_inv hF
  exact jj_g hd hp hc hin hk hw hh hv (K v hF)
theorem jj_gR {C : String} {T : u_T} {N ci idx k o : Nat} {f : Nat → Option jm_X} (hd : decode (jm_by M) pc = .ok (.getfield idx, 3)) (hp : pc + 3 = pc') (hc : vwCl[ci]? = some (C, T, N)) (hin : ∀ w ∈ u_ws C T N, w ∈ jm_WS) (hk : k < N) (hw : Cond.fieldLink (jm_ow M) idx (T k).1 (T k).2.1 (T k).2.2.1 ∈ jm_WS)
    (hF : jf_gR ci h o k f = some X) (K : ∀ v : Nat, f v = some X → jm_J M pc' ls (.ref v :: st) h kc ks X) : jm_J M pc ls (.ref o :: st) h kc ks X := by
  obtain ⟨fs, v, hh, hv, hF⟩ := jf_gR_inv hF
  exact jj_g hd hp hc hin hk hw hh hv (K v hF)
theorem jm_Hset {s : State} {N0 : Nat} {dC : Nat → ClassId} {dI : Nat → Nat → Nat} {dA ad0 : Nat → Nat} {n0 : Nat} {o : Nat} {e : va_E} {cl : jm_C} {ad : Nat → Nat} {H H1 : Heap} {locs locs1 : List Loc} {lsA : Array Slot} (hy : jm_Hy M s N0 dC dI dA ad0 n0 ls h ad H locs lsA) (he : jm_E dA ad cl = e)
    (hP : va_P (dC, dI) vwCl ((jm_W dA ad h).set o (ad o, e)) H1) (hD : va_D (jm_N N0) ((jm_W dA ad h).set o (ad o, e))) (hS : va_S (jm_N N0) s.heap H1 locs1) : jm_Hy M s N0 dC dI dA ad0 n0 ls (h.set o cl) ad H1 locs1 lsA := by
  subst he
  rw [← jm_set] at hP hD
  exact ⟨hy.1, by rw [List.length_set]; exact hy.2.1, ⟨hP, hD⟩, hS, hy.2.2.2.2⟩
theorem jj_p {C : String} {T : u_T} {N ci idx k o : Nat} {v : Value} {f : jm_H → Option jm_X} {ty : Nat → FieldType} (hd : decode (jm_by M) pc = .ok (.putfield idx, 3)) (hp : pc + 3 = pc') (hc : vwCl[ci]? = some (C, T, N)) (hin : ∀ w ∈ u_ws C T N, w ∈ jm_WS) (hty : ∀ k, k < N → parseFieldDescriptor (T k).2.2.1 = some (ty k)) (hnm : ∀ a, a < N → ∀ b, b < N → a ≠ b → (T a).2.1 ≠ (T b).2.1) (hk : k < N) (hw : Cond.fieldLink (jm_ow M) idx (T k).1 (T k).2.1 (T k).2.2.1 ∈ jm_WS)
    (hfi : (T k).2.2.2 = false) (hn : ∀ ad : Nat → Nat, narrow (ty k) (jm_V ad v) = jm_V ad v ∧ fits (ty k) (jm_V ad v) = true) (hF : jf_p ci h o k v f = some X) (K : ∀ h', f h' = some X → jm_J M pc' ls st h' kc ks X) : jm_J M pc ls (v :: .ref o :: st) h kc ks X := by
  obtain ⟨fs, hh, hl, hF⟩ := jf_p_inv hF
  subst hp
  intro p l e R s m args below meth c N0 dC dI dA ad0 n0 Q Cx ad H locs lsA hy
  obtain ⟨hx, hb, hml, hown, hts, hlk, htb, hin', hl', hsf, -⟩ := id Cx
  refine va_put (D := (dC, dI)) (ci := ci) (v := jm_V ad v) hx hb hts hin ty hty hnm hown hsf.2.1 hy.2.2.1.1 hy.2.2.1.2 hy.2.2.2.1 o (jm_get hh) hc k hk (hts _ hw) (fun _ h9 => h9) hfi (hty k hk) (hn ad).1 (hn ad).2 (by rw [List.length_map]; exact hl) hd (fun H1 locs1 hP hD hS => ?_)
  exact K _ hF p l e R s m args below meth c N0 dC dI dA ad0 n0 Q Cx ad H1 locs1 lsA (jm_Hset hy (by simp [jm_E, List.map_set]) hP hD hS)
theorem jj_pF {C : String} {T : u_T} {N ci idx k o : Nat} {v : Value} {f : jm_H → Option jm_X} {ty : Nat → FieldType} (hd : decode (jm_by M) pc = .ok (.putfield idx, 3)) (hp : pc + 3 = pc') (hc : vwCl[ci]? = some (C, T, N)) (hin : ∀ w ∈ u_ws C T N, w ∈ jm_WS) (hty : ∀ k, k < N → parseFieldDescriptor (T k).2.2.1 = some (ty k)) (hnm : ∀ a, a < N → ∀ b, b < N → a ≠ b → (T a).2.1 ≠ (T b).2.1) (hk : k < N) (hw : Cond.fieldLink (jm_ow M) idx (T k).1 (T k).2.1 (T k).2.2.1 ∈ jm_WS)
    (hfi : (T k).2.2.2 = true) (hni : (jm_y M).name = "<init>") (hdec : (T k).1 = jm_ow M) (hn : ∀ ad : Nat → Nat, narrow (ty k) (jm_V ad v) = jm_V ad v ∧ fits (ty k) (jm_V ad v) = true) (hF : jf_p ci h o k v f = some X) (K : ∀ h', f h' = some X → jm_J M pc' ls st h' kc ks X) : jm_J M pc ls (v :: .ref o :: st) h kc ks X := by
  obtain ⟨fs, hh, hl, hF⟩ := jf_p_inv hF
  subst hp
  intro p l e R s m args below meth c N0 dC dI dA ad0 n0 Q Cx ad H locs lsA hy
  obtain ⟨hx, hb, hml, hown, hts, hlk, htb, hin', hl', hsf, -⟩ := id Cx
  refine va_putF (D := (dC, dI)) (ci := ci) (v := jm_V ad v) hx hb hts hin ty hty hnm hown hsf.2.1 hy.2.2.1.1 hy.2.2.1.2 hy.2.2.2.1 o (jm_get hh) hc k hk (hts _ hw) (fun _ h9 => h9) hfi (hin'.trans hni) hdec (hty k hk) (hn ad).1 (hn ad).2 (by rw [List.length_map]; exact hl) hd (fun H1 locs1 hP hD hS => ?_)
  exact K _ hF p l e R s m args below meth c N0 dC dI dA ad0 n0 Q Cx ad H1 locs1 lsA (jm_Hset hy (by simp [jm_E, List.map_set]) hP hD hS)
end JHP
/-! arrays -/
def jf_len (h : jm_H) (o : Nat) (g : Int32 → Option jm_X) : Option jm_X := match h[o]? with
  | some (.inl (t, x)) => if t < 4 then g (Int32.ofNat x.1) else none
  | _ => none
def jf_ldI (h : jm_H) (o : Nat) (i : Int32) (g : Int32 → Option jm_X) : Option jm_X := match h[o]? with
  | some (.inl (0, (n, .inl f))) => if i < 0 ∨ n ≤ i.toNatClampNeg then none else g (f i.toNatClampNeg)
  | _ => none
def jf_ldL (h : jm_H) (o : Nat) (i : Int32) (g : Int64 → Option jm_X) : Option jm_X := match h[o]? with
  | some (.inl (1, (n, .inr (.inl f)))) => if i < 0 ∨ n ≤ i.toNatClampNeg then none else g (f i.toNatClampNeg)
  | _ => none
def jf_ldD (h : jm_H) (o : Nat) (i : Int32) (g : UInt64 → Option jm_X) : Option jm_X := match h[o]? with
  | some (.inl (2, (n, .inr (.inr (.inr (.inl f)))))) => if i < 0 ∨ n ≤ i.toNatClampNeg then none else g (f i.toNatClampNeg)
  | _ => none
def jf_ldA (h : jm_H) (o : Nat) (i : Int32) (g : Nat → Option jm_X) : Option jm_X := match h[o]? with
  | some (.inl (3, (n, .inr (.inr (.inr (.inr f)))))) => if i < 0 ∨ n ≤ i.toNatClampNeg then none else (match f i.toNatClampNeg with | some a => g a | none => none)
  | _ => none
def jf_stI (h : jm_H) (o : Nat) (i x : Int32) (g : jm_H → Option jm_X) : Option jm_X := match h[o]? with
  | some (.inl (0, (n, .inl f))) => if i < 0 ∨ n ≤ i.toNatClampNeg then none else g (h.set o (.inl (0, (n, .inl (upd f i.toNatClampNeg x)))))
  | _ => none
def jf_stL (h : jm_H) (o : Nat) (i : Int32) (x : Int64) (g : jm_H → Option jm_X) : Option jm_X := match h[o]? with
  | some (.inl (1, (n, .inr (.inl f)))) => if i < 0 ∨ n ≤ i.toNatClampNeg then none else g (h.set o (.inl (1, (n, .inr (.inl (vp_updL f i.toNatClampNeg x))))))
  | _ => none
def jf_stD (h : jm_H) (o : Nat) (i : Int32) (x : UInt64) (g : jm_H → Option jm_X) : Option jm_X := match h[o]? with
  | some (.inl (2, (n, .inr (.inr (.inr (.inl f)))))) => if i < 0 ∨ n ≤ i.toNatClampNeg then none else g (h.set o (.inl (2, (n, .inr (.inr (.inr (.inl (vf_upd f i.toNatClampNeg x))))))))
  | _ => none
def jf_stA (h : jm_H) (o : Nat) (i : Int32) (x : Nat) (g : jm_H → Option jm_X) : Option jm_X := match h[o]?, h[x]? with
  | some (.inl (3, (n, .inr (.inr (.inr (.inr f)))))), some (.inr (0, _)) => if i < 0 ∨ n ≤ i.toNatClampNeg then none else g (h.set o (.inl (3, (n, .inr (.inr (.inr (.inr (va_up f i.toNatClampNeg (some x)))))))))
  | _, _ => none
theorem jf_len_inv {h : jm_H} {o : Nat} {g : Int32 → Option jm_X} {X : jm_X} (hF : jf_len h o g = some X) : ∃ (t : Nat) (x : vp_A), h[o]? = some (.inl (t, x)) ∧ t < 4 ∧ g (Int32.ofNat x.1) = some X := by
  unfold jf_len at hF
  split at hF
  · next t x hh =>
    split at hF
    · next ht => exact ⟨t, x, hh, ht, hF⟩
    · cases hF
  · cases hF
theorem jf_ldI_inv {h : jm_H} {o : Nat} {i : Int32} {g : Int32 → Option jm_X} {X : jm_X} (hF : jf_ldI h o i g = some X) : ∃ (n : Nat) (f : Nat → Int32), h[o]? = some (.inl (0, (n, .inl f))) ∧ vp_in i n ∧ g (f i.toNatClampNeg) = some X := by
  unfold jf_ldI at hF
  split at hF
  · next n f hh =>
    split at hF
    · cases hF
    · next hi => exact ⟨n, f, hh, hi, hF⟩
  · cases hF
theorem jf_ldL_inv {h : jm_H} {o : Nat} {i : Int32} {g : Int64 → Option jm_X} {X : jm_X} (hF : jf_ldL h o i g = some X) : ∃ (n : Nat) (f : Nat → Int64), h[o]? = some (.inl (1, (n, .inr (.inl f)))) ∧ vp_in i n ∧ g (f i.toNatClampNeg) = some X := by
  unfold jf_ldL at hF
  split at hF
  · next n f hh =>
    split at hF
    · cases hF
    · next hi => exact ⟨n, f, hh, hi, hF⟩
  · cases hF
theorem jf_ldD_inv {h : jm_H} {o : Nat} {i : Int32} {g : UInt64 → Option jm_X} {X : jm_X} (hF : jf_ldD h o i g = some X) : ∃ (n : Nat) (f : Nat → UInt64), h[o]? = some (.inl (2, (n, .inr (.inr (.inr (.inl f)))))) ∧ vp_in i n ∧ g (f i.toNatClampNeg) = some X := by
  unfold jf_ldD at hF
  split at hF
  · next n f hh =>
    split at hF
    · cases hF
    · next hi => exact ⟨n, f, hh, hi, hF⟩
  · cases hF
theorem jf_ldA_inv {h : jm_H} {o : Nat} {i : Int32} {g : Nat → Option jm_X} {X : jm_X} (hF : jf_ldA h o i g = some X) : ∃ (n a : Nat) (f : Nat → Option Nat), h[o]? = some (.inl (3, (n, .inr (.inr (.inr (.inr f)))))) ∧ vp_in i n ∧ f i.toNatClampNeg = some a ∧ g a = some X := by
  unfold jf_ldA at hF
  split at hF
  · next n f hh =>
    split at hF
    · cases hF
    · next hi =>
      split at hF
      · next a ha => exact ⟨n, a, f, hh, hi, ha, hF⟩
      · cases hF
  · cases hF
theorem jf_stI_inv {h : jm_H} {o : Nat} {i x : Int32} {g : jm_H → Option jm_X} {X : jm_X} (hF : jf_stI h o i x g = some X) : ∃ (n : Nat) (f : Nat → Int32), h[o]? = some (.inl (0, (n, .inl f))) ∧ vp_in i n ∧ g (h.set o (.inl (0, (n, .inl (upd f i.toNatClampNeg x))))) = some X := by
  unfold jf_stI at hF
  split at hF
  · next n f hh =>
    split at hF
    · cases hF
    · next hi => exact ⟨n, f, hh, hi, hF⟩
  · cases hF
theorem jf_stL_inv {h : jm_H} {o : Nat} {i : Int32} {x : Int64} {g : jm_H → Option jm_X} {X : jm_X} (hF : jf_stL h o i x g = some X) : ∃ (n : Nat) (f : Nat → Int64), h[o]? = some (.inl (1, (n, .inr (.inl f)))) ∧ vp_in i n ∧ g (h.set o (.inl (1, (n, .inr (.inl (vp_updL f i.toNatClampNeg x)))))) = some X := by
  unfold jf_stL at hF
  split at hF
  · next n f hh =>
    split at hF
    · cases hF
    · next hi => exact ⟨n, f, hh, hi, hF⟩
  · cases hF
theorem jf_stD_inv {h : jm_H} {o : Nat} {i : Int32} {x : UInt64} {g : jm_H → Option jm_X} {X : jm_X} (hF : jf_stD h o i x g = some X) : ∃ (n : Nat) (f : Nat → UInt64), h[o]? = some (.inl (2, (n, .inr (.inr (.inr (.inl f)))))) ∧ vp_in i n ∧ g (h.set o (.inl (2, (n, .inr (.inr (.inr (.inl (vf_upd f i.toNatClampNeg x)))))))) = some X := by
  unfold jf_stD at hF
  split at hF
  · next n f hh =>
    split at hF
    · cases hF
    · next hi => exact ⟨n, f, hh, hi, hF⟩
  · cases hF
theorem jf_stA_inv {h : jm_H} {o : Nat} {i : Int32} {x : Nat} {g : jm_H → Option jm_X} {X : jm_X} (hF : jf_stA h o i x g = some X) : ∃ (n : Nat) (f : Nat → Option Nat) (vs : List Value), h[o]? = some (.inl (3, (n, .inr (.inr (.inr (.inr f)))))) ∧ h[x]? = some (.inr (0, vs)) ∧ vp_in i n ∧ g (h.set o (.inl (3, (n, .inr (.inr (.inr (.inr (va_up f i.toNatClampNeg (some x))))))))) = some X := by
  unfold jf_stA at hF
  split at hF
  · next n f vs hh hx =>
    split at hF
    · cases hF
    · next hi => exact ⟨n, f, vs, hh, hx, hi, hF⟩
  · cases hF
section JAR
variable {M : jm_M} {pc pc' : Nat} {ls : List (Nat × Value)} {st : List Value} {h : jm_H} {kc ks : Nat} {X : jm_X}
theorem jm_tyAt {dA : Nat → Nat} {t : Nat} (h : t < 4) : ∃ ty : FieldType, (jm_ty dA)[t]? = some (dA t, ty) := by
  match t, h with
  | 0, _ => exact ⟨_, rfl⟩
  | 1, _ => exact ⟨_, rfl⟩
  | 2, _ => exact ⟨_, rfl⟩
  | 3, _ => exact ⟨_, rfl⟩
theorem jm_A1 (ad : Nat → Nat) (x : vp_A) : (jm_A ad x).1 = x.1 := by
  rcases x with ⟨n, f | f | f | f | f⟩ <;> rfl
theorem jj_len {o : Nat} {g : Int32 → Option jm_X} (hd : decode (jm_by M) pc = .ok (.arraylength, 1)) (hp : pc + 1 = pc') (hF : jf_len h o g = some X) (K : ∀ v : Int32, g v = some X → jm_J M pc' ls (.int v :: st) h kc ks X) : jm_J M pc ls (.ref o :: st) h kc ks X := by
  obtain ⟨t, x, hh, ht, hF⟩ := jf_len_inv hF
  subst hp
  intro p l e R s m args below meth c N0 dC dI dA ad0 n0 Q Cx ad H locs lsA hy
  obtain ⟨hx, hb, hml, hown, hts, hlk, htb, hin', hl', hsf, -⟩ := id Cx
  obtain ⟨ty, hty⟩ := jm_tyAt (dA := dA) ht
  exact va_alen (D := (dC, dI)) hx hb hsf.2.1 hy.2.2.1.1 o t (jm_get hh) hty (by rw [jm_A1]) hd (K _ hF p l e R s m args below meth c N0 dC dI dA ad0 n0 Q Cx ad H locs lsA hy)
theorem jj_ldI {o : Nat} {i : Int32} {g : Int32 → Option jm_X} (hd : decode (jm_by M) pc = .ok (.iaload, 1)) (hp : pc + 1 = pc') (hF : jf_ldI h o i g = some X) (K : ∀ v : Int32, g v = some X → jm_J M pc' ls (.int v :: st) h kc ks X) : jm_J M pc ls (.int i :: .ref o :: st) h kc ks X := by
  obtain ⟨n, f, hh, hi, hF⟩ := jf_ldI_inv hF
  subst hp
  intro p l e R s m args below meth c N0 dC dI dA ad0 n0 Q Cx ad H locs lsA hy
  obtain ⟨hx, hb, hml, hown, hts, hlk, htb, hin', hl', hsf, -⟩ := id Cx
  exact va_iald (D := (dC, dI)) hx hb hsf.2.1 hy.2.2.1.1 o 0 (jm_get hh) rfl hi hd (K _ hF p l e R s m args below meth c N0 dC dI dA ad0 n0 Q Cx ad H locs lsA hy)
theorem jj_ldL {o : Nat} {i : Int32} {g : Int64 → Option jm_X} (hd : decode (jm_by M) pc = .ok (.laload, 1)) (hp : pc + 1 = pc') (hF : jf_ldL h o i g = some X) (K : ∀ v : Int64, g v = some X → jm_J M pc' ls (.long v :: st) h kc ks X) : jm_J M pc ls (.int i :: .ref o :: st) h kc ks X := by
  obtain ⟨n, f, hh, hi, hF⟩ := jf_ldL_inv hF
  subst hp
  intro p l e R s m args below meth c N0 dC dI dA ad0 n0 Q Cx ad H locs lsA hy
  obtain ⟨hx, hb, hml, hown, hts, hlk, htb, hin', hl', hsf, -⟩ := id Cx
  exact va_lald (D := (dC, dI)) hx hb hsf.2.1 hy.2.2.1.1 o 1 (jm_get hh) rfl hi hd (K _ hF p l e R s m args below meth c N0 dC dI dA ad0 n0 Q Cx ad H locs lsA hy)
theorem jj_ldA {o : Nat} {i : Int32} {g : Nat → Option jm_X} (hd : decode (jm_by M) pc = .ok (.aaload, 1)) (hp : pc + 1 = pc') (hF : jf_ldA h o i g = some X) (K : ∀ v : Nat, g v = some X → jm_J M pc' ls (.ref v :: st) h kc ks X) : jm_J M pc ls (.int i :: .ref o :: st) h kc ks X := by
  obtain ⟨n, a, f, hh, hi, ha, hF⟩ := jf_ldA_inv hF
  subst hp
  intro p l e R s m args below meth c N0 dC dI dA ad0 n0 Q Cx ad H locs lsA hy
  obtain ⟨hx, hb, hml, hown, hts, hlk, htb, hin', hl', hsf, -⟩ := id Cx
  have hJ := K _ hF p l e R s m args below meth c N0 dC dI dA ad0 n0 Q Cx ad H locs lsA hy
  refine va_aldq (D := (dC, dI)) hx hb hsf.2.1 hy.2.2.1.1 o 3 (jm_get hh) rfl hi hd ?_
  show W p l e R s m args below meth c H locs kc ks Q (F0 m (pc + 1) lsA (va_rf ((f i.toNatClampNeg).map ad) :: st.map (jm_V ad)))
  rw [ha]
  exact hJ
theorem jj_stI {o : Nat} {i x : Int32} {g : jm_H → Option jm_X} (hd : decode (jm_by M) pc = .ok (.iastore, 1)) (hp : pc + 1 = pc') (hF : jf_stI h o i x g = some X) (K : ∀ h', g h' = some X → jm_J M pc' ls st h' kc ks X) : jm_J M pc ls (.int x :: .int i :: .ref o :: st) h kc ks X := by
  obtain ⟨n, f, hh, hi, hF⟩ := jf_stI_inv hF
  subst hp
  intro p l e R s m args below meth c N0 dC dI dA ad0 n0 Q Cx ad H locs lsA hy
  obtain ⟨hx, hb, hml, hown, hts, hlk, htb, hin', hl', hsf, -⟩ := id Cx
  exact va_iast (D := (dC, dI)) hx hb hsf.2.1 hy.2.2.1.1 hy.2.2.1.2 hy.2.2.2.1 o 0 (jm_get hh) rfl hi hd (fun H1 locs1 hP hD hS => K _ hF p l e R s m args below meth c N0 dC dI dA ad0 n0 Q Cx ad H1 locs1 lsA (jm_Hset hy rfl hP hD hS))
theorem jj_stL {o : Nat} {i : Int32} {x : Int64} {g : jm_H → Option jm_X} (hd : decode (jm_by M) pc = .ok (.lastore, 1)) (hp : pc + 1 = pc') (hF : jf_stL h o i x g = some X) (K : ∀ h', g h' = some X → jm_J M pc' ls st h' kc ks X) : jm_J M pc ls (.long x :: .int i :: .ref o :: st) h kc ks X := by
  obtain ⟨n, f, hh, hi, hF⟩ := jf_stL_inv hF
  subst hp
  intro p l e R s m args below meth c N0 dC dI dA ad0 n0 Q Cx ad H locs lsA hy
  obtain ⟨hx, hb, hml, hown, hts, hlk, htb, hin', hl', hsf, -⟩ := id Cx
  exact va_last (D := (dC, dI)) hx hb hsf.2.1 hy.2.2.1.1 hy.2.2.1.2 hy.2.2.2.1 o 1 (jm_get hh) rfl hi hd (fun H1 locs1 hP hD hS => K _ hF p l e R s m args below meth c N0 dC dI dA ad0 n0 Q Cx ad H1 locs1 lsA (jm_Hset hy rfl hP hD hS))
theorem jj_stA {o x : Nat} {i : Int32} {g : jm_H → Option jm_X} (hd : decode (jm_by M) pc = .ok (.aastore, 1)) (hp : pc + 1 = pc') (hF : jf_stA h o i x g = some X) (K : ∀ h', g h' = some X → jm_J M pc' ls st h' kc ks X) : jm_J M pc ls (.ref x :: .int i :: .ref o :: st) h kc ks X := by
  obtain ⟨n, f, vs, hh, hxx, hi, hF⟩ := jf_stA_inv hF
  subst hp
  intro p l e R s m args below meth c N0 dC dI dA ad0 n0 Q Cx ad H locs lsA hy
  obtain ⟨hx, hb, hml, hown, hts, hlk, htb, hin', hl', hsf, -⟩ := id Cx
  refine va_astq (D := (dC, dI)) (ci := 0) (r := (RX0, TX0, 10)) hx hb hsf.2.1 hy.2.2.1.1 hy.2.2.1.2 hy.2.2.2.1 o 3 x (jm_get hh) rfl (jm_get hxx) rfl hi hd (fun H1 locs1 hP hD hS => K _ hF p l e R s m args below meth c N0 dC dI dA ad0 n0 Q Cx ad H1 locs1 lsA (jm_Hset hy ?_ hP hD hS))
  show (Sum.inl (dA 3, (n, Sum.inr (Sum.inr (Sum.inr (Sum.inr (fun j => (va_up f i.toNatClampNeg (some x) j).map ad)))))) : va_E) = _
  have hf : (fun j => (va_up f i.toNatClampNeg (some x) j).map ad) = va_up (fun j => (f j).map ad) i.toNatClampNeg (some (ad x)) := by
    funext j
    by_cases hj : j = i.toNatClampNeg <;> simp [va_up, hj]
  rw [hf]
/-- the law's own script, an object of its own number -/
theorem jj_sld {L : Nat} {xs : Nat → Int32} {i : Int32} (hd : decode (jm_by M) pc = .ok (.iaload, 1)) (hsc : jm_sc M = some (L, xs)) (hi : vp_in i L) (hp : pc + 1 = pc') (K : jm_J M pc' ls (.int (xs i.toNatClampNeg) :: st) h kc ks X) : jm_J M pc ls (.int i :: .ref 1000000 :: st) h kc ks X := by
  subst hp
  intro p l e R s m args below meth c N0 dC dI dA ad0 n0 Q Cx ad H locs lsA hy
  obtain ⟨hx, hb, hml, hown, hts, hlk, htb, hin', hl', hsf, hR, hs, -⟩ := id Cx
  obtain ⟨hX, hbN, hN⟩ := hs L xs hsc
  have e9 : ad 1000000 = ad0 1000000 := hy.1.2 1000000 (Or.inr rfl)
  have := va_sld (A := jm_N N0) (pc := pc) (ls := lsA) (rest := st.map (jm_V ad)) hx hb hX (Nat.lt_of_lt_of_le hbN hN) (Nat.not_le.mpr hbN) hy.2.2.2.1 hi hd (K p l e R s m args below meth c N0 dC dI dA ad0 n0 Q Cx ad H locs lsA hy)
  rw [← e9] at this
  exact this
theorem jj_slen {L : Nat} {xs : Nat → Int32} (hd : decode (jm_by M) pc = .ok (.arraylength, 1)) (hsc : jm_sc M = some (L, xs)) (hp : pc + 1 = pc') (K : jm_J M pc' ls (.int (Int32.ofNat L) :: st) h kc ks X) : jm_J M pc ls (.ref 1000000 :: st) h kc ks X := by
  subst hp
  intro p l e R s m args below meth c N0 dC dI dA ad0 n0 Q Cx ad H locs lsA hy
  obtain ⟨hx, hb, hml, hown, hts, hlk, htb, hin', hl', hsf, hR, hs, -⟩ := id Cx
  obtain ⟨hX, hbN, hN⟩ := hs L xs hsc
  have e9 : ad 1000000 = ad0 1000000 := hy.1.2 1000000 (Or.inr rfl)
  have := va_slen (A := jm_N N0) (pc := pc) (ls := lsA) (rest := st.map (jm_V ad)) hx hb hX (Nat.lt_of_lt_of_le hbN hN) (Nat.not_le.mpr hbN) hy.2.2.2.1 hd (K p l e R s m args below meth c N0 dC dI dA ad0 n0 Q Cx ad H locs lsA hy)
  rw [← e9] at this
  exact this
end JAR
