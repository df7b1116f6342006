/-! THE SMALL MACHINE (own work): a heap without addresses (objects by their number), values that name objects by number, and one judgement jm_J over the kit's W; each row of the kit once more, in these words. -/
abbrev jm_C : Type := (Nat × vp_A) ⊕ (Nat × List Value)
abbrev jm_H : Type := List jm_C
abbrev jm_O : Type := Option Value ⊕ String
abbrev jm_X : Type := jm_O × jm_H
/-- what is known of a method: its class, its name, its code, its locals, its answer's type, its table; room: frames, words of locals, cells, slots; whether it makes objects that stay -/
abbrev jm_M : Type := String × MethodName × ByteArray × Nat × Option FieldType × List (Nat × Nat × Nat × Nat) × (Nat × Nat × Nat × Nat) × Bool × Option (Nat × (Nat → Int32))
abbrev jm_ow (M : jm_M) : String := M.1
abbrev jm_y (M : jm_M) : MethodName := M.2.1
abbrev jm_by (M : jm_M) : ByteArray := M.2.2.1
abbrev jm_nL (M : jm_M) : Nat := M.2.2.2.1
abbrev jm_rt (M : jm_M) : Option FieldType := M.2.2.2.2.1
abbrev jm_hh (M : jm_M) : List (Nat × Nat × Nat × Nat) := M.2.2.2.2.2.1
abbrev jm_fr (M : jm_M) : Nat := M.2.2.2.2.2.2.1.1
abbrev jm_lo (M : jm_M) : Nat := M.2.2.2.2.2.2.1.2.1
abbrev jm_mc (M : jm_M) : Nat := M.2.2.2.2.2.2.1.2.2.1
abbrev jm_ms (M : jm_M) : Nat := M.2.2.2.2.2.2.1.2.2.2
abbrev jm_al (M : jm_M) : Bool := M.2.2.2.2.2.2.2.1
abbrev jm_sc (M : jm_M) : Option (Nat × (Nat → Int32)) := M.2.2.2.2.2.2.2.2
def jm_V (ad : Nat → Nat) : Value → Value
  | .ref a => .ref (ad a)
  | v => v
def jm_A (ad : Nat → Nat) : vp_A → vp_A
  | (n, .inl f) => (n, .inl f)
  | (n, .inr (.inl f)) => (n, .inr (.inl f))
  | (n, .inr (.inr (.inl f))) => (n, .inr (.inr (.inl f)))
  | (n, .inr (.inr (.inr (.inl f)))) => (n, .inr (.inr (.inr (.inl f))))
  | (n, .inr (.inr (.inr (.inr f)))) => (n, .inr (.inr (.inr (.inr (fun j => (f j).map ad)))))
def jm_E (dA ad : Nat → Nat) : jm_C → va_E
  | .inl (t, x) => .inl (dA t, jm_A ad x)
  | .inr (ci, fs) => .inr (ci, fs.map (jm_V ad))
def jm_W (dA ad : Nat → Nat) (h : jm_H) : va_W := h.mapIdx (fun k c => (ad k, jm_E dA ad c))
def jm_L (ad : Nat → Nat) (ls : List (Nat × Value)) : List (Nat × Value) := ls.map (fun q => (q.1, jm_V ad q.2))
theorem jm_cat (ad : Nat → Nat) (v : Value) : (jm_V ad v).category = v.category := by cases v <;> rfl
theorem jm_get {dA ad : Nat → Nat} {h : jm_H} {k : Nat} {c : jm_C} (hk : h[k]? = some c) : (jm_W dA ad h)[k]? = some (ad k, jm_E dA ad c) := by
  simp [jm_W, List.getElem?_mapIdx, hk]
theorem jm_set (dA ad : Nat → Nat) (h : jm_H) (k : Nat) (c : jm_C) : jm_W dA ad (h.set k c) = (jm_W dA ad h).set k (ad k, jm_E dA ad c) := by
  apply List.ext_getElem?
  intro i
  simp only [jm_W, List.getElem?_mapIdx, List.getElem?_set, List.length_mapIdx]
  by_cases hki : k = i
  · subst hki
    by_cases hl : k < h.length <;> simp [hl]
  · simp [hki]
/-- no cell of the heap names the object n -/
def jm_okV (n : Nat) (v : Value) : Prop := v ≠ .ref n
def jm_okC (n : Nat) : jm_C → Prop
  | .inl (_, (_, .inr (.inr (.inr (.inr f))))) => ∀ j : Nat, f j ≠ some n
  | .inl _ => True
  | .inr (_, fs) => ∀ v ∈ fs, jm_okV n v
def jm_ok (n : Nat) (h : jm_H) : Prop := ∀ c ∈ h, jm_okC n c
theorem jm_V_up {ad : Nat → Nat} {n q : Nat} {v : Value} (h : jm_okV n v) : jm_V (va_up ad n q) v = jm_V ad v := by
  cases v <;> try rfl
  next a =>
    have hne : a ≠ n := fun e => h (by rw [e])
    simp [jm_V, va_up, hne]
theorem jm_E_up {dA ad : Nat → Nat} {n q : Nat} {c : jm_C} (h : jm_okC n c) : jm_E dA (va_up ad n q) c = jm_E dA ad c := by
  rcases c with ⟨t, k, f | f | f | f | f⟩ | ⟨ci, fs⟩
  · rfl
  · rfl
  · rfl
  · rfl
  · have h' : ∀ j : Nat, f j ≠ some n := h
    have : (fun j => (f j).map (va_up ad n q)) = (fun j => (f j).map ad) := by
      funext j
      cases hj : f j with
      | none => rfl
      | some a =>
        have hne : a ≠ n := fun e => h' j (by rw [hj, e])
        simp [va_up, hne]
    show (Sum.inl (dA t, (k, Sum.inr (Sum.inr (Sum.inr (Sum.inr (fun j => (f j).map (va_up ad n q))))))) : va_E) = Sum.inl (dA t, (k, Sum.inr (Sum.inr (Sum.inr (Sum.inr (fun j => (f j).map ad))))))
    rw [this]
  · have h' : ∀ v ∈ fs, jm_okV n v := h
    show (Sum.inr (ci, fs.map (jm_V (va_up ad n q))) : va_E) = Sum.inr (ci, fs.map (jm_V ad))
    rw [List.map_congr_left (fun v hv => jm_V_up (h' v hv))]
theorem jm_push {dA ad : Nat → Nat} {h : jm_H} {q : Nat} {c : jm_C} (hk : jm_ok h.length h) (hc : jm_okC h.length c) : jm_W dA (va_up ad h.length q) (h ++ [c]) = jm_W dA ad h ++ [(q, jm_E dA ad c)] := by
  apply List.ext_getElem?
  intro i
  by_cases hi : i < h.length
  · have hne : i ≠ h.length := Nat.ne_of_lt hi
    have hcell : h[i]? = some h[i] := List.getElem?_eq_getElem hi
    simp only [jm_W]
    rw [List.getElem?_append_left (by simpa using hi)]
    simp only [List.getElem?_mapIdx, List.getElem?_append_left hi, hcell, Option.map_some]
    rw [jm_E_up (hk _ (List.getElem_mem hi))]
    simp [va_up, hne]
  · by_cases he : i = h.length
    · subst he
      simp [jm_W, List.getElem?_mapIdx, va_up, jm_E_up hc]
    · have hgt : h.length < i := by omega
      rw [List.getElem?_eq_none (by simp [jm_W]; omega), List.getElem?_eq_none (by simp [jm_W]; omega)]
theorem jm_L_up {ad : Nat → Nat} {n q : Nat} {ls : List (Nat × Value)} (h : ∀ x ∈ ls, jm_okV n x.2) : jm_L (va_up ad n q) ls = jm_L ad ls :=
  List.map_congr_left (fun x hx => by rw [jm_V_up (h x hx)])
theorem jm_st_up {ad : Nat → Nat} {n q : Nat} {st : List Value} (h : ∀ v ∈ st, jm_okV n v) : st.map (jm_V (va_up ad n q)) = st.map (jm_V ad) :=
  List.map_congr_left (fun x hx => jm_V_up (h x hx))
/-- values that stay what they are when objects come -/
def jm_kV (n : Nat) (v : Value) : Prop := ∀ a, v = .ref a → a < n ∨ a = 1000000
def jm_ag (n : Nat) (ad ad' : Nat → Nat) : Prop := ∀ k, k < n ∨ k = 1000000 → ad' k = ad k
theorem jm_V_ag {ad ad' : Nat → Nat} {n : Nat} {v : Value} (h : jm_kV n v) (hg : jm_ag n ad ad') : jm_V ad' v = jm_V ad v := by
  cases v <;> try rfl
  next a => simp [jm_V, hg a (h a rfl)]
theorem jm_L_ag {ad ad' : Nat → Nat} {n : Nat} {ls : List (Nat × Value)} (h : ∀ x ∈ ls, jm_kV n x.2) (hg : jm_ag n ad ad') : jm_L ad' ls = jm_L ad ls :=
  List.map_congr_left (fun x hx => by rw [jm_V_ag (h x hx) hg])
theorem jm_st_ag {ad ad' : Nat → Nat} {n : Nat} {st : List Value} (h : ∀ v ∈ st, jm_kV n v) (hg : jm_ag n ad ad') : st.map (jm_V ad') = st.map (jm_V ad) :=
  List.map_congr_left (fun x hx => jm_V_ag (h x hx) hg)
abbrev jm_N (N0 : Nat) : Nat → Prop := fun q => N0 ≤ q
def jm_P (N0 : Nat) (dC : Nat → ClassId) (dI : Nat → Nat → Nat) (dA ad : Nat → Nat) (h : jm_H) (H : Heap) : Prop := va_P (dC, dI) vwCl (jm_W dA ad h) H ∧ va_D (jm_N N0) (jm_W dA ad h)
def jm_WS : List Cond := lw_tbl.filter goodWord
abbrev jm_ty (dA : Nat → Nat) : List (ClassId × FieldType) := [(dA 0, .int), (dA 1, .long), (dA 2, .byte), (dA 3, .object "ReelScreens$Festival")]
def jm_Rel (M : jm_M) (n0 : Nat) (ad0 ad : Nat → Nat) : Prop := (jm_al M = false → ad = ad0) ∧ jm_ag n0 ad0 ad
theorem jm_in {w : Cond} (h : w ∈ lw_tbl) (g : goodWord w = true) : w ∈ jm_WS := List.mem_filter.mpr ⟨h, g⟩
theorem jm_good {w : Cond} (h : w ∈ jm_WS) : goodWord w = true := (List.mem_filter.mp h).2
theorem jm_mem {w : Cond} (h : w ∈ jm_WS) : w ∈ lw_tbl := (List.mem_filter.mp h).1
theorem jm_gIn {ws : List Cond} (h : ∀ w ∈ ws, w ∈ jm_WS) : GoodIn jm_WS ws := fun w hw => ⟨h w hw, good_of_word (jm_good (h w hw))⟩
