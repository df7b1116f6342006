/-! P34: the class's heap and its state: row, saved rows (oldest first), snapshot, codes -/
def SvL (F : Nat → Nat → Int32) (π : Nat → Nat) (S : List (Nat → Int32)) : Prop :=
  S.length ≤ 6 ∧ (∀ i, i < 6 → π i < 6) ∧ (∀ i j, i < 6 → j < 6 → π i = π j → i = j) ∧ ∀ (i : Nat) (w : Nat → Int32), S[i]? = some w → Iv w ∧ ∀ x, x < 132 → F (π i + 2) x = w x
def psh (S : List (Nat → Int32)) (v : Nat → Int32) : List (Nat → Int32) := (if S.length = 6 then S.tail else S) ++ [v]
theorem psh_len (S : List (Nat → Int32)) (v : Nat → Int32) : (psh S v).length = svN S.length := by
  unfold psh svN
  by_cases h : S.length = 6
  · rw [if_pos h, if_pos h]; simp [h]
  · rw [if_neg h, if_neg h]; simp
def KvL (F : Nat → Nat → Int32) (x : Int32) (K : Option (Nat → Int32)) : Prop := match K with
  | none => x = 0
  | some w => x ≠ 0 ∧ Iv w ∧ ∀ y, y < 132 → F 1 y = w y
def okB (B : List Int32) : Prop := B.length ≤ 60 ∧ ∀ x ∈ B, cN (fun _ => x) 0 < 127 ∧ x = nI (cN (fun _ => x) 0)
def Cs (q : jm_H) (v : Nat → Int32) (S : List (Nat → Int32)) (K : Option (Nat → Int32)) (B : List Int32) (h : jm_H) : Prop :=
  ∃ (F : Nat → Nat → Int32) (π : Nat → Nat) (sc rd cd : Nat → Int32), h = hC F π sc rd cd q ∧ F 0 = v ∧ Iv v ∧ SvL F π S ∧ sc 1 = nI S.length ∧ KvL F (sc 0) K ∧ sc 2 = nI B.length ∧ okB B ∧ ∀ i x, B[i]? = some x → cd i = x
section SL
variable {F : Nat → Nat → Int32} {π : Nat → Nat} {S : List (Nat → Int32)}
theorem SvL_now {w : Nat → Int32} {a : Nat} (h : SvL F π S) (ha : a < 2) : SvL (fu F a w) π S := by
  obtain ⟨h6, hπ, hj, hr⟩ := h
  refine ⟨h6, hπ, hj, fun i w hw => ?_⟩
  rw [fu_n (by omega)]
  exact hr i w hw
theorem SvL_save (h : SvL F π S) (hI : Iv (F 0)) : SvL (fu F (πs π S.length (πn S.length) + 2) (F 0)) (πs π S.length) (psh S (F 0)) := by
  obtain ⟨h6, hπ, hj, hr⟩ := h
  unfold πs πn psh
  by_cases h : S.length = 6
  · simp only [if_pos h]
    refine ⟨by simp [h], fun i hi => rot_lt hπ hi, fun i j hi hj' he => rot_inj hj hi hj' he, fun i w hw => ?_⟩
    have hl : i < 6 := by
      have := (List.getElem?_eq_some_iff.mp hw).1
      simp [h] at this
      omega
    by_cases h5 : i = 5
    · subst h5
      rw [List.getElem?_append_right (by simp [h])] at hw
      simp [h] at hw
      subst hw
      rw [fu_s]
      exact ⟨hI, fun x hx => rfl⟩
    · rw [List.getElem?_append_left (by simp [h]; omega), List.getElem?_tail] at hw
      have hne : rot π i + 2 ≠ rot π 5 + 2 := fun he => h5 (rot_inj hj hl (by decide) (by omega))
      rw [fu_n hne, rot_i (by omega)]
      exact hr (i + 1) w hw
  · simp only [if_neg h]
    refine ⟨by simp; omega, hπ, hj, fun i w hw => ?_⟩
    by_cases h5 : i = S.length
    · subst h5
      rw [List.getElem?_append_right (Nat.le_refl _)] at hw
      simp at hw
      subst hw
      rw [fu_s]
      exact ⟨hI, fun x hx => rfl⟩
    · have hl : i < S.length := by
        have := (List.getElem?_eq_some_iff.mp hw).1
        simp at this
        omega
      rw [List.getElem?_append_left hl] at hw
      have hne : π i + 2 ≠ π S.length + 2 := fun he => h5 (hj i S.length (by omega) (by omega) (by omega))
      rw [fu_n hne]
      exact hr i w hw
end SL
section CS
variable {q : jm_H} {v w : Nat → Int32} {S : List (Nat → Int32)} {K : Option (Nat → Int32)} {B : List Int32} {h : jm_H} {N : Nat}
theorem Cs_Iv (c : Cs q v S K B h) : Iv v := by
  obtain ⟨F, π, sc, rd, cd, rfl, hv, hI, -⟩ := c
  exact hI
theorem Cs_S6 (c : Cs q v S K B h) : S.length ≤ 6 := by
  obtain ⟨F, π, sc, rd, cd, rfl, hv, hI, hS, -⟩ := c
  exact hS.1
theorem Cs_B (c : Cs q v S K B h) : okB B := by
  obtain ⟨F, π, sc, rd, cd, rfl, hv, hI, hS, hn, hK, hm, ht, -⟩ := c
  exact ht
theorem Cs_o (c : Cs q v S K B h) {r : Option jm_X} : jf_o 3 0 h r = r := by
  obtain ⟨F, π, sc, rd, cd, rfl, -⟩ := c
  exact c_o
theorem Cs_row (c : Cs q v S K B h) (e : ∀ x, x < 132 → v x = w x) : Cs q w S K B h := by
  obtain ⟨F, π, sc, rd, cd, rfl, rfl, hI, hS, hn, hK, hm, ht, hc⟩ := c
  refine ⟨fu F 0 w, π, sc, rd, cd, ?_, fu_s, Iv_hi hI (fun i hi => (e i (by omega)).symm), SvL_now hS (by decide), hn, ?_, hm, ht, hc⟩
  · have := h_congr (F := F) (π := π) (sc := sc) (rd := rd) (cd := cd) (q := q) (i := 0) (w := F 0) (w' := w) (by decide) e
    rw [fu_id] at this
    exact this
  · cases K with
    | none => exact hK
    | some u => exact ⟨hK.1, hK.2.1, fun y hy => by rw [fu_n (by decide)]; exact hK.2.2 y hy⟩
theorem Cs_q {fx : jm_H → Option jm_X} {o : Int32 ⊕ String} (hfx : ∀ (F : Nat → Nat → Int32) (π : Nat → Nat) (sc rd cd : Nat → Int32), F 0 = v → Iv (F 0) → sc 1 = nI S.length → fx (hC F π sc rd cd q) = rA o (hC F π sc rd cd q)) (c : Cs q v S K B h) : fx h = rA o h := by
  obtain ⟨F, π, sc, rd, cd, rfl, rfl, hI, hS, hn, -⟩ := c
  exact hfx F π sc rd cd rfl hI hn
theorem Cs_saveL {fx : jm_H → Option jm_X} {o : (Int32 × (Nat → Int32)) ⊕ String} {y : Int32} (hfx : ∀ (F : Nat → Nat → Int32) (π : Nat → Nat) (sc rd cd : Nat → Int32) (n : Nat), F 0 = v → Iv (F 0) → sc 1 = nI n → n ≤ 6 → (∀ i, i < 6 → π i < 6) → fx (hC F π sc rd cd q) = rW F π sc rd cd q n o)
    (c : Cs q v S K B h) (ho : o = .inl (y, w)) (hw : Iv w) : ∃ h', fx h = rI y h' ∧ Cs q w (psh S v) K B h' := by
  obtain ⟨F, π, sc, rd, cd, rfl, rfl, hI, hS, hn, hK, hm, ht, hc⟩ := c
  subst ho
  refine ⟨_, hfx F π sc rd cd _ rfl hI hn hS.1 hS.2.1, _, _, _, _, _, rfl, fu_s, hw, SvL_now (SvL_save hS hI) (by decide), ?_, ?_, ?_, ht, hc⟩
  · rw [pk_us, psh_len]
  · rw [pk_un (by decide)]
    cases K with
    | none => exact hK
    | some u => exact ⟨hK.1, hK.2.1, fun y hy => by rw [fu_n (by decide), fu_n (by omega)]; exact hK.2.2 y hy⟩
  · rw [pk_un (by decide)]
    exact hm
theorem Cs_saveR {fx : jm_H → Option jm_X} {o : (Int32 × (Nat → Int32)) ⊕ String} {E : String} (hfx : ∀ (F : Nat → Nat → Int32) (π : Nat → Nat) (sc rd cd : Nat → Int32) (n : Nat), F 0 = v → Iv (F 0) → sc 1 = nI n → n ≤ 6 → (∀ i, i < 6 → π i < 6) → fx (hC F π sc rd cd q) = rW F π sc rd cd q n o)
    (c : Cs q v S K B h) (ho : o = .inr E) : fx h = rX E h := by
  obtain ⟨F, π, sc, rd, cd, rfl, rfl, hI, hS, hn, hK, hm, ht, hc⟩ := c
  subst ho
  exact hfx F π sc rd cd _ rfl hI hn hS.1 hS.2.1
theorem st_undo (c : Cs q v (S ++ [w]) K B h) : ∃ h', FX3_undo 0 h = rI (nI S.length) h' ∧ Cs q w S K B h' := by
  obtain ⟨F, π, sc, rd, cd, rfl, rfl, hI, hS, hn, hK, hm, ht, hc⟩ := c
  have hl : (S ++ [w]).length = S.length + 1 := by simp
  rw [hl] at hn
  have h6 := hS.1
  rw [hl] at h6
  obtain ⟨w1, w2⟩ := hS.2.2.2 S.length w (by simp)
  have h5 := hS.2.1 S.length (by omega)
  refine ⟨_, c_undo hn h6 (by omega) hS.2.1, fu F 0 w, π, upd sc 1 (nI (S.length + 1 - 1)), rd, cd, ?_, fu_s, w1, ?_, ?_, ?_, ?_, ht, hc⟩
  · rw [show S.length + 1 - 1 = S.length by omega]
    exact h_congr (by decide) w2
  · refine SvL_now ⟨by omega, hS.2.1, hS.2.2.1, fun i u hu => ?_⟩ (by decide)
    exact hS.2.2.2 i u (by rw [List.getElem?_append_left (List.getElem?_eq_some_iff.mp hu).1]; exact hu)
  · rw [pk_us]; rfl
  · rw [pk_un (by decide)]
    cases K with
    | none => exact hK
    | some u => exact ⟨hK.1, hK.2.1, fun y hy => by rw [fu_n (by decide)]; exact hK.2.2 y hy⟩
  · rw [pk_un (by decide)]
    exact hm
theorem st_undo0 (c : Cs q v [] K B h) : FX3_undo 0 h = rX eI h := by
  obtain ⟨F, π, sc, rd, cd, rfl, rfl, hI, hS, hn, hK, hm, ht, hc⟩ := c
  exact c_undo0 hn
theorem st_keep (c : Cs q v S K B h) : ∃ h', FX3_keep 0 h = rI (v 1) h' ∧ Cs q v S (some v) B h' := by
  obtain ⟨F, π, sc, rd, cd, rfl, rfl, hI, hS, hn, hK, hm, ht, hc⟩ := c
  refine ⟨_, c_keep, fu F 1 (F 0), π, _, rd, cd, rfl, fu_n (by decide), hI, SvL_now hS (by decide), ?_, ?_, ?_, ht, hc⟩
  · rw [pk_un (by decide)]; exact hn
  · exact ⟨by rw [pk_us]; decide, hI, fun y hy => by rw [fu_s]⟩
  · rw [pk_un (by decide)]; exact hm
theorem st_restore (hN : 7 ≤ N) (c : Cs q v S (some w) B h) : ∃ h', FX3_restore N 0 h = rI (w 1) h' ∧ Cs q w (psh S v) (some w) B h' := by
  obtain ⟨F, π, sc, rd, cd, rfl, rfl, hI, hS, hn, hK, hm, ht, hc⟩ := c
  obtain ⟨k1, k2, k3⟩ := hK
  have e1 : F 1 1 = w 1 := k3 1 (by decide)
  refine ⟨_, (c_restore hN k1 hn hS.1 hS.2.1).trans (by rw [e1]), fu (fu F (πs π S.length (πn S.length) + 2) (F 0)) 0 w, _, _, rd, cd, h_congr (by decide) k3, fu_s, k2, SvL_now (SvL_save hS hI) (by decide), ?_, ?_, ?_, ht, hc⟩
  · rw [pk_us, psh_len]
  · rw [pk_un (by decide)]
    exact ⟨k1, k2, fun y hy => by rw [fu_n (by decide), fu_n (by omega)]; exact k3 y hy⟩
  · rw [pk_un (by decide)]
    exact hm
theorem st_restore0 (c : Cs q v S none B h) : FX3_restore N 0 h = rX eI h := by
  obtain ⟨F, π, sc, rd, cd, rfl, rfl, hI, hS, hn, hK, hm, ht, hc⟩ := c
  exact c_restore0 hK
/-! the codes -/
theorem okB_app {a : Nat} (hB : okB B) (h : B.length < 60) (ha : a < 127) : okB (B ++ [nI a]) := by
  refine ⟨by simp; omega, fun x hx => ?_⟩
  rcases List.mem_append.mp hx with h1 | h1
  · exact hB.2 x h1
  · rw [List.mem_singleton.mp h1]
    unfold cN
    rw [nI_clamp (by omega)]
    exact ⟨ha, rfl⟩
theorem st_append {a : Nat} (ha : 33 ≤ a ∧ a ≤ 126) (hB : B.length < 60) (c : Cs q v S K B h) : ∃ h', FX3_append 0 (nI a) h = rI (nI (B.length + 1)) h' ∧ Cs q v S K (B ++ [nI a]) h' := by
  obtain ⟨F, π, sc, rd, cd, rfl, rfl, hI, hS, hn, hK, hm, ht, hc⟩ := c
  have ha' : (33 : Int32) ≤ nI a ∧ nI a ≤ 126 := (in_c (a := 33) (b := 126) (by decide) (by decide)).mpr ⟨a, rfl, ha⟩
  refine ⟨hC F π (upd sc 2 (nI (B.length + 1))) rd (upd cd B.length (nI a)) q, ?_, F, π, _, rd, _, rfl, rfl, hI, hS, ?_, ?_, ?_, okB_app ht hB (by omega), ?_⟩
  · unfold FX3_append
    rw [e_in3, I_e, bl_t ha', rq1, V_e, k_i2, hm, if_neg (nI_pos (by omega)), k_i2, k_r4, k_l7, hm, if_pos (show nI B.length < 60 from nI_lt (b := 60) hB (by decide)), k_r4, k_i2, hm, k_st7 hB, k_i2, hm, k_p2, nI_1, k_i2, pk_us]
  · rw [pk_un (by decide)]; exact hn
  · rw [pk_un (by decide)]; exact hK
  · rw [pk_us]; simp
  · intro i x hx
    by_cases hi : i = B.length
    · subst hi
      rw [List.getElem?_append_right (Nat.le_refl _)] at hx
      simp at hx
      rw [pk_us, hx]
    · have hl : i < B.length := by
        have := (List.getElem?_eq_some_iff.mp hx).1
        simp at this
        omega
      rw [List.getElem?_append_left hl] at hx
      rw [pk_un hi]
      exact hc i x hx
theorem st_appendA {a : Int32} (ha : ¬ (33 ≤ a ∧ a ≤ 126)) (c : Cs q v S K B h) : FX3_append 0 a h = rX eA h := by
  obtain ⟨F, π, sc, rd, cd, rfl, -⟩ := c
  unfold FX3_append
  rw [e_in3, I_e, bl_f ha, rq0, V_x]
theorem st_appendI {a : Int32} (ha : 33 ≤ a ∧ a ≤ 126) (hB : B.length = 60) (c : Cs q v S K B h) : FX3_append 0 a h = rX eI h := by
  obtain ⟨F, π, sc, rd, cd, rfl, rfl, hI, hS, hn, hK, hm, ht, hc⟩ := c
  unfold FX3_append
  rw [e_in3, I_e, bl_t ha, rq1, V_e, k_i2, hm, if_neg (nI_pos (by omega)), k_i2, k_r4, k_l7, hm, if_neg (show ¬ nI B.length < 60 from nI_nlt (a := B.length) (b := 60) (by omega) (by omega))]
theorem st_clear (c : Cs q v S K B h) : ∃ h', FX3_clearBuffer 0 h = rI (nI B.length) h' ∧ Cs q v S K [] h' := by
  obtain ⟨F, π, sc, rd, cd, rfl, rfl, hI, hS, hn, hK, hm, ht, hc⟩ := c
  refine ⟨hC F π (upd sc 2 0) rd cd q, ?_, F, π, _, rd, cd, rfl, rfl, hI, hS, ?_, ?_, ?_, ⟨by simp, fun x hx => by cases hx⟩, fun i x hx => by simp at hx⟩
  · unfold FX3_clearBuffer
    rw [k_i2, k_p2, hm]
  · rw [pk_un (by decide)]; exact hn
  · rw [pk_un (by decide)]; exact hK
  · rw [pk_us]; rfl
end CS
