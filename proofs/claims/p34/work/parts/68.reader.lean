/-! THE READER of the class -/
abbrev lg (x d m : Int32) : Prop := ¬ x ≤ 0 ∧ (0 ≤ d ∧ d ≤ 9) ∧ ¬ m < x * 10 + d
def tk (u : Nat → Int32) (c : Int32) : Int32 := match (u 4).toNatClampNeg with
  | 0 => bl (0 ≤ c - 48 ∧ c - 48 ≤ 7)
  | 1 => bl (c = 47)
  | 2 => bl (0 ≤ c - 48 ∧ c - 48 ≤ 2)
  | 3 => bl (c = 64)
  | 4 => bl (0 ≤ c - 48 ∧ c - 48 ≤ 9)
  | 5 => bl (c = 43 ∨ c = 59 ∨ lg (u 2) (c - 48) 1999)
  | 6 => bl (0 ≤ c - 48 ∧ c - 48 ≤ 9)
  | _ => bl (c = 59 ∨ lg (u 3) (c - 48) 20)
def gk (u : Nat → Int32) (c : Int32) : Nat → Int32 := match (u 4).toNatClampNeg with
  | 0 => upd (upd u 0 (c - 48)) 4 1
  | 1 => upd u 4 2
  | 2 => upd (upd u 1 (c - 48)) 4 3
  | 3 => upd u 4 4
  | 4 => upd (upd u 2 (c - 48)) 4 5
  | 5 => if c = 43 then upd u 4 6 else if c = 59 then upd (upd u 3 0) 4 0 else upd u 2 (u 2 * 10 + (c - 48))
  | 6 => upd (upd u 3 (c - 48)) 4 7
  | _ => if c = 59 then upd (upd u 3 0) 4 0 else upd u 3 (u 3 * 10 + (c - 48))
theorem tk_01 (u : Nat → Int32) (c : Int32) : tk u c = 0 ∨ tk u c = 1 := by
  have h : ∀ (p : Prop) [Decidable p], bl p = 0 ∨ bl p = 1 := fun p _ => by unfold bl; by_cases hp : p <;> simp [hp]
  unfold tk
  split <;> exact h _
section RC
variable {F : Nat → Nat → Int32} {π : Nat → Nat} {sc rd cd : Nat → Int32} {q : jm_H} {N : Nat}
theorem d_g {j : Nat} {f : Int32 → Option jm_X} (hj : j < 5) : jf_gI 1 (hC F π sc rd cd q) 106 j f = f (rd j) := by
  have hh : (hC F π sc rd cd q)[106]? = some (.inr (1, [.int (rd 0), .int (rd 1), .int (rd 2), .int (rd 3), .int (rd 4)])) := rfl
  refine gI_e hh ?_
  have : j = 0 ∨ j = 1 ∨ j = 2 ∨ j = 3 ∨ j = 4 := by omega
  rcases this with rfl | rfl | rfl | rfl | rfl <;> rfl
theorem d_o {r : Option jm_X} : jf_o 1 106 (hC F π sc rd cd q) r = r := o_e (fs := [.int (rd 0), .int (rd 1), .int (rd 2), .int (rd 3), .int (rd 4)]) rfl
theorem d_p {j : Nat} {x : Int32} {f : jm_H → Option jm_X} (hj : j < 5) : jf_p 1 (hC F π sc rd cd q) 106 j (.int x) f = f (hC F π sc (upd rd j x) cd q) := by
  have hh : (hC F π sc rd cd q)[106]? = some (.inr (1, [.int (rd 0), .int (rd 1), .int (rd 2), .int (rd 3), .int (rd 4)])) := rfl
  rw [p_e hh hj]
  have : j = 0 ∨ j = 1 ∨ j = 2 ∨ j = 3 ∨ j = 4 := by omega
  rcases this with rfl | rfl | rfl | rfl | rfl <;> rfl
theorem e_in3 {x a b : Int32} {h : jm_H} : FX3_isWithin x a b h = rI (bl (a ≤ x ∧ x ≤ b)) h := by
  unfold FX3_isWithin bl
  by_cases h1 : x < a
  · have : ¬ a ≤ x := Int32.not_le.mpr h1
    simp [h1, this]
  · have h1' : a ≤ x := Int32.not_lt.mp h1
    by_cases h2 : b < x
    · have : ¬ x ≤ b := Int32.not_le.mpr h2
      simp [h1, h2, this]
    · have h2' : x ≤ b := Int32.not_lt.mp h2
      simp [h1, h1', h2, h2']
theorem d_start : FX1_startPart 106 (hC F π sc rd cd q) = rV (hC F π sc (upd (upd rd 3 0) 4 0) cd q) := by
  unfold FX1_startPart
  rw [d_p (by decide), d_p (by decide)]
theorem bl_z (p : Prop) [Decidable p] (r : Option jm_X) : jf_z (bl p) r = r := bl_01 p r
theorem d_adv {p : Prop} [Decidable p] {y : Int32} : FX1_advance 106 (bl p) y (hC F π sc rd cd q) = rI (bl p) (hC F π sc (upd rd 4 y) cd q) := by
  unfold FX1_advance
  rw [d_p (by decide), bl_z]
theorem d_adv0 {y : Int32} : FX1_advance 106 0 y (hC F π sc rd cd q) = rI 0 (hC F π sc (upd rd 4 y) cd q) := by
  unfold FX1_advance
  rw [d_p (by decide)]
  rfl
theorem d_adv1 {y : Int32} : FX1_advance 106 1 y (hC F π sc rd cd q) = rI 1 (hC F π sc (upd rd 4 y) cd q) := by
  unfold FX1_advance
  rw [d_p (by decide)]
  rfl
theorem e_lg {x d m : Int32} {h : jm_H} : FX1_isLonger x d m h = rI (bl (lg x d m)) h := by
  unfold FX1_isLonger
  by_cases h1 : x ≤ 0
  · rw [if_pos h1]
    have : ¬ lg x d m := fun hh => hh.1 h1
    simp [bl, this]
  · rw [if_neg h1, e_in3, cI_e]
    simp only [bl_0]
    by_cases h2 : 0 ≤ d ∧ d ≤ 9
    · rw [if_neg (fun hh => hh h2)]
      by_cases h3 : m < x * 10 + d
      · rw [if_pos h3]
        have : ¬ lg x d m := fun hh => hh.2.2 h3
        simp [bl, this]
      · rw [if_neg h3]
        have : lg x d m := ⟨h1, h2, h3⟩
        simp [bl, this]
    · rw [if_pos h2]
      have : ¬ lg x d m := fun hh => h2 hh.2.1
      simp [bl, this]
theorem bl_t {p : Prop} [Decidable p] (h : p) : bl p = 1 := by rw [bl_1]; exact h
theorem bl_f {p : Prop} [Decidable p] (h : ¬ p) : bl p = 0 := by rw [bl_0]; exact h
theorem d_take {c : Int32} {ph : Nat} (h4 : rd 4 = nI ph) (hp : ph < 8) : FX1_takeCode 106 c (hC F π sc rd cd q) = rI (tk rd c) (hC F π sc (gk rd c) cd q) := by
  have e4 : (rd 4).toNatClampNeg = ph := by rw [h4, nI_clamp (by omega)]
  have z1 : ∀ r, jf_z 1 r = r := fun r => if_pos (Or.inr rfl)
  have z0 : ∀ r, jf_z 0 r = r := fun r => if_pos (Or.inl rfl)
  unfold FX1_takeCode tk gk
  rw [d_g (by decide), h4, nI_clamp (by omega)]
  have : ph = 0 ∨ ph = 1 ∨ ph = 2 ∨ ph = 3 ∨ ph = 4 ∨ ph = 5 ∨ ph = 6 ∨ ph = 7 := by omega
  rcases this with rfl | rfl | rfl | rfl | rfl | rfl | rfl | rfl
  · rw [sw_e (i := 0) (lo := 0) rfl (Nat.le_of_ble_eq_true rfl) rfl]
    rw [d_p (by decide), e_in3, cI_e, d_o, d_adv, I_e, bl_z]
    rfl
  · rw [sw_e (i := 1) (lo := 0) rfl (Nat.le_of_ble_eq_true rfl) rfl]
    by_cases h : c = 47
    · rw [if_pos h, d_o, d_adv1, I_e, z1]
      show rI 1 _ = rI (bl (c = 47)) _
      rw [bl_t h]
      rfl
    · rw [if_neg h, d_o, d_adv0, I_e, z0]
      show rI 0 _ = rI (bl (c = 47)) _
      rw [bl_f h]
      rfl
  · rw [sw_e (i := 2) (lo := 0) rfl (Nat.le_of_ble_eq_true rfl) rfl]
    rw [d_p (by decide), e_in3, cI_e, d_o, d_adv, I_e, bl_z]
    rfl
  · rw [sw_e (i := 3) (lo := 0) rfl (Nat.le_of_ble_eq_true rfl) rfl]
    by_cases h : c = 64
    · rw [if_pos h, d_o, d_adv1, I_e, z1]
      show rI 1 _ = rI (bl (c = 64)) _
      rw [bl_t h]
      rfl
    · rw [if_neg h, d_o, d_adv0, I_e, z0]
      show rI 0 _ = rI (bl (c = 64)) _
      rw [bl_f h]
      rfl
  · rw [sw_e (i := 4) (lo := 0) rfl (Nat.le_of_ble_eq_true rfl) rfl]
    rw [d_p (by decide), e_in3, cI_e, d_o, d_adv, I_e, bl_z]
    rfl
  · rw [sw_e (i := 5) (lo := 0) rfl (Nat.le_of_ble_eq_true rfl) rfl]
    unfold FX1_takeBehindStart
    by_cases h : c = 43
    · have e : bl (c = 43 ∨ c = 59 ∨ lg (rd 2) (c - 48) 1999) = 1 := bl_t (Or.inl h)
      simp only [if_pos h]
      rw [d_o, d_p (by decide), I_e, z1, e]
    · simp only [if_neg h]
      by_cases h2 : c = 59
      · have e : bl (c = 43 ∨ c = 59 ∨ lg (rd 2) (c - 48) 1999) = 1 := bl_t (Or.inr (Or.inl h2))
        simp only [if_pos h2]
        rw [d_o, d_o, d_start, V_e, I_e, z1, e]
      · simp only [if_neg h2]
        rw [d_o, d_g (by decide), e_lg, I_e, d_g (by decide), d_p (by decide), bl_z, I_e, bl_z]
        by_cases h3 : lg (rd 2) (c - 48) 1999
        · rw [bl_t h3, bl_t (Or.inr (Or.inr h3))]
        · rw [bl_f h3, bl_f (fun hh => hh.elim h (fun hh => hh.elim h2 h3))]
  · rw [sw_e (i := 6) (lo := 0) rfl (Nat.le_of_ble_eq_true rfl) rfl]
    rw [d_p (by decide), e_in3, cI_e, d_o, d_adv, I_e, bl_z]
    rfl
  · rw [sw_d (k := 7) (lo := 0) rfl (by decide) (Nat.le_of_ble_eq_true rfl) (Or.inr (Nat.le_of_ble_eq_true rfl))]
    unfold FX1_takeBehindPause
    by_cases h2 : c = 59
    · have e : bl (c = 59 ∨ lg (rd 3) (c - 48) 20) = 1 := bl_t (Or.inl h2)
      simp only [if_pos h2]
      rw [d_o, d_o, d_start, V_e, I_e, z1, e]
    · simp only [if_neg h2]
      rw [d_o, d_g (by decide), e_lg, I_e, d_g (by decide), d_p (by decide), bl_z, I_e, bl_z]
      by_cases h3 : lg (rd 3) (c - 48) 20
      · rw [bl_t h3, bl_t (Or.inr h3)]
      · rw [bl_f h3, bl_f (fun hh => hh.elim h2 h3)]
/-- the reader after i codes -/
def rS (t r : Nat → Int32) (i : Nat) : Nat → Int32 := fd (fun k u => gk u (t k)) 0 i r
theorem rS_s (t r : Nat → Int32) (i : Nat) : rS t r (i + 1) = gk (rS t r i) (t i) := by
  unfold rS
  rw [fd_last, Nat.zero_add]
abbrev r0 (r : Nat → Int32) : Nat → Int32 := upd (upd r 3 0) 4 0
theorem gk_ph {u : Nat → Int32} {c : Int32} {ph : Nat} (h : u 4 = nI ph) (hp : ph < 8) : ∃ ph', ph' < 8 ∧ gk u c 4 = nI ph' := by
  unfold gk
  rw [h, nI_clamp (by omega)]
  have : ph = 0 ∨ ph = 1 ∨ ph = 2 ∨ ph = 3 ∨ ph = 4 ∨ ph = 5 ∨ ph = 6 ∨ ph = 7 := by omega
  rcases this with rfl | rfl | rfl | rfl | rfl | rfl | rfl | rfl
  · exact ⟨1, by decide, rfl⟩
  · exact ⟨2, by decide, rfl⟩
  · exact ⟨3, by decide, rfl⟩
  · exact ⟨4, by decide, rfl⟩
  · exact ⟨5, by decide, rfl⟩
  · show ∃ ph', ph' < 8 ∧ (if c = 43 then upd u 4 6 else if c = 59 then upd (upd u 3 0) 4 0 else upd u 2 (u 2 * 10 + (c - 48))) 4 = nI ph'
    by_cases h1 : c = 43
    · rw [if_pos h1]; exact ⟨6, by decide, rfl⟩
    · by_cases h2 : c = 59
      · rw [if_neg h1, if_pos h2]; exact ⟨0, by decide, rfl⟩
      · rw [if_neg h1, if_neg h2, pk_un (by decide)]; exact ⟨5, by decide, h⟩
  · exact ⟨7, by decide, rfl⟩
  · show ∃ ph', ph' < 8 ∧ (if c = 59 then upd (upd u 3 0) 4 0 else upd u 3 (u 3 * 10 + (c - 48))) 4 = nI ph'
    by_cases h2 : c = 59
    · rw [if_pos h2]; exact ⟨0, by decide, rfl⟩
    · rw [if_neg h2, pk_un (by decide)]; exact ⟨7, by decide, h⟩
theorem rS_ph {t r : Nat → Int32} (h : r 4 = nI 0) : ∀ i, ∃ ph, ph < 8 ∧ rS t r i 4 = nI ph
  | 0 => ⟨0, by decide, h⟩
  | i + 1 => by
    obtain ⟨ph, h1, h2⟩ := rS_ph h i
    rw [rS_s]
    exact gk_ph h2 h1
theorem k_ld7 {j : Nat} {g : Int32 → Option jm_X} (hj : j < 60) : jf_ldI (hC F π sc rd cd q) 107 (nI j) g = g (cd j) := by
  rw [ldI_e (o := 107) (n := 60) (f := sl cd 0 60) rfl hj (by decide), sl_in hj, Nat.zero_add]
theorem k_l7 {f : Int32 → Option jm_X} : jf_len (hC F π sc rd cd q) 107 f = f 60 := len_e (t := 0) (x := (60, .inl (sl cd 0 60))) rfl (by decide)
theorem k_read_l {m : Nat} (hm : m ≤ 60) (h2 : sc 2 = nI m) {r : Nat → Int32} (hr : r 4 = nI 0) : ∀ (d n i : Nat), i + d = m → d < n →
    ∃ j rd', i ≤ j ∧ j ≤ m ∧ (∀ x, i ≤ x → x < j → tk (rS cd r x) (cd x) = 1) ∧ (j < m → tk (rS cd r j) (cd j) = 0) ∧ (j = m → rd' = rS cd r m) ∧ FX3_readBuffer_9 N n 0 (nI i) (hC F π sc (rS cd r i) cd q) = rI (nI j) (hC F π sc rd' cd q)
  | 0, n, i, hd, hn => by
    obtain ⟨n', rfl⟩ : ∃ n', n = n' + 1 := ⟨n - 1, by omega⟩
    have : i = m := by omega
    subst this
    refine ⟨i, rS cd r i, by omega, by omega, fun x h1 h2 => by omega, fun h => by omega, fun _ => rfl, ?_⟩
    rw [FX3_readBuffer_9, k_i2, h2, if_pos (Int32.le_refl _), k_i2, h2]
  | d + 1, n, i, hd, hn => by
    obtain ⟨n', rfl⟩ : ∃ n', n = n' + 1 := ⟨n - 1, by omega⟩
    obtain ⟨ph, hp1, hp2⟩ := rS_ph (t := cd) hr i
    have e : FX3_readBuffer_9 N (n' + 1) 0 (nI i) (hC F π sc (rS cd r i) cd q) = if tk (rS cd r i) (cd i) = 0 then rI (nI i) (hC F π sc (rS cd r (i + 1)) cd q) else FX3_readBuffer_9 N n' 0 (nI (i + 1)) (hC F π sc (rS cd r (i + 1)) cd q) := by
      rw [FX3_readBuffer_9, k_i2, h2, if_neg (nI_ge (by omega) (by omega)), k_r4, k_l7, if_neg (show ¬ 60 ≤ nI i from nI_ge (b := 60) (by omega) (by decide)), k_r3, k_r4, k_ld7 (by omega), d_o, d_take hp2 hp1, I_e, nI_1, rS_s]
    by_cases h : tk (rS cd r i) (cd i) = 0
    · refine ⟨i, rS cd r (i + 1), by omega, by omega, fun x h1 h2 => by omega, fun _ => h, fun h => by omega, ?_⟩
      rw [e, if_pos h]
    · obtain ⟨j, rd', a1, a2, a3, a4, a5, a6⟩ := k_read_l hm h2 hr d n' (i + 1) (by omega) (by omega)
      refine ⟨j, rd', by omega, a2, fun x h1 h2 => ?_, a4, a5, ?_⟩
      · by_cases hx : x = i
        · subst hx; exact (tk_01 _ _).resolve_left h
        · exact a3 x (by omega) h2
      · rw [e, if_neg h, a6]
theorem k_read {m : Nat} (hm : m ≤ 60) (hN : 61 ≤ N) (h2 : sc 2 = nI m) : ∃ j rd', j ≤ m ∧ (∀ x, x < j → tk (rS cd (r0 rd) x) (cd x) = 1) ∧ (j < m → tk (rS cd (r0 rd) j) (cd j) = 0) ∧ (j = m → rd' = rS cd (r0 rd) m) ∧ FX3_readBuffer N 0 (hC F π sc rd cd q) = rI (nI j) (hC F π sc rd' cd q) := by
  obtain ⟨j, rd', a1, a2, a3, a4, a5, a6⟩ := k_read_l (F := F) (π := π) (sc := sc) (cd := cd) (q := q) (N := N) hm h2 (r := r0 rd) rfl m N 0 (by omega) (by omega)
  refine ⟨j, rd', a2, fun x hx => a3 x (by omega) hx, a4, a5, ?_⟩
  unfold FX3_readBuffer
  rw [k_r3, d_o, d_start, V_e]
  exact a6
theorem k_behind {h : Nat} (h4 : rd 4 = nI h) (hh : h < 8) : FX1_isBehindPart 106 (hC F π sc rd cd q) = rI (bl (h = 5 ∨ h = 7)) (hC F π sc rd cd q) := by
  unfold FX1_isBehindPart
  rw [d_g (by decide), h4]
  by_cases h1 : h = 5
  · subst h1
    rw [if_pos (show nI 5 = 5 from rfl), bl_t (Or.inl rfl)]
  · rw [if_neg (show ¬ nI h = 5 from fun e => h1 ((nI_eq (a := h) (b := 5) (by omega) (by decide)).mp e)), d_g (by decide), h4]
    by_cases h2 : h = 7
    · subst h2
      rw [if_pos (show nI 7 = 7 from rfl), bl_t (Or.inr rfl)]
    · rw [if_neg (show ¬ nI h = 7 from fun e => h2 ((nI_eq (a := h) (b := 7) (by omega) (by decide)).mp e)), bl_f (fun hh => hh.elim h1 h2)]
end RC

