/-! WHOLE TEXTS: the first error; what a text's parts are -/
def Pt (t r l : Nat → Int32) (m : Nat) : Nat → Nat → Nat → Prop
  | 0, kk, i => i ≤ m ∧ (∀ x, i ≤ x → x < m → t x ≠ 59) ∧ (∀ c, c < 4 → l (4 * kk + c) = rS t r m c) ∧ (okA (rS t r m) ∧ endP (rS t r m)) ∧ 4 * kk + 3 < 48
  | d + 1, kk, i => ∃ j, i ≤ j ∧ j < m ∧ (∀ x, i ≤ x → x < j → t x ≠ 59) ∧ t j = 59 ∧ (∀ c, c < 4 → l (4 * kk + c) = rS t r j c) ∧ (okA (rS t r j) ∧ endP (rS t r j)) ∧ 4 * kk + 3 < 48 ∧ Pt t r l m d (kk + 1) (j + 1)
def errAt (t r : Nat → Int32) (m j : Nat) : Prop := j ≤ m ∧ (∀ x, x < j → tk (rS t r x) (t x) = 1) ∧ (j < m → tk (rS t r j) (t j) = 0)
theorem err_u {t r : Nat → Int32} {m a b : Nat} (h1 : errAt t r m a) (h2 : errAt t r m b) : a = b := by
  have z : ¬ (1 : Int32) = 0 := by decide
  rcases Nat.lt_trichotomy a b with h | h | h
  · have := h2.2.1 a h
    rw [h1.2.2 (by have := h2.1; omega)] at this
    exact absurd this.symm z
  · exact h
  · have := h1.2.1 b h
    rw [h2.2.2 (by have := h1.1; omega)] at this
    exact absurd this.symm z
theorem semi {t r : Nat → Int32} {j : Nat} (he : endP (rS t r j)) (h : t j = 59) : tk (rS t r j) (t j) = 1 ∧ rS t r (j + 1) 4 = nI 0 ∧ rS t r (j + 1) 3 = nI 0 := by
  rcases he with he | he
  · rw [rS_s, (ph5 he).1, (ph5 he).2, h, if_neg (by decide), if_pos rfl, pk_us, pk_un (by decide), pk_us]
    exact ⟨bl_t (Or.inr (Or.inl rfl)), rfl, rfl⟩
  · rw [rS_s, (ph7 he).1, (ph7 he).2, h, if_pos rfl, pk_us, pk_un (by decide), pk_us]
    exact ⟨bl_t (Or.inl rfl), rfl, rfl⟩
section WW
variable {P : jm_H} {v p k t l rs : Nat → Int32} {hs : Int64} {q : jm_H} {N m i kk : Nat}
theorem r_whole_l (hP : P.length = 108) (h2 : rs 2 = nI m) (ht : okT t m) (hN : 62 ≤ N) {r : Nat → Int32} : ∀ (b n i kk : Nat) (l : Nat → Int32), i + b ≥ m → i ≤ m → b + 1 < n → 6 * kk ≤ i → rS t r i 4 = nI 0 → rS t r i 3 = nI 0 →
    (∃ d l', FX4_isWhole_12 N n 108 1 (RR P v p k t rs hs q i kk l) = rI 1 (RR P v p k t rs hs q m (kk + d + 1) l') ∧ (∀ x, i ≤ x → x < m → tk (rS t r x) (t x) = 1) ∧ endP (rS t r m) ∧ Pt t r l' m d kk i ∧ (∀ x, x < 4 * kk → l' x = l x)) ∨
    (∃ j k2 l', FX4_isWhole_12 N n 108 1 (RR P v p k t rs hs q i kk l) = rI 0 (RR P v p k t rs hs q j k2 l') ∧ i ≤ j ∧ j ≤ m ∧ (∀ x, i ≤ x → x < j → tk (rS t r x) (t x) = 1) ∧ (j < m → tk (rS t r j) (t j) = 0) ∧ (j = m → midP (rS t r m)))
  | b, n, i, kk, l, hb, hi, hn, hk, h4, h3 => by
    obtain ⟨n', rfl⟩ : ∃ n', n = n' + 1 := ⟨n - 1, by omega⟩
    have hm := ht.1
    have z : ¬ (1 : Int32) = 0 := by decide
    rw [FX4_isWhole_12, if_neg z, r_o hP]
    rcases r_part (P := P) (v := v) (p := p) (k := k) (l := l) (hs := hs) (q := q) (N := N) hP h2 ht hN (r := r) hi hk h4 h3 with ⟨j, l', e, a1, a2, a3, a4, a5⟩ | ⟨j, l', e, a1, a2, a3, a4, a5, a6, a7, a8⟩
    · right
      refine ⟨j, kk, l', ?_, a1, a2, fun x hx hx' => (a3 x hx hx').1, a4, fun hj => by rw [← hj]; exact a5⟩
      rw [e, I_e, if_pos rfl]
    · rw [e, I_e, if_neg z, r_i8 hP, w2_8, r_p8 hP, nI_1, w2_u8, r_o hP, show (59 : Int32) = nI 59 from rfl]
      by_cases c : j < m ∧ cN t j = 59
      · obtain ⟨s1, s2, s3⟩ := semi a4 (eq_code ht c.1 c.2)
        obtain ⟨b', rfl⟩ : ∃ b', b = b' + 1 := ⟨b - 1, by omega⟩
        rw [r_takes1 hP h2 ht (by decide) c, I_e]
        rcases r_whole_l hP h2 ht hN (r := r) b' n' (j + 1) (kk + 1) l' (by omega) (by omega) (by omega) (by omega) s2 s3 with ⟨d, l2, e2, b1, b2, b3, b4⟩ | ⟨j2, k2, l2, e2, b1, b2, b3, b4, b5⟩
        · left
          refine ⟨d + 1, l2, ?_, fun x hx hx' => ?_, b2, ⟨j, by omega, c.1, fun x hx hx' => (a3 x hx hx').2, eq_code ht c.1 c.2, fun c hc => by rw [b4 _ (by omega), a5 c hc], ⟨a7, a4⟩, by omega, b3⟩, fun x hx => by rw [b4 x (by omega), a6 x hx]⟩
          · rw [e2, show kk + 1 + d + 1 = kk + (d + 1) + 1 by omega]
          · rcases Nat.lt_trichotomy x j with h | h | h
            · exact (a3 x hx h).1
            · rw [h]; exact s1
            · exact b1 x (by omega) hx'
        · right
          refine ⟨j2, k2, l2, e2, by omega, b2, fun x hx hx' => ?_, b4, b5⟩
          rcases Nat.lt_trichotomy x j with h | h | h
          · exact (a3 x hx h).1
          · rw [h]; exact s1
          · exact b3 x (by omega) hx'
      · obtain ⟨n2, rfl⟩ : ∃ n2, n' = n2 + 1 := ⟨n' - 1, by omega⟩
        rw [r_takes0 hP h2 ht (by decide) a2 (fun h hh => c ⟨h, hh⟩), I_e, FX4_isWhole_12, if_pos rfl, r_i7 hP, r_i2 hP, w2_7, w2_o (by decide) (by decide), h2]
        by_cases hj : j = m
        · subst hj
          left
          refine ⟨0, l', ?_, fun x hx hx' => (a3 x hx hx').1, a4, ⟨hi, fun x hx hx' => (a3 x hx hx').2, a5, ⟨a7, a4⟩, by omega⟩, a6⟩
          rw [if_pos rfl]
        · right
          refine ⟨j, kk + 1, l', ?_, by omega, a2, fun x hx hx' => (a3 x hx hx').1, fun hj2 => a8 hj2 (ne_code ht hj2 (c := 59) (by decide) (fun h => c ⟨hj2, h⟩)), fun h => absurd h hj⟩
          rw [if_neg (fun e => hj ((nI_eq (by omega) (by omega)).mp e))]
theorem r_whole (hP : P.length = 108) (h2 : rs 2 = nI m) (ht : okT t m) (hN : 63 ≤ N) {r : Nat → Int32} (h4 : r 4 = nI 0) (h3 : r 3 = nI 0) :
    (∃ d l', FX4_isWhole N 108 (hR P v p k t l rs hs q) = rI 1 (RR P v p k t rs hs q m (d + 1) l') ∧ errAt t r m m ∧ endP (rS t r m) ∧ Pt t r l' m d 0 0) ∨
    (∃ j k2 l', FX4_isWhole N 108 (hR P v p k t l rs hs q) = rI 0 (RR P v p k t rs hs q j k2 l') ∧ errAt t r m j ∧ (j = m → midP (rS t r m))) := by
  have hm := ht.1
  unfold FX4_isWhole
  rw [r_p7 hP, r_p8 hP]
  rcases r_whole_l (P := P) (v := v) (p := p) (k := k) (hs := hs) (q := q) (N := N) hP h2 ht (by omega) (r := r) m N 0 0 l (by omega) (by omega) (by omega) (by omega) h4 h3 with ⟨d, l', e, b1, b2, b3, -⟩ | ⟨j, k2, l', e, b1, b2, b3, b4, b5⟩
  · left
    refine ⟨d, l', ?_, ⟨Nat.le_refl _, fun x hx => b1 x (by omega) hx, fun h => by omega⟩, b2, b3⟩
    rw [← Nat.zero_add d]
    exact e
  · right
    exact ⟨j, k2, l', e, ⟨b2, fun x hx => b3 x (by omega) hx, b4⟩, b5⟩
theorem r_fe (hP : P.length = 108) (h2 : rs 2 = nI m) (ht : okT t m) (hN : 63 ≤ N) {r : Nat → Int32} (h4 : r 4 = nI 0) (h3 : r 3 = nI 0) {j : Nat} (hj : errAt t r m j) :
    ∃ i2 k2 l', FX4_firstError N 108 (hR P v p k t l rs hs q) = rI (nI j) (RR P v p k t (upd rs 3 0) hs q i2 k2 l') := by
  unfold FX4_firstError
  rw [r_p3 hP, r_o hP]
  rcases r_whole (P := P) (v := v) (p := p) (k := k) (l := l) (rs := upd rs 3 0) (hs := hs) (q := q) (N := N) hP (by rw [pk_un (by decide)]; exact h2) ht hN h4 h3 with ⟨d, l', e, b1, b2, b3⟩ | ⟨j', k2, l', e, b1, b2⟩
  · refine ⟨m, d + 1, l', ?_⟩
    rw [e, I_e, if_neg (by decide), r_i2 hP, w2_o (by decide) (by decide), pk_un (by decide), h2, err_u hj b1]
  · refine ⟨j', k2, l', ?_⟩
    rw [e, I_e, if_pos rfl, r_i7 hP, w2_7, err_u hj b1]
end WW
/-! two readers of the same phase -/
def eqR (u w : Nat → Int32) : Prop := u 4 = w 4 ∧ u 3 = w 3 ∧ ((∃ ph, ph < 8 ∧ 1 ≤ ph ∧ u 4 = nI ph) → u 0 = w 0) ∧ ((∃ ph, ph < 8 ∧ 3 ≤ ph ∧ u 4 = nI ph) → u 1 = w 1) ∧ ((∃ ph, ph < 8 ∧ 5 ≤ ph ∧ u 4 = nI ph) → u 2 = w 2)
theorem ph_no {u : Nat → Int32} {a b : Nat} (h : u 4 = nI a) (hab : a < b) (ha : a < 8) : ¬ ∃ ph, ph < 8 ∧ b ≤ ph ∧ u 4 = nI ph := by
  rintro ⟨ph, h1, h2, h3⟩
  have := (nI_eq (by omega) (by omega)).mp (h.symm.trans h3)
  omega
theorem eqR_gk {u w : Nat → Int32} {c : Int32} {ph : Nat} (hp : ph < 8) (h4 : u 4 = nI ph) (h : eqR u w) : eqR (gk u c) (gk w c) := by
  obtain ⟨e4, e3, e0, e1, e2⟩ := h
  have w4 : w 4 = nI ph := e4.symm.trans h4
  have : ph = 0 ∨ ph = 1 ∨ ph = 2 ∨ ph = 3 ∨ ph = 4 ∨ ph = 5 ∨ ph = 6 ∨ ph = 7 := by omega
  rcases this with rfl | rfl | rfl | rfl | rfl | rfl | rfl | rfl
  · rw [(ph0 h4).2, (ph0 w4).2]
    exact ⟨rfl, e3, fun _ => rfl, fun hh => absurd hh (ph_no (a := 1) rfl (by decide) (by decide)), fun hh => absurd hh (ph_no (a := 1) rfl (by decide) (by decide))⟩
  · rw [(ph1 h4).2, (ph1 w4).2]
    exact ⟨rfl, e3, fun _ => e0 ⟨1, by decide, by decide, h4⟩, fun hh => absurd hh (ph_no (a := 2) rfl (by decide) (by decide)), fun hh => absurd hh (ph_no (a := 2) rfl (by decide) (by decide))⟩
  · rw [(ph2 h4).2, (ph2 w4).2]
    exact ⟨rfl, e3, fun _ => e0 ⟨2, by decide, by decide, h4⟩, fun _ => rfl, fun hh => absurd hh (ph_no (a := 3) rfl (by decide) (by decide))⟩
  · rw [(ph3 h4).2, (ph3 w4).2]
    exact ⟨rfl, e3, fun _ => e0 ⟨3, by decide, by decide, h4⟩, fun _ => e1 ⟨3, by decide, by decide, h4⟩, fun hh => absurd hh (ph_no (a := 4) rfl (by decide) (by decide))⟩
  · rw [(ph4 h4).2, (ph4 w4).2]
    exact ⟨rfl, e3, fun _ => e0 ⟨4, by decide, by decide, h4⟩, fun _ => e1 ⟨4, by decide, by decide, h4⟩, fun _ => rfl⟩
  · have d0 := e0 ⟨5, by decide, by decide, h4⟩
    have d1 := e1 ⟨5, by decide, by decide, h4⟩
    have d2 := e2 ⟨5, by decide, by decide, h4⟩
    rw [(ph5 h4).2, (ph5 w4).2]
    by_cases c1 : c = 43
    · rw [if_pos c1, if_pos c1]
      exact ⟨rfl, e3, fun _ => d0, fun _ => d1, fun _ => d2⟩
    · rw [if_neg c1, if_neg c1]
      by_cases c2 : c = 59
      · rw [if_pos c2, if_pos c2]
        exact ⟨rfl, rfl, fun _ => d0, fun _ => d1, fun _ => d2⟩
      · rw [if_neg c2, if_neg c2, d2]
        exact ⟨e4, e3, fun _ => d0, fun _ => d1, fun _ => rfl⟩
  · rw [(ph6 h4).2, (ph6 w4).2]
    exact ⟨rfl, rfl, fun _ => e0 ⟨6, by decide, by decide, h4⟩, fun _ => e1 ⟨6, by decide, by decide, h4⟩, fun _ => e2 ⟨6, by decide, by decide, h4⟩⟩
  · have d0 := e0 ⟨7, by decide, by decide, h4⟩
    have d1 := e1 ⟨7, by decide, by decide, h4⟩
    have d2 := e2 ⟨7, by decide, by decide, h4⟩
    rw [(ph7 h4).2, (ph7 w4).2]
    by_cases c2 : c = 59
    · rw [if_pos c2, if_pos c2]
      exact ⟨rfl, rfl, fun _ => d0, fun _ => d1, fun _ => d2⟩
    · rw [if_neg c2, if_neg c2, e3]
      exact ⟨e4, rfl, fun _ => d0, fun _ => d1, fun _ => d2⟩
theorem eqR_rS {t r r' : Nat → Int32} (h0 : r 4 = nI 0) (h : eqR r r') : ∀ i, eqR (rS t r i) (rS t r' i)
  | 0 => h
  | i + 1 => by
    obtain ⟨ph, h1, h2⟩ := rS_ph (t := t) h0 i
    rw [rS_s, rS_s]
    exact eqR_gk h1 h2 (eqR_rS h0 h i)
theorem eqR_r0 (r r' : Nat → Int32) : eqR (r0 r) (r0 r') := ⟨rfl, rfl, fun hh => absurd hh (ph_no (a := 0) rfl (by decide) (by decide)), fun hh => absurd hh (ph_no (a := 0) rfl (by decide) (by decide)), fun hh => absurd hh (ph_no (a := 0) rfl (by decide) (by decide))⟩
theorem eqR_end {u w : Nat → Int32} (h : eqR u w) (he : endP u) : ∀ c, c < 4 → u c = w c := by
  obtain ⟨e4, e3, e0, e1, e2⟩ := h
  have : ∃ ph, ph < 8 ∧ 5 ≤ ph ∧ u 4 = nI ph := he.elim (fun h => ⟨5, by decide, by decide, h⟩) (fun h => ⟨7, by decide, by decide, h⟩)
  obtain ⟨ph, h1, h2, h3⟩ := this
  intro c hc
  have : c = 0 ∨ c = 1 ∨ c = 2 ∨ c = 3 := by omega
  rcases this with rfl | rfl | rfl | rfl
  · exact e0 ⟨ph, h1, by omega, h3⟩
  · exact e1 ⟨ph, h1, by omega, h3⟩
  · exact e2 ⟨ph, h1, h2, h3⟩
  · exact e3
