/-! WHOLE TEXTS: their showings are made -/
def okL (l : Nat → Int32) (kk : Nat) : Prop := ∃ f c a p : Nat, l (4 * kk + 0) = nI f ∧ f ≤ 7 ∧ l (4 * kk + 1) = nI c ∧ c ≤ 2 ∧ l (4 * kk + 2) = nI a ∧ a ≤ 1999 ∧ l (4 * kk + 3) = nI p ∧ p ≤ 20 ∧ 4 * kk + 3 < 48
theorem okL_of {u l : Nat → Int32} {kk : Nat} (h : okA u) (hl : ∀ c, c < 4 → l (4 * kk + c) = u c) (hk : 4 * kk + 3 < 48) : okL l kk := by
  obtain ⟨f, c, a, p, h1, h2, h3, h4, h5, h6, h7, h8⟩ := h
  exact ⟨f, c, a, p, (hl 0 (by decide)).trans h1, h2, (hl 1 (by decide)).trans h3, h4, (hl 2 (by decide)).trans h5, h6, (hl 3 (by decide)).trans h7, h8, hk⟩
theorem Pt_ok {t r l : Nat → Int32} {m : Nat} : ∀ (d kk i x : Nat), Pt t r l m d kk i → kk ≤ x → x ≤ kk + d → okL l x
  | 0, kk, i, x, h, h1, h2 => by
    have : x = kk := by omega
    subst this
    exact okL_of h.2.2.2.1.1 h.2.2.1 h.2.2.2.2
  | d + 1, kk, i, x, h, h1, h2 => by
    obtain ⟨j, -, -, -, -, a1, a2, a3, a4⟩ := h
    by_cases hx : x = kk
    · subst hx; exact okL_of a2.1 a1 a3
    · exact Pt_ok d (kk + 1) (j + 1) x a4 (by omega) (by omega)
theorem okA_eq {u w : Nat → Int32} (h : ∀ c, c < 4 → u c = w c) (hu : okA u) : okA w := by
  obtain ⟨f, c, a, p, h1, h2, h3, h4, h5, h6, h7, h8⟩ := hu
  exact ⟨f, c, a, p, (h 0 (by decide)).symm.trans h1, h2, (h 1 (by decide)).symm.trans h3, h4, (h 2 (by decide)).symm.trans h5, h6, (h 3 (by decide)).symm.trans h7, h8⟩
theorem endP_eq {u w : Nat → Int32} (h : u 4 = w 4) (hu : endP u) : endP w := hu.elim (fun e => Or.inl (h.symm.trans e)) (fun e => Or.inr (h.symm.trans e))
theorem Pt_tr {t r r' l : Nat → Int32} {m : Nat} (h0 : r 4 = nI 0) (hr : eqR r r') : ∀ (d kk i : Nat), Pt t r l m d kk i → Pt t r' l m d kk i
  | 0, kk, i, h => by
    have e := eqR_end (eqR_rS (t := t) h0 hr m) h.2.2.2.1.2
    exact ⟨h.1, h.2.1, fun c hc => (h.2.2.1 c hc).trans (e c hc), ⟨okA_eq e h.2.2.2.1.1, endP_eq (eqR_rS (t := t) h0 hr m).1 h.2.2.2.1.2⟩, h.2.2.2.2⟩
  | d + 1, kk, i, h => by
    obtain ⟨j, b1, b2, b3, b4, a1, a2, a3, a4⟩ := h
    have e := eqR_end (eqR_rS (t := t) h0 hr j) a2.2
    exact ⟨j, b1, b2, b3, b4, fun c hc => (a1 c hc).trans (e c hc), ⟨okA_eq e a2.1, endP_eq (eqR_rS (t := t) h0 hr j).1 a2.2⟩, a3, Pt_tr h0 hr d (kk + 1) (j + 1) a4⟩
def pst1 (v : Nat → Int32) (f : Nat) (c a p k : Int32) : Bool × (Nat → Int32) := if nI f < v 0 then (if sRf v f c a p = 0 then (true, uShow v (nI f) c a p) else (false, uStop v k (sRf v f c a p) (sWay v f c a p (sRf v f c a p)))) else (false, uStop v k 5 (-1))
def pst (l : Nat → Int32) (kk : Nat) (v : Nat → Int32) : Bool × (Nat → Int32) := pst1 v (l (4 * kk + 0)).toNatClampNeg (l (4 * kk + 1)) (l (4 * kk + 2)) (l (4 * kk + 3)) (nI kk)
def pmk (l : Nat → Int32) : Nat → Nat → (Nat → Int32) → Int32 × (Nat → Int32)
  | 0, kk, v => if (pst l kk v).1 = true then (nI (kk + 1), (pst l kk v).2) else (nI kk, (pst l kk v).2)
  | d + 1, kk, v => if (pst l kk v).1 = true then pmk l d (kk + 1) (pst l kk v).2 else (nI kk, (pst l kk v).2)
theorem cnt_lt {v : Nat → Int32} (hI : Iv v) {f : Nat} (hf : f < 4000) : nI f < v 0 ↔ f < cnt v 0 := by
  rw [hI.nf.1, nI_ltI (by omega) (by have := hI.nf.2; omega)]
theorem pst_Iv {l v : Nat → Int32} {kk : Nat} (h : okL l kk) (hI : Iv v) : Iv (pst l kk v).2 := by
  obtain ⟨f, c, a, p, h1, h2, h3, h4, h5, h6, h7, h8, -⟩ := h
  unfold pst pst1
  rw [h1, h3, h5, h7, nI_clamp (by omega)]
  by_cases c1 : nI f < v 0
  · rw [if_pos c1]
    by_cases c2 : sRf v f (nI c) (nI a) (nI p) = 0
    · rw [if_pos c2]
      exact Iv_show hI ((cnt_lt hI (by omega)).mp c1) (by omega) (by omega) (by omega) c2
    · rw [if_neg c2]; exact Iv_stop hI
  · rw [if_neg c1]; exact Iv_stop hI
theorem pmk_Iv {l : Nat → Int32} : ∀ (d kk : Nat) (v : Nat → Int32), (∀ x, kk ≤ x → x ≤ kk + d → okL l x) → Iv v → Iv (pmk l d kk v).2
  | 0, kk, v, h, hI => by
    unfold pmk
    split <;> exact pst_Iv (h kk (by omega) (by omega)) hI
  | d + 1, kk, v, h, hI => by
    have := pst_Iv (h kk (by omega) (by omega)) hI
    unfold pmk
    split
    · exact pmk_Iv d (kk + 1) _ (fun x h1 h2 => h x (by omega) (by omega)) this
    · exact this
section CM
variable {F : Nat → Nat → Int32} {π : Nat → Nat} {sc rd cd : Nat → Int32} {q : jm_H} {N m : Nat}
theorem c_part {l : Nat → Int32} {kk : Nat} (hN : 13 ≤ N) (hI : Iv (F 0)) (ha : okA rd) (hl : ∀ c, c < 4 → l (4 * kk + c) = rd c) : FX3_makePart N 0 (nI kk) (hC F π sc rd cd q) = rI (bl ((pst l kk (F 0)).1 = true)) (hC (fu F 0 (pst l kk (F 0)).2) π sc rd cd q) := by
  obtain ⟨f, c, a, p, h1, h2, h3, h4, h5, h6, h7, h8⟩ := ha
  unfold FX3_makePart pst pst1
  rw [hl 0 (by decide), hl 1 (by decide), hl 2 (by decide), hl 3 (by decide), h1, h3, h5, h7, nI_clamp (by omega)]
  rw [k_r3, d_g (by decide), k_r0, c_r0, c_n0, h1]
  by_cases c1 : nI f < F 0 0
  · have hf := (cnt_lt hI (by omega)).mp c1
    rw [if_pos c1, if_pos c1, k_r0, k_r3, d_g (by decide), k_r3, d_g (by decide), k_r3, d_g (by decide), k_r3, d_g (by decide), h1, h3, h5, h7, c_o1, c_rf hN hI hf, I_e]
    by_cases c2 : sRf (F 0) f (nI c) (nI a) (nI p) = 0
    · have h12 : cnt (F 0) 1 < 12 := by
        have := (sRf_z c2).1
        rw [hI.ns.1] at this
        exact (nI_ltI (a := cnt (F 0) 1) (b := 12) (by have := hI.ns.2; omega) (by decide)).mp this
      rw [if_pos c2, if_pos c2, k_r0, k_r3, d_g (by decide), k_r3, d_g (by decide), k_r3, d_g (by decide), k_r3, d_g (by decide), h1, h3, h5, h7, c_o1, c_addShow hI h12, I_e, bl_t rfl]
    · rw [if_neg c2, if_neg c2, k_r0, k_r0, k_r3, d_g (by decide), k_r3, d_g (by decide), k_r3, d_g (by decide), k_r3, d_g (by decide), h1, h3, h5, h7, c_o1, c_way hN hI hf, I_e, c_o1, c_stops, V_e]
      rfl
  · rw [if_neg c1, if_neg c1, k_r0, c_o1, c_stops, V_e]
    rfl
theorem c_mk_l {l : Nat → Int32} (hN : 62 ≤ N) (hm : m ≤ 60) (h2 : sc 2 = nI m) {r : Nat → Int32} (hr : r 4 = nI 0) : ∀ (b n d kk i : Nat) (F : Nat → Nat → Int32), i + b = m → b + 1 < n → Pt cd r l m d kk i → Iv (F 0) →
    ∃ rd', FX3_makeShowings_21 N n 0 (nI kk) (nI i) (hC F π sc (rS cd r i) cd q) = rI (pmk l d kk (F 0)).1 (hC (fu F 0 (pmk l d kk (F 0)).2) π sc rd' cd q)
  | 0, n, d, kk, i, F, hb, hn, hp, hI => by
    obtain ⟨n', rfl⟩ : ∃ n', n = n' + 2 := ⟨n - 2, by omega⟩
    have : i = m := by omega
    subst this
    match d, hp with
    | 0, hp =>
      obtain ⟨-, -, h5, h6, h7⟩ := hp
      rw [FX3_makeShowings_21, k_i2, h2, if_neg (show ¬ nI i < nI i from fun h => Int32.lt_irrefl h), k_r4, k_l7, if_neg (show ¬ 60 < nI i from nI_nlt (b := i) (a := 60) (by omega) (by decide)), k_i2, h2, if_pos (Int32.le_refl _), c_o, c_part (l := l) (by omega) hI h6.1 h5, I_e]
      unfold pmk
      by_cases c : (pst l kk (F 0)).1 = true
      · rw [bl_t c, if_neg (by decide), if_pos c, nI_1, nI_1, FX3_makeShowings_21, k_i2, h2, if_pos (nI_lt (by omega) (by omega))]
        exact ⟨_, rfl⟩
      · rw [bl_f c, if_pos rfl, if_neg c]
        exact ⟨_, rfl⟩
    | d + 1, hp =>
      obtain ⟨j, h3, h4, -⟩ := hp
      omega
  | b + 1, n, d, kk, i, F, hb, hn, hp, hI => by
    obtain ⟨n', rfl⟩ : ∃ n', n = n' + 1 := ⟨n - 1, by omega⟩
    obtain ⟨ph, hp1, hp2⟩ := rS_ph (t := cd) hr i
    rw [FX3_makeShowings_21, k_i2, h2, if_neg (nI_nlt (by omega) (by omega)), k_r4, k_l7, if_neg (show ¬ 60 < nI i from nI_nlt (b := i) (a := 60) (by omega) (by decide)), k_i2, h2, if_neg (nI_ge (by omega) (by omega)), k_r4, k_l7, if_pos (show nI i < 60 from nI_lt (b := 60) (by omega) (by decide)), k_r4, k_ld7 (by omega)]
    by_cases c : cd i = 59
    · match d, hp with
      | 0, hp => exact absurd c (hp.2.1 i (Nat.le_refl _) (by omega))
      | d + 1, hp =>
        obtain ⟨j, h3, h4, h5, h6, h7, h8, h9, h10⟩ := hp
        have : j = i := by
          rcases Nat.lt_or_ge i j with h | h
          · exact absurd c (h5 i (Nat.le_refl _) h)
          · omega
        subst this
        rw [if_pos c, c_o, c_part (l := l) (by omega) hI h8.1 h7, I_e]
        unfold pmk
        by_cases c3 : (pst l kk (F 0)).1 = true
        · obtain ⟨rd', e⟩ := c_mk_l hN hm h2 hr b n' d (kk + 1) (j + 1) (fu F 0 (pst l kk (F 0)).2) (by omega) (by omega) h10 (by rw [fu_s]; exact pst_Iv (okL_of h8.1 h7 h9) hI)
          rw [bl_t c3, if_neg (by decide), if_pos c3, k_r3, k_r4, k_ld7 (by omega), d_o, d_take hp2 hp1, I_e, nI_1, nI_1, ← rS_s, e, fu_fu, fu_s]
          exact ⟨_, rfl⟩
        · rw [bl_f c3, if_pos rfl, if_neg c3]
          exact ⟨_, rfl⟩
    · rw [if_neg c, k_r3, k_r4, k_ld7 (by omega), d_o, d_take hp2 hp1, I_e, nI_1, ← rS_s]
      refine c_mk_l hN hm h2 hr b n' d kk (i + 1) F (by omega) (by omega) ?_ hI
      match d, hp with
      | 0, hp => exact ⟨by omega, fun x h1 h2 => hp.2.1 x (by omega) h2, hp.2.2⟩
      | d + 1, hp =>
        obtain ⟨j, h3, h4, h5, h6, h7⟩ := hp
        have : j ≠ i := fun e => by subst e; exact c h6
        exact ⟨j, by omega, h4, fun x h1 h2 => h5 x (by omega) h2, h6, h7⟩
theorem c_mk {l : Nat → Int32} {d : Nat} (hN : 63 ≤ N) (hm : m ≤ 60) (h2 : sc 2 = nI m) (hp : Pt cd (r0 rd) l m d 0 0) (hI : Iv (F 0)) :
    ∃ rd', FX3_makeShowings N 0 (hC F π sc rd cd q) = rI (pmk l d 0 (uStop (F 0) (-1) (-1) (-1))).1 (hC (fu F 0 (pmk l d 0 (uStop (F 0) (-1) (-1) (-1))).2) π sc rd' cd q) := by
  unfold FX3_makeShowings
  rw [k_r0, c_o1, c_stops, V_e, k_r3, d_o, d_start, V_e]
  obtain ⟨rd', e⟩ := c_mk_l (π := π) (sc := sc) (q := q) (N := N) (l := l) (by omega) hm h2 (r := r0 rd) rfl m N d 0 0 (fu F 0 (uStop (F 0) (-1) (-1) (-1))) (by omega) (by omega) hp (by rw [fu_s]; exact Iv_stop hI)
  rw [fu_fu, fu_s] at e
  exact ⟨rd', e⟩
end CM
theorem sRs_2 {v : Nat → Int32} {f : Nat} {c a p : Int32} : (sRs v f c a p).2.1 = sWay v f c a p (sRf v f c a p) := by
  unfold sRs sRf
  by_cases h : v 1 < 12
  · rw [if_pos h, if_pos h]
    unfold sLk sRb sWay
    by_cases h1 : a + sLen v f + p ≤ 2000
    · rw [if_pos h1, if_pos h1]
      by_cases h2 : sTs v c a (a + sLen v f + p) (-1) = -1
      · rw [if_pos h2, if_pos h2]
        by_cases h3 : sTr v f c a p (-1) = -1
        · rw [if_pos h3, if_pos h3, if_neg (by decide), if_neg (by decide)]
        · rw [if_neg h3, if_neg h3, if_neg (by decide), if_pos rfl]
      · rw [if_neg h2, if_neg h2, if_pos rfl]
    · rw [if_neg h1, if_neg h1, if_neg (by decide), if_neg (by decide)]
  · rw [if_neg h, if_neg h]
    unfold sWay
    rw [if_neg (by decide), if_neg (by decide)]
theorem sRs_3 {v : Nat → Int32} {f : Nat} {c a p : Int32} : (sRs v f c a p).2.2 = if sRf v f c a p = 4 then sCl v f a p (sWay v f c a p (sRf v f c a p)).toNatClampNeg else -1 := by
  unfold sRs sRf
  by_cases h : v 1 < 12
  · rw [if_pos h, if_pos h]
    unfold sLk sRb sWay
    by_cases h1 : a + sLen v f + p ≤ 2000
    · rw [if_pos h1, if_pos h1]
      by_cases h2 : sTs v c a (a + sLen v f + p) (-1) = -1
      · rw [if_pos h2, if_pos h2]
        by_cases h3 : sTr v f c a p (-1) = -1
        · rw [if_pos h3, if_pos h3, if_neg (by decide)]
        · rw [if_neg h3, if_neg h3, if_pos rfl, if_neg (by decide), if_pos rfl]
      · rw [if_neg h2, if_neg h2, if_neg (by decide)]
    · rw [if_neg h1, if_neg h1, if_neg (by decide)]
  · rw [if_neg h, if_neg h, if_neg (by decide)]
section RM
variable {P : jm_H} {v p k t l rs : Nat → Int32} {hs : Int64} {q : jm_H} {N : Nat}
theorem in_n {x : Int32} {n : Nat} (hn : n < 2 ^ 15) : (0 ≤ x ∧ x ≤ nI n - 1) ↔ ∃ f, f < n ∧ x = nI f := by
  constructor
  · rintro ⟨h1, h2⟩
    obtain ⟨f, hf, rfl⟩ := nI_of (Int32.not_lt.mpr h1)
    match n with
    | 0 =>
      have h3 : nI f ≤ -1 := h2
      have h4 := Int32.le_iff_toInt_le.mp h3
      rw [nI_toInt hf] at h4
      have h5 : ((-1 : Int32)).toInt = -1 := rfl
      omega
    | n + 1 =>
      rw [nI_pred] at h2
      exact ⟨f, by have := (nI_leI hf (by omega)).mp h2; omega, rfl⟩
  · rintro ⟨f, hf, rfl⟩
    obtain ⟨n', rfl⟩ : ∃ n', n = n' + 1 := ⟨n - 1, by omega⟩
    rw [nI_pred]
    exact ⟨nI_pos' (by omega), nI_le (by omega) (by omega)⟩
end RM

