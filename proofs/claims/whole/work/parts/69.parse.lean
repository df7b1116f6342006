/-! THE REFERENCE reads a text -/
def cN (t : Nat → Int32) (i : Nat) : Nat := (t i).toNatClampNeg
def w2 (rs : Nat → Int32) (i kk : Nat) : Nat → Int32 := upd (upd rs 7 (nI i)) 8 (nI kk)
section W2
variable {rs : Nat → Int32} {i j kk k2 : Nat}
theorem w2_7 : w2 rs i kk 7 = nI i := by unfold w2; rw [pk_un (by decide), pk_us]
theorem w2_8 : w2 rs i kk 8 = nI kk := by unfold w2; rw [pk_us]
theorem w2_o {x : Nat} (h : x ≠ 7) (h' : x ≠ 8) : w2 rs i kk x = rs x := by unfold w2; rw [pk_un h', pk_un h]
theorem w2_u7 : upd (w2 rs i kk) 7 (nI j) = w2 rs j kk := by
  unfold w2
  funext x
  by_cases h8 : x = 8
  · subst h8; rw [pk_un (by decide), pk_us, pk_us]
  · by_cases h7 : x = 7
    · subst h7; rw [pk_us, pk_un (by decide), pk_us]
    · rw [pk_un h7, pk_un h8, pk_un h7, pk_un h8, pk_un h7]
theorem w2_u8 : upd (w2 rs i kk) 8 (nI k2) = w2 rs i k2 := by
  unfold w2
  funext x
  by_cases h8 : x = 8
  · subst h8; rw [pk_us, pk_us]
  · rw [pk_un h8, pk_un h8, pk_un h8]
theorem w2_w2 : w2 (w2 rs i kk) j k2 = w2 rs j k2 := by
  show upd (upd (w2 rs i kk) 7 (nI j)) 8 (nI k2) = _
  rw [w2_u7, w2_u8]
end W2
theorem dg7 : ∀ c, c < 127 → ((0 ≤ nI c - 48 ∧ nI c - 48 ≤ 7) ↔ (48 ≤ c ∧ c ≤ 55)) := by decide +kernel
theorem dg2 : ∀ c, c < 127 → ((0 ≤ nI c - 48 ∧ nI c - 48 ≤ 2) ↔ (48 ≤ c ∧ c ≤ 50)) := by decide +kernel
theorem dg9 : ∀ c, c < 127 → ((0 ≤ nI c - 48 ∧ nI c - 48 ≤ 9) ↔ (48 ≤ c ∧ c ≤ 57)) := by decide +kernel
theorem lgI {x a lim : Nat} (hx : x ≤ 1999) (ha : a < 127) (hl : lim ≤ 1999) : lg (nI x) (nI a - 48) (nI lim) ↔ (0 < x ∧ (48 ≤ a ∧ a ≤ 57) ∧ 10 * x + (a - 48) ≤ lim) := by
  unfold lg
  have e0 : nI x ≤ 0 ↔ x ≤ 0 := nI_leI (a := x) (b := 0) (by omega) (by decide)
  rw [dg9 a ha, e0]
  constructor
  · rintro ⟨h1, h2, h3⟩
    rw [show (48 : Int32) = nI 48 from rfl, pk_sub h2.1, show (10 : Int32) = nI 10 from rfl, pk_mul, nI_add, nI_ltI (by omega) (by omega)] at h3
    omega
  · rintro ⟨h1, h2, h3⟩
    refine ⟨by omega, h2, ?_⟩
    rw [show (48 : Int32) = nI 48 from rfl, pk_sub h2.1, show (10 : Int32) = nI 10 from rfl, pk_mul, nI_add, nI_ltI (by omega) (by omega)]
    omega
/-! the class's steps, phase by phase -/
section PH
variable {u : Nat → Int32} {c : Int32}
theorem ph0 (h : u 4 = nI 0) : tk u c = bl (0 ≤ c - 48 ∧ c - 48 ≤ 7) ∧ gk u c = upd (upd u 0 (c - 48)) 4 1 := by unfold tk gk; rw [h]; exact ⟨rfl, rfl⟩
theorem ph1 (h : u 4 = nI 1) : tk u c = bl (c = 47) ∧ gk u c = upd u 4 2 := by unfold tk gk; rw [h]; exact ⟨rfl, rfl⟩
theorem ph2 (h : u 4 = nI 2) : tk u c = bl (0 ≤ c - 48 ∧ c - 48 ≤ 2) ∧ gk u c = upd (upd u 1 (c - 48)) 4 3 := by unfold tk gk; rw [h]; exact ⟨rfl, rfl⟩
theorem ph3 (h : u 4 = nI 3) : tk u c = bl (c = 64) ∧ gk u c = upd u 4 4 := by unfold tk gk; rw [h]; exact ⟨rfl, rfl⟩
theorem ph4 (h : u 4 = nI 4) : tk u c = bl (0 ≤ c - 48 ∧ c - 48 ≤ 9) ∧ gk u c = upd (upd u 2 (c - 48)) 4 5 := by unfold tk gk; rw [h]; exact ⟨rfl, rfl⟩
theorem ph5 (h : u 4 = nI 5) : tk u c = bl (c = 43 ∨ c = 59 ∨ lg (u 2) (c - 48) 1999) ∧ gk u c = if c = 43 then upd u 4 6 else if c = 59 then upd (upd u 3 0) 4 0 else upd u 2 (u 2 * 10 + (c - 48)) := by unfold tk gk; rw [h]; exact ⟨rfl, rfl⟩
theorem ph6 (h : u 4 = nI 6) : tk u c = bl (0 ≤ c - 48 ∧ c - 48 ≤ 9) ∧ gk u c = upd (upd u 3 (c - 48)) 4 7 := by unfold tk gk; rw [h]; exact ⟨rfl, rfl⟩
theorem ph7 (h : u 4 = nI 7) : tk u c = bl (c = 59 ∨ lg (u 3) (c - 48) 20) ∧ gk u c = if c = 59 then upd (upd u 3 0) 4 0 else upd u 3 (u 3 * 10 + (c - 48)) := by unfold tk gk; rw [h]; exact ⟨rfl, rfl⟩
end PH
/-- a number goes on: phase 5 with the minute, phase 7 with the break -/
def okP (c lim ph : Nat) : Prop := (c = 2 ∧ lim = 1999 ∧ ph = 5) ∨ (c = 3 ∧ lim = 20 ∧ ph = 7)
theorem more_e {u : Nat → Int32} {c lim ph x a : Nat} (ho : okP c lim ph) (h : u 4 = nI ph) (hx : u c = nI x) (hxl : x ≤ lim) (ha : a < 127) (hm : 0 < x ∧ (48 ≤ a ∧ a ≤ 57) ∧ 10 * x + (a - 48) ≤ lim) : tk u (nI a) = 1 ∧ gk u (nI a) = upd u c (nI (10 * x + (a - 48))) := by
  have n43 : ¬ nI a = 43 := fun e => by
    have := (nI_eq (a := a) (b := 43) (by omega) (by decide)).mp e; omega
  have n59 : ¬ nI a = 59 := fun e => by
    have := (nI_eq (a := a) (b := 59) (by omega) (by decide)).mp e; omega
  have ev : nI x * 10 + (nI a - 48) = nI (10 * x + (a - 48)) := by
    rw [show (48 : Int32) = nI 48 from rfl, pk_sub hm.2.1.1, show (10 : Int32) = nI 10 from rfl, pk_mul, nI_add, Nat.mul_comm]
  rcases ho with ⟨rfl, rfl, rfl⟩ | ⟨rfl, rfl, rfl⟩
  · rw [(ph5 h).1, (ph5 h).2, if_neg n43, if_neg n59, hx]
    exact ⟨bl_t (Or.inr (Or.inr ((lgI (lim := 1999) (by omega) ha (by decide)).mpr hm))), by rw [ev]⟩
  · rw [(ph7 h).1, (ph7 h).2, if_neg n59, hx]
    exact ⟨bl_t (Or.inr ((lgI (lim := 20) (by omega) ha (by decide)).mpr hm)), by rw [ev]⟩
section RP
variable {P : jm_H} {v p k t l rs : Nat → Int32} {hs : Int64} {q : jm_H} {N m i kk : Nat}
abbrev RR (P : jm_H) (v p k t : Nat → Int32) (rs : Nat → Int32) (hs : Int64) (q : jm_H) (i kk : Nat) (l : Nat → Int32) : jm_H := hR P v p k t l (w2 rs i kk) hs q
def okT (t : Nat → Int32) (m : Nat) : Prop := m ≤ 60 ∧ ∀ i, i < m → t i = nI (cN t i) ∧ cN t i < 127
theorem r_sees (hP : P.length = 108) (h2 : rs 2 = nI m) (ht : okT t m) {a b : Nat} (ha : a < 127) (hb : b < 127) (hi : i ≤ 60) : FX4_sees 108 (nI a) (nI b) (RR P v p k t rs hs q i kk l) = rI (bl (i < m ∧ a ≤ cN t i ∧ cN t i ≤ b)) (RR P v p k t rs hs q i kk l) := by
  have hm := ht.1
  unfold FX4_sees
  rw [r_i7 hP, r_i2 hP, w2_7, w2_o (by decide) (by decide), h2]
  by_cases h : i < m
  · obtain ⟨h3, h4⟩ := ht.2 i h
    rw [if_neg (nI_ge h (by omega)), r_text hP, r_i7 hP, w2_7, r_ldt hP (by omega), e_in4, I_e]
    have e : (nI a ≤ t i ∧ t i ≤ nI b) ↔ (a ≤ cN t i ∧ cN t i ≤ b) := by
      rw [h3, nI_leI (by omega) (by omega), nI_leI (by omega) (by omega)]
    simp only [bl_0]
    by_cases h5 : a ≤ cN t i ∧ cN t i ≤ b
    · rw [if_neg (fun hh => hh (e.mpr h5)), bl_t ⟨h, h5⟩]
    · rw [if_pos (fun hh => h5 (e.mp hh)), bl_f (fun hh => h5 hh.2)]
  · rw [if_pos (nI_le (by omega) (by omega)), bl_f (fun hh => h hh.1)]
theorem r_takes1 (hP : P.length = 108) (h2 : rs 2 = nI m) (ht : okT t m) {a : Nat} (ha : a < 127) (h : i < m ∧ cN t i = a) : FX4_takes 108 (nI a) (RR P v p k t rs hs q i kk l) = rI 1 (RR P v p k t rs hs q (i + 1) kk l) := by
  have hm := ht.1
  unfold FX4_takes
  rw [r_o hP, r_sees hP h2 ht ha ha (by omega), I_e, bl_t ⟨h.1, by omega, by omega⟩, r_i7 hP, w2_7, if_neg (by decide), r_p7 hP, nI_1, w2_u7]
  rfl
theorem r_takes0 (hP : P.length = 108) (h2 : rs 2 = nI m) (ht : okT t m) {a : Nat} (ha : a < 127) (hi : i ≤ m) (h : i < m → cN t i ≠ a) : FX4_takes 108 (nI a) (RR P v p k t rs hs q i kk l) = rI 0 (RR P v p k t rs hs q i kk l) := by
  have hm := ht.1
  unfold FX4_takes
  rw [r_o hP, r_sees hP h2 ht ha ha (by omega), I_e, bl_f (fun hh => h hh.1 (by omega)), r_i7 hP, w2_7, if_pos rfl, r_p7 hP, show nI i + 0 = nI i from Int32.add_zero _, w2_u7]
  rfl
theorem r_told_st (hP : P.length = 108) {c : Nat} (hk : 4 * kk + c < 48) {x : Int32} {g : jm_H → Option jm_X} : jf_stI (RR P v p k t rs hs q i kk l) 113 ((4 * nI kk) + nI c) x g = g (RR P v p k t rs hs q i kk (upd l (4 * kk + c) x)) := by
  rw [show (4 : Int32) * nI kk = nI (4 * kk) from pk_mul 4 kk, nI_add, r_stl hP hk]
theorem r_num_s (hP : P.length = 108) (h2 : rs 2 = nI m) (ht : okT t m) {c lim x n : Nat} (hl : lim < 10) (hx : x ≤ lim) (hi : i ≤ m) (hk : 4 * kk + c < 48) : FX4_isNumber_49 N (n + 1) 108 (nI c) (nI lim) (nI x) (RR P v p k t rs hs q i kk l) = rI 1 (RR P v p k t rs hs q i kk (upd l (4 * kk + c) (nI x))) := by
  have hm := ht.1
  rw [FX4_isNumber_49]
  by_cases h0 : x = 0
  · subst h0
    rw [if_pos (by decide), r_told hP, r_i8 hP, w2_8, r_told_st hP hk]
  · rw [if_neg (show ¬ nI x ≤ 0 from nI_nle (by omega) (by omega)), r_o hP, show (48 : Int32) = nI 48 from rfl, show (57 : Int32) = nI 57 from rfl, r_sees hP h2 ht (by decide) (by decide) (by omega), I_e]
    by_cases h1 : i < m ∧ 48 ≤ cN t i ∧ cN t i ≤ 57
    · obtain ⟨h3, h4⟩ := ht.2 i h1.1
      rw [bl_t h1, if_neg (by decide), r_text hP, r_i7 hP, w2_7, r_ldt hP (by omega), h3, show (10 : Int32) * nI x = nI (10 * x) from pk_mul 10 x, nI_add, pk_sub (by omega), if_pos (nI_lt (by omega) (by omega)), r_told hP, r_i8 hP, w2_8, r_told_st hP hk]
    · rw [bl_f h1, if_pos rfl, r_told hP, r_i8 hP, w2_8, r_told_st hP hk]
theorem r_num (hP : P.length = 108) (h2 : rs 2 = nI m) (ht : okT t m) {c lim ph : Nat} (ho : okP c lim ph) (hk : 4 * kk + c < 48) {r : Nat → Int32} : ∀ (d n i x : Nat), i + d = m → d < n → rS t r i 4 = nI ph → rS t r i c = nI x → x ≤ lim →
    ∃ j x', i ≤ j ∧ j ≤ m ∧ FX4_isNumber_49 N n 108 (nI c) (nI lim) (nI x) (RR P v p k t rs hs q i kk l) = rI 1 (RR P v p k t rs hs q j kk (upd l (4 * kk + c) (nI x'))) ∧ (∀ y, i ≤ y → y < j → tk (rS t r y) (t y) = 1 ∧ t y ≠ 59) ∧ rS t r j 4 = nI ph ∧ rS t r j c = nI x' ∧ x' ≤ lim ∧ (∀ c', c' < 4 → c' ≠ c → rS t r j c' = rS t r i c') ∧ (j < m → ¬ (0 < x' ∧ (48 ≤ cN t j ∧ cN t j ≤ 57) ∧ 10 * x' + (cN t j - 48) ≤ lim))
  | d, n, i, x, hd, hn, h4, hc, hx => by
    obtain ⟨n', rfl⟩ : ∃ n', n = n' + 1 := ⟨n - 1, by omega⟩
    have hm := ht.1
    have hl : lim ≤ 1999 := by rcases ho with ⟨-, rfl, -⟩ | ⟨-, rfl, -⟩ <;> decide
    have hc4 : c ≠ 4 := by rcases ho with ⟨rfl, -, -⟩ | ⟨rfl, -, -⟩ <;> decide
    rw [FX4_isNumber_49]
    by_cases h0 : x = 0
    · subst h0
      refine ⟨i, 0, by omega, by omega, ?_, fun y h1 h2 => by omega, h4, hc, hx, fun _ _ _ => rfl, fun _ hh => absurd hh.1 (by decide)⟩
      rw [if_pos (by decide), r_told hP, r_i8 hP, w2_8, r_told_st hP hk]
    · by_cases h1 : i < m ∧ 48 ≤ cN t i ∧ cN t i ≤ 57
      · obtain ⟨h3, h5⟩ := ht.2 i h1.1
        by_cases h6 : 10 * x + (cN t i - 48) ≤ lim
        · obtain ⟨d', rfl⟩ : ∃ d', d = d' + 1 := ⟨d - 1, by omega⟩
          obtain ⟨g1, g2⟩ := more_e ho h4 hc hx h5 ⟨by omega, h1.2, h6⟩
          have es : rS t r (i + 1) = upd (rS t r i) c (nI (10 * x + (cN t i - 48))) := by rw [rS_s, h3, g2]
          obtain ⟨j, x', a1, a2, a3, a4, a5, a6, a7, a8, a9⟩ := r_num hP h2 ht ho hk d' n' (i + 1) (10 * x + (cN t i - 48)) (by omega) (by omega) (by rw [es, pk_un (Ne.symm hc4)]; exact h4) (by rw [es, pk_us]) h6
          refine ⟨j, x', by omega, a2, ?_, fun y h7 h8 => ?_, a5, a6, a7, fun c' h7 h8 => ?_, a9⟩
          · rw [← a3, if_neg (show ¬ nI x ≤ 0 from nI_nle (by omega) (by omega)), r_o hP, show (48 : Int32) = nI 48 from rfl, show (57 : Int32) = nI 57 from rfl, r_sees hP h2 ht (by decide) (by decide) (by omega), I_e, bl_t h1, if_neg (by decide), r_text hP, r_i7 hP, w2_7, r_ldt hP (by omega), h3, show (10 : Int32) * nI x = nI (10 * x) from pk_mul 10 x, nI_add, pk_sub (by omega), if_neg (show ¬ nI lim < nI (10 * x + cN t i - 48) from nI_nlt (by omega) (by omega)), r_text hP, r_i7 hP, w2_7, r_ldt hP (by omega), r_i7 hP, w2_7, r_p7 hP, nI_1, w2_u7, h3, nI_add, pk_sub (by omega)]
            rw [show 10 * x + cN t i - 48 = 10 * x + (cN t i - 48) by omega]
          · by_cases hy : y = i
            · subst hy
              refine ⟨by rw [h3]; exact g1, fun e => ?_⟩
              rw [h3] at e
              have := (nI_eq (a := cN t y) (b := 59) (by omega) (by decide)).mp e
              omega
            · exact a4 y (by omega) h8
          · rw [a8 c' h7 h8, es, pk_un h8]
        · refine ⟨i, x, by omega, by omega, ?_, fun y h1 h2 => by omega, h4, hc, hx, fun _ _ _ => rfl, fun _ hh => h6 hh.2.2⟩
          rw [if_neg (show ¬ nI x ≤ 0 from nI_nle (by omega) (by omega)), r_o hP, show (48 : Int32) = nI 48 from rfl, show (57 : Int32) = nI 57 from rfl, r_sees hP h2 ht (by decide) (by decide) (by omega), I_e, bl_t h1, if_neg (by decide), r_text hP, r_i7 hP, w2_7, r_ldt hP (by omega), h3, show (10 : Int32) * nI x = nI (10 * x) from pk_mul 10 x, nI_add, pk_sub (by omega), if_pos (nI_lt (by omega) (by omega)), r_told hP, r_i8 hP, w2_8, r_told_st hP hk]
      · refine ⟨i, x, by omega, by omega, ?_, fun y h1 h2 => by omega, h4, hc, hx, fun _ _ _ => rfl, fun hj hh => h1 ⟨hj, hh.2.1⟩⟩
        rw [if_neg (show ¬ nI x ≤ 0 from nI_nle (by omega) (by omega)), r_o hP, show (48 : Int32) = nI 48 from rfl, show (57 : Int32) = nI 57 from rfl, r_sees hP h2 ht (by decide) (by decide) (by omega), I_e, bl_f h1, if_pos rfl, r_told hP, r_i8 hP, w2_8, r_told_st hP hk]
/-- the first digit of a number -/
theorem r_num0 (hP : P.length = 108) (h2 : rs 2 = nI m) (ht : okT t m) {c lim D : Nat} (hD : (lim = 7 ∧ D = 55) ∨ (lim = 2 ∧ D = 50) ∨ (lim = 1999 ∧ D = 57) ∨ (lim = 20 ∧ D = 57)) (hi : i ≤ m) (h : i < m → ¬ (48 ≤ cN t i ∧ cN t i ≤ D)) : FX4_isNumber N 108 (nI c) (nI lim) (RR P v p k t rs hs q i kk l) = rI 0 (RR P v p k t rs hs q i kk l) := by
  have hm := ht.1
  unfold FX4_isNumber
  have e : FX4_sees 108 48 (nI D) (RR P v p k t rs hs q i kk l) = rI 0 (RR P v p k t rs hs q i kk l) := by
    rw [show (48 : Int32) = nI 48 from rfl, r_sees hP h2 ht (by decide) (by omega) (by omega), bl_f (fun hh => h hh.1 hh.2)]
  rcases hD with ⟨rfl, rfl⟩ | ⟨rfl, rfl⟩ | ⟨rfl, rfl⟩ | ⟨rfl, rfl⟩
  · rw [if_neg (by decide), show (48 : Int32) + nI 7 = nI 55 by decide, r_o hP, e, I_e, if_pos rfl]
  · rw [if_neg (by decide), show (48 : Int32) + nI 2 = nI 50 by decide, r_o hP, e, I_e, if_pos rfl]
  · rw [if_pos (by decide), show (48 : Int32) + 9 = nI 57 by decide, r_o hP, e, I_e, if_pos rfl]
  · rw [if_pos (by decide), show (48 : Int32) + 9 = nI 57 by decide, r_o hP, e, I_e, if_pos rfl]
theorem r_num1 (hP : P.length = 108) (h2 : rs 2 = nI m) (ht : okT t m) {c lim D : Nat} (hD : (lim = 7 ∧ D = 55) ∨ (lim = 2 ∧ D = 50) ∨ (lim = 1999 ∧ D = 57) ∨ (lim = 20 ∧ D = 57)) (h : i < m ∧ 48 ≤ cN t i ∧ cN t i ≤ D) : FX4_isNumber N 108 (nI c) (nI lim) (RR P v p k t rs hs q i kk l) = FX4_isNumber_49 N N 108 (nI c) (nI lim) (nI (cN t i - 48)) (RR P v p k t rs hs q (i + 1) kk l) := by
  have hm := ht.1
  obtain ⟨h3, h4⟩ := ht.2 i h.1
  unfold FX4_isNumber
  have e : FX4_sees 108 48 (nI D) (RR P v p k t rs hs q i kk l) = rI 1 (RR P v p k t rs hs q i kk l) := by
    rw [show (48 : Int32) = nI 48 from rfl, r_sees hP h2 ht (by decide) (by omega) (by omega), bl_t h]
  have z : ¬ (1 : Int32) = 0 := by decide
  have e2 : nI (cN t i) - 48 = nI (cN t i - 48) := by rw [show (48 : Int32) = nI 48 from rfl, pk_sub h.2.1]
  rcases hD with ⟨rfl, rfl⟩ | ⟨rfl, rfl⟩ | ⟨rfl, rfl⟩ | ⟨rfl, rfl⟩
  · rw [if_neg (by decide), show (48 : Int32) + nI 7 = nI 55 by decide, r_o hP, e, I_e, if_neg z, r_text hP, r_i7 hP, w2_7, r_ldt hP (by omega), r_i7 hP, w2_7, r_p7 hP, nI_1, w2_u7, h3, e2]
  · rw [if_neg (by decide), show (48 : Int32) + nI 2 = nI 50 by decide, r_o hP, e, I_e, if_neg z, r_text hP, r_i7 hP, w2_7, r_ldt hP (by omega), r_i7 hP, w2_7, r_p7 hP, nI_1, w2_u7, h3, e2]
  · rw [if_pos (by decide), show (48 : Int32) + 9 = nI 57 by decide, r_o hP, e, I_e, if_neg z, r_text hP, r_i7 hP, w2_7, r_ldt hP (by omega), r_i7 hP, w2_7, r_p7 hP, nI_1, w2_u7, h3, e2]
  · rw [if_pos (by decide), show (48 : Int32) + 9 = nI 57 by decide, r_o hP, e, I_e, if_neg z, r_text hP, r_i7 hP, w2_7, r_ldt hP (by omega), r_i7 hP, w2_7, r_p7 hP, nI_1, w2_u7, h3, e2]
end RP
