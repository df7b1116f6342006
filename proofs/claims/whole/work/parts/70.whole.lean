/-! THE REFERENCE reads a whole text: part by part -/
/-- codes a, .., b - 1 are taken, none of them ends a part -/
def acc (t r : Nat → Int32) (a b : Nat) : Prop := ∀ y, a ≤ y → y < b → tk (rS t r y) (t y) = 1 ∧ t y ≠ 59
theorem acc_nil {t r : Nat → Int32} {a : Nat} : acc t r a a := fun y h1 h2 => by omega
theorem acc_app {t r : Nat → Int32} {a b c : Nat} (h1 : acc t r a b) (h2 : acc t r b c) : acc t r a c := fun y h3 h4 => by
  rcases Nat.lt_or_ge y b with h | h
  · exact h1 y h3 h
  · exact h2 y h h4
theorem acc_one {t r : Nat → Int32} {a : Nat} (h1 : tk (rS t r a) (t a) = 1) (h2 : t a ≠ 59) : acc t r a (a + 1) := fun y h3 h4 => by
  have : y = a := by omega
  subst this
  exact ⟨h1, h2⟩
/-- a part's four numbers are in their bounds -/
def okA (u : Nat → Int32) : Prop := ∃ f c a p : Nat, u 0 = nI f ∧ f ≤ 7 ∧ u 1 = nI c ∧ c ≤ 2 ∧ u 2 = nI a ∧ a ≤ 1999 ∧ u 3 = nI p ∧ p ≤ 20
def endP (u : Nat → Int32) : Prop := u 4 = nI 5 ∨ u 4 = nI 7
def midP (u : Nat → Int32) : Prop := ∃ ph, ph < 8 ∧ u 4 = nI ph ∧ ph ≠ 5 ∧ ph ≠ 7
theorem mid_not {u : Nat → Int32} (h : midP u) : ¬ endP u := by
  obtain ⟨ph, h1, h2, h3, h4⟩ := h
  rintro (h | h)
  · exact h3 ((nI_eq (by omega) (by decide)).mp (h2.symm.trans h))
  · exact h4 ((nI_eq (by omega) (by decide)).mp (h2.symm.trans h))
section WP
variable {P : jm_H} {v p k t l rs : Nat → Int32} {hs : Int64} {q : jm_H} {N m i kk : Nat}
theorem ne_code {t : Nat → Int32} {m i c : Nat} (ht : okT t m) (hi : i < m) (hc : c < 127) (h : cN t i ≠ c) : t i ≠ nI c := fun e => by
  obtain ⟨h3, h4⟩ := ht.2 i hi
  rw [h3] at e
  exact h ((nI_eq (by omega) (by omega)).mp e)
theorem eq_code {t : Nat → Int32} {m i c : Nat} (ht : okT t m) (hi : i < m) (h : cN t i = c) : t i = nI c := by
  rw [(ht.2 i hi).1, h]
theorem r_part (hP : P.length = 108) (h2 : rs 2 = nI m) (ht : okT t m) (hN : 62 ≤ N) {r : Nat → Int32} (hi : i ≤ m) (hk : 6 * kk ≤ i) (h4 : rS t r i 4 = nI 0) (h3 : rS t r i 3 = nI 0) :
    (∃ j l', FX4_isPart N 108 (RR P v p k t rs hs q i kk l) = rI 0 (RR P v p k t rs hs q j kk l') ∧ i ≤ j ∧ j ≤ m ∧ acc t r i j ∧ (j < m → tk (rS t r j) (t j) = 0) ∧ midP (rS t r j)) ∨
    (∃ j l', FX4_isPart N 108 (RR P v p k t rs hs q i kk l) = rI 1 (RR P v p k t rs hs q j kk l') ∧ i + 5 ≤ j ∧ j ≤ m ∧ acc t r i j ∧ endP (rS t r j) ∧ (∀ c, c < 4 → l' (4 * kk + c) = rS t r j c) ∧ (∀ x, x < 4 * kk → l' x = l x) ∧ okA (rS t r j) ∧ (j < m → t j ≠ 59 → tk (rS t r j) (t j) = 0)) := by
  have hm := ht.1
  have z : ¬ (1 : Int32) = 0 := by decide
  unfold FX4_isPart
  rw [r_o hP, show FX4_isNumber N 108 0 7 = FX4_isNumber N 108 (nI 0) (nI 7) from rfl]
  by_cases c0 : i < m ∧ 48 ≤ cN t i ∧ cN t i ≤ 55
  · obtain ⟨e0, e0'⟩ := ht.2 i c0.1
    have ef : nI (cN t i) - 48 = nI (cN t i - 48) := by rw [show (48 : Int32) = nI 48 from rfl, pk_sub c0.2.1]
    obtain ⟨N', hN'⟩ : ∃ N', N = N' + 1 := ⟨N - 1, by omega⟩
    have k0 : tk (rS t r i) (t i) = 1 := by rw [(ph0 h4).1, e0, bl_t ((dg7 _ e0').mpr c0.2)]
    have s1 : rS t r (i + 1) = upd (upd (rS t r i) 0 (nI (cN t i - 48))) 4 1 := by rw [rS_s, (ph0 h4).2, e0, ef]
    have a1 : acc t r i (i + 1) := acc_one k0 (by rw [e0]; exact fun e => by have := (nI_eq (a := cN t i) (b := 59) (by omega) (by decide)).mp e; omega)
    have p1 : rS t r (i + 1) 4 = nI 1 := by rw [s1, pk_us]; rfl
    rw [r_num1 hP h2 ht (D := 55) (by omega) c0, show FX4_isNumber_49 N N = FX4_isNumber_49 N (N' + 1) by rw [← hN'], r_num_s hP h2 ht (by decide) (by omega) (by omega) (by omega), I_e, if_neg z, r_o hP, show (47 : Int32) = nI 47 from rfl]
    by_cases c1 : i + 1 < m ∧ cN t (i + 1) = 47
    · have e1 := eq_code ht c1.1 c1.2
      have k1 : tk (rS t r (i + 1)) (t (i + 1)) = 1 := by rw [(ph1 p1).1, e1, bl_t (show nI 47 = 47 from rfl)]
      have s2 : rS t r (i + 2) = upd (rS t r (i + 1)) 4 2 := by rw [rS_s, (ph1 p1).2]
      have a2 : acc t r i (i + 2) := acc_app a1 (acc_one k1 (by rw [e1]; decide))
      have p2 : rS t r (i + 2) 4 = nI 2 := by rw [s2, pk_us]; rfl
      rw [r_takes1 hP h2 ht (by decide) c1, I_e, if_neg z, r_o hP, show FX4_isNumber N 108 1 2 = FX4_isNumber N 108 (nI 1) (nI 2) from rfl]
      by_cases c2 : i + 1 + 1 < m ∧ 48 ≤ cN t (i + 1 + 1) ∧ cN t (i + 1 + 1) ≤ 50
      · have c2' : i + 2 < m ∧ 48 ≤ cN t (i + 2) ∧ cN t (i + 2) ≤ 50 := c2
        obtain ⟨e2, e2'⟩ := ht.2 (i + 2) c2.1
        have eg : nI (cN t (i + 2)) - 48 = nI (cN t (i + 2) - 48) := by rw [show (48 : Int32) = nI 48 from rfl, pk_sub c2.2.1]
        have k2 : tk (rS t r (i + 2)) (t (i + 2)) = 1 := by rw [(ph2 p2).1, e2, bl_t ((dg2 _ e2').mpr c2.2)]
        have s3 : rS t r (i + 3) = upd (upd (rS t r (i + 2)) 1 (nI (cN t (i + 2) - 48))) 4 3 := by rw [rS_s, (ph2 p2).2, e2, eg]
        have a3 : acc t r i (i + 3) := acc_app a2 (acc_one k2 (by rw [e2]; exact fun e => by have := (nI_eq (a := cN t (i + 2)) (b := 59) (by omega) (by decide)).mp e; have := c2'.2.2; have := c2.2.2; omega))
        have p3 : rS t r (i + 3) 4 = nI 3 := by rw [s3, pk_us]; rfl
        rw [r_num1 hP h2 ht (D := 50) (by omega) c2, show FX4_isNumber_49 N N = FX4_isNumber_49 N (N' + 1) by rw [← hN'], r_num_s hP h2 ht (by decide) (by have := c2'.2.2; have := c2.2.2; omega) (by have := c2.1; omega) (by omega), I_e, if_neg z, r_o hP, show (64 : Int32) = nI 64 from rfl]
        by_cases c3 : i + 1 + 1 + 1 < m ∧ cN t (i + 1 + 1 + 1) = 64
        · have e3 : t (i + 3) = nI 64 := eq_code ht c3.1 c3.2
          have k3 : tk (rS t r (i + 3)) (t (i + 3)) = 1 := by rw [(ph3 p3).1, e3, bl_t (show nI 64 = 64 from rfl)]
          have s4 : rS t r (i + 4) = upd (rS t r (i + 3)) 4 4 := by rw [rS_s, (ph3 p3).2]
          have a4 : acc t r i (i + 4) := acc_app a3 (acc_one k3 (by rw [e3]; decide))
          have p4 : rS t r (i + 4) 4 = nI 4 := by rw [s4, pk_us]; rfl
          rw [r_takes1 hP h2 ht (by decide) c3, I_e, if_neg z, r_o hP, show FX4_isNumber N 108 2 1999 = FX4_isNumber N 108 (nI 2) (nI 1999) from rfl]
          by_cases c4 : i + 1 + 1 + 1 + 1 < m ∧ 48 ≤ cN t (i + 1 + 1 + 1 + 1) ∧ cN t (i + 1 + 1 + 1 + 1) ≤ 57
          · have c4' : i + 4 < m ∧ 48 ≤ cN t (i + 4) ∧ cN t (i + 4) ≤ 57 := c4
            obtain ⟨e4, e4'⟩ := ht.2 (i + 4) c4.1
            have eh : nI (cN t (i + 4)) - 48 = nI (cN t (i + 4) - 48) := by rw [show (48 : Int32) = nI 48 from rfl, pk_sub c4.2.1]
            have k4 : tk (rS t r (i + 4)) (t (i + 4)) = 1 := by rw [(ph4 p4).1, e4, bl_t ((dg9 _ e4').mpr c4.2)]
            have s5 : rS t r (i + 5) = upd (upd (rS t r (i + 4)) 2 (nI (cN t (i + 4) - 48))) 4 5 := by rw [rS_s, (ph4 p4).2, e4, eh]
            have a5 : acc t r i (i + 5) := acc_app a4 (acc_one k4 (by rw [e4]; exact fun e => by have := (nI_eq (a := cN t (i + 4)) (b := 59) (by omega) (by decide)).mp e; have := c4'.2.2; have := c4.2.2; omega))
            have p5 : rS t r (i + 5) 4 = nI 5 := by rw [s5, pk_us]; rfl
            have i5 : i + 5 ≤ m := by have := c4.1; omega
            rw [r_num1 hP h2 ht (D := 57) (by omega) c4]
            obtain ⟨j, x', b1, b2, b3, b4, b5, b6, b7, b8, b9⟩ := r_num (P := P) (v := v) (p := p) (k := k) (l := upd (upd l (4 * kk + 0) (nI (cN t i - 48))) (4 * kk + 1) (nI (cN t (i + 2) - 48))) (hs := hs) (q := q) (N := N) (kk := kk) hP h2 ht (c := 2) (lim := 1999) (ph := 5) (Or.inl ⟨rfl, rfl, rfl⟩) (by omega) (r := r) (m - (i + 5)) N (i + 5) (cN t (i + 4) - 48) (by omega) (by omega) p5 (by rw [s5, pk_un (by decide), pk_us]) (by have := c4'.2.2; have := c4.2.2; omega)
            have q0 : rS t r j 0 = nI (cN t i - 48) := by rw [b8 0 (by decide) (by decide), s5, pk_un (by decide), pk_un (by decide), s4, pk_un (by decide), s3, pk_un (by decide), pk_un (by decide), s2, pk_un (by decide), s1, pk_un (by decide), pk_us]
            have q1 : rS t r j 1 = nI (cN t (i + 2) - 48) := by rw [b8 1 (by decide) (by decide), s5, pk_un (by decide), pk_un (by decide), s4, pk_un (by decide), s3, pk_un (by decide), pk_us]
            have q3 : rS t r j 3 = nI 0 := by rw [b8 3 (by decide) (by decide), s5, pk_un (by decide), pk_un (by decide), s4, pk_un (by decide), s3, pk_un (by decide), pk_un (by decide), s2, pk_un (by decide), s1, pk_un (by decide), pk_un (by decide)]; exact h3
            have aj : acc t r i j := acc_app a5 b4
            rw [show i + 1 + 1 + 1 + 1 + 1 = i + 5 from rfl, show cN t (i + 1 + 1 + 1 + 1) = cN t (i + 4) from rfl, show cN t (i + 1 + 1) = cN t (i + 2) from rfl, b3, I_e, if_neg z, r_told hP, r_i8 hP, w2_8, show (3 : Int32) = nI 3 from rfl, r_told_st hP (c := 3) (by omega), r_o hP, show (43 : Int32) = nI 43 from rfl]
            by_cases c5 : j < m ∧ cN t j = 43
            · have e5 := eq_code ht c5.1 c5.2
              have k5 : tk (rS t r j) (t j) = 1 := by rw [(ph5 b5).1, e5, bl_t (Or.inl (show nI 43 = 43 from rfl))]
              have s6 : rS t r (j + 1) = upd (rS t r j) 4 6 := by rw [rS_s, (ph5 b5).2, e5, if_pos (show nI 43 = 43 from rfl)]
              have a6 : acc t r i (j + 1) := acc_app aj (acc_one k5 (by rw [e5]; decide))
              have p6 : rS t r (j + 1) 4 = nI 6 := by rw [s6, pk_us]; rfl
              rw [r_takes1 hP h2 ht (by decide) c5, I_e, if_neg z, r_o hP, show FX4_isNumber N 108 (nI 3) 20 = FX4_isNumber N 108 (nI 3) (nI 20) from rfl]
              by_cases c6 : j + 1 < m ∧ 48 ≤ cN t (j + 1) ∧ cN t (j + 1) ≤ 57
              · obtain ⟨e6, e6'⟩ := ht.2 (j + 1) c6.1
                have ei : nI (cN t (j + 1)) - 48 = nI (cN t (j + 1) - 48) := by rw [show (48 : Int32) = nI 48 from rfl, pk_sub c6.2.1]
                have k6 : tk (rS t r (j + 1)) (t (j + 1)) = 1 := by rw [(ph6 p6).1, e6, bl_t ((dg9 _ e6').mpr c6.2)]
                have s7 : rS t r (j + 2) = upd (upd (rS t r (j + 1)) 3 (nI (cN t (j + 1) - 48))) 4 7 := by rw [rS_s, (ph6 p6).2, e6, ei]
                have a7 : acc t r i (j + 2) := acc_app a6 (acc_one k6 (by rw [e6]; exact fun e => by have := (nI_eq (a := cN t (j + 1)) (b := 59) (by omega) (by decide)).mp e; have := c6.2.2; omega))
                have p7 : rS t r (j + 2) 4 = nI 7 := by rw [s7, pk_us]; rfl
                have j2 : j + 2 ≤ m := by have := c6.1; omega
                rw [r_num1 hP h2 ht (D := 57) (by omega) c6]
                obtain ⟨j', x2, d1, d2, d3, d4, d5, d6, d7, d8, d9⟩ := r_num (P := P) (v := v) (p := p) (k := k) (l := upd (upd (upd (upd l (4 * kk + 0) (nI (cN t i - 48))) (4 * kk + 1) (nI (cN t (i + 2) - 48))) (4 * kk + 2) (nI x')) (4 * kk + 3) 0) (hs := hs) (q := q) (N := N) (kk := kk) hP h2 ht (c := 3) (lim := 20) (ph := 7) (Or.inr ⟨rfl, rfl, rfl⟩) (by omega) (r := r) (m - (j + 2)) N (j + 2) (cN t (j + 1) - 48) (by omega) (by omega) p7 (by rw [s7, pk_un (by decide), pk_us]) (by have := c6.2.2; omega)
                have f0 : rS t r j' 0 = nI (cN t i - 48) := by rw [d8 0 (by decide) (by decide), s7, pk_un (by decide), pk_un (by decide), s6, pk_un (by decide)]; exact q0
                have f1 : rS t r j' 1 = nI (cN t (i + 2) - 48) := by rw [d8 1 (by decide) (by decide), s7, pk_un (by decide), pk_un (by decide), s6, pk_un (by decide)]; exact q1
                have f2 : rS t r j' 2 = nI x' := by rw [d8 2 (by decide) (by decide), s7, pk_un (by decide), pk_un (by decide), s6, pk_un (by decide)]; exact b6
                rw [show j + 1 + 1 = j + 2 from rfl, d3, I_e, if_neg z]
                refine Or.inr ⟨j', _, rfl, by omega, d2, acc_app a7 d4, Or.inr d5, fun c hc => ?_, fun x hx => ?_, ⟨cN t i - 48, cN t (i + 2) - 48, x', x2, f0, by omega, f1, by have := c2'.2.2; have := c2.2.2; omega, f2, b7, d6, d7⟩, fun hj hne => ?_⟩
                · have : c = 0 ∨ c = 1 ∨ c = 2 ∨ c = 3 := by omega
                  rcases this with rfl | rfl | rfl | rfl
                  · rw [pk_un (by omega), pk_un (by omega), pk_un (by omega), pk_un (by omega), pk_us]; exact f0.symm
                  · rw [pk_un (by omega), pk_un (by omega), pk_un (by omega), pk_us]; exact f1.symm
                  · rw [pk_un (by omega), pk_un (by omega), pk_us]; exact f2.symm
                  · rw [pk_us]; exact d6.symm
                · rw [pk_un (by omega), pk_un (by omega), pk_un (by omega), pk_un (by omega), pk_un (by omega)]
                · obtain ⟨e8, e8'⟩ := ht.2 j' hj
                  have hd9 := d9 hj
                  rw [(ph7 d5).1, d6]
                  refine bl_f (fun hh => hh.elim hne (fun hh => ?_))
                  rw [e8] at hh
                  exact hd9 ((lgI (lim := 20) (by omega) e8' (by decide)).mp hh)
              · rw [r_num0 hP h2 ht (D := 57) (by omega) (by have := c5.1; omega) (fun h hh => c6 ⟨h, hh⟩), I_e, if_pos rfl]
                refine Or.inl ⟨j + 1, _, rfl, by omega, by have := c5.1; omega, a6, fun hj => ?_, ⟨6, by decide, p6, by decide, by decide⟩⟩
                obtain ⟨e8, e8'⟩ := ht.2 (j + 1) hj
                rw [(ph6 p6).1]
                refine bl_f (fun hh => c6 ⟨hj, ?_⟩)
                rw [e8] at hh
                exact (dg9 _ e8').mp hh
            · rw [r_takes0 hP h2 ht (by decide) b2 (fun h hh => c5 ⟨h, hh⟩), I_e, if_pos rfl]
              refine Or.inr ⟨j, _, rfl, by omega, b2, aj, Or.inl b5, fun c hc => ?_, fun x hx => ?_, ⟨cN t i - 48, cN t (i + 2) - 48, x', 0, q0, by omega, q1, by have := c2'.2.2; have := c2.2.2; omega, b6, b7, q3, by decide⟩, fun hj hne => ?_⟩
              · have : c = 0 ∨ c = 1 ∨ c = 2 ∨ c = 3 := by omega
                rcases this with rfl | rfl | rfl | rfl
                · rw [pk_un (by omega), pk_un (by omega), pk_un (by omega), pk_us]; exact q0.symm
                · rw [pk_un (by omega), pk_un (by omega), pk_us]; exact q1.symm
                · rw [pk_un (by omega), pk_us]; exact b6.symm
                · rw [pk_us]; exact q3.symm
              · rw [pk_un (by omega), pk_un (by omega), pk_un (by omega), pk_un (by omega)]
              · obtain ⟨e8, e8'⟩ := ht.2 j hj
                have hb9 := b9 hj
                rw [(ph5 b5).1, b6]
                refine bl_f (fun hh => hh.elim (ne_code ht hj (c := 43) (by decide) (fun h => c5 ⟨hj, h⟩)) (fun hh => hh.elim hne (fun hh => ?_)))
                rw [e8] at hh
                exact hb9 ((lgI (lim := 1999) (by omega) e8' (by decide)).mp hh)
          · rw [r_num0 hP h2 ht (D := 57) (by omega) (by have := c3.1; omega) (fun h hh => c4 ⟨h, hh⟩), I_e, if_pos rfl]
            refine Or.inl ⟨i + 4, _, rfl, by omega, by have := c3.1; omega, a4, fun hj => ?_, ⟨4, by decide, p4, by decide, by decide⟩⟩
            obtain ⟨e8, e8'⟩ := ht.2 (i + 4) hj
            rw [(ph4 p4).1]
            refine bl_f (fun hh => c4 ⟨hj, ?_⟩)
            rw [e8] at hh
            exact (dg9 _ e8').mp hh
        · rw [r_takes0 hP h2 ht (by decide) (by have := c2.1; omega) (fun h hh => c3 ⟨h, hh⟩), I_e, if_pos rfl]
          refine Or.inl ⟨i + 3, _, rfl, by omega, by have := c2.1; omega, a3, fun hj => ?_, ⟨3, by decide, p3, by decide, by decide⟩⟩
          rw [(ph3 p3).1]
          exact bl_f (ne_code ht hj (c := 64) (by decide) (fun h => c3 ⟨hj, h⟩))
      · rw [r_num0 hP h2 ht (D := 50) (by omega) (by have := c1.1; omega) (fun h hh => c2 ⟨h, hh⟩), I_e, if_pos rfl]
        refine Or.inl ⟨i + 2, _, rfl, by omega, by have := c1.1; omega, a2, fun hj => ?_, ⟨2, by decide, p2, by decide, by decide⟩⟩
        obtain ⟨e8, e8'⟩ := ht.2 (i + 2) hj
        rw [(ph2 p2).1]
        refine bl_f (fun hh => c2 ⟨hj, ?_⟩)
        rw [e8] at hh
        exact (dg2 _ e8').mp hh
    · rw [r_takes0 hP h2 ht (by decide) (by have := c0.1; omega) (fun h hh => c1 ⟨h, hh⟩), I_e, if_pos rfl]
      refine Or.inl ⟨i + 1, _, rfl, by omega, by have := c0.1; omega, a1, fun hj => ?_, ⟨1, by decide, p1, by decide, by decide⟩⟩
      rw [(ph1 p1).1]
      exact bl_f (ne_code ht hj (c := 47) (by decide) (fun h => c1 ⟨hj, h⟩))
  · rw [r_num0 hP h2 ht (D := 55) (by omega) hi (fun h hh => c0 ⟨h, hh⟩), I_e, if_pos rfl]
    refine Or.inl ⟨i, _, rfl, by omega, hi, acc_nil, fun hj => ?_, ⟨0, by decide, h4, by decide, by decide⟩⟩
    obtain ⟨e8, e8'⟩ := ht.2 i hj
    rw [(ph0 h4).1]
    refine bl_f (fun hh => c0 ⟨hj, ?_⟩)
    rw [e8] at hh
    exact (dg7 _ e8').mp hh
end WP
