/-! THE DIGEST of the reference -/
theorem fd_app {α : Type} {f : Nat → α → α} : ∀ (d1 k d2 : Nat) (a : α), fd f k (d1 + d2) a = fd f (k + d1) d2 (fd f k d1 a)
  | 0, k, d2, a => by rw [Nat.zero_add]; rfl
  | d1 + 1, k, d2, a => by
    rw [show d1 + 1 + d2 = (d1 + d2) + 1 by omega]
    show fd f (k + 1) (d1 + d2) (f k a) = fd f (k + (d1 + 1)) d2 (fd f (k + 1) d1 (f k a))
    rw [fd_app d1 (k + 1) d2, show k + 1 + d1 = k + (d1 + 1) by omega]
theorem fd_flat {α : Type} {c : Nat} (hc : 0 < c) (f : Nat → Nat → α → α) : ∀ (n : Nat) (a : α), fd (fun x a => f (x / c) (x % c) a) 0 (c * n) a = fd (fun g a => fd (fun w a => f g w a) 0 c a) 0 n a
  | 0, a => rfl
  | n + 1, a => by
    rw [fd_last, Nat.zero_add, Nat.mul_succ, fd_app, fd_flat hc f n a]
    have h1 := fd_shift (fun x (a : α) => f (x / c) (x % c) a) (c * n) c 0 (fd (fun g a => fd (fun w a => f g w a) 0 c a) 0 n a)
    rw [Nat.zero_add, ← Nat.add_zero (c * n), ← h1]
    refine fd_congr c 0 _ (fun i a _ hi => ?_)
    rw [Nat.zero_add] at hi
    show f ((c * n + i) / c) ((c * n + i) % c) a = f n i a
    rw [Nat.mul_add_div hc, Nat.div_eq_of_lt hi, Nat.add_zero, Nat.mul_add_mod, Nat.mod_eq_of_lt hi]
theorem lp_E (H : Int64 → Int32 → Int32 → Int32 → jm_H) (L : Nat → Int32 → jm_H → Option jm_X) (B : Nat) (f : Nat → Int64 → Int64) (K : jm_H → Option jm_X)
    (h0 : ∀ n hs a b c, L (n + 1) (nI B) (H hs a b c) = K (H hs a b c)) (h1 : ∀ n k hs a b c, k < B → ∃ a' b' c', L (n + 1) (nI k) (H hs a b c) = L n (nI (k + 1)) (H (f k hs) a' b' c')) :
    ∀ (d n k : Nat) (hs : Int64) (a b c : Int32), k + d = B → d < n → ∃ a' b' c', L n (nI k) (H hs a b c) = K (H (fd f k d hs) a' b' c')
  | 0, n, k, hs, a, b, c, hk, hn => by
    obtain ⟨m, rfl⟩ : ∃ m, n = m + 1 := ⟨n - 1, by omega⟩
    have : k = B := by omega
    subst this
    exact ⟨a, b, c, h0 m hs a b c⟩
  | d + 1, n, k, hs, a, b, c, hk, hn => by
    obtain ⟨m, rfl⟩ : ∃ m, n = m + 1 := ⟨n - 1, by omega⟩
    obtain ⟨a1, b1, c1, e⟩ := h1 m k hs a b c (by omega)
    obtain ⟨a2, b2, c2, e2⟩ := lp_E H L B f K h0 h1 d m (k + 1) (f k hs) a1 b1 c1 (by omega) (by omega)
    exact ⟨a2, b2, c2, e.trans e2⟩
section RD
variable {P : jm_H} {v p k t l rs : Nat → Int32} {q : jm_H} {N : Nat}
abbrev HH (P : jm_H) (v p k t l rs : Nat → Int32) (q : jm_H) (hs : Int64) (a b c : Int32) : jm_H := hR P v p k t l (w3 rs a b c) hs q
variable {hs : Int64} {a b c : Int32}
theorem r_mixes (hP : P.length = 108) {x : Int64} : FX4_mixes 108 x (hR P v p k t l rs hs q) = rV (hR P v p k t l rs (31 * hs + x) q) := by
  unfold FX4_mixes
  rw [r_h hP, r_ph hP]
theorem d_next (hP : P.length = 108) (hN : 2001 ≤ N) (hI : Iv v) {f cc : Nat} (hf : f < cnt v 0) : ∃ a' b' c', FX4_next N 108 (nI f) (nI cc) 0 (HH P v p k t l rs q hs a b c) = rI (sNx v f cc 0) (HH P v p k t l rs q hs a' b' c') := by
  obtain ⟨x, y, z, e⟩ := r_nx (P := P) (v := v) (p := p) (k := k) (t := t) (l := l) (rs := w3 rs a b c) (hs := hs) (q := q) hP hN hI hf (show 0 < 2000 by decide) (c := cc)
  rw [w3_w3] at e
  exact ⟨x, y, z, e⟩
theorem d_best (hP : P.length = 108) (hN : 2001 ≤ N) (hI : Iv v) {f : Nat} (hf : f < cnt v 0) : ∃ a' b' c', FX4_best N 108 (nI f) 0 (HH P v p k t l rs q hs a b c) = rI (sB v f 0) (HH P v p k t l rs q hs a' b' c') := by
  obtain ⟨x, y, z, e⟩ := r_b (P := P) (v := v) (p := p) (k := k) (t := t) (l := l) (rs := w3 rs a b c) (hs := hs) (q := q) hP hN hI hf (show 0 < 2000 by decide)
  rw [w3_w3] at e
  exact ⟨x, y, z, e⟩
theorem d_film (hP : P.length = 108) (hN : 2001 ≤ N) (hI : Iv v) {f : Nat} (hf : f < cnt v 0) : ∃ a' b' c', FX4_mixesFilm N 108 (nI f) (HH P v p k t l rs q hs a b c) = rV (HH P v p k t l rs q (dF v f hs) a' b' c') := by
  unfold FX4_mixesFilm
  obtain ⟨a1, b1, c1, e1⟩ := lp_E (HH P v p k t l rs q) (fun n x h => FX4_mixesFilm_2 N n 108 (nI f) x h) 6 (fun w l => mx l (sFilm v f w)) (fun h => FX4_mixesFilm_27 N N 108 (nI f) 0 h)
    (fun n hs a b c => by
      show FX4_mixesFilm_2 N (n + 1) 108 (nI f) (nI 6) _ = _
      rw [FX4_mixesFilm_2, if_pos (by decide)])
    (fun n w hs a b c hw => ⟨a, b, c, by
      show FX4_mixesFilm_2 N (n + 1) 108 (nI f) (nI w) _ = _
      rw [FX4_mixesFilm_2, if_neg (show ¬ 6 ≤ nI w from nI_ge (b := 6) (by omega) (by decide)), r_o hP, r_film hP (by omega) hI hf hw, I_e, r_o hP, r_mixes hP, V_e, nI_1]⟩) 6 N 0 hs a b c (by omega) (by omega)
  obtain ⟨a2, b2, c2, e2⟩ := lp_E (HH P v p k t l rs q) (fun n x h => FX4_mixesFilm_27 N n 108 (nI f) x h) 3 (fun w l => mx l (sNx v f w 0)) (fun h => jf_I (jf_o 4 108 h (FX4_best N 108 (nI f) 0 h)) fun x102 h101 => jf_V (jf_o 4 108 h101 (FX4_mixes 108 x102.toInt64 h101)) fun h103 => rV h103)
    (fun n hs a b c => by
      show FX4_mixesFilm_27 N (n + 1) 108 (nI f) (nI 3) _ = _
      rw [FX4_mixesFilm_27, if_pos (by decide)])
    (fun n w hs a b c hw => by
      obtain ⟨x, y, z, e⟩ := d_next (P := P) (v := v) (p := p) (k := k) (t := t) (l := l) (rs := rs) (q := q) (N := N) (hs := hs) (a := a) (b := b) (c := c) hP hN hI hf (cc := w)
      refine ⟨x, y, z, ?_⟩
      show FX4_mixesFilm_27 N (n + 1) 108 (nI f) (nI w) _ = _
      rw [FX4_mixesFilm_27, if_neg (show ¬ 3 ≤ nI w from nI_ge (b := 3) (by omega) (by decide)), r_o hP, e, I_e, r_o hP, r_mixes hP, V_e, nI_1]) 3 N 0 (fd (fun w l => mx l (sFilm v f w)) 0 6 hs) a1 b1 c1 (by omega) (by omega)
  obtain ⟨a3, b3, c3, e3⟩ := d_best (P := P) (v := v) (p := p) (k := k) (t := t) (l := l) (rs := rs) (q := q) (N := N) (hs := fd (fun w l => mx l (sNx v f w 0)) 0 3 (fd (fun w l => mx l (sFilm v f w)) 0 6 hs)) (a := a2) (b := b2) (c := c2) hP hN hI hf
  refine ⟨a3, b3, c3, e1.trans (e2.trans ?_)⟩
  show (jf_I (jf_o 4 108 _ (FX4_best N 108 (nI f) 0 _)) fun x102 h101 => jf_V (jf_o 4 108 h101 (FX4_mixes 108 x102.toInt64 h101)) fun h103 => rV h103) = _
  rw [r_o hP, e3, I_e, r_o hP, r_mixes hP, V_e]
  rfl
theorem d_show (hP : P.length = 108) (hN : 2001 ≤ N) (hI : Iv v) {s : Nat} (hs' : s < cnt v 1) : ∃ a' b' c', FX4_mixesShowing N 108 (nI s) (HH P v p k t l rs q hs a b c) = rV (HH P v p k t l rs q (dS v s hs) a' b' c') := by
  unfold FX4_mixesShowing
  obtain ⟨a1, b1, c1, e1⟩ := lp_E (HH P v p k t l rs q) (fun n x h => FX4_mixesShowing_2 N n 108 (nI s) x h) 6 (fun w l => mx l (sShow v s w)) (fun h => FX4_mixesShowing_27 N N 108 (nI s) 0 h)
    (fun n hs a b c => by
      show FX4_mixesShowing_2 N (n + 1) 108 (nI s) (nI 6) _ = _
      rw [FX4_mixesShowing_2, if_pos (by decide)])
    (fun n w hs a b c hw => ⟨a, b, c, by
      show FX4_mixesShowing_2 N (n + 1) 108 (nI s) (nI w) _ = _
      rw [FX4_mixesShowing_2, if_neg (show ¬ 6 ≤ nI w from nI_ge (b := 6) (by omega) (by decide)), r_o hP, r_show hP hI hs' hw, I_e, r_o hP, r_mixes hP, V_e, nI_1]⟩) 6 N 0 hs a b c (by omega) (by omega)
  obtain ⟨a2, b2, c2, e2⟩ := lp_E (HH P v p k t l rs q) (fun n x h => FX4_mixesShowing_27 N n 108 (nI s) x h) 6 (fun w l => mx l (sRb0 v s (nI w))) (fun h => rV h)
    (fun n hs a b c => by
      show FX4_mixesShowing_27 N (n + 1) 108 (nI s) (nI 6) _ = _
      rw [FX4_mixesShowing_27, if_pos (by decide)])
    (fun n w hs a b c hw => ⟨a, b, c, by
      show FX4_mixesShowing_27 N (n + 1) 108 (nI s) (nI w) _ = _
      rw [FX4_mixesShowing_27, if_neg (show ¬ 6 ≤ nI w from nI_ge (b := 6) (by omega) (by decide)), r_o hP, r_rat hP hI hs', I_e, r_o hP, r_mixes hP, V_e, nI_1]⟩) 6 N 0 (fd (fun w l => mx l (sShow v s w)) 0 6 hs) a1 b1 c1 (by omega) (by omega)
  exact ⟨a2, b2, c2, e1.trans e2⟩
theorem d_screen (hP : P.length = 108) (hN : 2001 ≤ N) (hI : Iv v) {cc : Nat} (hc : cc < 3) : ∃ a' b' c', FX4_mixesScreen N 108 (nI cc) (HH P v p k t l rs q hs a b c) = rV (HH P v p k t l rs q (dC v cc hs) a' b' c') := by
  obtain ⟨u1, u2⟩ := uN_e hI cc
  unfold FX4_mixesScreen
  obtain ⟨a1, b1, c1, e1⟩ := lp_E (HH P v p k t l rs q) (fun n x h => FX4_mixesScreen_2 N n 108 (nI cc) x h) 5 (fun w l => mx l (sScr v cc w)) (fun h => FX4_mixesScreen_26 N N 108 (nI cc) 0 h)
    (fun n hs a b c => by
      show FX4_mixesScreen_2 N (n + 1) 108 (nI cc) (nI 5) _ = _
      rw [FX4_mixesScreen_2, if_pos (by decide)])
    (fun n w hs a b c hw => ⟨a, b, c, by
      show FX4_mixesScreen_2 N (n + 1) 108 (nI cc) (nI w) _ = _
      rw [FX4_mixesScreen_2, if_neg (show ¬ 5 ≤ nI w from nI_ge (b := 5) (by omega) (by decide)), r_o hP, r_scr hP (by omega) hI hc hw, I_e, r_o hP, r_mixes hP, V_e, nI_1]⟩) 5 N 0 hs a b c (by omega) (by omega)
  obtain ⟨a2, b2, c2, e2⟩ := lp_E (HH P v p k t l rs q) (fun n x h => FX4_mixesScreen_26 N n 108 (nI cc) (100 * x) h) 20 (fun k l => mx l (sRun v (nI cc) (nI (100 * k)))) (fun h => FX4_mixesScreen_26 N 1 108 (nI cc) (nI 2000) h)
    (fun n hs a b c => by
      show FX4_mixesScreen_26 N (n + 1) 108 (nI cc) (100 * nI 20) _ = _
      rw [FX4_mixesScreen_26, FX4_mixesScreen_26, if_pos (by decide), if_pos (by decide)])
    (fun n w hs a b c hw => ⟨a, b, c, by
      show FX4_mixesScreen_26 N (n + 1) 108 (nI cc) (100 * nI w) _ = FX4_mixesScreen_26 N n 108 (nI cc) (100 * nI (w + 1)) _
      have e : (100 : Int32) * nI w = nI (100 * w) := pk_mul 100 w
      have e' : (100 : Int32) * nI (w + 1) = nI (100 * (w + 1)) := pk_mul 100 (w + 1)
      have e2 : nI (100 * w) + 100 = nI (100 * (w + 1)) := by rw [show (100 : Int32) = nI 100 from rfl, nI_add]; rfl
      rw [e, e', FX4_mixesScreen_26, if_neg (show ¬ 2000 ≤ nI (100 * w) from nI_ge (b := 2000) (by omega) (by decide)), r_o hP, r_run hP (by omega) hN hI, I_e, r_o hP, r_mixes hP, V_e, e2]⟩) 20 N 0 (fd (fun w l => mx l (sScr v cc w)) 0 5 hs) a1 b1 c1 (by omega) (by omega)
  refine ⟨a2, b2, c2, e1.trans (e2.trans ?_)⟩
  show FX4_mixesScreen_26 N 1 108 (nI cc) (nI 2000) _ = _
  have hl : ∀ h : jm_H, FJxe99ae_doubleToLongBits_ccdee (dsh (uN v cc)) h = rL (dsh (uN v cc)).toInt64 h := fun h => by
    unfold FJxe99ae_doubleToLongBits_ccdee FJxe99ae_isNaN_b9ae7
    rw [if_pos (dsh_3 _ u1), I_e, if_pos rfl]
  rw [FX4_mixesScreen_26, if_pos (by decide), r_o hP, r_share hP (by omega) hI u1 u2, D_e, hl, L_e', r_o hP, r_mixes hP, V_e]
  rfl
theorem div_e {x c : Nat} (hx : x < 4000) (hc : 0 < c) (hc2 : c < 4000) : nI x / nI c = nI (x / c) ∧ nI x - nI x / nI c * nI c = nI (x % c) := by
  have e1 : nI x / nI c = nI (x / c) := pk_div (by omega) hc (by omega)
  refine ⟨e1, ?_⟩
  rw [e1, pk_mul, pk_sub (Nat.div_mul_le_self x c)]
  congr 1
  have := Nat.div_add_mod x c
  rw [Nat.mul_comm] at this
  omega
theorem d_jur (hP : P.length = 108) (hN : 2001 ≤ N) (hI : Iv v) : ∃ a' b' c', FX4_mixesAll_101 N N 108 0 (HH P v p k t l rs q hs a b c) = rV (HH P v p k t l rs q (fd (dJ v) 0 3 hs) a' b' c') := by
  obtain ⟨a1, b1, c1, e1⟩ := lp_E (HH P v p k t l rs q) (fun n x h => FX4_mixesAll_101 N n 108 x h) 9 (fun x l => mx l (sJur v (x / 3) (x % 3))) (fun h => rV h)
    (fun n hs a b c => by
      show FX4_mixesAll_101 N (n + 1) 108 (nI 9) _ = _
      rw [FX4_mixesAll_101, if_pos (by decide)])
    (fun n w hs a b c hw => ⟨a, b, c, by
      show FX4_mixesAll_101 N (n + 1) 108 (nI w) _ = _
      have hd := div_e (x := w) (c := 3) (by omega) (by decide) (by decide)
      rw [FX4_mixesAll_101, if_neg (show ¬ 9 ≤ nI w from nI_ge (b := 9) (by omega) (by decide)), show (3 : Int32) = nI 3 from rfl, hd.2, hd.1, r_o hP, r_jur hP (by omega) hI (by omega) (by omega), I_e, r_o hP, r_mixes hP, V_e, nI_1]⟩) 9 N 0 hs a b c (by omega) (by omega)
  refine ⟨a1, b1, c1, ?_⟩
  rw [show fd (dJ v) 0 3 hs = fd (fun x l => mx l (sJur v (x / 3) (x % 3))) 0 9 hs from (fd_flat (c := 3) (by decide) (fun g w l => mx l (sJur v g w)) 3 hs).symm]
  exact e1
theorem d_gst (hP : P.length = 108) (hN : 2001 ≤ N) (hI : Iv v) : ∃ a' b' c', FX4_mixesAll_66 N N 108 0 (HH P v p k t l rs q hs a b c) = rV (HH P v p k t l rs q (fd (dJ v) 0 3 (fd (dG v) 0 (cnt v 2) hs)) a' b' c') := by
  have hn := hI.ng
  have e4 : (4 : Int32) * nI (cnt v 2) = nI (4 * cnt v 2) := pk_mul 4 _
  obtain ⟨a1, b1, c1, e1⟩ := lp_E (HH P v p k t l rs q) (fun n x h => FX4_mixesAll_66 N n 108 x h) (4 * cnt v 2) (fun x l => mx l (sGst v (x / 4) (x % 4))) (fun h => FX4_mixesAll_101 N N 108 0 h)
    (fun n hs a b c => by
      show FX4_mixesAll_66 N (n + 1) 108 (nI (4 * cnt v 2)) _ = _
      rw [FX4_mixesAll_66, r_now hP, r_n2 hP, hn.1, e4, if_pos (Int32.le_refl _)])
    (fun n w hs a b c hw => ⟨a, b, c, by
      show FX4_mixesAll_66 N (n + 1) 108 (nI w) _ = _
      have hd := div_e (x := w) (c := 4) (by omega) (by decide) (by decide)
      rw [FX4_mixesAll_66, r_now hP, r_n2 hP, hn.1, e4, if_neg (nI_ge hw (by omega)), show (4 : Int32) = nI 4 from rfl, hd.2, hd.1, r_o hP, r_gst hP (by omega) hI (by omega) (by omega), I_e, r_o hP, r_mixes hP, V_e, nI_1]⟩) (4 * cnt v 2) N 0 hs a b c (by omega) (by omega)
  obtain ⟨a2, b2, c2, e2⟩ := d_jur (P := P) (v := v) (p := p) (k := k) (t := t) (l := l) (rs := rs) (q := q) (N := N) (hs := fd (fun x l => mx l (sGst v (x / 4) (x % 4))) 0 (4 * cnt v 2) hs) (a := a1) (b := b1) (c := c1) hP hN hI
  refine ⟨a2, b2, c2, ?_⟩
  rw [show fd (dG v) 0 (cnt v 2) hs = fd (fun x l => mx l (sGst v (x / 4) (x % 4))) 0 (4 * cnt v 2) hs from (fd_flat (c := 4) (by decide) (fun g w l => mx l (sGst v g w)) (cnt v 2) hs).symm]
  exact e1.trans e2
theorem d_all (hP : P.length = 108) (hN : 2001 ≤ N) (hI : Iv v) : ∃ a' b' c', FX4_mixesAll N 108 (HH P v p k t l rs q hs a b c) = rV (HH P v p k t l rs q (fd (dJ v) 0 3 (fd (dG v) 0 (cnt v 2) (fd (dC v) 0 3 (fd (dS v) 0 (cnt v 1) (fd (dF v) 0 (cnt v 0) hs))))) a' b' c') := by
  have n0 := hI.nf
  have n1 := hI.ns
  unfold FX4_mixesAll
  obtain ⟨a1, b1, c1, e1⟩ := lp_E (HH P v p k t l rs q) (fun n x h => FX4_mixesAll_2 N n 108 x h) (cnt v 0) (dF v) (fun h => FX4_mixesAll_25 N N 108 0 h)
    (fun n hs a b c => by
      show FX4_mixesAll_2 N (n + 1) 108 (nI (cnt v 0)) _ = _
      rw [FX4_mixesAll_2, r_now hP, r_n0 hP, n0.1, if_pos (Int32.le_refl _)])
    (fun n w hs a b c hw => by
      obtain ⟨x, y, z, e⟩ := d_film (P := P) (v := v) (p := p) (k := k) (t := t) (l := l) (rs := rs) (q := q) (N := N) (hs := hs) (a := a) (b := b) (c := c) hP hN hI hw
      refine ⟨x, y, z, ?_⟩
      show FX4_mixesAll_2 N (n + 1) 108 (nI w) _ = _
      rw [FX4_mixesAll_2, r_now hP, r_n0 hP, n0.1, if_neg (nI_ge hw (by omega)), r_o hP, e, V_e, nI_1]) (cnt v 0) N 0 hs a b c (by omega) (by omega)
  obtain ⟨a2, b2, c2, e2⟩ := lp_E (HH P v p k t l rs q) (fun n x h => FX4_mixesAll_25 N n 108 x h) (cnt v 1) (dS v) (fun h => FX4_mixesAll_48 N N 108 0 h)
    (fun n hs a b c => by
      show FX4_mixesAll_25 N (n + 1) 108 (nI (cnt v 1)) _ = _
      rw [FX4_mixesAll_25, r_now hP, r_n1 hP, n1.1, if_pos (Int32.le_refl _)])
    (fun n w hs a b c hw => by
      obtain ⟨x, y, z, e⟩ := d_show (P := P) (v := v) (p := p) (k := k) (t := t) (l := l) (rs := rs) (q := q) (N := N) (hs := hs) (a := a) (b := b) (c := c) hP hN hI hw
      refine ⟨x, y, z, ?_⟩
      show FX4_mixesAll_25 N (n + 1) 108 (nI w) _ = _
      rw [FX4_mixesAll_25, r_now hP, r_n1 hP, n1.1, if_neg (nI_ge hw (by omega)), r_o hP, e, V_e, nI_1]) (cnt v 1) N 0 (fd (dF v) 0 (cnt v 0) hs) a1 b1 c1 (by omega) (by omega)
  obtain ⟨a3, b3, c3, e3⟩ := lp_E (HH P v p k t l rs q) (fun n x h => FX4_mixesAll_48 N n 108 x h) 3 (dC v) (fun h => FX4_mixesAll_66 N N 108 0 h)
    (fun n hs a b c => by
      show FX4_mixesAll_48 N (n + 1) 108 (nI 3) _ = _
      rw [FX4_mixesAll_48, if_pos (by decide)])
    (fun n w hs a b c hw => by
      obtain ⟨x, y, z, e⟩ := d_screen (P := P) (v := v) (p := p) (k := k) (t := t) (l := l) (rs := rs) (q := q) (N := N) (hs := hs) (a := a) (b := b) (c := c) hP hN hI hw
      refine ⟨x, y, z, ?_⟩
      show FX4_mixesAll_48 N (n + 1) 108 (nI w) _ = _
      rw [FX4_mixesAll_48, if_neg (show ¬ 3 ≤ nI w from nI_ge (b := 3) (by omega) (by decide)), r_o hP, e, V_e, nI_1]) 3 N 0 (fd (dS v) 0 (cnt v 1) (fd (dF v) 0 (cnt v 0) hs)) a2 b2 c2 (by omega) (by omega)
  obtain ⟨a4, b4, c4, e4⟩ := d_gst (P := P) (v := v) (p := p) (k := k) (t := t) (l := l) (rs := rs) (q := q) (N := N) (hs := fd (dC v) 0 3 (fd (dS v) 0 (cnt v 1) (fd (dF v) 0 (cnt v 0) hs))) (a := a3) (b := b3) (c := c3) hP hN hI
  exact ⟨a4, b4, c4, e1.trans (e2.trans (e3.trans e4))⟩
theorem d_digest (hP : P.length = 108) (hN : 2001 ≤ N) (hI : Iv v) {m : Nat} (hm : m ≤ 60) (h2 : rs 2 = nI m) : ∃ a' b' c', FX4_digest N 108 (hR P v p k t l rs hs q) = rL (dAll v t (rs 0) m) (HH P v p k t l (upd rs 3 0) q (dAll v t (rs 0) m) a' b' c') := by
  unfold FX4_digest
  rw [r_p3 hP, r_ph hP]
  rw [show hR P v p k t l (upd rs 3 0) 3727 q = HH P v p k t l (upd rs 3 0) q 3727 (upd rs 3 0 4) (upd rs 3 0 5) (upd rs 3 0 6) by unfold HH; rw [w3_id]]
  obtain ⟨a1, b1, c1, e1⟩ := lp_E (HH P v p k t l (upd rs 3 0) q) (fun n x h => FX4_digest_14 N n 108 x h) 12 (fun w l => mx l (sCn v (rs 0) w)) (fun h => jf_V (jf_o 4 108 h (FX4_mixesAll N 108 h)) fun h101 => FX4_digest_42 N N 108 0 h101)
    (fun n hs a b c => by
      show FX4_digest_14 N (n + 1) 108 (nI 12) _ = _
      rw [FX4_digest_14, if_pos (by decide)])
    (fun n w hs a b c hw => ⟨a, b, c, by
      show FX4_digest_14 N (n + 1) 108 (nI w) _ = _
      rw [FX4_digest_14, if_neg (show ¬ 12 ≤ nI w from nI_ge (b := 12) (by omega) (by decide)), r_o hP, r_cnt hP (by omega) hI hw, I_e, r_o hP, r_mixes hP, V_e, nI_1]
      rfl⟩) 12 N 0 3727 _ _ _ (by omega) (by omega)
  obtain ⟨a2, b2, c2, e2⟩ := d_all (P := P) (v := v) (p := p) (k := k) (t := t) (l := l) (rs := upd rs 3 0) (q := q) (N := N) (hs := fd (fun w l => mx l (sCn v (rs 0) w)) 0 12 3727) (a := a1) (b := b1) (c := c1) hP hN hI
  obtain ⟨a3, b3, c3, e3⟩ := lp_E (HH P v p k t l (upd rs 3 0) q) (fun n x h => FX4_digest_42 N n 108 x h) 3 (fun w l => mx l (v (129 + w))) (fun h => jf_gI 4 h 108 6 fun x101 => jf_V (jf_o 4 108 h (FX4_mixes 108 x101.toInt64 h)) fun h102 => FX4_digest_79 N N 108 0 h102)
    (fun n hs a b c => by
      show FX4_digest_42 N (n + 1) 108 (nI 3) _ = _
      rw [FX4_digest_42, if_pos (by decide)])
    (fun n w hs a b c hw => ⟨a, b, c, by
      show FX4_digest_42 N (n + 1) 108 (nI w) _ = _
      rw [FX4_digest_42, if_neg (show ¬ 3 ≤ nI w from nI_ge (b := 3) (by omega) (by decide)), r_now hP, show (129 : Int32) + nI w = nI (129 + w) from nI_add 129 w, r_ld hP (by omega), r_o hP, r_mixes hP, V_e, nI_1]⟩) 3 N 0 (fd (dJ v) 0 3 (fd (dG v) 0 (cnt v 2) (fd (dC v) 0 3 (fd (dS v) 0 (cnt v 1) (fd (dF v) 0 (cnt v 0) (fd (fun w l => mx l (sCn v (rs 0) w)) 0 12 3727)))))) a2 b2 c2 (by omega) (by omega)
  obtain ⟨a4, b4, c4, e4⟩ := lp_E (HH P v p k t l (upd rs 3 0) q) (fun n x h => FX4_digest_79 N n 108 x h) m (fun i l => mx l (t i)) (fun h => jf_gL 4 h 108 14 fun l102 => rL l102 h)
    (fun n hs a b c => by
      show FX4_digest_79 N (n + 1) 108 (nI m) _ = _
      have e : w3 (upd rs 3 0) a b c 2 = nI m := h2
      rw [FX4_digest_79, r_i2 hP, e, if_pos (Int32.le_refl _)])
    (fun n w hs a b c hw => ⟨a, b, c, by
      show FX4_digest_79 N (n + 1) 108 (nI w) _ = _
      have e : w3 (upd rs 3 0) a b c 2 = nI m := h2
      rw [FX4_digest_79, r_i2 hP, e, if_neg (nI_ge hw (by omega)), r_text hP, r_ldt hP (by omega), r_o hP, r_mixes hP, V_e, nI_1]⟩) m N 0 (mx (fd (fun w l => mx l (v (129 + w))) 0 3 (fd (dJ v) 0 3 (fd (dG v) 0 (cnt v 2) (fd (dC v) 0 3 (fd (dS v) 0 (cnt v 1) (fd (dF v) 0 (cnt v 0) (fd (fun w l => mx l (sCn v (rs 0) w)) 0 12 3727))))))) (nI m)) a3 b3 c3 (by omega) (by omega)
  refine ⟨a4, b4, c4, e1.trans ?_⟩
  show (jf_V (jf_o 4 108 _ (FX4_mixesAll N 108 _)) fun h101 => FX4_digest_42 N N 108 0 h101) = _
  rw [r_o hP, e2, V_e]
  refine e3.trans ?_
  show (jf_gI 4 _ 108 6 fun x101 => jf_V (jf_o 4 108 _ (FX4_mixes 108 x101.toInt64 _)) fun h102 => FX4_digest_79 N N 108 0 h102) = _
  have e : w3 (upd rs 3 0) a3 b3 c3 2 = nI m := h2
  rw [r_i2 hP, e, r_o hP, r_mixes hP, V_e]
  refine e4.trans ?_
  show (jf_gL 4 _ 108 14 fun l102 => rL l102 _) = _
  rw [r_h hP]
  rfl
end RD
def OkL (f g : jm_H → Option jm_X) : Prop := ∀ h, St h → ∃ (y : Int64) (h1 h2 : jm_H), jf_o 3 0 h (f h) = rL y h1 ∧ jf_o 4 108 h1 (g h1) = rL y h2 ∧ St h2
theorem ok_digest {N : Nat} (hN : 2001 ≤ N) : OkL (FX3_digest N 0) (FX4_digest N 108) := by
  rintro h ⟨F, π, sc, rd, cd, p, k, l, rs, hs, fL, fD, rfl, hR⟩
  obtain ⟨hI, ⟨n, hn1, hn2, hS⟩, hK, hM⟩ := id hR
  have z : ¬ (1 : Int32) = 0 := by decide
  obtain ⟨m, hm1, hm2, ht⟩ := id hM
  obtain ⟨a, b, c, e⟩ := d_digest (P := clsH F π sc rd cd) (v := F 0) (p := p) (k := k) (t := cd) (l := l) (rs := rs) (hs := hs) (q := lcs fL fD) (N := N) (clsH_len _ _ _ _ _) hN hI ht.1 hm2
  refine ⟨dAll (F 0) cd (sc 1) m, J F π sc rd cd (F 0) p k cd l rs hs fL fD, _, ?_, (j_o4.trans e).trans (by rw [hn1, hn2]), ⟨F, π, sc, rd, cd, p, k, l, w3 (upd rs 3 0) a b c, _, fL, fD, rfl, hI, ⟨n, hn1, hn2, hS⟩, hK, hM⟩⟩
  rw [c_o, c_digest hN hI ht.1 hm1]
