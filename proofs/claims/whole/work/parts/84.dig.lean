/-! THE DIGEST of the class -/
abbrev mx (l : Int64) (x : Int32) : Int64 := 31 * l + x.toInt64
def dF (v : Nat → Int32) (f : Nat) (l : Int64) : Int64 := mx (fd (fun c l => mx l (sNx v f c 0)) 0 3 (fd (fun w l => mx l (sFilm v f w)) 0 6 l)) (sB v f 0)
def dS (v : Nat → Int32) (s : Nat) (l : Int64) : Int64 := fd (fun r l => mx l (sRb0 v s (nI r))) 0 6 (fd (fun w l => mx l (sShow v s w)) 0 6 l)
def uN (v : Nat → Int32) (c : Nat) : Nat := (sUse v (nI c)).toNatClampNeg
def dC (v : Nat → Int32) (c : Nat) (l : Int64) : Int64 := 31 * (fd (fun k l => mx l (sRun v (nI c) (nI (100 * k)))) 0 20 (fd (fun w l => mx l (sScr v c w)) 0 5 l)) + (dsh (uN v c)).toInt64
def dG (v : Nat → Int32) (g : Nat) (l : Int64) : Int64 := fd (fun w l => mx l (sGst v g w)) 0 4 l
def dJ (v : Nat → Int32) (j : Nat) (l : Int64) : Int64 := fd (fun w l => mx l (sJur v j w)) 0 3 l
def dT (v t : Nat → Int32) (m : Nat) (l : Int64) : Int64 := fd (fun i l => mx l (t i)) 0 m (mx (fd (fun w l => mx l (v (129 + w))) 0 3 l) (nI m))
def dAll (v t : Nat → Int32) (s : Int32) (m : Nat) : Int64 := dT v t m (fd (dJ v) 0 3 (fd (dG v) 0 (cnt v 2) (fd (dC v) 0 3 (fd (dS v) 0 (cnt v 1) (fd (dF v) 0 (cnt v 0) (fd (fun w l => mx l (sCn v s w)) 0 12 3727))))))
abbrev rL (x : Int64) (h : jm_H) : Option jm_X := some (.inl (some (.long x)), h)
theorem uN_e {v : Nat → Int32} (hI : Iv v) (c : Nat) : uN v c < 1801 ∧ sUse v (nI c) = nI (uN v c) := by
  obtain ⟨n, h1, h2⟩ := sUse_m hI (c := nI c)
  unfold uN
  rw [h2, nI_clamp (by omega)]
  exact ⟨h1, rfl⟩
theorem bits_l {N : Nat} {h : jm_H} : ∀ (k n x : Nat) (d : UInt64) (l r : Int64), bO k d l = some r → k < n → x + k ≤ 64 → FX3_bitsOf_18 N n d l (nI x) h = rL r h
  | 0, n, x, d, l, r, hb, hn, hx => by cases hb
  | k + 1, n, x, d, l, r, hb, hn, hx => by
    obtain ⟨n', rfl⟩ : ∃ n', n = n' + 1 := ⟨n - 1, by omega⟩
    unfold bO at hb
    rw [FX3_bitsOf_18, if_neg (show ¬ 64 ≤ nI x from nI_ge (b := 64) (by omega) (by decide))]
    by_cases h1 : 0 ≤ (Op.cmpValue (FP.dcmp d FP.dconst1) .g)
    · rw [if_pos h1] at hb
      rw [if_pos h1]
      by_cases h2 : nnan (FP.dsub d FP.dconst1) ∧ nnan (FP.dmul (FP.dsub d FP.dconst1) 4841369599423283200)
      · rw [if_pos h2] at hb
        cases hb
        rw [n_ok h2.1, n_ok h2.2]
      · rw [if_neg h2] at hb
        cases hb
    · rw [if_neg h1] at hb
      rw [if_neg h1]
      by_cases h2 : nnan (FP.dmul d 4611686018427387904)
      · rw [if_pos h2] at hb
        rw [n_ok h2, nI_1]
        exact bits_l k n' (x + 1) _ _ r hb (by omega) (by omega)
      · rw [if_neg h2] at hb
        cases hb
theorem bits_e {N n : Nat} {h : jm_H} (hN : 65 ≤ N) (hn : n < 1801) : FX3_bitsOf N (dsh n) h = rL (dsh n).toInt64 h := by
  unfold FX3_bitsOf
  by_cases h0 : n = 0
  · subst h0
    rw [if_neg dsh_0.1, dsh_0.2]
  · rw [if_pos ((dsh_2 n hn).1 (by omega))]
    have := (dsh_2 (n - 1) (by omega)).2
    rw [show n - 1 + 1 = n by omega] at this
    exact bits_l 20 N 0 (dsh n) 1023 _ this (by omega) (by omega)
section CD
variable {F : Nat → Nat → Int32} {π : Nat → Nat} {sc rd cd : Nat → Int32} {q : jm_H} {N : Nat}
theorem L_e' {v : Int64} {h : jm_H} {f : Int64 → jm_H → Option jm_X} : jf_L (rL v h) f = f v h := rfl
/-- a loop of the class that mixes and goes on -/
theorem lp_mix (L : Nat → Int32 → Int64 → Option jm_X) (B : Nat) (f : Nat → Int64 → Int64) (K : Int64 → Option jm_X) (h0 : ∀ n l, L (n + 1) (nI B) l = K l) (h1 : ∀ n k l, k < B → L (n + 1) (nI k) l = L n (nI (k + 1)) (f k l)) {n : Nat} (hn : B < n) (l : Int64) : L n (nI 0) l = K (fd f 0 B l) :=
  lp_fold L B f K (fun _ _ => True) (fun n l _ => h0 n l) (fun n k l hk _ => ⟨h1 n k l hk, trivial⟩) B n 0 l (by omega) hn trivial
theorem m_f1 {f : Nat} {l : Int64} {K : Nat → Int64 → Int32 → jm_H → Option jm_X} (hN : 2001 ≤ N) (hI : Iv (F 0)) (hf : f < cnt (F 0) 0) : FX3_mixFilms_23 N N 0 l (nI f) 0 (hC F π sc rd cd q) K = K 0 (fd (fun w l => mx l (sFilm (F 0) f w)) 0 6 l) (nI f) (hC F π sc rd cd q) :=
  lp_mix (fun n x l => FX3_mixFilms_23 N n 0 l (nI f) x (hC F π sc rd cd q) K) 6 (fun w l => mx l (sFilm (F 0) f w)) (fun l => K 0 l (nI f) (hC F π sc rd cd q))
    (fun n l => by
      show FX3_mixFilms_23 N (n + 1) 0 l (nI f) (nI 6) (hC F π sc rd cd q) K = _
      rw [FX3_mixFilms_23, if_pos (by decide)])
    (fun n k l hk => by
      show FX3_mixFilms_23 N (n + 1) 0 l (nI f) (nI k) (hC F π sc rd cd q) K = _
      rw [FX3_mixFilms_23, if_neg (show ¬ 5 < nI k from nI_nlt (b := k) (a := 5) (by omega) (by decide)), k_r0, c_o1, c_film (by omega) hI hf hk, I_e, nI_1]) (by omega) l
theorem m_f2 {f : Nat} {l : Int64} {K : Nat → Int64 → Int32 → jm_H → Option jm_X} (hN : 2001 ≤ N) (hI : Iv (F 0)) (hf : f < cnt (F 0) 0) : FX3_mixFilms_57 N N 0 l (nI f) 0 (hC F π sc rd cd q) K = K 0 (fd (fun c l => mx l (sNx (F 0) f c 0)) 0 3 l) (nI f) (hC F π sc rd cd q) :=
  lp_mix (fun n x l => FX3_mixFilms_57 N n 0 l (nI f) x (hC F π sc rd cd q) K) 3 (fun c l => mx l (sNx (F 0) f c 0)) (fun l => K 0 l (nI f) (hC F π sc rd cd q))
    (fun n l => by
      show FX3_mixFilms_57 N (n + 1) 0 l (nI f) (nI 3) (hC F π sc rd cd q) K = _
      rw [FX3_mixFilms_57, if_pos (by decide)])
    (fun n k l hk => by
      show FX3_mixFilms_57 N (n + 1) 0 l (nI f) (nI k) (hC F π sc rd cd q) K = _
      rw [FX3_mixFilms_57, if_neg (show ¬ 3 ≤ nI k from nI_ge (b := 3) (by omega) (by decide)), k_r0, c_o1, show FX0_nextFrom N 1 (nI f) (nI k) 0 = FX0_nextFrom N 1 (nI f) (nI k) (nI 0) from rfl, c_nx hN hI hf hk (by decide), I_e, nI_1]) (by omega) l
theorem m_films {l : Int64} (hN : 2001 ≤ N) (hI : Iv (F 0)) : FX3_mixFilms N 0 l (hC F π sc rd cd q) = rL (fd (dF (F 0)) 0 (cnt (F 0) 0) l) (hC F π sc rd cd q) := by
  have hn := hI.nf
  unfold FX3_mixFilms
  exact lp_mix (fun n x l => FX3_mixFilms_5 N n 0 l x (hC F π sc rd cd q)) (cnt (F 0) 0) (dF (F 0)) (fun l => rL l (hC F π sc rd cd q))
    (fun n l => by
      show FX3_mixFilms_5 N (n + 1) 0 l (nI (cnt (F 0) 0)) (hC F π sc rd cd q) = _
      rw [FX3_mixFilms_5, k_r0, c_r0, c_n0, hn.1, if_pos (Int32.le_refl _)])
    (fun n f l hf => by
      show FX3_mixFilms_5 N (n + 1) 0 l (nI f) (hC F π sc rd cd q) = _
      rw [FX3_mixFilms_5, k_r0, c_r0, c_n0, hn.1, if_neg (nI_ge hf (by omega)), m_f1 hN hI hf, m_f2 hN hI hf, k_r0, c_o1, show FX0_bestFrom N 1 (nI f) 0 = FX0_bestFrom N 1 (nI f) (nI 0) from rfl, c_b hN hI hf (by decide), I_e, nI_1]
      rfl) (by omega) l
theorem m_s1 {f : Nat} {l : Int64} {K : Nat → Int64 → Int32 → jm_H → Option jm_X} (hN : 2001 ≤ N) (hI : Iv (F 0)) (hf : f < cnt (F 0) 1) : FX3_mixShowings_23 N N 0 l (nI f) 0 (hC F π sc rd cd q) K = K 0 (fd (fun w l => mx l (sShow (F 0) f w)) 0 6 l) (nI f) (hC F π sc rd cd q) :=
  lp_mix (fun n x l => FX3_mixShowings_23 N n 0 l (nI f) x (hC F π sc rd cd q) K) 6 (fun w l => mx l (sShow (F 0) f w)) (fun l => K 0 l (nI f) (hC F π sc rd cd q))
    (fun n l => by
      show FX3_mixShowings_23 N (n + 1) 0 l (nI f) (nI 6) (hC F π sc rd cd q) K = _
      rw [FX3_mixShowings_23, if_pos (by decide)])
    (fun n k l hk => by
      show FX3_mixShowings_23 N (n + 1) 0 l (nI f) (nI k) (hC F π sc rd cd q) K = _
      rw [FX3_mixShowings_23, if_neg (show ¬ 5 < nI k from nI_nlt (b := k) (a := 5) (by omega) (by decide)), k_r0, c_o1, c_show hI hf hk, I_e, nI_1]) (by omega) l
theorem m_s2 {f : Nat} {l : Int64} {K : Nat → Int64 → Int32 → jm_H → Option jm_X} (hN : 2001 ≤ N) (hI : Iv (F 0)) (hf : f < cnt (F 0) 1) : FX3_mixShowings_57 N N 0 l (nI f) 0 (hC F π sc rd cd q) K = K 0 (fd (fun r l => mx l (sRb0 (F 0) f (nI r))) 0 6 l) (nI f) (hC F π sc rd cd q) :=
  lp_mix (fun n x l => FX3_mixShowings_57 N n 0 l (nI f) x (hC F π sc rd cd q) K) 6 (fun r l => mx l (sRb0 (F 0) f (nI r))) (fun l => K 0 l (nI f) (hC F π sc rd cd q))
    (fun n l => by
      show FX3_mixShowings_57 N (n + 1) 0 l (nI f) (nI 6) (hC F π sc rd cd q) K = _
      rw [FX3_mixShowings_57, if_pos (by decide)])
    (fun n k l hk => by
      show FX3_mixShowings_57 N (n + 1) 0 l (nI f) (nI k) (hC F π sc rd cd q) K = _
      rw [FX3_mixShowings_57, if_neg (show ¬ 6 ≤ nI k from nI_ge (b := 6) (by omega) (by decide)), k_r0, c_o1, c_rbeg hI hf, I_e, nI_1]) (by omega) l
theorem m_shows {l : Int64} (hN : 2001 ≤ N) (hI : Iv (F 0)) : FX3_mixShowings N 0 l (hC F π sc rd cd q) = rL (fd (dS (F 0)) 0 (cnt (F 0) 1) l) (hC F π sc rd cd q) := by
  have hn := hI.ns
  unfold FX3_mixShowings
  exact lp_mix (fun n x l => FX3_mixShowings_5 N n 0 l x (hC F π sc rd cd q)) (cnt (F 0) 1) (dS (F 0)) (fun l => rL l (hC F π sc rd cd q))
    (fun n l => by
      show FX3_mixShowings_5 N (n + 1) 0 l (nI (cnt (F 0) 1)) (hC F π sc rd cd q) = _
      rw [FX3_mixShowings_5, k_r0, c_r3, c_n1, hn.1, if_pos (Int32.le_refl _)])
    (fun n f l hf => by
      show FX3_mixShowings_5 N (n + 1) 0 l (nI f) (hC F π sc rd cd q) = _
      rw [FX3_mixShowings_5, k_r0, c_r3, c_n1, hn.1, if_neg (nI_ge hf (by omega)), m_s1 hN hI hf, m_s2 hN hI hf, nI_1]
      rfl) (by omega) l
theorem m_c1 {c : Nat} {l : Int64} {K : Nat → Int64 → Int32 → jm_H → Option jm_X} (hN : 2001 ≤ N) (hI : Iv (F 0)) (hc : c < 3) : FX3_mixScreens_14 N N 0 l (nI c) 0 (hC F π sc rd cd q) K = K 0 (fd (fun w l => mx l (sScr (F 0) c w)) 0 5 l) (nI c) (hC F π sc rd cd q) :=
  lp_mix (fun n x l => FX3_mixScreens_14 N n 0 l (nI c) x (hC F π sc rd cd q) K) 5 (fun w l => mx l (sScr (F 0) c w)) (fun l => K 0 l (nI c) (hC F π sc rd cd q))
    (fun n l => by
      show FX3_mixScreens_14 N (n + 1) 0 l (nI c) (nI 5) (hC F π sc rd cd q) K = _
      rw [FX3_mixScreens_14, if_pos (by decide)])
    (fun n k l hk => by
      show FX3_mixScreens_14 N (n + 1) 0 l (nI c) (nI k) (hC F π sc rd cd q) K = _
      rw [FX3_mixScreens_14, if_neg (show ¬ 4 < nI k from nI_nlt (b := k) (a := 4) (by omega) (by decide)), k_r0, c_o1, c_scr hN hI hc hk, I_e, nI_1]) (by omega) l
theorem m_c2 {c : Nat} {l : Int64} {K : Nat → Int64 → Int32 → jm_H → Option jm_X} (hN : 2001 ≤ N) (hI : Iv (F 0)) : FX3_mixScreens_48 N N 0 l (nI c) 0 (hC F π sc rd cd q) K = K 0 (fd (fun k l => mx l (sRun (F 0) (nI c) (nI (100 * k)))) 0 20 l) (nI c) (hC F π sc rd cd q) :=
  lp_mix (fun n x l => FX3_mixScreens_48 N n 0 l (nI c) (100 * x) (hC F π sc rd cd q) K) 20 (fun k l => mx l (sRun (F 0) (nI c) (nI (100 * k)))) (fun l => K 0 l (nI c) (hC F π sc rd cd q))
    (fun n l => by
      show FX3_mixScreens_48 N (n + 1) 0 l (nI c) (100 * nI 20) (hC F π sc rd cd q) K = _
      rw [FX3_mixScreens_48, if_pos (by decide)])
    (fun n k l hk => by
      show FX3_mixScreens_48 N (n + 1) 0 l (nI c) (100 * nI k) (hC F π sc rd cd q) K = FX3_mixScreens_48 N n 0 _ (nI c) (100 * nI (k + 1)) (hC F π sc rd cd q) K
      have e : (100 : Int32) * nI k = nI (100 * k) := pk_mul 100 k
      have e' : (100 : Int32) * nI (k + 1) = nI (100 * (k + 1)) := pk_mul 100 (k + 1)
      have e2 : nI (100 * k) + 100 = nI (100 * (k + 1)) := by rw [show (100 : Int32) = nI 100 from rfl, nI_add]; rfl
      rw [e, e', FX3_mixScreens_48, if_neg (show ¬ 2000 ≤ nI (100 * k) from nI_ge (b := 2000) (by omega) (by decide)), k_r0, c_o1, c_run (by omega) hI, I_e, e2]) (by omega) l
theorem m_screens {l : Int64} (hN : 2001 ≤ N) (hI : Iv (F 0)) : FX3_mixScreens N 0 l (hC F π sc rd cd q) = rL (fd (dC (F 0)) 0 3 l) (hC F π sc rd cd q) := by
  unfold FX3_mixScreens
  exact lp_mix (fun n x l => FX3_mixScreens_5 N n 0 l x (hC F π sc rd cd q)) 3 (dC (F 0)) (fun l => rL l (hC F π sc rd cd q))
    (fun n l => by
      show FX3_mixScreens_5 N (n + 1) 0 l (nI 3) (hC F π sc rd cd q) = _
      rw [FX3_mixScreens_5, if_pos (by decide)])
    (fun n c l hc => by
      obtain ⟨u1, u2⟩ := uN_e hI c
      show FX3_mixScreens_5 N (n + 1) 0 l (nI c) (hC F π sc rd cd q) = _
      rw [FX3_mixScreens_5, if_neg (show ¬ 3 ≤ nI c from nI_ge (b := 3) (by omega) (by decide)), m_c1 hN hI hc, m_c2 hN hI, k_r0, c_o1, c_share (by omega) hI u1 u2, D_e, bits_e (by omega) u1, L_e', nI_1]
      rfl) (by omega) l
theorem m_p1 {g : Nat} {l : Int64} {K : Nat → Int64 → Int32 → jm_H → Option jm_X} (hN : 2001 ≤ N) (hI : Iv (F 0)) (hg : g < cnt (F 0) 2) : FX3_mixPeople_23 N N 0 l (nI g) 0 (hC F π sc rd cd q) K = K 0 (dG (F 0) g l) (nI g) (hC F π sc rd cd q) :=
  lp_mix (fun n x l => FX3_mixPeople_23 N n 0 l (nI g) x (hC F π sc rd cd q) K) 4 (fun w l => mx l (sGst (F 0) g w)) (fun l => K 0 l (nI g) (hC F π sc rd cd q))
    (fun n l => by
      show FX3_mixPeople_23 N (n + 1) 0 l (nI g) (nI 4) (hC F π sc rd cd q) K = _
      rw [FX3_mixPeople_23, if_pos (by decide)])
    (fun n k l hk => by
      show FX3_mixPeople_23 N (n + 1) 0 l (nI g) (nI k) (hC F π sc rd cd q) K = _
      rw [FX3_mixPeople_23, if_neg (show ¬ 3 < nI k from nI_nlt (b := k) (a := 3) (by omega) (by decide)), k_r0, c_o1, c_gst (by omega) hI hg hk, I_e, nI_1]) (by omega) l
theorem m_p2 {j : Nat} {l : Int64} {K : Nat → Int64 → Int32 → jm_H → Option jm_X} (hN : 2001 ≤ N) (hI : Iv (F 0)) (hj : j < 3) : FX3_mixPeople_72 N N 0 l (nI j) 0 (hC F π sc rd cd q) K = K 0 (dJ (F 0) j l) (nI j) (hC F π sc rd cd q) :=
  lp_mix (fun n x l => FX3_mixPeople_72 N n 0 l (nI j) x (hC F π sc rd cd q) K) 3 (fun w l => mx l (sJur (F 0) j w)) (fun l => K 0 l (nI j) (hC F π sc rd cd q))
    (fun n l => by
      show FX3_mixPeople_72 N (n + 1) 0 l (nI j) (nI 3) (hC F π sc rd cd q) K = _
      rw [FX3_mixPeople_72, if_pos (by decide)])
    (fun n k l hk => by
      show FX3_mixPeople_72 N (n + 1) 0 l (nI j) (nI k) (hC F π sc rd cd q) K = _
      rw [FX3_mixPeople_72, if_neg (show ¬ 2 < nI k from nI_nlt (b := k) (a := 2) (by omega) (by decide)), k_r0, c_o1, c_jur (by omega) hI hj hk, I_e, nI_1]) (by omega) l
theorem m_p3 {l : Int64} (hN : 2001 ≤ N) (hI : Iv (F 0)) : FX3_mixPeople_63 N N 0 l 0 (hC F π sc rd cd q) = rL (fd (dJ (F 0)) 0 3 l) (hC F π sc rd cd q) :=
  lp_mix (fun n x l => FX3_mixPeople_63 N n 0 l x (hC F π sc rd cd q)) 3 (dJ (F 0)) (fun l => rL l (hC F π sc rd cd q))
    (fun n l => by
      show FX3_mixPeople_63 N (n + 1) 0 l (nI 3) (hC F π sc rd cd q) = _
      rw [FX3_mixPeople_63, if_pos (by decide)])
    (fun n j l hj => by
      show FX3_mixPeople_63 N (n + 1) 0 l (nI j) (hC F π sc rd cd q) = _
      rw [FX3_mixPeople_63, if_neg (show ¬ 3 ≤ nI j from nI_ge (b := 3) (by omega) (by decide)), m_p2 hN hI hj, nI_1]) (by omega) l
theorem m_people {l : Int64} (hN : 2001 ≤ N) (hI : Iv (F 0)) : FX3_mixPeople N 0 l (hC F π sc rd cd q) = rL (fd (dJ (F 0)) 0 3 (fd (dG (F 0)) 0 (cnt (F 0) 2) l)) (hC F π sc rd cd q) := by
  have hn := hI.ng
  unfold FX3_mixPeople
  exact lp_mix (fun n x l => FX3_mixPeople_5 N n 0 l x (hC F π sc rd cd q)) (cnt (F 0) 2) (dG (F 0)) (fun l => rL (fd (dJ (F 0)) 0 3 l) (hC F π sc rd cd q))
    (fun n l => by
      show FX3_mixPeople_5 N (n + 1) 0 l (nI (cnt (F 0) 2)) (hC F π sc rd cd q) = _
      rw [FX3_mixPeople_5, k_r0, c_r4, c_n2, hn.1, if_pos (Int32.le_refl _), m_p3 hN hI])
    (fun n g l hg => by
      show FX3_mixPeople_5 N (n + 1) 0 l (nI g) (hC F π sc rd cd q) = _
      rw [FX3_mixPeople_5, k_r0, c_r4, c_n2, hn.1, if_neg (nI_ge hg (by omega)), m_p1 hN hI hg, nI_1]) (by omega) l
theorem m_t1 {l : Int64} {m : Nat} (hN : 2001 ≤ N) (hm : m ≤ 60) (h2 : sc 2 = nI m) : FX3_mixTexts_49 N N 0 l 0 (hC F π sc rd cd q) = rL (fd (fun i l => mx l (cd i)) 0 m l) (hC F π sc rd cd q) :=
  lp_mix (fun n x l => FX3_mixTexts_49 N n 0 l x (hC F π sc rd cd q)) m (fun i l => mx l (cd i)) (fun l => rL l (hC F π sc rd cd q))
    (fun n l => by
      show FX3_mixTexts_49 N (n + 1) 0 l (nI m) (hC F π sc rd cd q) = _
      rw [FX3_mixTexts_49, k_i2, h2, if_pos (Int32.le_refl _)])
    (fun n i l hi => by
      show FX3_mixTexts_49 N (n + 1) 0 l (nI i) (hC F π sc rd cd q) = _
      rw [FX3_mixTexts_49, k_i2, h2, if_neg (nI_ge hi (by omega)), k_r4, k_l7, if_neg (show ¬ 60 ≤ nI i from nI_ge (b := 60) (by omega) (by decide)), k_r4, k_ld7 (by omega), nI_1]) (by omega) l
theorem m_texts {l : Int64} {m : Nat} (hN : 2001 ≤ N) (hm : m ≤ 60) (h2 : sc 2 = nI m) : FX3_mixTexts N 0 l (hC F π sc rd cd q) = rL (dT (F 0) cd m l) (hC F π sc rd cd q) := by
  unfold FX3_mixTexts
  exact lp_mix (fun n x l => FX3_mixTexts_5 N n 0 l x (hC F π sc rd cd q)) 3 (fun w l => mx l (F 0 (129 + w))) (fun l => rL (fd (fun i l => mx l (cd i)) 0 m (mx l (nI m))) (hC F π sc rd cd q))
    (fun n l => by
      show FX3_mixTexts_5 N (n + 1) 0 l (nI 3) (hC F π sc rd cd q) = _
      rw [FX3_mixTexts_5, if_pos (by decide), k_i2, m_t1 hN hm h2, h2])
    (fun n w l hw => by
      show FX3_mixTexts_5 N (n + 1) 0 l (nI w) (hC F π sc rd cd q) = _
      rw [FX3_mixTexts_5, if_neg (show ¬ 2 < nI w from nI_nlt (b := w) (a := 2) (by omega) (by decide)), k_r0, c_o1, c_stp hw, I_e, nI_1]) (by omega) l
theorem c_digest {m : Nat} (hN : 2001 ≤ N) (hI : Iv (F 0)) (hm : m ≤ 60) (h2 : sc 2 = nI m) : FX3_digest N 0 (hC F π sc rd cd q) = rL (dAll (F 0) cd (sc 1) m) (hC F π sc rd cd q) := by
  unfold FX3_digest dAll
  exact lp_mix (fun n x l => FX3_digest_6 N n 0 l x (hC F π sc rd cd q)) 12 (fun w l => mx l (sCn (F 0) (sc 1) w)) (fun l => rL (dT (F 0) cd m (fd (dJ (F 0)) 0 3 (fd (dG (F 0)) 0 (cnt (F 0) 2) (fd (dC (F 0)) 0 3 (fd (dS (F 0)) 0 (cnt (F 0) 1) (fd (dF (F 0)) 0 (cnt (F 0) 0) l)))))) (hC F π sc rd cd q))
    (fun n l => by
      show FX3_digest_6 N (n + 1) 0 l (nI 12) (hC F π sc rd cd q) = _
      rw [FX3_digest_6, if_pos (by decide), c_o, m_films hN hI, L_e', c_o, m_shows hN hI, L_e', c_o, m_screens hN hI, L_e', c_o, m_people hN hI, L_e', c_o, m_texts hN hm h2, L_e'])
    (fun n w l hw => by
      show FX3_digest_6 N (n + 1) 0 l (nI w) (hC F π sc rd cd q) = _
      rw [FX3_digest_6, if_neg (show ¬ 11 < nI w from nI_nlt (b := w) (a := 11) (by omega) (by decide)), c_o, c_cnt (by omega) hI hw, I_e, nI_1]) (by omega) 3727
end CD
