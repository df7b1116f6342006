/-! THE LAW: its loop (printed by wip/whole/law.py) -/
theorem lgc {x : Int64} : lg_cmp x x = 0 := by
  unfold lg_cmp
  rw [if_neg (fun h => Int64.lt_irrefl h), if_pos rfl]
theorem lstep {f g cont : jm_H → Option jm_X} {h : jm_H} (hO : Ok f g) (hS : St h) (K : ∀ h', St h' → ∃ h'', cont h' = rI 1 h'') :
    ∃ h'', (jf_I (f h) fun x102 h101 => jf_I (jf_o 4 108 h101 (g h101)) fun x104 h103 => jf_I (jf_o 4 108 h103 (FX4_thrown 108 h103)) fun x106 h105 => if x106 = x102 then (if x102 = 0 then (jf_ldL h105 114 0 fun l107 => if (lg_cmp l107 x104.toInt64) = 0 then cont h105 else rI 0 h105) else cont h105) else rI 0 h105) = rI 1 h'' := by
  obtain ⟨e, y, h1, h2, e1, e2, e3, e4, e5⟩ := hO h hS
  obtain ⟨h3, e6⟩ := K h2 e4
  refine ⟨h3, ?_⟩
  rw [e1, I_e, e2, I_e, e3, I_e, if_pos rfl]
  by_cases he : e = 0
  · rw [if_pos he, e5 he, lgc, if_pos rfl, e6]
  · rw [if_neg he, e6]
theorem lstep0 {f g cont : jm_H → Option jm_X} {h : jm_H} (hO : Ok0 f g) (hS : St h) (K : ∀ h', St h' → ∃ h'', cont h' = rI 1 h'') :
    ∃ h'', (jf_I (jf_o 3 0 h (f h)) fun x102 h101 => jf_I (jf_o 4 108 h101 (g h101)) fun x104 h103 => if x102 = x104 then cont h103 else rI 0 h103) = rI 1 h'' := by
  obtain ⟨y, h1, h2, e1, e2, e4⟩ := hO h hS
  obtain ⟨h3, e6⟩ := K h2 e4
  refine ⟨h3, ?_⟩
  rw [e1, I_e, e2, I_e, if_pos rfl, e6]
theorem lstepL {f g cont : jm_H → Option jm_X} {h : jm_H} (hO : OkL f g) (hS : St h) (K : ∀ h', St h' → ∃ h'', cont h' = rI 1 h'') :
    ∃ h'', (jf_L (jf_o 3 0 h (f h)) fun x102 h101 => jf_L (jf_o 4 108 h101 (g h101)) fun x104 h103 => if lg_cmp x102 x104 = 0 then cont h103 else rI 0 h103) = rI 1 h'' := by
  obtain ⟨y, h1, h2, e1, e2, e4⟩ := hO h hS
  obtain ⟨h3, e6⟩ := K h2 e4
  refine ⟨h3, ?_⟩
  rw [e1, L_e', e2, L_e', lgc, if_pos rfl, e6]
theorem lstepD {f g cont : jm_H → Option jm_X} {h : jm_H} (hO : OkD f g) (hS : St h) (K : ∀ h', St h' → ∃ h'', cont h' = rI 1 h'') :
    ∃ h'', (jf_I (f h) fun x102 h101 => jf_D (jf_o 4 108 h101 (g h101)) fun d104 h103 => jf_I (jf_o 4 108 h103 (FX4_thrown 108 h103)) fun x106 h105 => if x106 = x102 then (if x102 = 0 then (jf_ldD h105 115 0 fun d301 => if (Op.cmpValue (FP.dcmp d301 d104) .l) = 0 then cont h105 else jf_ldD h105 115 0 fun d302 => jf_ldD h105 115 0 fun d303 => if (Op.cmpValue (FP.dcmp d302 d303) .l) = 0 then rI 0 h105 else if (Op.cmpValue (FP.dcmp d104 d104) .l) = 0 then rI 0 h105 else cont h105) else cont h105) else rI 0 h105) = rI 1 h'' := by
  obtain ⟨e, d, h1, h2, e1, e2, e3, e4, e5⟩ := hO h hS
  obtain ⟨h3, e6⟩ := K h2 e4
  refine ⟨h3, ?_⟩
  rw [e1, I_e, e2, D_e, e3, I_e, if_pos rfl]
  by_cases he : e = 0
  · rw [if_pos he, e5 he]
    by_cases hd : (Op.cmpValue (FP.dcmp d d) .l) = 0
    · rw [if_pos hd, e6]
    · rw [if_neg hd, e5 he, e5 he, if_neg hd, if_neg hd, e6]
  · rw [if_neg he, e6]
theorem s_ok {L j : Nat} {r : Option jm_X} (hj : j < L) (hL : L < 4000) : jf_s L (nI j) r = r := by
  unfold jf_s
  rw [if_neg (fun h => h.elim (nI_pos (by omega)) (by rw [nI_clamp (by omega)]; omega))]
theorem law_l {L : Nat} {xs : Nat → Int32} {N : Nat} (hN : 2001 ≤ N) (hL : L < 4000) : ∀ (d n i kc ks : Nat) (h : jm_H), L < 6 * (i + d) + 6 → d < n → 6 * i < 5000 → kc ≤ 116 + 5 * i → ks ≤ 4364 + 30 * i → St h → ∃ h', FL_law_28 L xs N n kc ks 0 108 114 115 (nI (6 * i)) h = rI 1 h'
  | d, n, i, kc, ks, h, hd, hn, hi, hkc, hks, hS => by
    obtain ⟨n', rfl⟩ : ∃ n', n = n' + 1 := ⟨n - 1, by omega⟩
    have hk : ∀ a b, a ≤ 601024 → b ≤ 7293034 → ∀ r : Option jm_X, jf_k (M_L_law L xs) a b r = r := fun a b h1 h2 r => k_ok ⟨h1, h2⟩
    have hx : (Int32.ofNat L - 6 < nI (6 * i)) ↔ L < 6 * i + 6 := by
      rw [Int32.lt_iff_toInt_lt, nI_toInt (by omega), Int32.toInt_sub, show (Int32.ofNat L).toInt = (L : Int) from nI_toInt (by omega), show ((6 : Int32)).toInt = 6 from rfl]
      rw [Int.bmod_eq_of_le (by omega) (by omega)]
      omega
    rw [FL_law_28, hk _ _ (by omega) (by omega)]
    by_cases hc : L < 6 * i + 6
    · rw [if_pos (hx.mpr hc)]
      exact ⟨h, rfl⟩
    · obtain ⟨d', rfl⟩ : ∃ d', d = d' + 1 := ⟨d - 1, by omega⟩
      have e6 : nI (6 * i) + 6 = nI (6 * (i + 1)) := nI_add (6 * i) 6
      have K : ∀ a b h', a ≤ 116 + 5 * (i + 1) → b ≤ 4364 + 30 * (i + 1) → St h' → ∃ h'', FL_law_28 L xs N n' a b 0 108 114 115 (nI (6 * i) + 6) h' = rI 1 h'' := fun a b h' h1 h2 h3 => by
        rw [e6]
        exact law_l hN hL d' n' (i + 1) a b h' (by omega) (by omega) (by omega) h1 h2 h3
      have s0 : ∀ r, jf_s L (nI (6 * i)) r = r := fun r => s_ok (by omega) hL
      have s1 : ∀ r, jf_s L (nI (6 * i) + 1) r = r := fun r => by rw [show nI (6 * i) + 1 = nI (6 * i + 1) from nI_add (6 * i) 1]; exact s_ok (by omega) hL
      have s2 : ∀ r, jf_s L (nI (6 * i) + 2) r = r := fun r => by rw [show nI (6 * i) + 2 = nI (6 * i + 2) from nI_add (6 * i) 2]; exact s_ok (by omega) hL
      have s3 : ∀ r, jf_s L (nI (6 * i) + 3) r = r := fun r => by rw [show nI (6 * i) + 3 = nI (6 * i + 3) from nI_add (6 * i) 3]; exact s_ok (by omega) hL
      have s4 : ∀ r, jf_s L (nI (6 * i) + 4) r = r := fun r => by rw [show nI (6 * i) + 4 = nI (6 * i + 4) from nI_add (6 * i) 4]; exact s_ok (by omega) hL
      have s5 : ∀ r, jf_s L (nI (6 * i) + 5) r = r := fun r => by rw [show nI (6 * i) + 5 = nI (6 * i + 5) from nI_add (6 * i) 5]; exact s_ok (by omega) hL
      rw [if_neg (fun hh => hc (hx.mp hh)), s0]
      obtain ⟨j, hj, hje⟩ := pk_andE (xs (nI (6 * i)).toNatClampNeg) (m := 31) 5 rfl
      rw [hje]
      have hj2 : j < 32 := hj
      have : j = 0 ∨ j = 1 ∨ j = 2 ∨ j = 3 ∨ j = 4 ∨ j = 5 ∨ j = 6 ∨ j = 7 ∨ j = 8 ∨ j = 9 ∨ j = 10 ∨ j = 11 ∨ j = 12 ∨ j = 13 ∨ j = 14 ∨ j = 15 ∨ j = 16 ∨ j = 17 ∨ j = 18 ∨ j = 19 ∨ j = 20 ∨ j = 21 ∨ j = 22 ∨ j = 23 ∨ j = 24 ∨ j = 25 ∨ j = 26 ∨ j = 27 ∨ j = 28 ∨ j = 29 ∨ j = 30 ∨ j = 31 := by omega
      rcases this with rfl | rfl | rfl | rfl | rfl | rfl | rfl | rfl | rfl | rfl | rfl | rfl | rfl | rfl | rfl | rfl | rfl | rfl | rfl | rfl | rfl | rfl | rfl | rfl | rfl | rfl | rfl | rfl | rfl | rfl | rfl | rfl
      · rw [sw_e (i := 0) (lo := 0) rfl (Nat.le_of_ble_eq_true rfl) rfl]
        simp only [s1, s2]
        rw [hk _ _ (by omega) (by omega)]
        exact lstep (ok_film hN) hS (fun h' s => K _ _ h' (by omega) (by omega) s)
      · rw [sw_e (i := 1) (lo := 0) rfl (Nat.le_of_ble_eq_true rfl) rfl]
        simp only [s1, s2]
        rw [hk _ _ (by omega) (by omega)]
        exact lstep (ok_seats hN) hS (fun h' s => K _ _ h' (by omega) (by omega) s)
      · rw [sw_e (i := 2) (lo := 0) rfl (Nat.le_of_ble_eq_true rfl) rfl]
        simp only [s1, s2]
        rw [hk _ _ (by omega) (by omega)]
        exact lstep (ok_set hN) hS (fun h' s => K _ _ h' (by omega) (by omega) s)
      · rw [sw_e (i := 3) (lo := 0) rfl (Nat.le_of_ble_eq_true rfl) rfl]
        simp only [s1, s2, s3, s4]
        rw [hk _ _ (by omega) (by omega)]
        exact lstep (ok_show hN) hS (fun h' s => K _ _ h' (by omega) (by omega) s)
      · rw [sw_e (i := 4) (lo := 0) rfl (Nat.le_of_ble_eq_true rfl) rfl]
        simp only [s1]
        rw [hk _ _ (by omega) (by omega)]
        exact lstep (ok_callOff hN) hS (fun h' s => K _ _ h' (by omega) (by omega) s)
      · rw [sw_e (i := 5) (lo := 0) rfl (Nat.le_of_ble_eq_true rfl) rfl]
        simp only [s1, s2]
        rw [hk _ _ (by omega) (by omega)]
        exact lstep (ok_move hN) hS (fun h' s => K _ _ h' (by omega) (by omega) s)
      · rw [sw_e (i := 6) (lo := 0) rfl (Nat.le_of_ble_eq_true rfl) rfl]
        simp only [s1, s2, s3]
        rw [hk _ _ (by omega) (by omega)]
        exact lstep (ok_guest hN) hS (fun h' s => K _ _ h' (by omega) (by omega) s)
      · rw [sw_e (i := 7) (lo := 0) rfl (Nat.le_of_ble_eq_true rfl) rfl]
        simp only [s1, s2]
        rw [hk _ _ (by omega) (by omega)]
        exact lstep (ok_attend hN) hS (fun h' s => K _ _ h' (by omega) (by omega) s)
      · rw [sw_e (i := 8) (lo := 0) rfl (Nat.le_of_ble_eq_true rfl) rfl]
        simp only [s1, s2, s3]
        rw [hk _ _ (by omega) (by omega)]
        exact lstep (ok_vote hN) hS (fun h' s => K _ _ h' (by omega) (by omega) s)
      · rw [sw_e (i := 9) (lo := 0) rfl (Nat.le_of_ble_eq_true rfl) rfl]
        simp only [s1]
        rw [hk _ _ (by omega) (by omega)]
        exact lstep ok_append hS (fun h' s => K _ _ h' (by omega) (by omega) s)
      · rw [sw_e (i := 10) (lo := 0) rfl (Nat.le_of_ble_eq_true rfl) rfl]
        exact lstep0 ok_clear hS (fun h' s => K _ _ h' (by omega) (by omega) s)
      · rw [sw_e (i := 11) (lo := 0) rfl (Nat.le_of_ble_eq_true rfl) rfl]
        exact lstep0 (ok_first hN) hS (fun h' s => K _ _ h' (by omega) (by omega) s)
      · rw [sw_e (i := 12) (lo := 0) rfl (Nat.le_of_ble_eq_true rfl) rfl]
        rw [hk _ _ (by omega) (by omega)]
        exact lstep (ok_program hN) hS (fun h' s => K _ _ h' (by omega) (by omega) s)
      · rw [sw_e (i := 13) (lo := 0) rfl (Nat.le_of_ble_eq_true rfl) rfl]
        simp only [s1]
        rw [hk _ _ (by omega) (by omega)]
        exact lstep (ok_stopped hN) hS (fun h' s => K _ _ h' (by omega) (by omega) s)
      · rw [sw_e (i := 14) (lo := 0) rfl (Nat.le_of_ble_eq_true rfl) rfl]
        rw [hk _ _ (by omega) (by omega)]
        exact lstep (ok_undo hN) hS (fun h' s => K _ _ h' (by omega) (by omega) s)
      · rw [sw_e (i := 15) (lo := 0) rfl (Nat.le_of_ble_eq_true rfl) rfl]
        exact lstep0 (ok_keep hN) hS (fun h' s => K _ _ h' (by omega) (by omega) s)
      · rw [sw_e (i := 16) (lo := 0) rfl (Nat.le_of_ble_eq_true rfl) rfl]
        rw [hk _ _ (by omega) (by omega)]
        exact lstep (ok_restore hN) hS (fun h' s => K _ _ h' (by omega) (by omega) s)
      · rw [sw_e (i := 17) (lo := 0) rfl (Nat.le_of_ble_eq_true rfl) rfl]
        simp only [s1, s2]
        rw [hk _ _ (by omega) (by omega)]
        exact lstep (ok_filmOf hN) hS (fun h' s => K _ _ h' (by omega) (by omega) s)
      · rw [sw_e (i := 18) (lo := 0) rfl (Nat.le_of_ble_eq_true rfl) rfl]
        simp only [s1, s2]
        rw [hk _ _ (by omega) (by omega)]
        exact lstep (ok_showing hN) hS (fun h' s => K _ _ h' (by omega) (by omega) s)
      · rw [sw_e (i := 19) (lo := 0) rfl (Nat.le_of_ble_eq_true rfl) rfl]
        simp only [s1, s2]
        rw [hk _ _ (by omega) (by omega)]
        exact lstep (ok_reel hN) hS (fun h' s => K _ _ h' (by omega) (by omega) s)
      · rw [sw_e (i := 20) (lo := 0) rfl (Nat.le_of_ble_eq_true rfl) rfl]
        simp only [s1, s2]
        rw [hk _ _ (by omega) (by omega)]
        exact lstep (ok_runs hN) hS (fun h' s => K _ _ h' (by omega) (by omega) s)
      · rw [sw_e (i := 21) (lo := 0) rfl (Nat.le_of_ble_eq_true rfl) rfl]
        simp only [s1, s2]
        rw [hk _ _ (by omega) (by omega)]
        exact lstep (ok_screen hN) hS (fun h' s => K _ _ h' (by omega) (by omega) s)
      · rw [sw_e (i := 22) (lo := 0) rfl (Nat.le_of_ble_eq_true rfl) rfl]
        simp only [s1, s2]
        rw [hk _ _ (by omega) (by omega)]
        exact lstep (ok_guestOf hN) hS (fun h' s => K _ _ h' (by omega) (by omega) s)
      · rw [sw_e (i := 23) (lo := 0) rfl (Nat.le_of_ble_eq_true rfl) rfl]
        simp only [s1, s2]
        rw [hk _ _ (by omega) (by omega)]
        exact lstep (ok_juror hN) hS (fun h' s => K _ _ h' (by omega) (by omega) s)
      · rw [sw_e (i := 24) (lo := 0) rfl (Nat.le_of_ble_eq_true rfl) rfl]
        simp only [s1]
        rw [hk _ _ (by omega) (by omega)]
        exact lstep (ok_count hN) hS (fun h' s => K _ _ h' (by omega) (by omega) s)
      · rw [sw_e (i := 25) (lo := 0) rfl (Nat.le_of_ble_eq_true rfl) rfl]
        simp only [s1, s2, s3, s4, s5]
        rw [hk _ _ (by omega) (by omega)]
        exact lstep (ok_whyNot hN) hS (fun h' s => K _ _ h' (by omega) (by omega) s)
      · rw [sw_e (i := 26) (lo := 0) rfl (Nat.le_of_ble_eq_true rfl) rfl]
        simp only [s1, s2, s3]
        rw [hk _ _ (by omega) (by omega)]
        exact lstep (ok_nextStart hN) hS (fun h' s => K _ _ h' (by omega) (by omega) s)
      · rw [sw_e (i := 27) (lo := 0) rfl (Nat.le_of_ble_eq_true rfl) rfl]
        simp only [s1, s2]
        rw [hk _ _ (by omega) (by omega)]
        exact lstep (ok_bestScreen hN) hS (fun h' s => K _ _ h' (by omega) (by omega) s)
      · rw [sw_e (i := 28) (lo := 0) rfl (Nat.le_of_ble_eq_true rfl) rfl]
        simp only [s1, s2, s3]
        rw [hk _ _ (by omega) (by omega)]
        exact lstep (ok_ifShown hN) hS (fun h' s => K _ _ h' (by omega) (by omega) s)
      · rw [sw_e (i := 29) (lo := 0) rfl (Nat.le_of_ble_eq_true rfl) rfl]
        simp only [s1]
        rw [hk _ _ (by omega) (by omega)]
        exact lstepD (ok_use hN) hS (fun h' s => K _ _ h' (by omega) (by omega) s)
      · rw [sw_e (i := 30) (lo := 0) rfl (Nat.le_of_ble_eq_true rfl) rfl]
        exact lstepL (ok_digest hN) hS (fun h' s => K _ _ h' (by omega) (by omega) s)
      · rw [sw_d (k := 31) (lo := 0) rfl (by decide) (Nat.le_of_ble_eq_true rfl) (Or.inr (Nat.le_of_ble_eq_true rfl))]
        exact K _ _ h (by omega) (by omega) hS
