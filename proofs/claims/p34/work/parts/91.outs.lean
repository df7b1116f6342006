/-! P34: the calls that save (printed by wip/p34/face34.py) -/
theorem c_exC {F : Nat → Nat → Int32} {π : Nat → Nat} {sc rd cd : Nat → Int32} {q : jm_H} {c : Nat} {x : Int32} (hc : c < 3) : FX2_exchange 4 (nI c) 0 x (hC F π sc rd cd q) = rI (F 0 (7 + c)) (hC (fu F 0 (upd (F 0) (7 + c) x)) π sc rd cd q) := by
  unfold FX2_exchange
  rw [c_o4, c_aC, tC_e hc, I_e, c_o4, c_putC hc, V_e]
theorem c_exT {F : Nat → Nat → Int32} {π : Nat → Nat} {sc rd cd : Nat → Int32} {q : jm_H} {c : Nat} {x : Int32} (hc : c < 4) : FX2_exchange 6 (nI c) 0 x (hC F π sc rd cd q) = rI (F 0 (3 + c)) (hC (fu F 0 (upd (F 0) (3 + c) x)) π sc rd cd q) := by
  unfold FX2_exchange
  rw [c_o6, c_aT, tT_e hc, I_e, c_o6, c_putT hc, V_e]
theorem c_exJ {F : Nat → Nat → Int32} {π : Nat → Nat} {sc rd cd : Nat → Int32} {q : jm_H} {j f : Nat} {x : Int32} (hj : j < 3) (hf : f < 8) : FX2_exchange 12 (nI j) (nI f) x (hC F π sc rd cd q) = rI (sP (F 0) j f) (hC (fu F 0 (upd (F 0) (104 + 8 * j + f) x)) π sc rd cd q) := by
  unfold FX2_exchange
  rw [c_o12, c_aJ, tJ_e hj hf, I_e, c_o12, c_putJ hj hf, V_e]
theorem sRf_12 {v : Nat → Int32} {f : Nat} {c a p : Int32} (hI : Iv v) (h : sRf v f c a p = 0) : cnt v 1 < 12 := by
  have := (sRf_z h).1
  rw [hI.ns.1] at this
  exact (nI_ltI (a := cnt v 1) (b := 12) (by have := hI.ns.2; omega) (by decide)).mp this
theorem hasBit_e {x y : Int32} {h : jm_H} : FX3_hasBit x y h = rI (bl (hb x y)) h := by
  unfold FX3_hasBit
  by_cases h1 : hb x y
  · rw [bl_t h1]; exact if_pos h1
  · rw [bl_f h1]; exact if_neg h1
def o_film (v : Nat → Int32) (a b : Int32) : (Int32 × (Nat → Int32)) ⊕ String := if 1 ≤ a ∧ a ≤ 6 then (if 10 ≤ b ∧ b ≤ 25 then (if cnt v 0 < 8 then .inl (nI (cnt v 0), uFilm v a b) else .inr eI) else .inr eA) else .inr eA
theorem k_film {F : Nat → Nat → Int32} {π : Nat → Nat} {sc rd cd : Nat → Int32} {q : jm_H} {N n : Nat} {a b : Int32} (hN : 2001 ≤ N) (hI : Iv (F 0)) (hn1 : sc 1 = nI n) (h6 : n ≤ 6) (hπ : ∀ i, i < 6 → π i < 6) : FX3_film N 0 a b (hC F π sc rd cd q) = rW F π sc rd cd q n (o_film (F 0) a b) := by
  have z : ¬ (1 : Int32) = 0 := by decide
  have h8 := hI.nf.2
  have ec : F 0 0 < 8 ↔ cnt (F 0) 0 < 8 := by rw [hI.nf.1]; exact nI_ltI (a := cnt (F 0) 0) (b := 8) (by omega) (by decide)
  unfold FX3_film o_film
  by_cases ha : 1 ≤ a ∧ a ≤ 6
  · rw [if_pos ha]
    by_cases hb : 10 ≤ b ∧ b ≤ 25
    · rw [if_pos hb]
      by_cases hc : cnt (F 0) 0 < 8
      · rw [if_pos hc, e_in3, I_e, bl_t ha, if_neg z, e_in3, I_e, bl_t hb, if_neg z, rq1, V_e, k_r0, c_r0, c_n0, if_pos (ec.mpr hc), c_o, c_save (by omega) hn1 h6 hπ, V_e, k_r0, c_o1, c_addFilm (by rw [fu_0]; exact hI) (by rw [fu_0]; exact hc), I_e, fu_0]
        try rfl
      · rw [if_neg hc, e_in3, I_e, bl_t ha, if_neg z, e_in3, I_e, bl_t hb, if_neg z, rq1, V_e, k_r0, c_r0, c_n0, if_neg (fun e => hc (ec.mp e))]
        try rfl
    · rw [if_neg hb, e_in3, I_e, bl_t ha, if_neg z, e_in3, I_e, bl_f hb, if_pos rfl, rq0, V_x]
      try rfl
  · rw [if_neg ha, e_in3, I_e, bl_f ha, if_pos rfl, rq0, V_x]
    try rfl
def o_seats (v : Nat → Int32) (a b : Int32) : (Int32 × (Nat → Int32)) ⊕ String := if 0 ≤ a ∧ a ≤ 2 then (if 50 ≤ b ∧ b ≤ 400 then (.inl (v (7 + ixN a), upd v (7 + ixN a) b)) else .inr eA) else .inr eX
theorem k_seats {F : Nat → Nat → Int32} {π : Nat → Nat} {sc rd cd : Nat → Int32} {q : jm_H} {N n : Nat} {a b : Int32} (hN : 2001 ≤ N) (hI : Iv (F 0)) (hn1 : sc 1 = nI n) (h6 : n ≤ 6) (hπ : ∀ i, i < 6 → π i < 6) : FX3_seats N 0 a b (hC F π sc rd cd q) = rW F π sc rd cd q n (o_seats (F 0) a b) := by
  have z : ¬ (1 : Int32) = 0 := by decide
  unfold FX3_seats o_seats
  by_cases ha : 0 ≤ a ∧ a ≤ 2
  · rw [if_pos (ha)]
    obtain ⟨c, hc9, rfl⟩ := (in_i (b := 2) (by decide)).mp ha
    by_cases hb : 50 ≤ b ∧ b ≤ 400
    · rw [if_pos (hb)]
      try simp only [ixN_n (show c < 2 ^ 31 by omega)]
      rw [qC1 ha, V_e, e_in3, I_e, bl_t hb, rq1, V_e, c_o, c_save (by omega) hn1 h6 hπ, V_e, k_r0, c_r1, c_o4, c_exC (by omega), I_e, fu_0]
      try rfl
    · rw [if_neg (hb)]
      rw [qC1 ha, V_e, e_in3, I_e, bl_f hb, rq0, V_x]
      try rfl
  · rw [if_neg (ha)]
    rw [qC0 ha, V_x]
    try rfl
def o_set (v : Nat → Int32) (a b : Int32) : (Int32 × (Nat → Int32)) ⊕ String := if 0 ≤ a ∧ a ≤ 3 then (if 0 ≤ b ∧ b ≤ 60 then (.inl (v (3 + ixN a), upd v (3 + ixN a) b)) else .inr eA) else .inr eX
theorem k_set {F : Nat → Nat → Int32} {π : Nat → Nat} {sc rd cd : Nat → Int32} {q : jm_H} {N n : Nat} {a b : Int32} (hN : 2001 ≤ N) (hI : Iv (F 0)) (hn1 : sc 1 = nI n) (h6 : n ≤ 6) (hπ : ∀ i, i < 6 → π i < 6) : FX3_set N 0 a b (hC F π sc rd cd q) = rW F π sc rd cd q n (o_set (F 0) a b) := by
  have z : ¬ (1 : Int32) = 0 := by decide
  unfold FX3_set o_set
  by_cases ha : 0 ≤ a ∧ a ≤ 3
  · rw [if_pos (ha)]
    obtain ⟨c, hc9, rfl⟩ := (in_i (b := 3) (by decide)).mp ha
    by_cases hb : 0 ≤ b ∧ b ≤ 60
    · rw [if_pos (hb)]
      try simp only [ixN_n (show c < 2 ^ 31 by omega)]
      rw [e_in3, I_e, bl_t ha, if_neg z, e_in3, I_e, bl_t hb, rq1, V_e, c_o, c_save (by omega) hn1 h6 hπ, V_e, k_r0, c_r2, c_o6, c_exT (by omega), I_e, fu_0]
      try rfl
    · rw [if_neg (hb)]
      rw [e_in3, I_e, bl_t ha, if_neg z, e_in3, I_e, bl_f hb, rq0, V_x]
      try rfl
  · rw [if_neg (ha)]
    rw [e_in3, I_e, bl_f ha, if_pos rfl]
    try rfl
def o_show (v : Nat → Int32) (a b x y : Int32) : (Int32 × (Nat → Int32)) ⊕ String := if inN a (cnt v 0) then (if 0 ≤ b ∧ b ≤ 2 then (if 0 ≤ x ∧ x ≤ 1999 then (if 0 ≤ y ∧ y ≤ 20 then (if sRf v (ixN a) b x y = 0 then .inl (nI (cnt v 1), uShow v a b x y) else .inr eI) else .inr eA) else .inr eA) else .inr eX) else .inr eX
theorem k_show {F : Nat → Nat → Int32} {π : Nat → Nat} {sc rd cd : Nat → Int32} {q : jm_H} {N n : Nat} {a b x y : Int32} (hN : 2001 ≤ N) (hI : Iv (F 0)) (hn1 : sc 1 = nI n) (h6 : n ≤ 6) (hπ : ∀ i, i < 6 → π i < 6) : FX3_show N 0 a b x y (hC F π sc rd cd q) = rW F π sc rd cd q n (o_show (F 0) a b x y) := by
  have z : ¬ (1 : Int32) = 0 := by decide
  unfold FX3_show o_show
  by_cases ha : ∃ f, f < cnt (F 0) 0 ∧ a = nI f
  · rw [if_pos ((inN_i (by have := hI.nf.2; omega)).mpr ha)]
    obtain ⟨f, hf, rfl⟩ := id ha
    by_cases hb : 0 ≤ b ∧ b ≤ 2
    · rw [if_pos (hb)]
      obtain ⟨c, hc9, rfl⟩ := (in_i (b := 2) (by decide)).mp hb
      by_cases hx : 0 ≤ x ∧ x ≤ 1999
      · rw [if_pos (hx)]
        obtain ⟨m, hm9, rfl⟩ := (in_i (b := 1999) (by decide)).mp hx
        by_cases hy : 0 ≤ y ∧ y ≤ 20
        · rw [if_pos (hy)]
          obtain ⟨w, hw9, rfl⟩ := (in_i (b := 20) (by decide)).mp hy
          simp only [ixN_n (show f < 2 ^ 31 by have := hI.nf.2; omega)]
          by_cases hr : sRf (F 0) f (nI c) (nI m) (nI w) = 0
          · have h12 : cnt (F 0) 1 < 12 := sRf_12 hI hr
            rw [if_pos hr, c_o, qF1 hI ha, V_e, qC1 hb, V_e, qM1 hx, V_e, e_in3, I_e, bl_t hy, rq1, V_e, k_r0, c_o1, c_rf (by omega) hI hf, I_e, hr, qR1, V_e, c_o, c_save (by omega) hn1 h6 hπ, V_e, k_r0, c_o1, c_addShow (by rw [fu_0]; exact hI) (by rw [fu_0]; exact h12), I_e, fu_0]
            try rfl
          · rw [if_neg hr, c_o, qF1 hI ha, V_e, qC1 hb, V_e, qM1 hx, V_e, e_in3, I_e, bl_t hy, rq1, V_e, k_r0, c_o1, c_rf (by omega) hI hf, I_e, qR0 hr, V_x]
            try rfl
        · rw [if_neg (hy)]
          rw [c_o, qF1 hI ha, V_e, qC1 hb, V_e, qM1 hx, V_e, e_in3, I_e, bl_f hy, rq0, V_x]
          try rfl
      · rw [if_neg (hx)]
        rw [c_o, qF1 hI ha, V_e, qC1 hb, V_e, qM0 hx, V_x]
        try rfl
    · rw [if_neg (hb)]
      rw [c_o, qF1 hI ha, V_e, qC0 hb, V_x]
      try rfl
  · rw [if_neg (fun h9 => ha ((inN_i (by have := hI.nf.2; omega)).mp h9))]
    rw [c_o, qF0 hI ha, V_x]
    try rfl
def o_callOff (v : Nat → Int32) (a : Int32) : (Int32 × (Nat → Int32)) ⊕ String := if inN a (cnt v 1) then (.inl (bc (sS v (ixN a) 4), uDrop v (ixN a))) else .inr eX
theorem k_callOff {F : Nat → Nat → Int32} {π : Nat → Nat} {sc rd cd : Nat → Int32} {q : jm_H} {N n : Nat} {a : Int32} (hN : 2001 ≤ N) (hI : Iv (F 0)) (hn1 : sc 1 = nI n) (h6 : n ≤ 6) (hπ : ∀ i, i < 6 → π i < 6) : FX3_callOff N 0 a (hC F π sc rd cd q) = rW F π sc rd cd q n (o_callOff (F 0) a) := by
  have z : ¬ (1 : Int32) = 0 := by decide
  unfold FX3_callOff o_callOff
  by_cases ha : ∃ f, f < cnt (F 0) 1 ∧ a = nI f
  · rw [if_pos ((inN_i (by have := hI.ns.2; omega)).mpr ha)]
    obtain ⟨s, hs9, rfl⟩ := id ha
    try simp only [ixN_n (show s < 2 ^ 31 by have := hI.ns.2; omega)]
    rw [c_o, qS1 hI ha, V_e, c_o, c_save (by omega) hn1 h6 hπ, V_e, k_r0, c_o1, c_drop (by omega) (by rw [fu_0]; exact hI) (by rw [fu_0]; exact hs9), I_e, fu_0]
    try rfl
  · rw [if_neg (fun h9 => ha ((inN_i (by have := hI.ns.2; omega)).mp h9))]
    rw [c_o, qS0 hI ha, V_x]
    try rfl
def o_move (v : Nat → Int32) (a b : Int32) : (Int32 × (Nat → Int32)) ⊕ String := if inN a (cnt v 1) then (if 0 ≤ b ∧ b ≤ 1999 then (if sRb v (fmo v (ixN a)) (nI (sco v (ixN a))) b (nI (nB v (ixN a))) a = 0 then .inl (uShift v (ixN a) b) else .inr eI) else .inr eA) else .inr eX
theorem k_move {F : Nat → Nat → Int32} {π : Nat → Nat} {sc rd cd : Nat → Int32} {q : jm_H} {N n : Nat} {a b : Int32} (hN : 2001 ≤ N) (hI : Iv (F 0)) (hn1 : sc 1 = nI n) (h6 : n ≤ 6) (hπ : ∀ i, i < 6 → π i < 6) : FX3_move N 0 a b (hC F π sc rd cd q) = rW F π sc rd cd q n (o_move (F 0) a b) := by
  have z : ¬ (1 : Int32) = 0 := by decide
  unfold FX3_move o_move
  by_cases ha : ∃ f, f < cnt (F 0) 1 ∧ a = nI f
  · rw [if_pos ((inN_i (by have := hI.ns.2; omega)).mpr ha)]
    obtain ⟨s, hs9, rfl⟩ := id ha
    by_cases hb : 0 ≤ b ∧ b ≤ 1999
    · rw [if_pos (hb)]
      obtain ⟨m, hm9, rfl⟩ := (in_i (b := 1999) (by decide)).mp hb
      have h12 : s < 12 := by have := hI.ns.2; omega
      have hff := hI.fo_lt hs9
      have e0 : tS (F 0) (nI s) 0 = nI (fmo (F 0) s) := (tS_0 hI hs9).trans (hI.fo hs9)
      have e1 : tS (F 0) (nI s) 1 = nI (sco (F 0) s) := (tS_1 hI hs9).trans (hI.so hs9)
      have e3 : tS (F 0) (nI s) 3 = nI (nB (F 0) s) := (tS_3 hI hs9).trans (hI.pa hs9).1
      simp only [ixN_n (show s < 2 ^ 31 by omega)]
      by_cases hr : sRb (F 0) (fmo (F 0) s) (nI (sco (F 0) s)) (nI m) (nI (nB (F 0) s)) (nI s) = 0
      · have hI2 := Iv_start hI hs9 (show m < 2000 by omega) hr
        rw [if_pos hr, c_o, qS1 hI ha, V_e, qM1 hb, V_e, k_r0, k_r0, c_r3, c_o8, c_aS, e0, I_e, k_r0, c_r3, c_o8, c_aS, e1, I_e, k_r0, c_r3, c_o8, c_aS, e3, I_e, c_o1, c_rb (by omega) hI hff, I_e, hr, qR1, V_e, c_o, c_save (by omega) hn1 h6 hπ, V_e, k_r0, c_o1, c_shift (by omega) (by rw [fu_0]; exact hI) (by rw [fu_0]; exact hs9) (by rw [fu_0]; exact hI2), I_e, fu_0]
        try rfl
      · rw [if_neg hr, c_o, qS1 hI ha, V_e, qM1 hb, V_e, k_r0, k_r0, c_r3, c_o8, c_aS, e0, I_e, k_r0, c_r3, c_o8, c_aS, e1, I_e, k_r0, c_r3, c_o8, c_aS, e3, I_e, c_o1, c_rb (by omega) hI hff, I_e, qR0 hr, V_x]
        try rfl
    · rw [if_neg (hb)]
      rw [c_o, qS1 hI ha, V_e, qM0 hb, V_x]
      try rfl
  · rw [if_neg (fun h9 => ha ((inN_i (by have := hI.ns.2; omega)).mp h9))]
    rw [c_o, qS0 hI ha, V_x]
    try rfl
def o_guest (v : Nat → Int32) (a b x : Int32) : (Int32 × (Nat → Int32)) ⊕ String := if inN a (cnt v 0) then (if 0 ≤ b ∧ b ≤ 1999 then (if x ≤ b then .inr eA else if 2000 < x then .inr eA else if cnt v 2 < 6 then .inl (nI (cnt v 2), uGuest v a b x) else .inr eI) else .inr eA) else .inr eX
theorem k_guest {F : Nat → Nat → Int32} {π : Nat → Nat} {sc rd cd : Nat → Int32} {q : jm_H} {N n : Nat} {a b x : Int32} (hN : 2001 ≤ N) (hI : Iv (F 0)) (hn1 : sc 1 = nI n) (h6 : n ≤ 6) (hπ : ∀ i, i < 6 → π i < 6) : FX3_guest N 0 a b x (hC F π sc rd cd q) = rW F π sc rd cd q n (o_guest (F 0) a b x) := by
  have z : ¬ (1 : Int32) = 0 := by decide
  unfold FX3_guest o_guest
  by_cases ha : ∃ f, f < cnt (F 0) 0 ∧ a = nI f
  · rw [if_pos ((inN_i (by have := hI.nf.2; omega)).mpr ha)]
    obtain ⟨f, hf, rfl⟩ := id ha
    by_cases hb : 0 ≤ b ∧ b ≤ 1999
    · rw [if_pos (hb)]
      obtain ⟨m, hm9, rfl⟩ := (in_i (b := 1999) (by decide)).mp hb
      have ng := hI.ng
      have ec : F 0 2 < 6 ↔ cnt (F 0) 2 < 6 := by rw [hI.ng.1]; exact nI_ltI (a := cnt (F 0) 2) (b := 6) (by omega) (by decide)
      by_cases h1 : x ≤ nI m
      · rw [if_pos h1, c_o, qF1 hI ha, V_e, qM1 hb, V_e, if_pos h1, rq0, V_x]
        try rfl
      · rw [if_neg h1]
        by_cases h2 : 2000 < x
        · rw [if_pos h2, c_o, qF1 hI ha, V_e, qM1 hb, V_e, if_neg h1, if_pos h2, rq0, V_x]
          try rfl
        · rw [if_neg h2]
          by_cases h3 : cnt (F 0) 2 < 6
          · rw [if_pos h3, c_o, qF1 hI ha, V_e, qM1 hb, V_e, if_neg h1, if_neg h2, rq1, V_e, k_r0, c_r4, c_n2, if_pos (ec.mpr h3), c_o, c_save (by omega) hn1 h6 hπ, V_e, k_r0, c_o1, c_addGuest (by rw [fu_0]; exact hI) (by rw [fu_0]; exact h3), I_e, fu_0]
            try rfl
          · rw [if_neg h3, c_o, qF1 hI ha, V_e, qM1 hb, V_e, if_neg h1, if_neg h2, rq1, V_e, k_r0, c_r4, c_n2, if_neg (fun e => h3 (ec.mp e))]
            try rfl
    · rw [if_neg (hb)]
      rw [c_o, qF1 hI ha, V_e, qM0 hb, V_x]
      try rfl
  · rw [if_neg (fun h9 => ha ((inN_i (by have := hI.nf.2; omega)).mp h9))]
    rw [c_o, qF0 hI ha, V_x]
    try rfl
def o_attend (v : Nat → Int32) (a b : Int32) : (Int32 × (Nat → Int32)) ⊕ String := if 0 ≤ a ∧ a ≤ 2 then (if inN b (cnt v 1) then (if hb (sS v (ixN b) 4) a then .inr eI else if sGo v a (ixN b) = 0 then .inr eI else .inl (sVis (upd v (26 + 5 * ixN b + 4) (nI (gro v (ixN b) + 2 ^ ixN a))) a, (upd v (26 + 5 * ixN b + 4) (nI (gro v (ixN b) + 2 ^ ixN a))))) else .inr eX) else .inr eX
theorem k_attend {F : Nat → Nat → Int32} {π : Nat → Nat} {sc rd cd : Nat → Int32} {q : jm_H} {N n : Nat} {a b : Int32} (hN : 2001 ≤ N) (hI : Iv (F 0)) (hn1 : sc 1 = nI n) (h6 : n ≤ 6) (hπ : ∀ i, i < 6 → π i < 6) : FX3_attend N 0 a b (hC F π sc rd cd q) = rW F π sc rd cd q n (o_attend (F 0) a b) := by
  have z : ¬ (1 : Int32) = 0 := by decide
  unfold FX3_attend o_attend
  by_cases ha : 0 ≤ a ∧ a ≤ 2
  · rw [if_pos (ha)]
    obtain ⟨j, hj9, rfl⟩ := (in_i (b := 2) (by decide)).mp ha
    by_cases hB : ∃ f, f < cnt (F 0) 1 ∧ b = nI f
    · rw [if_pos ((inN_i (by have := hI.ns.2; omega)).mpr hB)]
      obtain ⟨s, hs9, rfl⟩ := id hB
      have h12 : s < 12 := by have := hI.ns.2; omega
      simp only [ixN_n (show s < 2 ^ 31 by omega), ixN_n (show j < 2 ^ 31 by omega)]
      by_cases h1 : hb (sS (F 0) s 4) (nI j)
      · rw [if_pos h1, qJ1 ha, V_e, c_o, qS1 hI hB, V_e, k_r0, c_o1, c_goes hI hs9, I_e, bl_t h1, if_neg z]
        try rfl
      · rw [if_neg h1]
        by_cases h2 : sGo (F 0) (nI j) s = 0
        · rw [if_pos h2, qJ1 ha, V_e, c_o, qS1 hI hB, V_e, k_r0, c_o1, c_goes hI hs9, I_e, bl_f h1, if_pos rfl, k_r0, c_o1, c_can (by omega) hI hs9, I_e, if_pos h2]
          try rfl
        · rw [if_neg h2, qJ1 ha, V_e, c_o, qS1 hI hB, V_e, k_r0, c_o1, c_goes hI hs9, I_e, bl_f h1, if_pos rfl, k_r0, c_o1, c_can (by omega) hI hs9, I_e, if_neg h2, c_o, c_save (by omega) hn1 h6 hπ, V_e, k_r0, c_o1, c_addGoer (by omega) (by rw [fu_0]; exact hI) (by rw [fu_0]; exact hs9) (show j < 3 by omega) (by rw [fu_0]; exact h1), I_e, fu_0]
          try rfl
    · rw [if_neg (fun h9 => hB ((inN_i (by have := hI.ns.2; omega)).mp h9))]
      rw [qJ1 ha, V_e, c_o, qS0 hI hB, V_x]
      try rfl
  · rw [if_neg (ha)]
    rw [qJ0 ha, V_x]
    try rfl
def o_vote (v : Nat → Int32) (a b x : Int32) : (Int32 × (Nat → Int32)) ⊕ String := if 0 ≤ a ∧ a ≤ 2 then (if inN b (cnt v 0) then (if 0 ≤ x ∧ x ≤ 10 then (if hb (sSeen v b) a then .inl (sP v (ixN a) (ixN b), upd v (104 + 8 * ixN a + ixN b) x) else .inr eI) else .inr eA) else .inr eX) else .inr eX
theorem k_vote {F : Nat → Nat → Int32} {π : Nat → Nat} {sc rd cd : Nat → Int32} {q : jm_H} {N n : Nat} {a b x : Int32} (hN : 2001 ≤ N) (hI : Iv (F 0)) (hn1 : sc 1 = nI n) (h6 : n ≤ 6) (hπ : ∀ i, i < 6 → π i < 6) : FX3_vote N 0 a b x (hC F π sc rd cd q) = rW F π sc rd cd q n (o_vote (F 0) a b x) := by
  have z : ¬ (1 : Int32) = 0 := by decide
  unfold FX3_vote o_vote
  by_cases ha : 0 ≤ a ∧ a ≤ 2
  · rw [if_pos (ha)]
    obtain ⟨j, hj9, rfl⟩ := (in_i (b := 2) (by decide)).mp ha
    by_cases hB : ∃ f, f < cnt (F 0) 0 ∧ b = nI f
    · rw [if_pos ((inN_i (by have := hI.nf.2; omega)).mpr hB)]
      obtain ⟨f, hf, rfl⟩ := id hB
      by_cases hx : 0 ≤ x ∧ x ≤ 10
      · rw [if_pos (hx)]
        have h8 : f < 8 := by have := hI.nf.2; omega
        simp only [ixN_n (show f < 2 ^ 31 by omega), ixN_n (show j < 2 ^ 31 by omega)]
        by_cases h1 : hb (sSeen (F 0) (nI f)) (nI j)
        · rw [if_pos h1, qJ1 ha, V_e, c_o, qF1 hI hB, V_e, e_in3, I_e, bl_t hx, rq1, V_e, k_r0, c_o1, c_seen (by omega) hI, I_e, hasBit_e, I_e, bl_t h1, if_neg z, c_o, c_save (by omega) hn1 h6 hπ, V_e, k_r0, c_r5, c_o12, c_exJ (show j < 3 by omega) h8, I_e, fu_0]
          try rfl
        · rw [if_neg h1, qJ1 ha, V_e, c_o, qF1 hI hB, V_e, e_in3, I_e, bl_t hx, rq1, V_e, k_r0, c_o1, c_seen (by omega) hI, I_e, hasBit_e, I_e, bl_f h1, if_pos rfl]
          try rfl
      · rw [if_neg (hx)]
        rw [qJ1 ha, V_e, c_o, qF1 hI hB, V_e, e_in3, I_e, bl_f hx, rq0, V_x]
        try rfl
    · rw [if_neg (fun h9 => hB ((inN_i (by have := hI.nf.2; omega)).mp h9))]
      rw [qJ1 ha, V_e, c_o, qF0 hI hB, V_x]
      try rfl
  · rw [if_neg (ha)]
    rw [qJ0 ha, V_x]
    try rfl
