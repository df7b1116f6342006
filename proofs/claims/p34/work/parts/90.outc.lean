/-! P34: what each method of the class answers, as an outcome (printed by wip/p34/face34.py) -/
abbrev eX : String := "java/lang/IndexOutOfBoundsException"
abbrev eA : String := "java/lang/IllegalArgumentException"
abbrev eI : String := "java/lang/IllegalStateException"
def ixN (x : Int32) : Nat := x.toNatClampNeg
theorem ixN_n {n : Nat} (h : n < 2 ^ 31) : ixN (nI n) = n := nI_clamp h
abbrev inN (a : Int32) (n : Nat) : Prop := 0 ≤ a ∧ ixN a < n
theorem inN_i {a : Int32} {n : Nat} (hn : n < 4000) : inN a n ↔ ∃ f, f < n ∧ a = nI f := by
  constructor
  · rintro ⟨h0, h1⟩
    obtain ⟨j, hj, rfl⟩ := nI_of (Int32.not_lt.mpr h0)
    exact ⟨j, by rw [ixN_n hj] at h1; exact h1, rfl⟩
  · rintro ⟨f, hf, rfl⟩
    exact ⟨Int32.not_lt.mp (nI_pos (by omega)), by rw [ixN_n (by omega)]; exact hf⟩
def rA (o : Int32 ⊕ String) (h : jm_H) : Option jm_X := match o with
  | .inl y => rI y h
  | .inr E => rX E h
abbrev hSv (F : Nat → Nat → Int32) (π : Nat → Nat) (sc rd cd : Nat → Int32) (q : jm_H) (n : Nat) (w : Nat → Int32) : jm_H := hC (fu (fu F (πs π n (πn n) + 2) (F 0)) 0 w) (πs π n) (upd sc 1 (nI (svN n))) rd cd q
def rW (F : Nat → Nat → Int32) (π : Nat → Nat) (sc rd cd : Nat → Int32) (q : jm_H) (n : Nat) (o : (Int32 × (Nat → Int32)) ⊕ String) : Option jm_X := match o with
  | .inl p => rI p.1 (hSv F π sc rd cd q n p.2)
  | .inr E => rX E (hC F π sc rd cd q)
theorem gG1 {v : Nat → Int32} {x : Int32} (hI : Iv v) (hx : ∃ f, f < cnt v 2 ∧ x = nI f) : 0 ≤ x ∧ x ≤ v 2 - 1 := by rw [hI.ng.1]; exact (in_n (by have := hI.ng.2; omega)).mpr hx
theorem gG0 {v : Nat → Int32} {x : Int32} (hI : Iv v) (hx : ¬ ∃ f, f < cnt v 2 ∧ x = nI f) : ¬ (0 ≤ x ∧ x ≤ v 2 - 1) := by rw [hI.ng.1]; exact fun hh => hx ((in_n (by have := hI.ng.2; omega)).mp hh)
def o_filmOf (v : Nat → Int32) (a b : Int32) : Int32 ⊕ String := if inN a (cnt v 0) then (if 0 ≤ b ∧ b ≤ 5 then (.inl (sFilm v (ixN a) (ixN b))) else .inr eA) else .inr eX
theorem k_filmOf {F : Nat → Nat → Int32} {π : Nat → Nat} {sc rd cd : Nat → Int32} {q : jm_H} {N : Nat} {a b : Int32} (hN : 2001 ≤ N) (hI : Iv (F 0)) : FX3_filmOf N 0 a b (hC F π sc rd cd q) = rA (o_filmOf (F 0) a b) (hC F π sc rd cd q) := by
  have z : ¬ (1 : Int32) = 0 := by decide
  unfold FX3_filmOf o_filmOf
  by_cases ha : ∃ f, f < cnt (F 0) 0 ∧ a = nI f
  · rw [if_pos ((inN_i (by have := hI.nf.2; omega)).mpr ha)]
    obtain ⟨f, hf, rfl⟩ := id ha
    by_cases hb : 0 ≤ b ∧ b ≤ 5
    · rw [if_pos (hb)]
      obtain ⟨w, hw9, rfl⟩ := (in_i (b := 5) (by decide)).mp hb
      rw [c_o, qF1 hI ha, V_e, qW1 hb, V_e, k_r0, c_o1, c_film (by omega) hI hf (by omega), I_e]
      try simp only [ixN_n (show f < 2 ^ 31 by have := hI.nf.2; omega), ixN_n (show w < 2 ^ 31 by omega)]
      try rfl
    · rw [if_neg (hb)]
      rw [c_o, qF1 hI ha, V_e, qW0 hb, V_x]
      try rfl
  · rw [if_neg (fun h9 => ha ((inN_i (by have := hI.nf.2; omega)).mp h9))]
    rw [c_o, qF0 hI ha, V_x]
    try rfl
def o_showing (v : Nat → Int32) (a b : Int32) : Int32 ⊕ String := if inN a (cnt v 1) then (if 0 ≤ b ∧ b ≤ 5 then (.inl (sShow v (ixN a) (ixN b))) else .inr eA) else .inr eX
theorem k_showing {F : Nat → Nat → Int32} {π : Nat → Nat} {sc rd cd : Nat → Int32} {q : jm_H} {N : Nat} {a b : Int32} (hN : 2001 ≤ N) (hI : Iv (F 0)) : FX3_showing 0 a b (hC F π sc rd cd q) = rA (o_showing (F 0) a b) (hC F π sc rd cd q) := by
  have z : ¬ (1 : Int32) = 0 := by decide
  unfold FX3_showing o_showing
  by_cases ha : ∃ f, f < cnt (F 0) 1 ∧ a = nI f
  · rw [if_pos ((inN_i (by have := hI.ns.2; omega)).mpr ha)]
    obtain ⟨s, hs9, rfl⟩ := id ha
    by_cases hb : 0 ≤ b ∧ b ≤ 5
    · rw [if_pos (hb)]
      obtain ⟨w, hw9, rfl⟩ := (in_i (b := 5) (by decide)).mp hb
      rw [c_o, qS1 hI ha, V_e, qW1 hb, V_e, k_r0, c_o1, c_show hI hs9 (by omega), I_e]
      try simp only [ixN_n (show s < 2 ^ 31 by have := hI.ns.2; omega), ixN_n (show w < 2 ^ 31 by omega)]
      try rfl
    · rw [if_neg (hb)]
      rw [c_o, qS1 hI ha, V_e, qW0 hb, V_x]
      try rfl
  · rw [if_neg (fun h9 => ha ((inN_i (by have := hI.ns.2; omega)).mp h9))]
    rw [c_o, qS0 hI ha, V_x]
    try rfl
def o_reel (v : Nat → Int32) (a b : Int32) : Int32 ⊕ String := if inN a (cnt v 1) then (if 0 ≤ b ∧ b ≤ 5 then (.inl (sRb0 v (ixN a) b)) else .inr eA) else .inr eX
theorem k_reel {F : Nat → Nat → Int32} {π : Nat → Nat} {sc rd cd : Nat → Int32} {q : jm_H} {N : Nat} {a b : Int32} (hN : 2001 ≤ N) (hI : Iv (F 0)) : FX3_reel 0 a b (hC F π sc rd cd q) = rA (o_reel (F 0) a b) (hC F π sc rd cd q) := by
  have z : ¬ (1 : Int32) = 0 := by decide
  unfold FX3_reel o_reel
  by_cases ha : ∃ f, f < cnt (F 0) 1 ∧ a = nI f
  · rw [if_pos ((inN_i (by have := hI.ns.2; omega)).mpr ha)]
    obtain ⟨s, hs9, rfl⟩ := id ha
    by_cases hb : 0 ≤ b ∧ b ≤ 5
    · rw [if_pos (hb)]
      rw [c_o, qS1 hI ha, V_e, e_in3, I_e, bl_t hb, rq1, V_e, k_r0, c_o1, c_rbeg hI hs9, I_e]
      try simp only [ixN_n (show s < 2 ^ 31 by have := hI.ns.2; omega)]
      try rfl
    · rw [if_neg (hb)]
      rw [c_o, qS1 hI ha, V_e, e_in3, I_e, bl_f hb, rq0, V_x]
      try rfl
  · rw [if_neg (fun h9 => ha ((inN_i (by have := hI.ns.2; omega)).mp h9))]
    rw [c_o, qS0 hI ha, V_x]
    try rfl
def o_runs (v : Nat → Int32) (a b : Int32) : Int32 ⊕ String := if 0 ≤ a ∧ a ≤ 2 then (if 0 ≤ b ∧ b ≤ 1999 then (.inl (sRun v a b)) else .inr eA) else .inr eX
theorem k_runs {F : Nat → Nat → Int32} {π : Nat → Nat} {sc rd cd : Nat → Int32} {q : jm_H} {N : Nat} {a b : Int32} (hN : 2001 ≤ N) (hI : Iv (F 0)) : FX3_runs N 0 a b (hC F π sc rd cd q) = rA (o_runs (F 0) a b) (hC F π sc rd cd q) := by
  have z : ¬ (1 : Int32) = 0 := by decide
  unfold FX3_runs o_runs
  by_cases ha : 0 ≤ a ∧ a ≤ 2
  · rw [if_pos (ha)]
    obtain ⟨c, hc9, rfl⟩ := (in_i (b := 2) (by decide)).mp ha
    by_cases hb : 0 ≤ b ∧ b ≤ 1999
    · rw [if_pos (hb)]
      obtain ⟨m, hm9, rfl⟩ := (in_i (b := 1999) (by decide)).mp hb
      rw [qC1 ha, V_e, qM1 hb, V_e, k_r0, c_o1, c_run (by omega) hI, I_e]
      try simp only [ixN_n (show c < 2 ^ 31 by omega), ixN_n (show m < 2 ^ 31 by omega)]
      try rfl
    · rw [if_neg (hb)]
      rw [qC1 ha, V_e, qM0 hb, V_x]
      try rfl
  · rw [if_neg (ha)]
    rw [qC0 ha, V_x]
    try rfl
def o_screen (v : Nat → Int32) (a b : Int32) : Int32 ⊕ String := if 0 ≤ a ∧ a ≤ 2 then (if 0 ≤ b ∧ b ≤ 4 then (.inl (sScr v (ixN a) (ixN b))) else .inr eA) else .inr eX
theorem k_screen {F : Nat → Nat → Int32} {π : Nat → Nat} {sc rd cd : Nat → Int32} {q : jm_H} {N : Nat} {a b : Int32} (hN : 2001 ≤ N) (hI : Iv (F 0)) : FX3_screen N 0 a b (hC F π sc rd cd q) = rA (o_screen (F 0) a b) (hC F π sc rd cd q) := by
  have z : ¬ (1 : Int32) = 0 := by decide
  unfold FX3_screen o_screen
  by_cases ha : 0 ≤ a ∧ a ≤ 2
  · rw [if_pos (ha)]
    obtain ⟨c, hc9, rfl⟩ := (in_i (b := 2) (by decide)).mp ha
    by_cases hb : 0 ≤ b ∧ b ≤ 4
    · rw [if_pos (hb)]
      obtain ⟨w, hw9, rfl⟩ := (in_i (b := 4) (by decide)).mp hb
      rw [qC1 ha, V_e, qW1 hb, V_e, k_r0, c_o1, c_scr hN hI (by omega) (by omega), I_e]
      try simp only [ixN_n (show c < 2 ^ 31 by omega), ixN_n (show w < 2 ^ 31 by omega)]
      try rfl
    · rw [if_neg (hb)]
      rw [qC1 ha, V_e, qW0 hb, V_x]
      try rfl
  · rw [if_neg (ha)]
    rw [qC0 ha, V_x]
    try rfl
def o_guestOf (v : Nat → Int32) (a b : Int32) : Int32 ⊕ String := if inN a (cnt v 2) then (if 0 ≤ b ∧ b ≤ 3 then (.inl (sGst v (ixN a) (ixN b))) else .inr eA) else .inr eX
theorem k_guestOf {F : Nat → Nat → Int32} {π : Nat → Nat} {sc rd cd : Nat → Int32} {q : jm_H} {N : Nat} {a b : Int32} (hN : 2001 ≤ N) (hI : Iv (F 0)) : FX3_guestOf N 0 a b (hC F π sc rd cd q) = rA (o_guestOf (F 0) a b) (hC F π sc rd cd q) := by
  have z : ¬ (1 : Int32) = 0 := by decide
  unfold FX3_guestOf o_guestOf
  by_cases ha : ∃ f, f < cnt (F 0) 2 ∧ a = nI f
  · rw [if_pos ((inN_i (by have := hI.ng.2; omega)).mpr ha)]
    obtain ⟨g, hg9, rfl⟩ := id ha
    by_cases hb : 0 ≤ b ∧ b ≤ 3
    · rw [if_pos (hb)]
      obtain ⟨w, hw9, rfl⟩ := (in_i (b := 3) (by decide)).mp hb
      rw [k_r0, c_r4, c_n2, e_in3, I_e, bl_t (gG1 hI ha), if_neg z, qW1 hb, V_e, k_r0, c_o1, c_gst (by omega) hI hg9 (by omega), I_e]
      try simp only [ixN_n (show g < 2 ^ 31 by have := hI.ng.2; omega), ixN_n (show w < 2 ^ 31 by omega)]
      try rfl
    · rw [if_neg (hb)]
      rw [k_r0, c_r4, c_n2, e_in3, I_e, bl_t (gG1 hI ha), if_neg z, qW0 hb, V_x]
      try rfl
  · rw [if_neg (fun h9 => ha ((inN_i (by have := hI.ng.2; omega)).mp h9))]
    rw [k_r0, c_r4, c_n2, e_in3, I_e, bl_f (gG0 hI ha), if_pos rfl]
    try rfl
def o_juror (v : Nat → Int32) (a b : Int32) : Int32 ⊕ String := if 0 ≤ a ∧ a ≤ 2 then (if 0 ≤ b ∧ b ≤ 2 then (.inl (sJur v (ixN a) (ixN b))) else .inr eA) else .inr eX
theorem k_juror {F : Nat → Nat → Int32} {π : Nat → Nat} {sc rd cd : Nat → Int32} {q : jm_H} {N : Nat} {a b : Int32} (hN : 2001 ≤ N) (hI : Iv (F 0)) : FX3_juror N 0 a b (hC F π sc rd cd q) = rA (o_juror (F 0) a b) (hC F π sc rd cd q) := by
  have z : ¬ (1 : Int32) = 0 := by decide
  unfold FX3_juror o_juror
  by_cases ha : 0 ≤ a ∧ a ≤ 2
  · rw [if_pos (ha)]
    obtain ⟨j, hj9, rfl⟩ := (in_i (b := 2) (by decide)).mp ha
    by_cases hb : 0 ≤ b ∧ b ≤ 2
    · rw [if_pos (hb)]
      obtain ⟨w, hw9, rfl⟩ := (in_i (b := 2) (by decide)).mp hb
      rw [qJ1 ha, V_e, qW1 hb, V_e, k_r0, c_o1, c_jur (by omega) hI (by omega) (by omega), I_e]
      try simp only [ixN_n (show j < 2 ^ 31 by omega), ixN_n (show w < 2 ^ 31 by omega)]
      try rfl
    · rw [if_neg (hb)]
      rw [qJ1 ha, V_e, qW0 hb, V_x]
      try rfl
  · rw [if_neg (ha)]
    rw [qJ0 ha, V_x]
    try rfl
def o_stopped (v : Nat → Int32) (a : Int32) : Int32 ⊕ String := if 0 ≤ a ∧ a ≤ 2 then (.inl (v (129 + ixN a))) else .inr eA
theorem k_stopped {F : Nat → Nat → Int32} {π : Nat → Nat} {sc rd cd : Nat → Int32} {q : jm_H} {N : Nat} {a : Int32} (hN : 2001 ≤ N) (hI : Iv (F 0)) : FX3_stopped 0 a (hC F π sc rd cd q) = rA (o_stopped (F 0) a) (hC F π sc rd cd q) := by
  have z : ¬ (1 : Int32) = 0 := by decide
  unfold FX3_stopped o_stopped
  by_cases ha : 0 ≤ a ∧ a ≤ 2
  · rw [if_pos (ha)]
    obtain ⟨w, hw9, rfl⟩ := (in_i (b := 2) (by decide)).mp ha
    rw [qW1 ha, V_e, k_r0, c_o1, c_stp (by omega), I_e]
    try simp only [ixN_n (show w < 2 ^ 31 by omega)]
    try rfl
  · rw [if_neg (ha)]
    rw [qW0 ha, V_x]
    try rfl
def o_count (v : Nat → Int32) (n a : Int32) : Int32 ⊕ String := if 0 ≤ a ∧ a ≤ 11 then .inl (sCn v n (ixN a)) else .inr eA
theorem k_count {F : Nat → Nat → Int32} {π : Nat → Nat} {sc rd cd : Nat → Int32} {q : jm_H} {N : Nat} {a : Int32} (hN : 2001 ≤ N) (hI : Iv (F 0)) : FX3_count N 0 a (hC F π sc rd cd q) = rA (o_count (F 0) (sc 1) a) (hC F π sc rd cd q) := by
  unfold FX3_count o_count
  by_cases ha : 0 ≤ a ∧ a ≤ 11
  · rw [if_pos ha]
    obtain ⟨w, hw9, rfl⟩ := (in_i (b := 11) (by decide)).mp ha
    rw [qW1 ha, V_e, c_o, c_cnt (by omega) hI (by omega), I_e]
    simp only [ixN_n (show w < 2 ^ 31 by omega)]
    try rfl
  · rw [if_neg ha, qW0 ha, V_x]
    try rfl
def o_nextStart (v : Nat → Int32) (a b x : Int32) : Int32 ⊕ String := if inN a (cnt v 0) then (if 0 ≤ b ∧ b ≤ 2 then (if 0 ≤ x ∧ x ≤ 1999 then (.inl (sNx v (ixN a) (ixN b) (ixN x))) else .inr eA) else .inr eX) else .inr eX
theorem k_nextStart {F : Nat → Nat → Int32} {π : Nat → Nat} {sc rd cd : Nat → Int32} {q : jm_H} {N : Nat} {a b x : Int32} (hN : 2001 ≤ N) (hI : Iv (F 0)) : FX3_nextStart N 0 a b x (hC F π sc rd cd q) = rA (o_nextStart (F 0) a b x) (hC F π sc rd cd q) := by
  have z : ¬ (1 : Int32) = 0 := by decide
  unfold FX3_nextStart o_nextStart
  by_cases ha : ∃ f, f < cnt (F 0) 0 ∧ a = nI f
  · rw [if_pos ((inN_i (by have := hI.nf.2; omega)).mpr ha)]
    obtain ⟨f, hf, rfl⟩ := id ha
    by_cases hB : 0 ≤ b ∧ b ≤ 2
    · rw [if_pos (hB)]
      obtain ⟨c, hc9, rfl⟩ := (in_i (b := 2) (by decide)).mp hB
      by_cases hx : 0 ≤ x ∧ x ≤ 1999
      · rw [if_pos (hx)]
        obtain ⟨m, hm9, rfl⟩ := (in_i (b := 1999) (by decide)).mp hx
        rw [c_o, qF1 hI ha, V_e, qC1 hB, V_e, qM1 hx, V_e, k_r0, c_o1, c_nx hN hI hf (by omega) (by omega), I_e]
        try simp only [ixN_n (show f < 2 ^ 31 by have := hI.nf.2; omega), ixN_n (show c < 2 ^ 31 by omega), ixN_n (show m < 2 ^ 31 by omega)]
        try rfl
      · rw [if_neg (hx)]
        rw [c_o, qF1 hI ha, V_e, qC1 hB, V_e, qM0 hx, V_x]
        try rfl
    · rw [if_neg (hB)]
      rw [c_o, qF1 hI ha, V_e, qC0 hB, V_x]
      try rfl
  · rw [if_neg (fun h9 => ha ((inN_i (by have := hI.nf.2; omega)).mp h9))]
    rw [c_o, qF0 hI ha, V_x]
    try rfl
def o_bestScreen (v : Nat → Int32) (a x : Int32) : Int32 ⊕ String := if inN a (cnt v 0) then (if 0 ≤ x ∧ x ≤ 1999 then (.inl (sB v (ixN a) (ixN x))) else .inr eA) else .inr eX
theorem k_bestScreen {F : Nat → Nat → Int32} {π : Nat → Nat} {sc rd cd : Nat → Int32} {q : jm_H} {N : Nat} {a x : Int32} (hN : 2001 ≤ N) (hI : Iv (F 0)) : FX3_bestScreen N 0 a x (hC F π sc rd cd q) = rA (o_bestScreen (F 0) a x) (hC F π sc rd cd q) := by
  have z : ¬ (1 : Int32) = 0 := by decide
  unfold FX3_bestScreen o_bestScreen
  by_cases ha : ∃ f, f < cnt (F 0) 0 ∧ a = nI f
  · rw [if_pos ((inN_i (by have := hI.nf.2; omega)).mpr ha)]
    obtain ⟨f, hf, rfl⟩ := id ha
    by_cases hx : 0 ≤ x ∧ x ≤ 1999
    · rw [if_pos (hx)]
      obtain ⟨m, hm9, rfl⟩ := (in_i (b := 1999) (by decide)).mp hx
      rw [c_o, qF1 hI ha, V_e, qM1 hx, V_e, k_r0, c_o1, c_b hN hI hf (by omega), I_e]
      try simp only [ixN_n (show f < 2 ^ 31 by have := hI.nf.2; omega), ixN_n (show m < 2 ^ 31 by omega)]
      try rfl
    · rw [if_neg (hx)]
      rw [c_o, qF1 hI ha, V_e, qM0 hx, V_x]
      try rfl
  · rw [if_neg (fun h9 => ha ((inN_i (by have := hI.nf.2; omega)).mp h9))]
    rw [c_o, qF0 hI ha, V_x]
    try rfl
def o_ifShown (v : Nat → Int32) (a b x : Int32) : Int32 ⊕ String := if inN a (cnt v 0) then (if 0 ≤ b ∧ b ≤ 2 then (if 0 ≤ x ∧ x ≤ 1999 then (.inl (sIf v (ixN a) b x)) else .inr eA) else .inr eX) else .inr eX
theorem k_ifShown {F : Nat → Nat → Int32} {π : Nat → Nat} {sc rd cd : Nat → Int32} {q : jm_H} {N : Nat} {a b x : Int32} (hN : 2001 ≤ N) (hI : Iv (F 0)) : FX3_ifShown N 0 a b x (hC F π sc rd cd q) = rA (o_ifShown (F 0) a b x) (hC F π sc rd cd q) := by
  have z : ¬ (1 : Int32) = 0 := by decide
  unfold FX3_ifShown o_ifShown
  by_cases ha : ∃ f, f < cnt (F 0) 0 ∧ a = nI f
  · rw [if_pos ((inN_i (by have := hI.nf.2; omega)).mpr ha)]
    obtain ⟨f, hf, rfl⟩ := id ha
    by_cases hB : 0 ≤ b ∧ b ≤ 2
    · rw [if_pos (hB)]
      obtain ⟨c, hc9, rfl⟩ := (in_i (b := 2) (by decide)).mp hB
      by_cases hx : 0 ≤ x ∧ x ≤ 1999
      · rw [if_pos (hx)]
        obtain ⟨m, hm9, rfl⟩ := (in_i (b := 1999) (by decide)).mp hx
        rw [c_o, qF1 hI ha, V_e, qC1 hB, V_e, qM1 hx, V_e, k_r0, c_o1, c_if hN hI hf, I_e]
        try simp only [ixN_n (show f < 2 ^ 31 by have := hI.nf.2; omega), ixN_n (show c < 2 ^ 31 by omega), ixN_n (show m < 2 ^ 31 by omega)]
        try rfl
      · rw [if_neg (hx)]
        rw [c_o, qF1 hI ha, V_e, qC1 hB, V_e, qM0 hx, V_x]
        try rfl
    · rw [if_neg (hB)]
      rw [c_o, qF1 hI ha, V_e, qC0 hB, V_x]
      try rfl
  · rw [if_neg (fun h9 => ha ((inN_i (by have := hI.nf.2; omega)).mp h9))]
    rw [c_o, qF0 hI ha, V_x]
    try rfl
theorem way_4 {v : Nat → Int32} {f : Nat} {c a p : Int32} (h : sRf v f c a p = 4) : ∃ o, o < cnt v 1 ∧ sWay v f c a p (sRf v f c a p) = nI o := by
  have h1 : sTr v f c a p (-1) ≠ -1 := by
    unfold sRf at h
    split at h
    · unfold sRb at h
      split at h
      · split at h
        · split at h
          · exact absurd h (by decide)
          · assumption
        · exact absurd h (by decide)
      · exact absurd h (by decide)
    · exact absurd h (by decide)
  rw [h]
  unfold sWay
  rw [if_neg (by decide), if_pos rfl]
  rcases fi_cases (pRl v f c a p (-1)) (cnt v 1) 0 with ⟨h2, -⟩ | ⟨i, -, h3, -, h4, -⟩
  · exact absurd h2 h1
  · exact ⟨i, by omega, h4⟩
def o_whyNot (v : Nat → Int32) (a b x y u : Int32) : Int32 ⊕ String := if inN a (cnt v 0) then (if 0 ≤ b ∧ b ≤ 2 then (if 0 ≤ x ∧ x ≤ 1999 then (if 0 ≤ y ∧ y ≤ 20 then (if 0 ≤ u ∧ u ≤ 2 then (if u = 0 then .inl (sRf v (ixN a) b x y) else if u = 1 then .inl (sWay v (ixN a) b x y (sRf v (ixN a) b x y)) else if sRf v (ixN a) b x y = 4 then .inl (sCl v (ixN a) x y (ixN (sWay v (ixN a) b x y (sRf v (ixN a) b x y)))) else .inl (-1)) else .inr eA) else .inr eA) else .inr eA) else .inr eX) else .inr eX
theorem k_whyNot {F : Nat → Nat → Int32} {π : Nat → Nat} {sc rd cd : Nat → Int32} {q : jm_H} {N : Nat} {a b x y u : Int32} (hN : 2001 ≤ N) (hI : Iv (F 0)) : FX3_whyNot N 0 a b x y u (hC F π sc rd cd q) = rA (o_whyNot (F 0) a b x y u) (hC F π sc rd cd q) := by
  have z : ¬ (1 : Int32) = 0 := by decide
  unfold FX3_whyNot o_whyNot
  by_cases ha : ∃ f, f < cnt (F 0) 0 ∧ a = nI f
  · rw [if_pos ((inN_i (by have := hI.nf.2; omega)).mpr ha)]
    obtain ⟨f, hf, rfl⟩ := id ha
    by_cases hB : 0 ≤ b ∧ b ≤ 2
    · rw [if_pos (hB)]
      obtain ⟨c, hc9, rfl⟩ := (in_i (b := 2) (by decide)).mp hB
      by_cases hx : 0 ≤ x ∧ x ≤ 1999
      · rw [if_pos (hx)]
        obtain ⟨m, hm9, rfl⟩ := (in_i (b := 1999) (by decide)).mp hx
        by_cases hy : 0 ≤ y ∧ y ≤ 20
        · rw [if_pos (hy)]
          obtain ⟨g, hg9, rfl⟩ := (in_i (b := 20) (by decide)).mp hy
          by_cases hu : 0 ≤ u ∧ u ≤ 2
          · rw [if_pos (hu)]
            obtain ⟨w, hw9, rfl⟩ := (in_i (b := 2) (by decide)).mp hu
            have hw3 : w = 0 ∨ w = 1 ∨ w = 2 := by omega
            simp only [ixN_n (show f < 2 ^ 31 by have := hI.nf.2; omega)]
            rcases hw3 with rfl | rfl | rfl
            · rw [c_o, qF1 hI ha, V_e, qC1 hB, V_e, qM1 hx, V_e, e_in3, I_e, bl_t hy, rq1, V_e, qW1 hu, V_e, k_r0, c_o1, c_rf (by omega) hI hf, I_e, if_pos (show nI 0 = 0 from rfl), if_pos (show nI 0 = 0 from rfl)]
              try rfl
            · rw [c_o, qF1 hI ha, V_e, qC1 hB, V_e, qM1 hx, V_e, e_in3, I_e, bl_t hy, rq1, V_e, qW1 hu, V_e, k_r0, c_o1, c_rf (by omega) hI hf, I_e, if_neg (show ¬ nI 1 = 0 by decide), k_r0, c_o1, c_way (by omega) hI hf, I_e, if_pos (show nI 1 = 1 from rfl), if_neg (show ¬ nI 1 = 0 by decide), if_pos (show nI 1 = 1 from rfl)]
              try rfl
            · by_cases h4 : sRf (F 0) f (nI c) (nI m) (nI g) = 4
              · obtain ⟨o, ho, hoe⟩ := way_4 h4
                rw [c_o, qF1 hI ha, V_e, qC1 hB, V_e, qM1 hx, V_e, e_in3, I_e, bl_t hy, rq1, V_e, qW1 hu, V_e, k_r0, c_o1, c_rf (by omega) hI hf, I_e, if_neg (show ¬ nI 2 = 0 by decide), k_r0, c_o1, c_way (by omega) hI hf, I_e, if_neg (show ¬ nI 2 = 1 by decide), if_pos h4, k_r0, hoe, c_o1, c_cl (by omega) hI hf ho, I_e, if_neg (show ¬ nI 2 = 0 by decide), if_neg (show ¬ nI 2 = 1 by decide), if_pos h4, ixN_n (by have := hI.ns.2; omega)]
                try rfl
              · rw [c_o, qF1 hI ha, V_e, qC1 hB, V_e, qM1 hx, V_e, e_in3, I_e, bl_t hy, rq1, V_e, qW1 hu, V_e, k_r0, c_o1, c_rf (by omega) hI hf, I_e, if_neg (show ¬ nI 2 = 0 by decide), k_r0, c_o1, c_way (by omega) hI hf, I_e, if_neg (show ¬ nI 2 = 1 by decide), if_neg h4, if_neg (show ¬ nI 2 = 0 by decide), if_neg (show ¬ nI 2 = 1 by decide), if_neg h4]
                try rfl
          · rw [if_neg (hu)]
            rw [c_o, qF1 hI ha, V_e, qC1 hB, V_e, qM1 hx, V_e, e_in3, I_e, bl_t hy, rq1, V_e, qW0 hu, V_x]
            try rfl
        · rw [if_neg (hy)]
          rw [c_o, qF1 hI ha, V_e, qC1 hB, V_e, qM1 hx, V_e, e_in3, I_e, bl_f hy, rq0, V_x]
          try rfl
      · rw [if_neg (hx)]
        rw [c_o, qF1 hI ha, V_e, qC1 hB, V_e, qM0 hx, V_x]
        try rfl
    · rw [if_neg (hB)]
      rw [c_o, qF1 hI ha, V_e, qC0 hB, V_x]
      try rfl
  · rw [if_neg (fun h9 => ha ((inN_i (by have := hI.nf.2; omega)).mp h9))]
    rw [c_o, qF0 hI ha, V_x]
    try rfl
