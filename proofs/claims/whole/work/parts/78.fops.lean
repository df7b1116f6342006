/-! FACE: pieces of the reference's changing calls -/
theorem w3_4 {rs : Nat → Int32} {a b c : Int32} : w3 rs a b c 4 = a := rfl
theorem w3_5 {rs : Nat → Int32} {a b c : Int32} : w3 rs a b c 5 = b := rfl
theorem w3_6 {rs : Nat → Int32} {a b c : Int32} : w3 rs a b c 6 = c := rfl
section FO
variable {P : jm_H} {v p k t l rs : Nat → Int32} {hs : Int64} {q : jm_H} {N : Nat}
theorem uShow_1 {f c a pp : Int32} : uShow v f c a pp 1 = nI (cnt v 1 + 1) := by
  unfold uShow nUp
  rw [pk_un (by omega), pk_un (by omega), pk_un (by omega), pk_un (by omega), pk_un (by omega), pk_us]
theorem r_showT (hP : P.length = 108) (hI : Iv v) (h8 : cnt v 1 < 12) {f c a pp : Int32} : (jf_V (jf_o 4 108 (hR P v p k t l rs hs q) (FX4_makes 108 f c a pp (hR P v p k t l rs hs q))) fun h117 => jf_gR 4 h117 108 0 fun r118 => jf_ldI h117 r118 1 fun x119 => rI (x119 - 1) h117) = rI (nI (cnt v 1)) (hR P (uShow v f c a pp) p k t l rs hs q) := by
  rw [r_o hP, r_makes hP hI h8, V_e, r_now hP, r_n1 hP, uShow_1, nI_pred]
theorem r_dropT (hP : P.length = 108) (hI : Iv v) (hN : 100 ≤ N) {s : Nat} (hs' : s < cnt v 1) {x : Int32} : (jf_gR 4 (hR P v p k t l rs hs q) 108 0 fun r109 => jf_ldI (hR P v p k t l rs hs q) r109 1 fun x110 => jf_stI (hR P v p k t l rs hs q) r109 1 (x110 - 1) fun h111 => FX4_callOff_50 N N 108 x (26 + (5 * nI s)) h111) = rI x (hR P (uDrop v s) p k t l rs hs q) := by
  have hn := hI.ns
  rw [r_now hP, r_n1 hP, hn.1, show (1 : Int32) = nI 1 from rfl, pk_sub (by omega), r_st hP (by decide), show (26 : Int32) + 5 * nI s = nI (26 + 5 * s) by rw [← nI_add, ← pk_mul]; rfl, r_dropl hP hN (n := cnt v 1 - 1) (by omega) pk_us (by omega), fd_comm1 (by omega), pk_un (by decide)]
  rfl
theorem r_guestT (hP : P.length = 108) (hI : Iv v) (h8 : cnt v 2 < 6) {f a b : Int32} :
    (jf_gR 4 (hR P v p k t l rs hs q) 108 0 fun r113 => jf_ldI (hR P v p k t l rs hs q) r113 2 fun x114 => jf_gR 4 (hR P v p k t l rs hs q) 108 0 fun r115 => jf_stI (hR P v p k t l rs hs q) r115 (86 + (3 * x114)) f fun h116 => jf_gR 4 h116 108 0 fun r117 => jf_stI h116 r117 ((86 + (3 * x114)) + 1) a fun h118 => jf_gR 4 h118 108 0 fun r119 => jf_stI h118 r119 ((86 + (3 * x114)) + 2) b fun h120 => jf_gR 4 h120 108 0 fun r121 => jf_ldI h120 r121 2 fun x122 => jf_stI h120 r121 2 (x122 + 1) fun h123 => jf_gR 4 h123 108 0 fun r124 => jf_ldI h123 r124 2 fun x125 => rI (x125 - 1) h123) = rI (nI (cnt v 2)) (hR P (uGuest v f a b) p k t l rs hs q) := by
  have e : (86 : Int32) + 3 * nI (cnt v 2) = nI (86 + 3 * cnt v 2 + 0) := by rw [show (3 : Int32) = nI 3 from rfl, pk_mul, show (86 : Int32) = nI 86 from rfl, nI_add]; rfl
  have e2 : nI (86 + 3 * cnt v 2 + 0) + 2 = nI (86 + 3 * cnt v 2 + 2) := nI_add _ 2
  rw [r_now hP, r_n2 hP, r_now hP, hI.ng.1, e, r_st hP (by omega), r_now hP, nI_1, r_st hP (by omega), r_now hP, e2, r_st hP (by omega), r_now hP, r_n2 hP, pk_un (by omega), pk_un (by omega), pk_un (by omega), hI.ng.1, nI_1]
  rw [show ∀ (h : jm_H) (x : Int32) (g : jm_H → Option jm_X), jf_stI h 109 2 x g = jf_stI h 109 (nI 2) x g from fun _ _ _ => rfl, r_st hP (by decide), r_now hP, r_n2 hP, pk_us, nI_pred]
  unfold uGuest nUp
  rw [upd_comm (b := 2) (by omega), upd_comm (b := 2) (by omega), upd_comm (b := 2) (by omega)]
theorem r_attT (hP : P.length = 108) (hI : Iv v) (hN : 13 ≤ N) {s j : Nat} (hs' : s < cnt v 1) (hj : j < 3) (h : ¬ hb (sS v s 4) (nI j)) :
    (jf_I (jf_o 4 108 (hR P v p k t l rs hs q) (FX4_of 108 (nI s) 4 (hR P v p k t l rs hs q))) fun x116 h115 => jf_V (jf_o 4 108 h115 (FX4_becomes 108 (nI s) 4 (x116 + ((1 : Int32) <<< (nI j &&& 31))) h115)) fun h117 => jf_I (jf_o 4 108 h117 (FX4_going N 108 (nI j) h117)) fun x119 h118 => rI x119 h118) = rI (sVis (upd v (26 + 5 * s + 4) (nI (gro v s + 2 ^ j))) (nI j)) (hR P (upd v (26 + 5 * s + 4) (nI (gro v s + 2 ^ j))) p k t l rs hs q) := by
  have h' := h
  have hn := hI.ns.2
  rw [hI.go hs'] at h'
  have hg := g_on _ (hI.go_lt hs') j hj h'
  rw [r_o hP, r_of4 hP (by omega), I_e, hI.go hs', hg.2.1, r_o hP, show FX4_becomes 108 (nI s) 4 (nI (gro v s + 2 ^ j)) = FX4_becomes 108 (nI s) (nI 4) (nI (gro v s + 2 ^ j)) from rfl, r_bec hP (by omega) (by decide), V_e, r_o hP, r_going hP hN (Iv_goer hI hs' hg.2.2), I_e]
theorem r_voteT (hP : P.length = 108) {j f : Nat} (hj : j < 3) (hf : f < 8) {x : Int32} :
    (jf_gR 4 (hR P v p k t l rs hs q) 108 0 fun r113 => jf_ldI (hR P v p k t l rs hs q) r113 ((104 + (8 * nI j)) + nI f) fun x114 => jf_gR 4 (hR P v p k t l rs hs q) 108 0 fun r115 => jf_stI (hR P v p k t l rs hs q) r115 ((104 + (8 * nI j)) + nI f) x fun h116 => rI x114 h116) = rI (sP v j f) (hR P (upd v (104 + 8 * j + f) x) p k t l rs hs q) := by
  have e : (104 : Int32) + 8 * nI j + nI f = nI (104 + 8 * j + f) := by rw [← nI_add, ← nI_add, ← pk_mul]; rfl
  rw [r_now hP, e, r_ld hP (by omega), r_now hP, r_st hP (by omega)]
theorem r_moveT (hP : P.length = 108) (hN : 13 ≤ N) {s m : Nat} (hs' : s < cnt v 1) (h12 : s < 12) (hI2 : Iv (upd v (26 + 5 * s + 2) (nI m))) :
    (jf_V (jf_o 4 108 (hR P v p k t l rs hs q) (FX4_becomes 108 (nI s) 2 (nI m) (hR P v p k t l rs hs q))) fun h115 => FX4_move_85 N N 108 (nI s) 0 0 h115) = rI (uShift v s (nI m)).1 (hR P (uShift v s (nI m)).2 p k t l rs hs q) := by
  rw [r_o hP, show FX4_becomes 108 (nI s) 2 (nI m) = FX4_becomes 108 (nI s) (nI 2) (nI m) from rfl, r_bec hP h12 (by decide), V_e, r_shift hP hN hs' hI2]
end FO
