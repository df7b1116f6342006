/-! WHAT IS SAVED: the class's row of festivals, the reference's past -/
def pu (π : Nat → Nat) (i m : Nat) : Nat → Nat := fun j => if j = i then m else π j
theorem pu_s {π : Nat → Nat} {i m : Nat} : pu π i m i = m := by simp [pu]
theorem pu_n {π : Nat → Nat} {i j m : Nat} (h : j ≠ i) : pu π i m j = π j := by simp [pu, h]
def rot (π : Nat → Nat) : Nat → Nat := pu (fd (fun k π => pu π (k - 1) (π k)) 1 5 π) 5 (π 0)
theorem rot_e {π : Nat → Nat} : rot π 0 = π 1 ∧ rot π 1 = π 2 ∧ rot π 2 = π 3 ∧ rot π 3 = π 4 ∧ rot π 4 = π 5 ∧ rot π 5 = π 0 := ⟨rfl, rfl, rfl, rfl, rfl, rfl⟩
theorem rot_i {π : Nat → Nat} {i : Nat} (h : i < 5) : rot π i = π (i + 1) := by
  have : i = 0 ∨ i = 1 ∨ i = 2 ∨ i = 3 ∨ i = 4 := by omega
  rcases this with rfl | rfl | rfl | rfl | rfl <;> rfl
section SV
variable {F : Nat → Nat → Int32} {π : Nat → Nat} {sc rd cd : Nat → Int32} {q : jm_H} {i n N : Nat}
theorem k_r0 {f : Nat → Option jm_X} : jf_gR 3 (hC F π sc rd cd q) 0 0 f = f 1 := gR_e (fs := _) rfl rfl
theorem k_r1 {f : Nat → Option jm_X} : jf_gR 3 (hC F π sc rd cd q) 0 1 f = f 14 := gR_e (fs := _) rfl rfl
theorem k_r2 {f : Nat → Option jm_X} : jf_gR 3 (hC F π sc rd cd q) 0 2 f = f 27 := gR_e (fs := _) rfl rfl
theorem k_r3 {f : Nat → Option jm_X} : jf_gR 3 (hC F π sc rd cd q) 0 3 f = f 106 := gR_e (fs := _) rfl rfl
theorem k_r4 {f : Nat → Option jm_X} : jf_gR 3 (hC F π sc rd cd q) 0 4 f = f 107 := gR_e (fs := _) rfl rfl
theorem k_i0 {f : Int32 → Option jm_X} : jf_gI 3 (hC F π sc rd cd q) 0 5 f = f (sc 0) := gI_e (fs := _) rfl rfl
theorem k_i1 {f : Int32 → Option jm_X} : jf_gI 3 (hC F π sc rd cd q) 0 6 f = f (sc 1) := gI_e (fs := _) rfl rfl
theorem k_i2 {f : Int32 → Option jm_X} : jf_gI 3 (hC F π sc rd cd q) 0 7 f = f (sc 2) := gI_e (fs := _) rfl rfl
theorem k_p0 {x : Int32} {f : jm_H → Option jm_X} : jf_p 3 (hC F π sc rd cd q) 0 5 (.int x) f = f (hC F π (upd sc 0 x) rd cd q) := (p_e (fs := _) rfl (show 5 < 8 by decide)).trans rfl
theorem k_p1 {x : Int32} {f : jm_H → Option jm_X} : jf_p 3 (hC F π sc rd cd q) 0 6 (.int x) f = f (hC F π (upd sc 1 x) rd cd q) := (p_e (fs := _) rfl (show 6 < 8 by decide)).trans rfl
theorem k_p2 {x : Int32} {f : jm_H → Option jm_X} : jf_p 3 (hC F π sc rd cd q) 0 7 (.int x) f = f (hC F π (upd sc 2 x) rd cd q) := (p_e (fs := _) rfl (show 7 < 8 by decide)).trans rfl
theorem k_len {f : Int32 → Option jm_X} : jf_len (hC F π sc rd cd q) 27 f = f 6 := len_e (t := 3) (x := (6, .inr (.inr (.inr (.inr (svd π)))))) rfl (by decide)
theorem k_ldA {g : Nat → Option jm_X} (hi : i < 6) : jf_ldA (hC F π sc rd cd q) 27 (nI i) g = g (28 + 13 * π i) := by
  have h1 : ¬ (nI i < 0 ∨ 6 ≤ i) := fun h => h.elim (nI_pos (by omega)) (by omega)
  have hh : (hC F π sc rd cd q)[27]? = some (aQ (svd π)) := rfl
  unfold jf_ldA
  rw [hh]
  simp only [nI_clamp (show i < 2 ^ 31 by omega), if_neg h1]
  unfold svd
  rw [if_pos hi]
theorem k_stA {g : jm_H → Option jm_X} {m : Nat} (hi : i < 6) (hm : m < 6) : jf_stA (hC F π sc rd cd q) 27 (nI i) (28 + 13 * m) g = g (hC F (pu π i m) sc rd cd q) := by
  have h1 : ¬ (nI i < 0 ∨ 6 ≤ i) := fun h => h.elim (nI_pos (by omega)) (by omega)
  have hh : (hC F π sc rd cd q)[27]? = some (aQ (svd π)) := rfl
  have h2 : (hC F π sc rd cd q)[28 + 13 * m]? = some (.inr (0, [.ref (28 + 13 * m + 1), .ref (28 + 13 * m + 3), .ref (28 + 13 * m + 5), .ref (28 + 13 * m + 7), .ref (28 + 13 * m + 9), .ref (28 + 13 * m + 11), .int (F (m + 2) 128), .int (F (m + 2) 129), .int (F (m + 2) 130), .int (F (m + 2) 131)])) := h_get (i := m + 2) (m := 0) (by omega) (by decide) rfl
  unfold jf_stA
  rw [hh, h2]
  simp only [nI_clamp (show i < 2 ^ 31 by omega), if_neg h1]
  have e : va_up (svd π) i (some (28 + 13 * m)) = svd (pu π i m) := by
    funext j
    unfold svd va_up
    by_cases hj : j = i
    · subst hj; rw [if_pos rfl, if_pos hi, pu_s]
    · rw [if_neg hj, pu_n hj]
  rw [e]
  rfl
theorem k_drop (hN : 7 ≤ N) (hπ : ∀ i, i < 6 → π i < 6) : FX3_dropOldest N 0 (hC F π sc rd cd q) = rV (hC F (rot π) (upd sc 1 5) rd cd q) := by
  unfold FX3_dropOldest
  rw [k_r2, k_len, if_neg (by decide), k_r2, show jf_ldA (hC F π sc rd cd q) 27 0 = jf_ldA (hC F π sc rd cd q) 27 (nI 0) from rfl, k_ldA (by decide)]
  have L := lp_fold (fun n x (ρ : Nat → Nat) => FX3_dropOldest_18 N n 0 (28 + 13 * π 0) x (hC F ρ sc rd cd q)) 6 (fun k ρ => pu ρ (k - 1) (ρ k)) (fun ρ => rV (hC F (pu ρ 5 (π 0)) (upd sc 1 5) rd cd q)) (fun k ρ => 1 ≤ k ∧ ∀ i, i < 6 → ρ i < 6)
    (fun m ρ h => by
      show FX3_dropOldest_18 N (m + 1) 0 (28 + 13 * π 0) (nI 6) (hC F ρ sc rd cd q) = _
      rw [FX3_dropOldest_18, k_r2, k_len, if_pos (by decide), k_r2, k_r2, k_len, show (6 : Int32) - 1 = nI 5 by decide, k_stA (by decide) (hπ 0 (by decide)), k_r2, k_len, show (6 : Int32) - 1 = 5 by decide, k_p1])
    (fun m x ρ hx h => ⟨by
      show FX3_dropOldest_18 N (m + 1) 0 (28 + 13 * π 0) (nI x) (hC F ρ sc rd cd q) = _
      have h1 := h.1
      rw [FX3_dropOldest_18, k_r2, k_len, if_neg (show ¬ 6 ≤ nI x from nI_ge (b := 6) hx (by decide)), k_r2, k_r2, k_ldA hx, show (1 : Int32) = nI 1 from rfl, pk_sub h1, k_stA (by omega) (h.2 x hx), show (nI 1 : Int32) = 1 from rfl, nI_1], by
      refine ⟨by omega, fun i hi => ?_⟩
      by_cases hix : i = x - 1
      · subst hix; rw [pu_s]; exact h.2 x hx
      · rw [pu_n hix]; exact h.2 i hi⟩)
    5 N 1 π (by omega) (by omega) ⟨by omega, hπ⟩
  exact L
def πs (π : Nat → Nat) (n : Nat) : Nat → Nat := if n = 6 then rot π else π
def πn (n : Nat) : Nat := if n = 6 then 5 else n
theorem cpy_e {a b : Nat} (hi : a < 8) (hj : b < 8) (hij : b ≠ a) : FX3_copyState (bs a) (bs b) (hC F π sc rd cd q) = rV (hC (fu F b (F a)) π sc rd cd q) := by
  unfold FX3_copyState
  rw [o_f hj, take_e hj hi hij, V_e]
theorem c_save (hN : 7 ≤ N) (hn : sc 1 = nI n) (h6 : n ≤ 6) (hπ : ∀ i, i < 6 → π i < 6) : FX3_save N 0 (hC F π sc rd cd q) = rV (hC (fu F (πs π n (πn n) + 2) (F 0)) (πs π n) (upd sc 1 (nI (svN n))) rd cd q) := by
  unfold FX3_save πs πn svN
  rw [k_i1, k_r2, k_len, hn]
  by_cases h : n = 6
  · subst h
    rw [if_neg (by decide), c_o, k_drop hN hπ, V_e, k_i1, pk_us, if_neg (by decide), k_i1, k_r2, k_len, pk_us, if_neg (by decide), k_r0, k_r2, k_i1, pk_us, show jf_ldA (hC F (rot π) (upd sc 1 5) rd cd q) 27 5 = jf_ldA (hC F (rot π) (upd sc 1 5) rd cd q) 27 (nI 5) from rfl, k_ldA (by decide)]
    rw [if_pos rfl, if_pos rfl, if_pos rfl]
    have h5 : rot π 5 < 6 := hπ 0 (by decide)
    rw [show FX3_copyState 1 (28 + 13 * rot π 5) = FX3_copyState (bs 0) (bs (rot π 5 + 2)) from rfl, cpy_e (by decide) (by omega) (by omega), V_e, k_i1, k_p1, pk_us]
    have e : upd (upd sc 1 5) 1 (5 + 1) = upd sc 1 (nI 6) := by
      funext x
      by_cases hx : x = 1
      · subst hx; rw [pk_us, pk_us]; decide
      · rw [pk_un hx, pk_un hx, pk_un hx]
    rw [e]
  · have h5 : π n < 6 := hπ n (by omega)
    rw [if_pos (show nI n < 6 from nI_lt (b := 6) (by omega) (by decide)), k_i1, hn, if_neg (nI_pos (by omega)), k_i1, k_r2, k_len, hn, if_neg (show ¬ 6 ≤ nI n from nI_ge (b := 6) (by omega) (by decide)), k_r0, k_r2, k_i1, hn, k_ldA (by omega)]
    rw [if_neg h, if_neg h, if_neg h]
    rw [show FX3_copyState 1 (28 + 13 * π n) = FX3_copyState (bs 0) (bs (π n + 2)) from rfl, cpy_e (by decide) (by omega) (by omega), V_e, k_i1, k_p1, hn, nI_1]
def Sv (F : Nat → Nat → Int32) (π : Nat → Nat) (p : Nat → Int32) (n : Nat) : Prop :=
  n ≤ 6 ∧ (∀ i, i < 6 → π i < 6) ∧ (∀ i j, i < 6 → j < 6 → π i = π j → i = j) ∧ ∀ i, i < n → Iv (F (π i + 2)) ∧ ∀ x, x < 132 → F (π i + 2) x = p (132 * i + x)
theorem rot_lt (hπ : ∀ i, i < 6 → π i < 6) {i : Nat} (hi : i < 6) : rot π i < 6 := by
  by_cases h : i < 5
  · rw [rot_i h]; exact hπ _ (by omega)
  · have : i = 5 := by omega
    subst this
    exact hπ 0 (by decide)
theorem rot_inj (hj : ∀ i j, i < 6 → j < 6 → π i = π j → i = j) {i j : Nat} (hi : i < 6) (hj' : j < 6) (h : rot π i = rot π j) : i = j := by
  by_cases h1 : i < 5
  · rw [rot_i h1] at h
    by_cases h2 : j < 5
    · rw [rot_i h2] at h
      have := hj _ _ (by omega) (by omega) h
      omega
    · have : j = 5 := by omega
      subst this
      have := hj _ _ (by omega) (by decide) (h.trans rot_e.2.2.2.2.2)
      omega
  · have : i = 5 := by omega
    subst this
    by_cases h2 : j < 5
    · rw [rot_i h2] at h
      have := hj _ _ (by decide) (by omega) (rot_e.2.2.2.2.2.symm.trans h)
      omega
    · omega
theorem Sv_save {p : Nat → Int32} (h : Sv F π p n) (hI : Iv (F 0)) : Sv (fu F (πs π n (πn n) + 2) (F 0)) (πs π n) (sv p n (F 0)) (svN n) := by
  obtain ⟨h6, hπ, hj, hr⟩ := h
  unfold πs πn sv svN
  by_cases h : n = 6
  · subst h
    simp only [if_pos]
    refine ⟨by omega, fun i hi => rot_lt hπ hi, fun i j hi hj' he => rot_inj hj hi hj' he, fun i hi => ?_⟩
    by_cases h5 : i = 5
    · subst h5
      rw [fu_s]
      exact ⟨hI, fun x hx => by rw [show 132 * 5 + x = 660 + x by omega, lay_in hx]⟩
    · have hne : rot π i + 2 ≠ rot π 5 + 2 := fun he => h5 (rot_inj hj hi (by decide) (by omega))
      rw [fu_n hne, rot_i (by omega)]
      refine ⟨(hr (i + 1) (by omega)).1, fun x hx => ?_⟩
      rw [lay_out (by omega), mvc_e (by decide), if_pos (by omega), (hr (i + 1) (by omega)).2 x hx]
      congr 1
      omega
  · simp only [if_neg h]
    refine ⟨by omega, hπ, hj, fun i hi => ?_⟩
    by_cases h5 : i = n
    · subst h5
      rw [fu_s]
      exact ⟨hI, fun x hx => by rw [lay_in hx]⟩
    · have hne : π i + 2 ≠ π n + 2 := fun he => h5 (hj i n (by omega) (by omega) (by omega))
      rw [fu_n hne]
      refine ⟨(hr i (by omega)).1, fun x hx => ?_⟩
      rw [lay_out (by omega), (hr i (by omega)).2 x hx]
theorem Sv_now {p w : Nat → Int32} {a : Nat} (h : Sv F π p n) (ha : a < 2) : Sv (fu F a w) π p n := by
  obtain ⟨h6, hπ, hj, hr⟩ := h
  refine ⟨h6, hπ, hj, fun i hi => ?_⟩
  rw [fu_n (by omega)]
  exact hr i hi
theorem Sv_less {p : Nat → Int32} {m : Nat} (h : Sv F π p n) (ha : m ≤ n) : Sv F π p m := ⟨by have := h.1; omega, h.2.1, h.2.2.1, fun i hi => h.2.2.2 i (by omega)⟩
theorem c_undo (hn : sc 1 = nI n) (h6 : n ≤ 6) (h0 : 0 < n) (hπ : ∀ i, i < 6 → π i < 6) : FX3_undo 0 (hC F π sc rd cd q) = rI (nI (n - 1)) (hC (fu F 0 (F (π (n - 1) + 2))) π (upd sc 1 (nI (n - 1))) rd cd q) := by
  have h5 : π (n - 1) < 6 := hπ _ (by omega)
  unfold FX3_undo
  rw [k_i1, hn, if_pos (show (0 : Int32) < nI n from nI_lt (a := 0) h0 (by omega)), k_i1, hn, show (1 : Int32) = nI 1 from rfl, pk_sub h0, k_p1, k_i1, pk_us, k_r2, k_len, if_neg (show ¬ 6 ≤ nI (n - 1) from nI_ge (b := 6) (by omega) (by decide)), k_r2, k_i1, pk_us, k_ldA (by omega), k_r0]
  rw [show FX3_copyState (28 + 13 * π (n - 1)) 1 = FX3_copyState (bs (π (n - 1) + 2)) (bs 0) from rfl, cpy_e (by omega) (by decide) (by omega), V_e, k_i1, pk_us]
theorem c_undo0 (hn : sc 1 = nI 0) : FX3_undo 0 (hC F π sc rd cd q) = rX "java/lang/IllegalStateException" (hC F π sc rd cd q) := by
  unfold FX3_undo
  rw [k_i1, hn, if_neg (by decide)]
theorem c_keep : FX3_keep 0 (hC F π sc rd cd q) = rI (F 0 1) (hC (fu F 1 (F 0)) π (upd sc 0 1) rd cd q) := by
  unfold FX3_keep
  rw [k_r0, k_r1, show FX3_copyState 1 14 = FX3_copyState (bs 0) (bs 1) from rfl, cpy_e (by decide) (by decide) (by decide), V_e, k_p0, k_r0, c_r3, c_n1, fu_n (by decide)]
theorem c_restore (hN : 7 ≤ N) (hk : sc 0 ≠ 0) (hn : sc 1 = nI n) (h6 : n ≤ 6) (hπ : ∀ i, i < 6 → π i < 6) : FX3_restore N 0 (hC F π sc rd cd q) = rI (F 1 1) (hC (fu (fu F (πs π n (πn n) + 2) (F 0)) 0 (F 1)) (πs π n) (upd sc 1 (nI (svN n))) rd cd q) := by
  unfold FX3_restore
  rw [k_i0, if_neg hk, c_o, c_save hN hn h6 hπ, V_e, k_r1, k_r0, show FX3_copyState 14 1 = FX3_copyState (bs 1) (bs 0) from rfl, cpy_e (by decide) (by decide) (by decide), V_e, k_r0, c_r3, c_n1, fu_s, fu_n (by omega)]
theorem c_restore0 (hk : sc 0 = 0) : FX3_restore N 0 (hC F π sc rd cd q) = rX "java/lang/IllegalStateException" (hC F π sc rd cd q) := by
  unfold FX3_restore
  rw [k_i0, if_pos hk]
end SV
section RV
variable {P : jm_H} {v p k t l rs : Nat → Int32} {hs : Int64} {q : jm_H} {N n : Nat}
end RV

