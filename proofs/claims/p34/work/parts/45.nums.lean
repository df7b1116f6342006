/-! the row's numbers as numbers of Nat -/
def nM (v : Nat → Int32) (f : Nat) : Nat := (sF v f 1).toNatClampNeg
def nA (v : Nat → Int32) (s : Nat) : Nat := (sS v s 2).toNatClampNeg
def nB (v : Nat → Int32) (s : Nat) : Nat := (sS v s 3).toNatClampNeg
def nT (v : Nat → Int32) (i : Nat) : Nat := (v (3 + i)).toNatClampNeg
def nE (v : Nat → Int32) (s : Nat) : Nat := nA v s + nR v (fmo v s) * nM v (fmo v s) + nB v s
theorem isN.nat {x : Int32} {a b : Nat} (h : isN x a b) (hb : b < 2 ^ 31) : x = nI x.toNatClampNeg ∧ a ≤ x.toNatClampNeg ∧ x.toNatClampNeg ≤ b := by
  obtain ⟨t, rfl, h1, h2⟩ := h
  rw [nI_clamp (by omega)]
  exact ⟨rfl, h1, h2⟩
theorem i_nI {n : Nat} (h : n < 4000) : (nI n).toInt = (n : Int) := nI_toInt (by omega)
section NU
variable {v : Nat → Int32}
theorem Iv.mi (hI : Iv v) {f : Nat} (hf : f < cnt v 0) : sF v f 1 = nI (nM v f) ∧ 10 ≤ nM v f ∧ nM v f ≤ 25 := (hI.2.1 f hf).2.nat (by decide)
theorem Iv.re (hI : Iv v) {f : Nat} (hf : f < cnt v 0) : sF v f 0 = nI (nR v f) ∧ 1 ≤ nR v f ∧ nR v f ≤ 6 := (hI.2.1 f hf).1.nat (by decide)
theorem Iv.st (hI : Iv v) {s : Nat} (hs : s < cnt v 1) : sS v s 2 = nI (nA v s) ∧ 0 ≤ nA v s ∧ nA v s ≤ 1999 := (hI.show hs).2.2.1.nat (by decide)
theorem Iv.pa (hI : Iv v) {s : Nat} (hs : s < cnt v 1) : sS v s 3 = nI (nB v s) ∧ 0 ≤ nB v s ∧ nB v s ≤ 20 := (hI.show hs).2.2.2.1.nat (by decide)
theorem Iv.tm (hI : Iv v) {i : Nat} (hi : i < 4) : v (3 + i) = nI (nT v i) ∧ 0 ≤ nT v i ∧ nT v i ≤ 60 := (hI.2.2.1 i hi).nat (by decide)
theorem mul_le {a b : Nat} (ha : a ≤ 6) (hb : b ≤ 25) : a * b ≤ 150 := Nat.mul_le_mul ha hb
theorem Iv.len (hI : Iv v) {f : Nat} (hf : f < cnt v 0) : sLen v f = nI (nR v f * nM v f) ∧ nR v f * nM v f ≤ 150 := by
  obtain ⟨h1, -, h2⟩ := hI.re hf
  obtain ⟨h3, -, h4⟩ := hI.mi hf
  refine ⟨?_, mul_le h2 h4⟩
  unfold sLen
  rw [h1, h3, pk_mul]
theorem Iv.zlen (hI : Iv v) {f : Nat} (hf : f < cnt v 0) : zLen v f = ((nR v f * nM v f : Nat) : Int) := by
  obtain ⟨h1, -, h2⟩ := hI.re hf
  obtain ⟨h3, -, h4⟩ := hI.mi hf
  unfold zLen
  rw [h1, h3, i_nI (by omega), i_nI (by omega)]
  exact (Int.natCast_mul _ _).symm
theorem Iv.zend (hI : Iv v) {s : Nat} (hs : s < cnt v 1) : zEnd v s = (nE v s : Int) := by
  unfold zEnd nE
  have h1 := hI.st hs
  have h2 := hI.pa hs
  rw [hI.zlen (hI.fo_lt hs), h1.1, h2.1, i_nI (by omega), i_nI (by omega)]
  omega
theorem Iv.en (hI : Iv v) {s : Nat} (hs : s < cnt v 1) : sEnd v s = nI (nE v s) ∧ nE v s ≤ 2000 := by
  have hz := (hI.show hs).2.2.2.2.2
  rw [hI.zend hs] at hz
  refine ⟨?_, by omega⟩
  unfold sEnd nE
  rw [(hI.st hs).1, (hI.pa hs).1, (hI.len (hI.fo_lt hs)).1, nI_add, nI_add]
theorem near_e {a b c d g : Nat} (h1 : d + g < 2 ^ 31) (h2 : b + g < 2 ^ 31) (ha : a < 2 ^ 31) (hc : c < 2 ^ 31) : near (nI a) (nI b) (nI c) (nI d) (nI g) ↔ a < d + g ∧ c < b + g := by
  unfold near
  rw [nI_add, nI_add, nI_ltI ha h1, nI_ltI hc h2]
def nBeg (v : Nat → Int32) (f a p k : Nat) : Nat := a + k * nM v f + (if (nR v f + 1) / 2 ≤ k then p else 0)
theorem sBeg_e (hI : Iv v) {f a p k : Nat} (hf : f < cnt v 0) (hk : k ≤ 6) : sBegS v f (nI a) (nI p) k = nI (nBeg v f a p k) := by
  obtain ⟨h1, -, h2⟩ := hI.re hf
  obtain ⟨h3, -, h4⟩ := hI.mi hf
  unfold sBegS sBeg nBeg
  rw [h1, h3, nI_1, show (2 : Int32) = nI 2 from rfl, pk_div (by omega) (by decide) (by decide), pk_mul, nI_add]
  by_cases hc : (nR v f + 1) / 2 ≤ k
  · rw [if_pos ((nI_leI (by omega) (by omega)).mpr hc), if_pos hc, nI_add]
  · rw [if_neg (fun hh => hc ((nI_leI (by omega) (by omega)).mp hh)), if_neg hc, Nat.add_zero]
theorem nBeg_le (hI : Iv v) {f a p k : Nat} (hf : f < cnt v 0) (hk : k ≤ 6) : a + k * nM v f ≤ nBeg v f a p k ∧ nBeg v f a p k ≤ a + k * nM v f + p ∧ k * nM v f ≤ 150 := by
  have h4 := (hI.mi hf).2.2
  have := mul_le hk h4
  unfold nBeg
  by_cases hc : (nR v f + 1) / 2 ≤ k
  · rw [if_pos hc]; omega
  · rw [if_neg hc]; omega
theorem pCl_e (hI : Iv v) {f a p o k : Nat} (hf : f < cnt v 0) (ho : o < cnt v 1) (ha : a < 4000) (hp : p < 4000) (hk : k ≤ 6) : pCl v f (nI a) (nI p) o k ↔
    nBeg v f a p k < nBeg v f (nA v o) (nB v o) k + nM v f + nT v 0 ∧ nBeg v f (nA v o) (nB v o) k < nBeg v f a p k + nM v f + nT v 0 := by
  have h1 := nBeg_le hI (a := a) (p := p) hf hk
  have h2 := nBeg_le hI (a := nA v o) (p := nB v o) hf hk
  have h3 := hI.st ho
  have h4 := hI.pa ho
  have h5 := hI.mi hf
  have h6 := hI.tm (show 0 < 4 by decide)
  unfold pCl
  rw [h3.1, h4.1, sBeg_e hI hf hk, sBeg_e hI hf hk, h5.1, nI_add, nI_add, show v 3 = nI (nT v 0) from h6.1, near_e (by omega) (by omega) (by omega) (by omega)]
theorem pScr_e (hI : Iv v) {a b c o : Nat} {w : Int32} (ho : o < cnt v 1) (hc : c < 3) (ha : a < 4000) (hb : b < 8000) : pScr v (nI c) (nI a) (nI b) w o ↔ nI o ≠ w ∧ sco v o = c ∧ a < nE v o + nT v 1 ∧ nA v o < b + nT v 1 := by
  have h3 := hI.st ho
  have h4 := hI.en ho
  have h6 := hI.tm (show 1 < 4 by decide)
  have h7 := hI.so_lt ho
  unfold pScr
  rw [hI.so ho, h3.1, h4.1, show v 4 = nI (nT v 1) from h6.1, near_e (by omega) (by omega) (by omega) (by omega), nI_eq (by omega) (by omega)]
end NU

