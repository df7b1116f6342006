/-! THE STATE: a festival's row of 132 numbers, the class's heap, the reference's heap -/
def sl (v : Nat → Int32) (o n : Nat) : Nat → Int32 := fun j => if j < n then v (o + j) else 0
theorem sl_in {v : Nat → Int32} {o n j : Nat} (h : j < n) : sl v o n j = v (o + j) := by simp [sl, h]
theorem sl_ne {v : Nat → Int32} {o n k : Nat} {x : Int32} (h : k < o ∨ o + n ≤ k) : sl (upd v k x) o n = sl v o n := by
  funext j
  unfold sl
  by_cases hj : j < n
  · rw [if_pos hj, if_pos hj, pk_un (by omega)]
  · rw [if_neg hj, if_neg hj]
theorem sl_up {v : Nat → Int32} {o n k : Nat} {x : Int32} (h : k < n) : upd (sl v o n) k x = sl (upd v (o + k) x) o n := by
  funext j
  by_cases hj : j = k
  · subst hj
    rw [pk_us, sl_in h, pk_us]
  · rw [pk_un hj]
    unfold sl
    by_cases hn : j < n
    · rw [if_pos hn, if_pos hn, pk_un (by omega)]
    · rw [if_neg hn, if_neg hn]
theorem sl_0 (o n : Nat) : sl (fun _ => 0) o n = fun _ => 0 := by
  funext j; unfold sl; split <;> rfl
abbrev aI (n : Nat) (f : Nat → Int32) : jm_C := .inl (0, (n, .inl f))
def fest (b : Nat) (v : Nat → Int32) : jm_H := [
  .inr (0, [.ref (b + 1), .ref (b + 3), .ref (b + 5), .ref (b + 7), .ref (b + 9), .ref (b + 11), .int (v 128), .int (v 129), .int (v 130), .int (v 131)]),
  .inr (2, [.int 2, .ref (b + 2), .int (v 0)]), aI 16 (sl v 10 16),
  .inr (2, [.int 1, .ref (b + 4), .int 3]), aI 3 (sl v 7 3),
  .inr (2, [.int 1, .ref (b + 6), .int 4]), aI 4 (sl v 3 4),
  .inr (2, [.int 5, .ref (b + 8), .int (v 1)]), aI 60 (sl v 26 60),
  .inr (2, [.int 3, .ref (b + 10), .int (v 2)]), aI 18 (sl v 86 18),
  .inr (2, [.int 8, .ref (b + 12), .int 3]), aI 24 (sl v 104 24)]
def svd (π : Nat → Nat) : Nat → Option Nat := fun j => if j < 6 then some (28 + 13 * π j) else none
abbrev aQ (f : Nat → Option Nat) : jm_C := .inl (3, (6, .inr (.inr (.inr (.inr f)))))
/-- the class's objects: 0 the festivals' own object, 1 now, 14 kept, 27 the saved ones' row, 28, 41 .. 93 the saved ones, 106 the reader, 107 the codes -/
def clsH (F : Nat → Nat → Int32) (π : Nat → Nat) (sc rd cd : Nat → Int32) : jm_H :=
  .inr (3, [.ref 1, .ref 14, .ref 27, .ref 106, .ref 107, .int (sc 0), .int (sc 1), .int (sc 2)]) ::
  (fest 1 (F 0) ++ (fest 14 (F 1) ++ (aQ (svd π) :: (fest 28 (F 2) ++ (fest 41 (F 3) ++ (fest 54 (F 4) ++ (fest 67 (F 5) ++ (fest 80 (F 6) ++ (fest 93 (F 7) ++
  [.inr (1, [.int (rd 0), .int (rd 1), .int (rd 2), .int (rd 3), .int (rd 4)]), aI 60 (sl cd 0 60)])))))))))
abbrev hC (F : Nat → Nat → Int32) (π : Nat → Nat) (sc rd cd : Nat → Int32) (q : jm_H) : jm_H := clsH F π sc rd cd ++ q
/-- the reference's objects, from 108 on: itself, now, past, kept, text, told; rs: states, isKept, length, thrown, why, stands, byReel, spot, toldMany -/
def refH (v p k t l : Nat → Int32) (rs : Nat → Int32) (hs : Int64) : jm_H := [
  .inr (4, [.ref 109, .ref 110, .int (rs 0), .ref 111, .int (rs 1), .ref 112, .int (rs 2), .int (rs 3), .int (rs 4), .int (rs 5), .int (rs 6), .int (rs 7), .ref 113, .int (rs 8), .long hs]),
  aI 132 (sl v 0 132), aI 792 (sl p 0 792), aI 132 (sl k 0 132), aI 60 (sl t 0 60), aI 48 (sl l 0 48)]
theorem clsH_len (F : Nat → Nat → Int32) (π : Nat → Nat) (sc rd cd : Nat → Int32) : (clsH F π sc rd cd).length = 108 := rfl
/-! evaluation, piece by piece -/
section EV
variable {h : jm_H} {o k c ci : Nat} {fs : List Value} {X : jm_X}
theorem gI_e {v : Int32} {f : Int32 → Option jm_X} (hh : h[o]? = some (.inr (c, fs))) (hv : fs[k]? = some (.int v)) : jf_gI c h o k f = f v := by simp [jf_gI, hh, hv]
theorem gL_e {v : Int64} {f : Int64 → Option jm_X} (hh : h[o]? = some (.inr (c, fs))) (hv : fs[k]? = some (.long v)) : jf_gL c h o k f = f v := by simp [jf_gL, hh, hv]
theorem gR_e {v : Nat} {f : Nat → Option jm_X} (hh : h[o]? = some (.inr (c, fs))) (hv : fs[k]? = some (.ref v)) : jf_gR c h o k f = f v := by simp [jf_gR, hh, hv]
theorem p_e {v : Value} {f : jm_H → Option jm_X} (hh : h[o]? = some (.inr (c, fs))) (hk : k < fs.length) : jf_p c h o k v f = f (h.set o (.inr (c, fs.set k v))) := by simp [jf_p, hh, hk]
theorem o_e {r : Option jm_X} (hh : h[o]? = some (.inr (c, fs))) : jf_o c o h r = r := by simp [jf_o, hh]
theorem len_e {t : Nat} {x : vp_A} {g : Int32 → Option jm_X} (hh : h[o]? = some (.inl (t, x))) (ht : t < 4) : jf_len h o g = g (Int32.ofNat x.1) := by simp [jf_len, hh, ht]
theorem ldI_e {n j : Nat} {f : Nat → Int32} {g : Int32 → Option jm_X} (hh : h[o]? = some (aI n f)) (hj : j < n) (hn : n < 2 ^ 31) : jf_ldI h o (nI j) g = g (f j) := by
  have h1 := nI_in (c := j) (N := n) hj hn
  simp only [jf_ldI, hh, if_neg h1]
  rw [nI_clamp (by omega)]
theorem stI_e {n j : Nat} {x : Int32} {f : Nat → Int32} {g : jm_H → Option jm_X} (hh : h[o]? = some (aI n f)) (hj : j < n) (hn : n < 2 ^ 31) : jf_stI h o (nI j) x g = g (h.set o (aI n (upd f j x))) := by
  have h1 := nI_in (c := j) (N := n) hj hn
  simp only [jf_stI, hh, if_neg h1]
  rw [nI_clamp (by omega)]
theorem I_e {v : Int32} {f : Int32 → jm_H → Option jm_X} : jf_I (some (.inl (some (.int v)), h)) f = f v h := rfl
theorem L_e {v : Int64} {f : Int64 → jm_H → Option jm_X} : jf_L (some (.inl (some (.long v)), h)) f = f v h := rfl
theorem D_e {v : UInt64} {f : UInt64 → jm_H → Option jm_X} : jf_D (some (.inl (some (.double v)), h)) f = f v h := rfl
theorem V_e {f : jm_H → Option jm_X} : jf_V (some (.inl none, h)) f = f h := rfl
theorem cI_e {v : Int32} {f : Int32 → jm_H → Option jm_X} : jf_cI (some (.inl (some (.int v)), h)) f = f v h := rfl
theorem cV_e {f : jm_H → Option jm_X} : jf_cV (some (.inl none, h)) f = f h := rfl
theorem I_x {E : String} {f : Int32 → jm_H → Option jm_X} : jf_I (some (.inr E, h)) f = some (.inr E, h) := rfl
theorem V_x {E : String} {f : jm_H → Option jm_X} : jf_V (some (.inr E, h)) f = some (.inr E, h) := rfl
theorem L_x {E : String} {f : Int64 → jm_H → Option jm_X} : jf_L (some (.inr E, h)) f = some (.inr E, h) := rfl
theorem D_x {E : String} {f : UInt64 → jm_H → Option jm_X} : jf_D (some (.inr E, h)) f = some (.inr E, h) := rfl
end EV
/-- a truth as a number -/
def bl (p : Prop) [Decidable p] : Int32 := if p then 1 else 0
theorem bl_0 (p : Prop) [Decidable p] : (bl p = 0) = ¬ p := by unfold bl; by_cases h : p <;> simp [h]
theorem bl_1 (p : Prop) [Decidable p] : (bl p = 1) = p := by unfold bl; by_cases h : p <;> simp [h]
theorem bl_01 (p : Prop) [Decidable p] (r : Option jm_X) : jf_z (bl p) r = r := by unfold bl jf_z; by_cases h : p <;> simp [h]
abbrev rI (x : Int32) (h : jm_H) : Option jm_X := some (.inl (some (.int x)), h)
abbrev rV (h : jm_H) : Option jm_X := some (.inl none, h)
abbrev rX (E : String) (h : jm_H) : Option jm_X := some (.inr E, h)
/-- a table's place -/
def tAt (C R : Int32) (n : Nat) (f : Nat → Int32) (r c : Int32) : Int32 := if r < 0 then 0 else if R ≤ r then 0 else if c < 0 then 0 else if C ≤ c then 0 else if r * C + c < 0 then 0 else if Int32.ofNat n ≤ r * C + c then 0 else f (r * C + c).toNatClampNeg
theorem le_cl {n : Nat} {i : Int32} (hn : n < 2 ^ 31) (h : ¬ Int32.ofNat n ≤ i) (h0 : ¬ i < 0) : ¬ (i < 0 ∨ n ≤ i.toNatClampNeg) := by
  obtain ⟨j, hj, rfl⟩ := nI_of h0
  have hjn : j < n := by
    rcases Nat.lt_or_ge j n with h9 | h9
    · exact h9
    · exact absurd (nI_le h9 hj) h
  exact nI_in hjn hn
theorem at_e {h : jm_H} {t u : Nat} {C R r c : Int32} {n : Nat} {f : Nat → Int32} (h1 : h[t]? = some (.inr (2, [.int C, .ref u, .int R]))) (h2 : h[u]? = some (aI n f)) (hn : n < 2 ^ 31) : FX2_at t r c h = rI (tAt C R n f r c) h := by
  unfold FX2_at tAt
  simp only [gI_e (k := 2) (v := R) h1 rfl, gI_e (k := 0) (v := C) h1 rfl, gR_e (k := 1) (v := u) h1 rfl, len_e (t := 0) h2 (by decide)]
  by_cases c1 : r < 0
  · simp [c1]
  · by_cases c2 : R ≤ r
    · simp [c1, c2]
    · by_cases c3 : c < 0
      · simp [c1, c2, c3]
      · by_cases c4 : C ≤ c
        · have : ¬ c < C := fun h => absurd h (Int32.not_lt.mpr c4)
          simp [c1, c2, c3, c4, this]
        · have c4' : c < C := Int32.not_le.mp c4
          by_cases c5 : r * C + c < 0
          · simp [c1, c2, c3, c4, c4', c5]
          · by_cases c6 : Int32.ofNat n ≤ r * C + c
            · simp [c1, c2, c3, c4, c4', c5, c6]
            · have c7 := le_cl hn c6 c5
              simp [c1, c2, c3, c4, c4', c5, c6, jf_ldI, h2]
              exact Nat.not_le.mp (fun h9 => c7 (Or.inr h9))
theorem tAt_e {C n i k R : Nat} {f : Nat → Int32} (hi : i < R) (hR : R < 2 ^ 15) (hk : k < C) (hC : C < 2 ^ 15) (hn : R * C ≤ n) (hn2 : n < 2 ^ 31) : tAt (nI C) (nI R) n f (nI i) (nI k) = f (i * C + k) := by
  have hb : i * C + k < n := by
    have : (i + 1) * C ≤ R * C := Nat.mul_le_mul_right C hi
    rw [Nat.succ_mul] at this
    omega
  have e : nI i * nI C + nI k = nI (i * C + k) := by rw [pk_mul, nI_add]
  unfold tAt
  rw [if_neg (nI_pos (by omega)), if_neg (nI_ge hi (by omega)), if_neg (nI_pos (by omega)), if_neg (nI_ge hk (by omega)), e, if_neg (nI_pos (by omega)), if_neg (show ¬ Int32.ofNat n ≤ nI (i * C + k) from nI_ge hb hn2), nI_clamp (by omega)]

