/-! THE REFERENCE: the reasons, and its looks -/
def w3 (rs : Nat → Int32) (a b c : Int32) : Nat → Int32 := fun i => match i with | 4 => a | 5 => b | 6 => c | _ => rs i
theorem w3_w3 {rs : Nat → Int32} {a b c a' b' c' : Int32} : w3 (w3 rs a b c) a' b' c' = w3 rs a' b' c' := by
  funext i
  match i with
  | 0 => rfl | 1 => rfl | 2 => rfl | 3 => rfl | 4 => rfl | 5 => rfl | 6 => rfl | n + 7 => rfl
theorem lp_find1 (L : Nat → Int32 → Option jm_X) (B : Nat) (P : Nat → Prop) [DecidablePred P] (g : Nat → Option jm_X) (e : Option jm_X)
    (h0 : ∀ n, L (n + 1) (nI B) = e) (hs : ∀ n k, k < B → 0 < n → L (n + 1) (nI k) = if P k then g k else L n (nI (k + 1))) :
    ∀ (d n k : Nat), k + d = B → d < n → L n (nI k) = ffst P g e k d
  | 0, n, k, hk, hn => by
    obtain ⟨m, rfl⟩ : ∃ m, n = m + 1 := ⟨n - 1, by omega⟩
    have : k = B := by omega
    subst this
    exact h0 m
  | d + 1, n, k, hk, hn => by
    obtain ⟨m, rfl⟩ : ∃ m, n = m + 1 := ⟨n - 1, by omega⟩
    rw [hs m k (by omega) (by omega), lp_find1 L B P g e h0 hs d m (k + 1) (by omega) (by omega)]
    rfl
/-- the reason, what stands in the way, its reel -/
def sLk (v : Nat → Int32) (f : Nat) (c a p w : Int32) : Int32 × Int32 × Int32 :=
  if a + sLen v f + p ≤ 2000 then (if sTs v c a (a + sLen v f + p) w = -1 then (if sTr v f c a p w = -1 then (0, -1, -1) else (4, sTr v f c a p w, sCl v f a p (sTr v f c a p w).toNatClampNeg)) else (3, sTs v c a (a + sLen v f + p) w, -1)) else (2, -1, -1)
theorem sLk_1 {v : Nat → Int32} {f : Nat} {c a p w : Int32} : (sLk v f c a p w).1 = sRb v f c a p w := by
  unfold sLk sRb
  split
  · split
    · split <;> rfl
    · rfl
  · rfl
def sRs (v : Nat → Int32) (f : Nat) (c a p : Int32) : Int32 × Int32 × Int32 := if v 1 < 12 then sLk v f c a p (-1) else (1, -1, -1)
theorem sRs_1 {v : Nat → Int32} {f : Nat} {c a p : Int32} : (sRs v f c a p).1 = sRf v f c a p := by
  unfold sRs sRf
  split
  · exact sLk_1
  · rfl
section RG
variable {P : jm_H} {v p k t l rs : Nat → Int32} {hs : Int64} {q : jm_H} {N : Nat}
end RG

