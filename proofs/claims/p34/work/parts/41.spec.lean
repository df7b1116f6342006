/-! SPEC: what the festival's row says, and the invariant; loops -/
abbrev sF (v : Nat → Int32) (f k : Nat) : Int32 := v (10 + 2 * f + k)
abbrev sS (v : Nat → Int32) (s k : Nat) : Int32 := v (26 + 5 * s + k)
abbrev sG (v : Nat → Int32) (g k : Nat) : Int32 := v (86 + 3 * g + k)
abbrev sP (v : Nat → Int32) (j f : Nat) : Int32 := v (104 + 8 * j + f)
def cnt (v : Nat → Int32) (i : Nat) : Nat := (v i).toNatClampNeg
/-- the film of a showing, its screen, of a guest, as numbers of places -/
def fmo (v : Nat → Int32) (s : Nat) : Nat := (sS v s 0).toNatClampNeg
def sco (v : Nat → Int32) (s : Nat) : Nat := (sS v s 1).toNatClampNeg
def gro (v : Nat → Int32) (s : Nat) : Nat := (sS v s 4).toNatClampNeg
def sLen (v : Nat → Int32) (f : Nat) : Int32 := sF v f 0 * sF v f 1
def sEnd (v : Nat → Int32) (s : Nat) : Int32 := sS v s 2 + sLen v (fmo v s) + sS v s 3
/-- the same as whole numbers -/
def zLen (v : Nat → Int32) (f : Nat) : Int := (sF v f 0).toInt * (sF v f 1).toInt
def zEnd (v : Nat → Int32) (s : Nat) : Int := (sS v s 2).toInt + zLen v (fmo v s) + (sS v s 3).toInt
def isN (x : Int32) (a b : Nat) : Prop := ∃ t : Nat, x = nI t ∧ a ≤ t ∧ t ≤ b
def okShow (v : Nat → Int32) (s : Nat) : Prop := (sS v s 0 = nI (fmo v s) ∧ fmo v s < cnt v 0) ∧ (sS v s 1 = nI (sco v s) ∧ sco v s < 3) ∧ isN (sS v s 2) 0 1999 ∧ isN (sS v s 3) 0 20 ∧ (sS v s 4 = nI (gro v s) ∧ gro v s < 8) ∧ zEnd v s ≤ 2000
def Iv (v : Nat → Int32) : Prop :=
  ((v 0 = nI (cnt v 0) ∧ cnt v 0 ≤ 8) ∧ (v 1 = nI (cnt v 1) ∧ cnt v 1 ≤ 12) ∧ (v 2 = nI (cnt v 2) ∧ cnt v 2 ≤ 6)) ∧
  (∀ f, f < cnt v 0 → isN (sF v f 0) 1 6 ∧ isN (sF v f 1) 10 25) ∧
  (∀ i, i < 4 → isN (v (3 + i)) 0 60) ∧ (∀ c, c < 3 → isN (v (7 + c)) 50 400) ∧
  (∀ s, s < cnt v 1 → okShow v s) ∧ (∀ g, g < cnt v 2 → ∃ f, sG v g 0 = nI f ∧ f < cnt v 0) ∧ (∀ j f, j < 3 → f < 8 → isN (sP v j f) 0 10) ∧
  (∀ s t, s < cnt v 1 → t < cnt v 1 → s ≠ t → sco v s = sco v t → zEnd v s ≤ (sS v t 2).toInt ∨ zEnd v t ≤ (sS v s 2).toInt)
theorem lt31 {n : Nat} (h : n < 4000) : n < 2 ^ 31 := by omega
section IV
variable {v : Nat → Int32} (hI : Iv v)
theorem Iv.nf (hI : Iv v) : v 0 = nI (cnt v 0) ∧ cnt v 0 ≤ 8 := hI.1.1
theorem Iv.ns (hI : Iv v) : v 1 = nI (cnt v 1) ∧ cnt v 1 ≤ 12 := hI.1.2.1
theorem Iv.ng (hI : Iv v) : v 2 = nI (cnt v 2) ∧ cnt v 2 ≤ 6 := hI.1.2.2
theorem Iv.show (hI : Iv v) {s : Nat} (hs : s < cnt v 1) : okShow v s := hI.2.2.2.2.1 s hs
theorem Iv.fo (hI : Iv v) {s : Nat} (hs : s < cnt v 1) : sS v s 0 = nI (fmo v s) := (hI.show hs).1.1
theorem Iv.fo_lt (hI : Iv v) {s : Nat} (hs : s < cnt v 1) : fmo v s < cnt v 0 := (hI.show hs).1.2
theorem Iv.so (hI : Iv v) {s : Nat} (hs : s < cnt v 1) : sS v s 1 = nI (sco v s) := (hI.show hs).2.1.1
theorem Iv.so_lt (hI : Iv v) {s : Nat} (hs : s < cnt v 1) : sco v s < 3 := (hI.show hs).2.1.2
theorem Iv.go (hI : Iv v) {s : Nat} (hs : s < cnt v 1) : sS v s 4 = nI (gro v s) := (hI.show hs).2.2.2.2.1.1
theorem Iv.go_lt (hI : Iv v) {s : Nat} (hs : s < cnt v 1) : gro v s < 8 := (hI.show hs).2.2.2.2.1.2
end IV
/-! loops -/
/-- from k on, d steps -/
def fd {α : Type} (f : Nat → α → α) : Nat → Nat → α → α
  | _, 0, a => a
  | k, d + 1, a => fd f (k + 1) d (f k a)
theorem fd_congr {α : Type} {f g : Nat → α → α} : ∀ (d k : Nat) (a : α), (∀ i a, k ≤ i → i < k + d → f i a = g i a) → fd f k d a = fd g k d a
  | 0, _, _, _ => rfl
  | d + 1, k, a, h => by
    show fd f (k + 1) d (f k a) = fd g (k + 1) d (g k a)
    rw [h k a (Nat.le_refl _) (by omega)]
    exact fd_congr d (k + 1) _ (fun i a h1 h2 => h i a (by omega) (by omega))
theorem fd_inv {α : Type} {f : Nat → α → α} (P : Nat → α → Prop) : ∀ (d k : Nat) (a : α), P k a → (∀ i a, k ≤ i → i < k + d → P i a → P (i + 1) (f i a)) → P (k + d) (fd f k d a)
  | 0, _, _, h, _ => h
  | d + 1, k, a, h, hs => by
    have := fd_inv P d (k + 1) (f k a) (hs k a (Nat.le_refl _) (by omega) h) (fun i a h1 h2 => hs i a (by omega) (by omega))
    rwa [show k + 1 + d = k + (d + 1) by omega] at this
theorem fd_last {α : Type} {f : Nat → α → α} : ∀ (d k : Nat) (a : α), fd f k (d + 1) a = f (k + d) (fd f k d a)
  | 0, _, _ => rfl
  | d + 1, k, a => by
    show fd f (k + 1) (d + 1) (f k a) = f (k + (d + 1)) (fd f (k + 1) d (f k a))
    rw [fd_last d (k + 1) (f k a), show k + 1 + d = k + (d + 1) by omega]
theorem lp_fold {S : Type} (L : Nat → Int32 → S → Option jm_X) (B : Nat) (f : Nat → S → S) (fin : S → Option jm_X) (P : Nat → S → Prop)
    (h0 : ∀ n s, P B s → L (n + 1) (nI B) s = fin s) (hs : ∀ n k s, k < B → P k s → L (n + 1) (nI k) s = L n (nI (k + 1)) (f k s) ∧ P (k + 1) (f k s)) :
    ∀ (d n k : Nat) (s : S), k + d = B → d < n → P k s → L n (nI k) s = fin (fd f k d s)
  | 0, n, k, s, hk, hn, hp => by
    obtain ⟨m, rfl⟩ : ∃ m, n = m + 1 := ⟨n - 1, by omega⟩
    have : k = B := by omega
    subst this
    exact h0 m s hp
  | d + 1, n, k, s, hk, hn, hp => by
    obtain ⟨m, rfl⟩ : ∃ m, n = m + 1 := ⟨n - 1, by omega⟩
    obtain ⟨h1, h2⟩ := hs m k s (by omega) hp
    rw [h1]
    exact lp_fold L B f fin P h0 hs d m (k + 1) (f k s) (by omega) (by omega) h2
/-- the first place from k on, of d, with P; else e -/
def ffst {α : Type} (P : Nat → Prop) [DecidablePred P] (g : Nat → α) (e : α) : Nat → Nat → α
  | _, 0 => e
  | k, d + 1 => if P k then g k else ffst P g e (k + 1) d
theorem lp_find (L : Nat → Int32 → Option jm_X) (B : Nat) (P : Nat → Prop) [DecidablePred P] (g : Nat → Option jm_X) (e : Option jm_X)
    (h0 : ∀ n, L (n + 1) (nI B) = e) (hs : ∀ n k, k < B → L (n + 1) (nI k) = if P k then g k else L n (nI (k + 1))) :
    ∀ (d n k : Nat), k + d = B → d < n → L n (nI k) = ffst P g e k d
  | 0, n, k, hk, hn => by
    obtain ⟨m, rfl⟩ : ∃ m, n = m + 1 := ⟨n - 1, by omega⟩
    have : k = B := by omega
    subst this
    exact h0 m
  | d + 1, n, k, hk, hn => by
    obtain ⟨m, rfl⟩ : ∃ m, n = m + 1 := ⟨n - 1, by omega⟩
    rw [hs m k (by omega), lp_find L B P g e h0 hs d m (k + 1) (by omega) (by omega)]
    rfl
theorem ffst_map {α β : Type} (P : Nat → Prop) [DecidablePred P] (g : Nat → α) (e : α) (F : α → β) : ∀ (d k : Nat), ffst P (fun i => F (g i)) (F e) k d = F (ffst P g e k d)
  | 0, _ => rfl
  | d + 1, k => by
    show (if P k then F (g k) else ffst P (fun i => F (g i)) (F e) (k + 1) d) = F (if P k then g k else ffst P g e (k + 1) d)
    rw [ffst_map P g e F d (k + 1)]
    by_cases h : P k <;> simp [h]
theorem ffst_congr {α : Type} {P Q : Nat → Prop} [DecidablePred P] [DecidablePred Q] {g g' : Nat → α} {e : α} : ∀ (d k : Nat), (∀ i, k ≤ i → i < k + d → ((P i ↔ Q i) ∧ g i = g' i)) → ffst P g e k d = ffst Q g' e k d
  | 0, _, _ => rfl
  | d + 1, k, h => by
    show (if P k then g k else ffst P g e (k + 1) d) = if Q k then g' k else ffst Q g' e (k + 1) d
    rw [ffst_congr d (k + 1) (fun i h1 h2 => h i (by omega) (by omega)), (h k (Nat.le_refl _) (by omega)).2]
    by_cases hq : Q k
    · rw [if_pos hq, if_pos ((h k (Nat.le_refl _) (by omega)).1.mpr hq)]
    · rw [if_neg hq, if_neg (fun hp => hq ((h k (Nat.le_refl _) (by omega)).1.mp hp))]
/-- a number of a place, or -1 -/
abbrev fi (P : Nat → Prop) [DecidablePred P] (k d : Nat) : Int32 := ffst P nI (-1) k d
theorem fi_cases (P : Nat → Prop) [DecidablePred P] : ∀ (d k : Nat), (fi P k d = -1 ∧ ∀ i, k ≤ i → i < k + d → ¬ P i) ∨ ∃ i, k ≤ i ∧ i < k + d ∧ P i ∧ fi P k d = nI i ∧ ∀ j, k ≤ j → j < i → ¬ P j
  | 0, k => Or.inl ⟨rfl, fun i h1 h2 => by omega⟩
  | d + 1, k => by
    by_cases hp : P k
    · refine Or.inr ⟨k, Nat.le_refl _, by omega, hp, ?_, fun j h1 h2 => by omega⟩
      show (if P k then nI k else _) = nI k
      rw [if_pos hp]
    · have e : fi P k (d + 1) = fi P (k + 1) d := by
        show (if P k then nI k else _) = _
        rw [if_neg hp]
      rw [e]
      rcases fi_cases P d (k + 1) with ⟨h1, h2⟩ | ⟨i, h1, h2, h3, h4, h5⟩
      · refine Or.inl ⟨h1, fun i hi hj => ?_⟩
        by_cases hk : i = k
        · rw [hk]; exact hp
        · exact h2 i (by omega) (by omega)
      · refine Or.inr ⟨i, by omega, by omega, h3, h4, fun j hj hji => ?_⟩
        by_cases hk : j = k
        · rw [hk]; exact hp
        · exact h5 j (by omega) hji
theorem nI_m1 {n : Nat} (h : n < 2 ^ 31) : ¬ nI n = -1 := fun e => by
  have := congrArg Int32.toInt e
  rw [nI_toInt h] at this
  have h2 : ((-1 : Int32)).toInt = -1 := rfl
  omega

