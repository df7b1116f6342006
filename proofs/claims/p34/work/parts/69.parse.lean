/-! THE REFERENCE reads a text -/
def cN (t : Nat → Int32) (i : Nat) : Nat := (t i).toNatClampNeg
def w2 (rs : Nat → Int32) (i kk : Nat) : Nat → Int32 := upd (upd rs 7 (nI i)) 8 (nI kk)
section W2
variable {rs : Nat → Int32} {i j kk k2 : Nat}
theorem w2_7 : w2 rs i kk 7 = nI i := by unfold w2; rw [pk_un (by decide), pk_us]
theorem w2_8 : w2 rs i kk 8 = nI kk := by unfold w2; rw [pk_us]
theorem w2_o {x : Nat} (h : x ≠ 7) (h' : x ≠ 8) : w2 rs i kk x = rs x := by unfold w2; rw [pk_un h', pk_un h]
theorem w2_u7 : upd (w2 rs i kk) 7 (nI j) = w2 rs j kk := by
  unfold w2
  funext x
  by_cases h8 : x = 8
  · subst h8; rw [pk_un (by decide), pk_us, pk_us]
  · by_cases h7 : x = 7
    · subst h7; rw [pk_us, pk_un (by decide), pk_us]
    · rw [pk_un h7, pk_un h8, pk_un h7, pk_un h8, pk_un h7]
theorem w2_u8 : upd (w2 rs i kk) 8 (nI k2) = w2 rs i k2 := by
  unfold w2
  funext x
  by_cases h8 : x = 8
  · subst h8; rw [pk_us, pk_us]
  · rw [pk_un h8, pk_un h8, pk_un h8]
theorem w2_w2 : w2 (w2 rs i kk) j k2 = w2 rs j k2 := by
  show upd (upd (w2 rs i kk) 7 (nI j)) 8 (nI k2) = _
  rw [w2_u7, w2_u8]
end W2
theorem dg7 : ∀ c, c < 127 → ((0 ≤ nI c - 48 ∧ nI c - 48 ≤ 7) ↔ (48 ≤ c ∧ c ≤ 55)) := by decide +kernel
theorem dg2 : ∀ c, c < 127 → ((0 ≤ nI c - 48 ∧ nI c - 48 ≤ 2) ↔ (48 ≤ c ∧ c ≤ 50)) := by decide +kernel
theorem dg9 : ∀ c, c < 127 → ((0 ≤ nI c - 48 ∧ nI c - 48 ≤ 9) ↔ (48 ≤ c ∧ c ≤ 57)) := by decide +kernel
theorem lgI {x a lim : Nat} (hx : x ≤ 1999) (ha : a < 127) (hl : lim ≤ 1999) : lg (nI x) (nI a - 48) (nI lim) ↔ (0 < x ∧ (48 ≤ a ∧ a ≤ 57) ∧ 10 * x + (a - 48) ≤ lim) := by
  unfold lg
  have e0 : nI x ≤ 0 ↔ x ≤ 0 := nI_leI (a := x) (b := 0) (by omega) (by decide)
  rw [dg9 a ha, e0]
  constructor
  · rintro ⟨h1, h2, h3⟩
    rw [show (48 : Int32) = nI 48 from rfl, pk_sub h2.1, show (10 : Int32) = nI 10 from rfl, pk_mul, nI_add, nI_ltI (by omega) (by omega)] at h3
    omega
  · rintro ⟨h1, h2, h3⟩
    refine ⟨by omega, h2, ?_⟩
    rw [show (48 : Int32) = nI 48 from rfl, pk_sub h2.1, show (10 : Int32) = nI 10 from rfl, pk_mul, nI_add, nI_ltI (by omega) (by omega)]
    omega
/-! the class's steps, phase by phase -/
section PH
variable {u : Nat → Int32} {c : Int32}
theorem ph0 (h : u 4 = nI 0) : tk u c = bl (0 ≤ c - 48 ∧ c - 48 ≤ 7) ∧ gk u c = upd (upd u 0 (c - 48)) 4 1 := by unfold tk gk; rw [h]; exact ⟨rfl, rfl⟩
theorem ph1 (h : u 4 = nI 1) : tk u c = bl (c = 47) ∧ gk u c = upd u 4 2 := by unfold tk gk; rw [h]; exact ⟨rfl, rfl⟩
theorem ph2 (h : u 4 = nI 2) : tk u c = bl (0 ≤ c - 48 ∧ c - 48 ≤ 2) ∧ gk u c = upd (upd u 1 (c - 48)) 4 3 := by unfold tk gk; rw [h]; exact ⟨rfl, rfl⟩
theorem ph3 (h : u 4 = nI 3) : tk u c = bl (c = 64) ∧ gk u c = upd u 4 4 := by unfold tk gk; rw [h]; exact ⟨rfl, rfl⟩
theorem ph4 (h : u 4 = nI 4) : tk u c = bl (0 ≤ c - 48 ∧ c - 48 ≤ 9) ∧ gk u c = upd (upd u 2 (c - 48)) 4 5 := by unfold tk gk; rw [h]; exact ⟨rfl, rfl⟩
theorem ph5 (h : u 4 = nI 5) : tk u c = bl (c = 43 ∨ c = 59 ∨ lg (u 2) (c - 48) 1999) ∧ gk u c = if c = 43 then upd u 4 6 else if c = 59 then upd (upd u 3 0) 4 0 else upd u 2 (u 2 * 10 + (c - 48)) := by unfold tk gk; rw [h]; exact ⟨rfl, rfl⟩
theorem ph6 (h : u 4 = nI 6) : tk u c = bl (0 ≤ c - 48 ∧ c - 48 ≤ 9) ∧ gk u c = upd (upd u 3 (c - 48)) 4 7 := by unfold tk gk; rw [h]; exact ⟨rfl, rfl⟩
theorem ph7 (h : u 4 = nI 7) : tk u c = bl (c = 59 ∨ lg (u 3) (c - 48) 20) ∧ gk u c = if c = 59 then upd (upd u 3 0) 4 0 else upd u 3 (u 3 * 10 + (c - 48)) := by unfold tk gk; rw [h]; exact ⟨rfl, rfl⟩
end PH
/-- a number goes on: phase 5 with the minute, phase 7 with the break -/
def okP (c lim ph : Nat) : Prop := (c = 2 ∧ lim = 1999 ∧ ph = 5) ∨ (c = 3 ∧ lim = 20 ∧ ph = 7)
theorem more_e {u : Nat → Int32} {c lim ph x a : Nat} (ho : okP c lim ph) (h : u 4 = nI ph) (hx : u c = nI x) (hxl : x ≤ lim) (ha : a < 127) (hm : 0 < x ∧ (48 ≤ a ∧ a ≤ 57) ∧ 10 * x + (a - 48) ≤ lim) : tk u (nI a) = 1 ∧ gk u (nI a) = upd u c (nI (10 * x + (a - 48))) := by
  have n43 : ¬ nI a = 43 := fun e => by
    have := (nI_eq (a := a) (b := 43) (by omega) (by decide)).mp e; omega
  have n59 : ¬ nI a = 59 := fun e => by
    have := (nI_eq (a := a) (b := 59) (by omega) (by decide)).mp e; omega
  have ev : nI x * 10 + (nI a - 48) = nI (10 * x + (a - 48)) := by
    rw [show (48 : Int32) = nI 48 from rfl, pk_sub hm.2.1.1, show (10 : Int32) = nI 10 from rfl, pk_mul, nI_add, Nat.mul_comm]
  rcases ho with ⟨rfl, rfl, rfl⟩ | ⟨rfl, rfl, rfl⟩
  · rw [(ph5 h).1, (ph5 h).2, if_neg n43, if_neg n59, hx]
    exact ⟨bl_t (Or.inr (Or.inr ((lgI (lim := 1999) (by omega) ha (by decide)).mpr hm))), by rw [ev]⟩
  · rw [(ph7 h).1, (ph7 h).2, if_neg n59, hx]
    exact ⟨bl_t (Or.inr ((lgI (lim := 20) (by omega) ha (by decide)).mpr hm)), by rw [ev]⟩
section RP
variable {P : jm_H} {v p k t l rs : Nat → Int32} {hs : Int64} {q : jm_H} {N m i kk : Nat}
def okT (t : Nat → Int32) (m : Nat) : Prop := m ≤ 60 ∧ ∀ i, i < m → t i = nI (cN t i) ∧ cN t i < 127
end RP

