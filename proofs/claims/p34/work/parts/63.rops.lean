/-! THE REFERENCE: what changes its row; what is saved -/
def lay (w : Nat → Int32) (o : Nat) (u : Nat → Int32) : Nat → Int32 := fd (fun j w => upd w (o + j) (u j)) 0 132 w
theorem fd_lay {u : Nat → Int32} {o : Nat} : ∀ (d a : Nat) (w : Nat → Int32) (x : Nat), fd (fun j w => upd w (o + j) (u j)) a d w x = if o + a ≤ x ∧ x < o + a + d then u (x - o) else w x
  | 0, a, w, x => by
    rw [if_neg (by omega)]; rfl
  | d + 1, a, w, x => by
    show fd (fun j w => upd w (o + j) (u j)) (a + 1) d (upd w (o + a) (u a)) x = _
    rw [fd_lay d (a + 1)]
    by_cases h1 : o + (a + 1) ≤ x ∧ x < o + (a + 1) + d
    · rw [if_pos h1, if_pos (by omega)]
    · rw [if_neg h1]
      by_cases h2 : x = o + a
      · subst h2; rw [pk_us, if_pos (by omega)]; congr 1; omega
      · rw [pk_un h2, if_neg (by omega)]
theorem lay_in {w u : Nat → Int32} {o x : Nat} (h : x < 132) : lay w o u (o + x) = u x := by
  unfold lay
  rw [fd_lay, if_pos (by omega)]; congr 1; omega
theorem lay_out {w u : Nat → Int32} {o x : Nat} (h : x < o ∨ o + 132 ≤ x) : lay w o u x = w x := by
  unfold lay
  rw [fd_lay, if_neg (by omega)]
/-- the saved rows after one more -/
def sv (p : Nat → Int32) (n : Nat) (v : Nat → Int32) : Nat → Int32 := if n = 6 then lay (mvc 132 0 660 p) 660 v else lay p (132 * n) v
def svN (n : Nat) : Nat := if n = 6 then 6 else n + 1
theorem add00 (x : Int32) : 0 + x = x := Int32.zero_add x
section RO
variable {P : jm_H} {v p k t l rs : Nat → Int32} {hs : Int64} {q : jm_H} {N n : Nat}
theorem upd_comm {v : Nat → Int32} {a b : Nat} {x y : Int32} (h : a ≠ b) : upd (upd v a x) b y = upd (upd v b y) a x := by
  funext j
  by_cases h1 : j = b
  · subst h1; rw [pk_us, pk_un (Ne.symm h), pk_us]
  · rw [pk_un h1]
    by_cases h2 : j = a
    · subst h2; rw [pk_us, pk_us]
    · rw [pk_un h2, pk_un h2, pk_un h1]
theorem fd_comm1 {a d : Nat} {v : Nat → Int32} {x : Int32} (ha : 2 ≤ a) : mv a d (upd v 1 x) = upd (mv a d v) 1 x := by
  funext j
  rw [mv_e]
  by_cases h1 : j = 1
  · subst h1; rw [pk_us, pk_us, if_neg (by omega)]
  · rw [pk_un (show j + 5 ≠ 1 by omega), pk_un h1, pk_un h1, mv_e]
end RO

