/-! THE REFERENCE, its looks -/
theorem fd_0 {p : Nat → Prop} [DecidablePred p] : ∀ (d k : Nat), fd (fun o (a : Int32) => if p o then 0 else a) k d 0 = 0
  | 0, _ => rfl
  | d + 1, k => by
    show fd _ (k + 1) d (if p k then 0 else 0) = 0
    rw [ite_self]
    exact fd_0 d (k + 1)
theorem fd_dn {p : Nat → Prop} [DecidablePred p] : ∀ (d k : Nat), fd (fun o (a : Int32) => if p o then 0 else a) k d 1 = ffst p (fun _ => 0) 1 k d
  | 0, _ => rfl
  | d + 1, k => by
    show fd _ (k + 1) d (if p k then 0 else 1) = if p k then 0 else ffst p (fun _ => 0) 1 (k + 1) d
    by_cases h : p k
    · rw [if_pos h, if_pos h]; exact fd_0 d (k + 1)
    · rw [if_neg h, if_neg h]; exact fd_dn d (k + 1)
theorem z0 (r : Option jm_X) : jf_z 0 r = r := rfl
theorem z1 (r : Option jm_X) : jf_z 1 r = r := rfl
theorem or0 (x : Int32) : x ||| 0 = x := Int32.or_zero
abbrev sHas (v : Nat → Int32) (j f : Int32) : Prop := ¬ ∀ s, s < cnt v 1 → ¬ (sS v s 0 = f ∧ hb (sS v s 4) j)
section RH
variable {P : jm_H} {v p k t l rs : Nat → Int32} {hs : Int64} {q : jm_H} {N : Nat}
end RH

