/-! FACE: pieces of the reference's changing calls -/
theorem w3_4 {rs : Nat → Int32} {a b c : Int32} : w3 rs a b c 4 = a := rfl
theorem w3_5 {rs : Nat → Int32} {a b c : Int32} : w3 rs a b c 5 = b := rfl
theorem w3_6 {rs : Nat → Int32} {a b c : Int32} : w3 rs a b c 6 = c := rfl
section FO
variable {P : jm_H} {v p k t l rs : Nat → Int32} {hs : Int64} {q : jm_H} {N : Nat}
theorem uShow_1 {f c a pp : Int32} : uShow v f c a pp 1 = nI (cnt v 1 + 1) := by
  unfold uShow nUp
  rw [pk_un (by omega), pk_un (by omega), pk_un (by omega), pk_un (by omega), pk_un (by omega), pk_us]
end FO

