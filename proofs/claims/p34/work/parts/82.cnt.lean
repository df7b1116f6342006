/-! FACE: counts, shares -/
def sCn (v : Nat → Int32) (s : Int32) (w : Nat) : Int32 := match w with
  | 0 => v 0
  | 1 => v 1
  | 2 => v 2
  | 3 => sGrs v
  | 4 => sAll v
  | 5 => v 128
  | 6 => sPr v
  | 7 => v 3
  | 8 => v 4
  | 9 => v 5
  | 10 => v 6
  | _ => s
section CN
variable {F : Nat → Nat → Int32} {π : Nat → Nat} {sc rd cd : Nat → Int32} {q : jm_H} {N : Nat}
theorem c_cnt {w : Nat} (hN : 13 ≤ N) (hI : Iv (F 0)) (hw : w < 12) : FX3_countNumber N 0 (nI w) (hC F π sc rd cd q) = rI (sCn (F 0) (sc 1) w) (hC F π sc rd cd q) := by
  unfold FX3_countNumber
  have : w = 0 ∨ w = 1 ∨ w = 2 ∨ w = 3 ∨ w = 4 ∨ w = 5 ∨ w = 6 ∨ w = 7 ∨ w = 8 ∨ w = 9 ∨ w = 10 ∨ w = 11 := by omega
  rcases this with rfl | rfl | rfl | rfl | rfl | rfl | rfl | rfl | rfl | rfl | rfl | rfl
  · rw [sw_e (i := 0) (lo := 0) rfl (Nat.le_of_ble_eq_true rfl) rfl, k_r0, c_r0, c_n0]; rfl
  · rw [sw_e (i := 1) (lo := 0) rfl (Nat.le_of_ble_eq_true rfl) rfl, k_r0, c_r3, c_n1]; rfl
  · rw [sw_e (i := 2) (lo := 0) rfl (Nat.le_of_ble_eq_true rfl) rfl, k_r0, c_r4, c_n2]; rfl
  · rw [sw_e (i := 3) (lo := 0) rfl (Nat.le_of_ble_eq_true rfl) rfl, k_r0, c_o1, c_grs hN hI]; rfl
  · rw [sw_e (i := 4) (lo := 0) rfl (Nat.le_of_ble_eq_true rfl) rfl, k_r0, c_o1, c_all hN hI]; rfl
  · rw [sw_e (i := 5) (lo := 0) rfl (Nat.le_of_ble_eq_true rfl) rfl, k_r0, c_i6]; rfl
  · rw [sw_e (i := 6) (lo := 0) rfl (Nat.le_of_ble_eq_true rfl) rfl, k_r0, c_o1, c_pr hN hI]; rfl
  · rw [sw_e (i := 7) (lo := 0) rfl (Nat.le_of_ble_eq_true rfl) rfl, k_r0, c_r2, c_o6, c_aT, show nI 7 - 7 = 0 by decide, tT_0]; rfl
  · rw [sw_e (i := 8) (lo := 0) rfl (Nat.le_of_ble_eq_true rfl) rfl, k_r0, c_r2, c_o6, c_aT, show nI 8 - 7 = 1 by decide, tT_1]; rfl
  · rw [sw_e (i := 9) (lo := 0) rfl (Nat.le_of_ble_eq_true rfl) rfl, k_r0, c_r2, c_o6, c_aT, show nI 9 - 7 = 2 by decide, tT_2]; rfl
  · rw [sw_e (i := 10) (lo := 0) rfl (Nat.le_of_ble_eq_true rfl) rfl, k_r0, c_r2, c_o6, c_aT, show nI 10 - 7 = 3 by decide, tT_3]; rfl
  · rw [sw_e (i := 11) (lo := 0) rfl (Nat.le_of_ble_eq_true rfl) rfl, k_i1]; rfl
end CN
section RNC
variable {P : jm_H} {v p k t l rs : Nat → Int32} {hs : Int64} {q : jm_H} {N : Nat}
end RNC
theorem sUse_m {v : Nat → Int32} (hI : Iv v) {c : Int32} : ∃ n, n < 1801 ∧ sUse v c = nI n := by
  have hn := hI.ns.2
  unfold sUse
  have := fd_inv (f := fun s (a : Int32) => if sS v s 1 = c then a + sLen v (fmo v s) else a) (fun i a => ∃ n, n ≤ 150 * i ∧ a = nI n) (cnt v 1) 0 0 ⟨0, by omega, rfl⟩ (fun i a h1 h2 ha => by
    obtain ⟨n, e1, rfl⟩ := ha
    by_cases hc : sS v i 1 = c
    · rw [if_pos hc, (hI.len (hI.fo_lt (by omega))).1, nI_add]
      exact ⟨_, by have := (hI.len (hI.fo_lt (show i < cnt v 1 by omega))).2; omega, rfl⟩
    · rw [if_neg hc]
      exact ⟨n, by omega, rfl⟩)
  obtain ⟨n, e1, e2⟩ := this
  exact ⟨n, by omega, e2⟩
section SHR
variable {F : Nat → Nat → Int32} {π : Nat → Nat} {sc rd cd : Nat → Int32} {q : jm_H} {N : Nat} {P : jm_H} {v p k t l rs : Nat → Int32} {hs : Int64}
theorem n_ok {x : UInt64} {r : Option jm_X} (h : nnan x) : jf_n x r = r := if_pos h
theorem c_share {c : Int32} {n : Nat} (hN : 13 ≤ N) (hI : Iv (F 0)) (hn : n < 1) (he : sUse (F 0) c = nI n) : FX0_share N 1 c (hC F π sc rd cd q) = some (.inl (some (.double (dsh n))), (hC F π sc rd cd q)) := by
  unfold FX0_share
  rw [c_o1, c_use hN hI, I_e, he, n_ok (dsh_1 n hn)]
end SHR
section FD
variable {F : Nat → Nat → Int32} {π : Nat → Nat} {sc rd cd v p k t l rs : Nat → Int32} {hs : Int64} {fL : Nat → Int64} {fD : Nat → UInt64} {N : Nat}
theorem TD_r {y : UInt64} {h : jm_H} {f : UInt64 → jm_H → Option jm_X} {g : String → jm_H → Option jm_X} : jf_TD (some (.inl (some (.double y)), h)) f g = f y h := rfl
theorem TD_x {E : String} {h : jm_H} {f : UInt64 → jm_H → Option jm_X} {g : String → jm_H → Option jm_X} : jf_TD (rX E h) f g = g E h := rfl
end FD

