/-! THE FACE: one call of the class, the same call of the reference -/
abbrev lcs (fL : Nat → Int64) (fD : Nat → UInt64) : jm_H := [.inl (1, (1, .inr (.inl fL))), .inl (2, (1, .inr (.inr (.inr (.inl fD)))))]
def Rl (F : Nat → Nat → Int32) (π : Nat → Nat) (sc p k rs cd : Nat → Int32) : Prop :=
  Iv (F 0) ∧ (∃ n, sc 1 = nI n ∧ rs 0 = nI n ∧ Sv F π p n) ∧ (sc 0 = rs 1 ∧ (rs 1 ≠ 0 → Iv (F 1) ∧ ∀ x, x < 132 → F 1 x = k x)) ∧ ∃ m, sc 2 = nI m ∧ rs 2 = nI m ∧ okT cd m
theorem IA_ne : ¬ "java/lang/IllegalStateException" = "java/lang/IllegalArgumentException" := by decide
theorem IX_ne : ¬ "java/lang/IllegalStateException" = "java/lang/IndexOutOfBoundsException" := by decide
theorem AX_ne : ¬ "java/lang/IllegalArgumentException" = "java/lang/IndexOutOfBoundsException" := by decide
theorem TI_r {y : Int32} {h : jm_H} {f : Int32 → jm_H → Option jm_X} {g : String → jm_H → Option jm_X} : jf_TI (rI y h) f g = f y h := rfl
theorem TI_x {E : String} {h : jm_H} {f : Int32 → jm_H → Option jm_X} {g : String → jm_H → Option jm_X} : jf_TI (rX E h) f g = g E h := rfl
theorem rq0 {h : jm_H} : FX3_requireArgument 0 h = rX "java/lang/IllegalArgumentException" h := rfl
theorem rq1 {h : jm_H} : FX3_requireArgument 1 h = rV h := rfl
section FC
variable {F F' : Nat → Nat → Int32} {π π' : Nat → Nat} {sc rd cd v p k t l rs sc' rd' cd' p' k' l' rs' : Nat → Int32} {hs hs' : Int64} {fL : Nat → Int64} {fD : Nat → UInt64}
theorem updL_0 {y : Int64} : vp_updL fL 0 y 0 = y := by simp [vp_updL]
/-- what is kept when a row becomes another behind a saving -/
theorem Rl_save {n : Nat} {w : Nat → Int32} (hI : Iv (F 0)) (hS : Sv F π p n) (hK : sc 0 = rs 1 ∧ (rs 1 ≠ 0 → Iv (F 1) ∧ ∀ x, x < 132 → F 1 x = k x)) (hM : ∃ m, sc 2 = nI m ∧ rs 2 = nI m ∧ okT cd m) (hw : Iv w)
    (hr : rs' 0 = nI (svN n) ∧ rs' 1 = rs 1 ∧ rs' 2 = rs 2) : Rl (fu (fu F (πs π n (πn n) + 2) (F 0)) 0 w) (πs π n) (upd sc 1 (nI (svN n))) (sv p n (F 0)) k rs' cd := by
  refine ⟨by rw [fu_s]; exact hw, ⟨svN n, pk_us, hr.1, Sv_now (Sv_save hS hI) (by decide)⟩, ⟨?_, fun hh => ?_⟩, ?_⟩
  · rw [pk_un (by decide), hr.2.1]; exact hK.1
  · rw [fu_n (by decide), fu_n (by omega)]
    exact hK.2 (by rw [← hr.2.1]; exact hh)
  · obtain ⟨m, h1, h2, h3⟩ := hM
    exact ⟨m, by rw [pk_un (by decide)]; exact h1, hr.2.2.trans h2, h3⟩
theorem fu_0 {i : Nat} {w : Nat → Int32} : fu F (i + 2) w 0 = F 0 := fu_n (by omega)
end FC

