/-! THE FACE: one call of the class, the same call of the reference -/
abbrev lcs (fL : Nat → Int64) (fD : Nat → UInt64) : jm_H := [.inl (1, (1, .inr (.inl fL))), .inl (2, (1, .inr (.inr (.inr (.inl fD)))))]
abbrev J (F : Nat → Nat → Int32) (π : Nat → Nat) (sc rd cd v p k t l rs : Nat → Int32) (hs : Int64) (fL : Nat → Int64) (fD : Nat → UInt64) : jm_H := clsH F π sc rd cd ++ (refH v p k t l rs hs ++ lcs fL fD)
def Rl (F : Nat → Nat → Int32) (π : Nat → Nat) (sc p k rs cd : Nat → Int32) : Prop :=
  Iv (F 0) ∧ (∃ n, sc 1 = nI n ∧ rs 0 = nI n ∧ Sv F π p n) ∧ (sc 0 = rs 1 ∧ (rs 1 ≠ 0 → Iv (F 1) ∧ ∀ x, x < 132 → F 1 x = k x)) ∧ ∃ m, sc 2 = nI m ∧ rs 2 = nI m ∧ okT cd m
def St (h : jm_H) : Prop := ∃ (F : Nat → Nat → Int32) (π : Nat → Nat) (sc rd cd p k l rs : Nat → Int32) (hs : Int64) (fL : Nat → Int64) (fD : Nat → UInt64), h = J F π sc rd cd (F 0) p k cd l rs hs fL fD ∧ Rl F π sc p k rs cd
def Ok (f g : jm_H → Option jm_X) : Prop := ∀ h, St h → ∃ (e y : Int32) (h1 h2 : jm_H), f h = rI e h1 ∧ jf_o 4 108 h1 (g h1) = rI y h2 ∧ jf_o 4 108 h2 (FX4_thrown 108 h2) = rI e h2 ∧ St h2 ∧ (e = 0 → ∀ G, jf_ldL h2 114 0 G = G y.toInt64)
theorem IA_ne : ¬ "java/lang/IllegalStateException" = "java/lang/IllegalArgumentException" := by decide
theorem IX_ne : ¬ "java/lang/IllegalStateException" = "java/lang/IndexOutOfBoundsException" := by decide
theorem AX_ne : ¬ "java/lang/IllegalArgumentException" = "java/lang/IndexOutOfBoundsException" := by decide
theorem TI_r {y : Int32} {h : jm_H} {f : Int32 → jm_H → Option jm_X} {g : String → jm_H → Option jm_X} : jf_TI (rI y h) f g = f y h := rfl
theorem TI_x {E : String} {h : jm_H} {f : Int32 → jm_H → Option jm_X} {g : String → jm_H → Option jm_X} : jf_TI (rX E h) f g = g E h := rfl
theorem rq0 {h : jm_H} : FX3_requireArgument 0 h = rX "java/lang/IllegalArgumentException" h := rfl
theorem rq1 {h : jm_H} : FX3_requireArgument 1 h = rV h := rfl
section FC
variable {F F' : Nat → Nat → Int32} {π π' : Nat → Nat} {sc rd cd v p k t l rs sc' rd' cd' p' k' l' rs' : Nat → Int32} {hs hs' : Int64} {fL : Nat → Int64} {fD : Nat → UInt64}
theorem j_stL {y : Int64} {g : jm_H → Option jm_X} : jf_stL (J F π sc rd cd v p k t l rs hs fL fD) 114 0 y g = g (J F π sc rd cd v p k t l rs hs (vp_updL fL 0 y) fD) := by
  have hh : (J F π sc rd cd v p k t l rs hs fL fD)[114]? = some (.inl (1, (1, .inr (.inl fL)))) := rfl
  unfold jf_stL
  rw [hh]
  simp only []
  rw [if_neg (by decide)]
  rfl
theorem j_ldL {g : Int64 → Option jm_X} : jf_ldL (J F π sc rd cd v p k t l rs hs fL fD) 114 0 g = g (fL 0) := by
  have hh : (J F π sc rd cd v p k t l rs hs fL fD)[114]? = some (.inl (1, (1, .inr (.inl fL)))) := rfl
  unfold jf_ldL
  rw [hh]
  simp only []
  rw [if_neg (by decide)]
  rfl
theorem j_o4 {r : Option jm_X} : jf_o 4 108 (J F π sc rd cd v p k t l rs hs fL fD) r = r := r_o (clsH_len F π sc rd cd)
theorem j_thrown : FX4_thrown 108 (J F π sc rd cd v p k t l rs hs fL fD) = rI (rs 3) (J F π sc rd cd v p k t l rs hs fL fD) := r_thrown (clsH_len F π sc rd cd)
theorem updL_0 {y : Int64} : vp_updL fL 0 y 0 = y := by simp [vp_updL]
theorem Ok_x {f g : jm_H → Option jm_X} {h : jm_H} {e y : Int32} (hR : Rl F π sc p k rs cd) (hf : f h = rI e (J F π sc rd' cd (F 0) p k cd l rs hs fL fD)) (he : e ≠ 0)
    (hg : g (J F π sc rd' cd (F 0) p k cd l rs hs fL fD) = rI y (J F π sc rd' cd (F 0) p k cd l' rs' hs fL fD)) (h3 : rs' 3 = e) (h0 : rs' 0 = rs 0 ∧ rs' 1 = rs 1 ∧ rs' 2 = rs 2) :
    ∃ (e y : Int32) (h1 h2 : jm_H), f h = rI e h1 ∧ jf_o 4 108 h1 (g h1) = rI y h2 ∧ jf_o 4 108 h2 (FX4_thrown 108 h2) = rI e h2 ∧ St h2 ∧ (e = 0 → ∀ G, jf_ldL h2 114 0 G = G y.toInt64) := by
  refine ⟨e, y, _, _, hf, ?_, ?_, ⟨F, π, sc, rd', cd, p, k, l', rs', hs, fL, fD, rfl, ?_⟩, fun h => absurd h he⟩
  · rw [j_o4, hg]
  · rw [j_o4, j_thrown, h3]
  · obtain ⟨a, ⟨n, b1, b2, b3⟩, ⟨c1, c2⟩, m, d1, d2, d3⟩ := hR
    exact ⟨a, ⟨n, b1, h0.1.trans b2, b3⟩, ⟨c1.trans h0.2.1.symm, fun hh => c2 (by rw [← h0.2.1]; exact hh)⟩, m, d1, h0.2.2.trans d2, d3⟩
theorem Ok_r {f g : jm_H → Option jm_X} {h : jm_H} {y : Int32} (hR : Rl F' π' sc' p' k' rs' cd') (hf : f h = rI 0 (J F' π' sc' rd' cd' v p k t l rs hs (vp_updL fL 0 y.toInt64) fD))
    (hg : g (J F' π' sc' rd' cd' v p k t l rs hs (vp_updL fL 0 y.toInt64) fD) = rI y (J F' π' sc' rd' cd' (F' 0) p' k' cd' l' rs' hs' (vp_updL fL 0 y.toInt64) fD)) (h3 : rs' 3 = 0) :
    ∃ (e y : Int32) (h1 h2 : jm_H), f h = rI e h1 ∧ jf_o 4 108 h1 (g h1) = rI y h2 ∧ jf_o 4 108 h2 (FX4_thrown 108 h2) = rI e h2 ∧ St h2 ∧ (e = 0 → ∀ G, jf_ldL h2 114 0 G = G y.toInt64) := by
  refine ⟨0, y, _, _, hf, ?_, ?_, ⟨F', π', sc', rd', cd', p', k', l', rs', hs', vp_updL fL 0 y.toInt64, fD, rfl, hR⟩, fun _ G => ?_⟩
  · rw [j_o4, hg]
  · rw [j_o4, j_thrown, h3]
  · rw [j_ldL, updL_0]
/-- what is kept when a row becomes another behind a saving -/
theorem Rl_save {n : Nat} {w : Nat → Int32} (hI : Iv (F 0)) (hS : Sv F π p n) (hK : sc 0 = rs 1 ∧ (rs 1 ≠ 0 → Iv (F 1) ∧ ∀ x, x < 132 → F 1 x = k x)) (hM : ∃ m, sc 2 = nI m ∧ rs 2 = nI m ∧ okT cd m) (hw : Iv w)
    (hr : rs' 0 = nI (svN n) ∧ rs' 1 = rs 1 ∧ rs' 2 = rs 2) : Rl (fu (fu F (πs π n (πn n) + 2) (F 0)) 0 w) (πs π n) (upd sc 1 (nI (svN n))) (sv p n (F 0)) k rs' cd := by
  refine ⟨by rw [fu_s]; exact hw, ⟨svN n, pk_us, hr.1, Sv_now (Sv_save hS hI) (by decide)⟩, ⟨?_, fun hh => ?_⟩, ?_⟩
  · rw [pk_un (by decide), hr.2.1]; exact hK.1
  · rw [fu_n (by decide), fu_n (by omega)]
    exact hK.2 (by rw [← hr.2.1]; exact hh)
  · obtain ⟨m, h1, h2, h3⟩ := hM
    exact ⟨m, by rw [pk_un (by decide)]; exact h1, hr.2.2.trans h2, h3⟩
theorem fu_0 {i : Nat} {w : Nat → Int32} : fu F (i + 2) w 0 = F 0 := fu_n (by omega)
abbrev JS (F : Nat → Nat → Int32) (π : Nat → Nat) (sc rd cd : Nat → Int32) (n : Nat) (w v p k t l rs : Nat → Int32) (hs : Int64) (fL : Nat → Int64) (fD : Nat → UInt64) : jm_H := J (fu (fu F (πs π n (πn n) + 2) (F 0)) 0 w) (πs π n) (upd sc 1 (nI (svN n))) rd cd v p k t l rs hs fL fD
/-- a call that saves and changes the row -/
theorem Ok_s {f g : jm_H → Option jm_X} {h : jm_H} {y : Int32} {n : Nat} {w : Nat → Int32} (hR : Rl F π sc p k rs cd) (hn : sc 1 = nI n) (hS : Sv F π p n) (hw : Iv w) (hf : f h = rI 0 (JS F π sc rd cd n w (F 0) p k cd l rs hs (vp_updL fL 0 y.toInt64) fD))
    (hg : g (JS F π sc rd cd n w (F 0) p k cd l rs hs (vp_updL fL 0 y.toInt64) fD) = rI y (JS F π sc rd cd n w w (sv p n (F 0)) k cd l' rs' hs (vp_updL fL 0 y.toInt64) fD)) (h3 : rs' 3 = 0 ∧ rs' 0 = nI (svN n) ∧ rs' 1 = rs 1 ∧ rs' 2 = rs 2) :
    ∃ (e y : Int32) (h1 h2 : jm_H), f h = rI e h1 ∧ jf_o 4 108 h1 (g h1) = rI y h2 ∧ jf_o 4 108 h2 (FX4_thrown 108 h2) = rI e h2 ∧ St h2 ∧ (e = 0 → ∀ G, jf_ldL h2 114 0 G = G y.toInt64) := by
  have hR2 := Rl_save (rs' := rs') (n := n) (w := w) hR.1 hS hR.2.2.1 hR.2.2.2 hw h3.2
  refine Ok_r (l' := l') (hs' := hs) hR2 hf ?_ h3.1
  rw [hg, fu_s]
/-- a call that changes nothing -/
theorem Ok_q {f g : jm_H → Option jm_X} {h : jm_H} {y : Int32} (hR : Rl F π sc p k rs cd) (hf : f h = rI 0 (J F π sc rd' cd (F 0) p k cd l rs hs (vp_updL fL 0 y.toInt64) fD))
    (hg : g (J F π sc rd' cd (F 0) p k cd l rs hs (vp_updL fL 0 y.toInt64) fD) = rI y (J F π sc rd' cd (F 0) p k cd l' rs' hs (vp_updL fL 0 y.toInt64) fD)) (h3 : rs' 3 = 0 ∧ rs' 0 = rs 0 ∧ rs' 1 = rs 1 ∧ rs' 2 = rs 2) :
    ∃ (e y : Int32) (h1 h2 : jm_H), f h = rI e h1 ∧ jf_o 4 108 h1 (g h1) = rI y h2 ∧ jf_o 4 108 h2 (FX4_thrown 108 h2) = rI e h2 ∧ St h2 ∧ (e = 0 → ∀ G, jf_ldL h2 114 0 G = G y.toInt64) := by
  obtain ⟨a, ⟨n, b1, b2, b3⟩, ⟨c1, c2⟩, m, d1, d2, d3⟩ := hR
  have hR2 : Rl F π sc p k rs' cd := ⟨a, ⟨n, b1, h3.2.1.trans b2, b3⟩, ⟨c1.trans h3.2.2.1.symm, fun hh => c2 (by rw [← h3.2.2.1]; exact hh)⟩, m, d1, h3.2.2.2.trans d2, d3⟩
  exact Ok_r hR2 hf hg h3.1
end FC
