/-! P34: the law's loops (printed by wip/p34/law34.py) -/
abbrev wq (fL : Nat → Int64) : jm_H := [.inl (1, (64, .inr (.inl fL)))]
def l6 (T : List (Nat → Int32)) : List (Nat → Int32) := T.drop (T.length - 6)
theorem l6_len (T : List (Nat → Int32)) : (l6 T).length = if 6 ≤ T.length then 6 else T.length := by
  unfold l6
  rw [List.length_drop]
  split <;> omega
theorem psh_l6 (T : List (Nat → Int32)) (v : Nat → Int32) : psh (l6 T) v = l6 (T ++ [v]) := by
  have hl := l6_len T
  unfold psh
  by_cases h : 6 ≤ T.length
  · rw [if_pos h] at hl
    rw [if_pos hl]
    unfold l6
    rw [List.tail_drop, List.length_append, List.length_singleton, List.drop_append_of_le_length (by omega), show T.length + 1 - 6 = T.length - 6 + 1 by omega]
  · rw [if_neg h] at hl
    rw [if_neg (by omega)]
    unfold l6
    rw [List.length_append, List.length_singleton, show T.length - 6 = 0 by omega, show T.length + 1 - 6 = 0 by omega]
    rfl
theorem div_e {x c : Nat} (hx : x < 4000) (hc : 0 < c) (hc2 : c < 4000) : nI x / nI c = nI (x / c) ∧ nI x - nI x / nI c * nI c = nI (x % c) := by
  have e1 : nI x / nI c = nI (x / c) := pk_div (by omega) hc (by omega)
  refine ⟨e1, ?_⟩
  rw [e1, pk_mul, pk_sub (Nat.div_mul_le_self x c)]
  congr 1
  have := Nat.div_add_mod x c
  rw [Nat.mul_comm] at this
  omega
theorem oe_film {v : Nat → Int32} {a b : Int32} {E : String} (ho : o_film v a b = .inr E) : okE E := by
  unfold o_film at ho
  repeat' (split at ho)
  all_goals first | (cases ho; exact okX) | (cases ho; exact okA9) | (cases ho; exact okI9) | cases ho
theorem oe_seats {v : Nat → Int32} {a b : Int32} {E : String} (ho : o_seats v a b = .inr E) : okE E := by
  unfold o_seats at ho
  repeat' (split at ho)
  all_goals first | (cases ho; exact okX) | (cases ho; exact okA9) | (cases ho; exact okI9) | cases ho
theorem oe_set {v : Nat → Int32} {a b : Int32} {E : String} (ho : o_set v a b = .inr E) : okE E := by
  unfold o_set at ho
  repeat' (split at ho)
  all_goals first | (cases ho; exact okX) | (cases ho; exact okA9) | (cases ho; exact okI9) | cases ho
theorem oe_show {v : Nat → Int32} {a b x y : Int32} {E : String} (ho : o_show v a b x y = .inr E) : okE E := by
  unfold o_show at ho
  repeat' (split at ho)
  all_goals first | (cases ho; exact okX) | (cases ho; exact okA9) | (cases ho; exact okI9) | cases ho
theorem oe_callOff {v : Nat → Int32} {a : Int32} {E : String} (ho : o_callOff v a = .inr E) : okE E := by
  unfold o_callOff at ho
  repeat' (split at ho)
  all_goals first | (cases ho; exact okX) | (cases ho; exact okA9) | (cases ho; exact okI9) | cases ho
theorem oe_move {v : Nat → Int32} {a b : Int32} {E : String} (ho : o_move v a b = .inr E) : okE E := by
  unfold o_move at ho
  repeat' (split at ho)
  all_goals first | (cases ho; exact okX) | (cases ho; exact okA9) | (cases ho; exact okI9) | cases ho
theorem oe_guest {v : Nat → Int32} {a b x : Int32} {E : String} (ho : o_guest v a b x = .inr E) : okE E := by
  unfold o_guest at ho
  repeat' (split at ho)
  all_goals first | (cases ho; exact okX) | (cases ho; exact okA9) | (cases ho; exact okI9) | cases ho
theorem oe_attend {v : Nat → Int32} {a b : Int32} {E : String} (ho : o_attend v a b = .inr E) : okE E := by
  unfold o_attend at ho
  repeat' (split at ho)
  all_goals first | (cases ho; exact okX) | (cases ho; exact okA9) | (cases ho; exact okI9) | cases ho
theorem oe_vote {v : Nat → Int32} {a b x : Int32} {E : String} (ho : o_vote v a b x = .inr E) : okE E := by
  unfold o_vote at ho
  repeat' (split at ho)
  all_goals first | (cases ho; exact okX) | (cases ho; exact okA9) | (cases ho; exact okI9) | cases ho
section LW
variable {fL : Nat → Int64} {v w κ : Nat → Int32} {S T0 W : List (Nat → Int32)} {K : Option (Nat → Int32)} {B : List Int32} {h : jm_H} {N L : Nat} {xs : Nat → Int32}
theorem wq_ld (cs : Cs (wq fL) v S K B h) {i : Nat} (hi : i < 64) {G : Int64 → Option jm_X} : jf_ldL h 108 (nI i) G = G (fL i) := by
  obtain ⟨F, π, sc, rd, cd, rfl, -⟩ := cs
  have hh : (hC F π sc rd cd (wq fL))[108]? = some (.inl (1, (64, .inr (.inl fL)))) := rfl
  unfold jf_ldL
  rw [hh]
  simp only [if_neg (nI_in (c := i) (N := 64) hi (by decide))]
  rw [nI_clamp (by omega)]
theorem wq_st (cs : Cs (wq fL) v S K B h) {i : Nat} (hi : i < 64) (y : Int64) : ∃ h', (∀ G : jm_H → Option jm_X, jf_stL h 108 (nI i) y G = G h') ∧ Cs (wq (vp_updL fL i y)) v S K B h' := by
  obtain ⟨F, π, sc, rd, cd, rfl, hr⟩ := cs
  refine ⟨hC F π sc rd cd (wq (vp_updL fL i y)), fun G => ?_, F, π, sc, rd, cd, rfl, hr⟩
  have hh : (hC F π sc rd cd (wq fL))[108]? = some (.inl (1, (64, .inr (.inl fL)))) := rfl
  unfold jf_stL
  rw [hh]
  simp only [if_neg (nI_in (c := i) (N := 64) hi (by decide))]
  rw [nI_clamp (by omega)]
  rfl
theorem uL_s {i : Nat} {y : Int64} : vp_updL fL i y i = y := by simp [vp_updL]
theorem uL_n {i j : Nat} {y : Int64} (h : j ≠ i) : vp_updL fL i y j = fL j := by simp [vp_updL, h]
def LI (κ : Nat → Int32) (T0 : List (Nat → Int32)) (v : Nat → Int32) (W : List (Nat → Int32)) (h : jm_H) : Prop := ∃ fL, Cs (wq fL) v (l6 (T0 ++ W)) (some κ) [] h ∧ ∀ i w, W[i]? = some w → fL i = seenP w
theorem kLw {kc ks : Nat} {r : Option jm_X} (h : kc ≤ 600086 ∧ ks ≤ 7301442) : jf_k (M_L_law L xs) kc ks r = r := k_ok h
theorem part_e {x : Int32} {p : Int32} (hp : ¬ p = 0) : ∃ y, ∀ h, FL_part x p h = rI y h := ⟨_, fun h => by unfold FL_part jf_d; rw [if_neg hp]⟩
theorem drawn_e (hL : L < 4000) {k : Nat} (hk : k < 28) : ∃ y, ∀ h, FL_drawn L xs (nI k) h = rI y h := by
  by_cases h0 : L = 0
  · subst h0
    exact ⟨_, fun h => by unfold FL_drawn; rw [if_pos (show Int32.ofNat 0 = 0 from rfl)]⟩
  · have hne : ¬ Int32.ofNat L = 0 := fun e => h0 ((nI_eq (a := L) (b := 0) (by omega) (by decide)).mp e)
    have hr : nI k - nI k / Int32.ofNat L * Int32.ofNat L = nI (k % L) := by
      exact (div_e (c := L) (by omega) (by omega) (by omega)).2
    refine ⟨((xs (nI (k % L)).toNatClampNeg >>> ((nI k - nI k / (7 : Int32) * (7 : Int32)) &&& 31)) ^^^ ((nI k / Int32.ofNat L) * (31 : Int32))) ^^^ (nI k * (2654435 : Int32)), fun h => ?_⟩
    unfold FL_drawn jf_d jf_s
    rw [if_neg hne, if_neg hne, hr, if_neg (nI_in (c := k % L) (N := L) (Nat.mod_lt _ (by omega)) (by omega)), if_neg hne]
/-- how a call of the loop ends: it saved and answers no negative number, or nothing changed -/
def cEnd (q : jm_H) (v : Nat → Int32) (S : List (Nat → Int32)) (K : Option (Nat → Int32)) (h : jm_H) (r : Option jm_X) : Prop := (∃ (y : Int32) (h' : jm_H) (w : Nat → Int32), r = rI y h' ∧ 0 ≤ y ∧ Cs q w (psh S v) K [] h') ∨ ∃ y : Int32, r = rI y h ∧ ¬ 0 ≤ y
theorem cdE_n {E : String} (hE : okE E) : ¬ 0 ≤ cdE E := by
  rcases hE with rfl | rfl | rfl
  · rw [cdX]; decide
  · rw [cdA]; decide
  · rw [cdI]; decide
theorem ce_0 {q : jm_H} {a b c : Int32} {l : Int64} (hN : 2001 ≤ N) (cs : Cs q v S K [] h) : cEnd q v S K h (FL_call N 0 0 a b c l h) := by
  rcases ho : o_film v a b with p | E
  · obtain ⟨y, w⟩ := p
    obtain ⟨i1, i2⟩ := iv_film (Cs_Iv cs) ho
    obtain ⟨h2, e, c2⟩ := cL_0 (a := a) (b := b) (c := c) (l := l) hN cs ho i1
    exact Or.inl ⟨y, h2, w, e, i2, c2⟩
  · have hE := oe_film ho
    exact Or.inr ⟨_, cR_0 (a := a) (b := b) (c := c) (l := l) hN cs hE ho, cdE_n hE⟩
theorem ce_1 {q : jm_H} {a b c : Int32} {l : Int64} (hN : 2001 ≤ N) (cs : Cs q v S K [] h) : cEnd q v S K h (FL_call N 0 1 a b c l h) := by
  rcases ho : o_seats v a b with p | E
  · obtain ⟨y, w⟩ := p
    obtain ⟨i1, i2⟩ := iv_seats (Cs_Iv cs) ho
    obtain ⟨h2, e, c2⟩ := cL_1 (a := a) (b := b) (c := c) (l := l) hN cs ho i1
    exact Or.inl ⟨y, h2, w, e, i2, c2⟩
  · have hE := oe_seats ho
    exact Or.inr ⟨_, cR_1 (a := a) (b := b) (c := c) (l := l) hN cs hE ho, cdE_n hE⟩
theorem ce_2 {q : jm_H} {a b c : Int32} {l : Int64} (hN : 2001 ≤ N) (cs : Cs q v S K [] h) : cEnd q v S K h (FL_call N 0 2 a b c l h) := by
  rcases ho : o_set v a b with p | E
  · obtain ⟨y, w⟩ := p
    obtain ⟨i1, i2⟩ := iv_set (Cs_Iv cs) ho
    obtain ⟨h2, e, c2⟩ := cL_2 (a := a) (b := b) (c := c) (l := l) hN cs ho i1
    exact Or.inl ⟨y, h2, w, e, i2, c2⟩
  · have hE := oe_set ho
    exact Or.inr ⟨_, cR_2 (a := a) (b := b) (c := c) (l := l) hN cs hE ho, cdE_n hE⟩
theorem ce_3 {q : jm_H} {a b c : Int32} {l : Int64} (hN : 2001 ≤ N) (cs : Cs q v S K [] h) : cEnd q v S K h (FL_call N 0 3 a b c l h) := by
  rcases ho : o_show v a b c (eL l) with p | E
  · obtain ⟨y, w⟩ := p
    obtain ⟨i1, i2⟩ := iv_show (Cs_Iv cs) ho
    obtain ⟨h2, e, c2⟩ := cL_3 (a := a) (b := b) (c := c) (l := l) hN cs ho i1
    exact Or.inl ⟨y, h2, w, e, i2, c2⟩
  · have hE := oe_show ho
    exact Or.inr ⟨_, cR_3 (a := a) (b := b) (c := c) (l := l) hN cs hE ho, cdE_n hE⟩
theorem ce_4 {q : jm_H} {a b c : Int32} {l : Int64} (hN : 2001 ≤ N) (cs : Cs q v S K [] h) : cEnd q v S K h (FL_call N 0 4 a b c l h) := by
  rcases ho : o_callOff v a with p | E
  · obtain ⟨y, w⟩ := p
    obtain ⟨i1, i2⟩ := iv_callOff (Cs_Iv cs) ho
    obtain ⟨h2, e, c2⟩ := cL_4 (a := a) (b := b) (c := c) (l := l) hN cs ho i1
    exact Or.inl ⟨y, h2, w, e, i2, c2⟩
  · have hE := oe_callOff ho
    exact Or.inr ⟨_, cR_4 (a := a) (b := b) (c := c) (l := l) hN cs hE ho, cdE_n hE⟩
theorem ce_5 {q : jm_H} {a b c : Int32} {l : Int64} (hN : 2001 ≤ N) (cs : Cs q v S K [] h) : cEnd q v S K h (FL_call N 0 5 a b c l h) := by
  rcases ho : o_move v a b with p | E
  · obtain ⟨y, w⟩ := p
    obtain ⟨i1, i2⟩ := iv_move (Cs_Iv cs) ho
    obtain ⟨h2, e, c2⟩ := cL_5 (a := a) (b := b) (c := c) (l := l) hN cs ho i1
    exact Or.inl ⟨y, h2, w, e, i2, c2⟩
  · have hE := oe_move ho
    exact Or.inr ⟨_, cR_5 (a := a) (b := b) (c := c) (l := l) hN cs hE ho, cdE_n hE⟩
theorem ce_6 {q : jm_H} {a b c : Int32} {l : Int64} (hN : 2001 ≤ N) (cs : Cs q v S K [] h) : cEnd q v S K h (FL_call N 0 6 a b c l h) := by
  rcases ho : o_guest v a b c with p | E
  · obtain ⟨y, w⟩ := p
    obtain ⟨i1, i2⟩ := iv_guest (Cs_Iv cs) ho
    obtain ⟨h2, e, c2⟩ := cL_6 (a := a) (b := b) (c := c) (l := l) hN cs ho i1
    exact Or.inl ⟨y, h2, w, e, i2, c2⟩
  · have hE := oe_guest ho
    exact Or.inr ⟨_, cR_6 (a := a) (b := b) (c := c) (l := l) hN cs hE ho, cdE_n hE⟩
theorem ce_7 {q : jm_H} {a b c : Int32} {l : Int64} (hN : 2001 ≤ N) (cs : Cs q v S K [] h) : cEnd q v S K h (FL_call N 0 7 a b c l h) := by
  rcases ho : o_attend v a b with p | E
  · obtain ⟨y, w⟩ := p
    obtain ⟨i1, i2⟩ := iv_attend (Cs_Iv cs) ho
    obtain ⟨h2, e, c2⟩ := cL_7 (a := a) (b := b) (c := c) (l := l) hN cs ho i1
    exact Or.inl ⟨y, h2, w, e, i2, c2⟩
  · have hE := oe_attend ho
    exact Or.inr ⟨_, cR_7 (a := a) (b := b) (c := c) (l := l) hN cs hE ho, cdE_n hE⟩
theorem ce_8 {q : jm_H} {a b c : Int32} {l : Int64} (hN : 2001 ≤ N) (cs : Cs q v S K [] h) : cEnd q v S K h (FL_call N 0 8 a b c l h) := by
  rcases ho : o_vote v a b c with p | E
  · obtain ⟨y, w⟩ := p
    obtain ⟨i1, i2⟩ := iv_vote (Cs_Iv cs) ho
    obtain ⟨h2, e, c2⟩ := cL_8 (a := a) (b := b) (c := c) (l := l) hN cs ho i1
    exact Or.inl ⟨y, h2, w, e, i2, c2⟩
  · have hE := oe_vote ho
    exact Or.inr ⟨_, cR_8 (a := a) (b := b) (c := c) (l := l) hN cs hE ho, cdE_n hE⟩
theorem ce_13 {q : jm_H} {a b c : Int32} {l : Int64} (hN : 2001 ≤ N) (cs : Cs q v S (some κ) [] h) (hκ : 0 ≤ κ 1) : cEnd q v S (some κ) h (FL_call N 0 13 a b c l h) := by
  obtain ⟨h2, e, c2⟩ := cL_13 (a := a) (b := b) (c := c) (l := l) hN cs
  exact Or.inl ⟨_, _, _, e, hκ, c2⟩
/-- behind the call -/
noncomputable def tl98 (L : Nat) (xs : Nat → Int32) (N n kc ks : Nat) (l4 : Int64) (x3 x6 x0 y : Int32) (h : jm_H) : Option jm_X := if 0 ≤ y then (FL_law_98 L xs N n (kc + 553) (ks + 3318) 0 108 (x3 + (1 : Int32)) l4 (x6 + (1 : Int32)) h) else jf_k (M_L_law L xs) (kc + 554) (ks + 3324) (jf_I (jf_o 3 0 h (FX3_count N 0 ((11 : Int32)) h)) fun x185 h184 => if x185 = x0 then (jf_k (M_L_law L xs) (kc + 1045) (ks + 6270) (jf_L (FL_seen N 0 h184) fun l187 h186 => jf_ldL h186 108 x3 fun l188 => if (lg_cmp l187 l188) = 0 then (FL_law_98 L xs N n (kc + 1045) (ks + 6270) 0 108 (x3 + ((0 : Int32))) l4 (x6 + (1 : Int32)) h186) else jf_w (kc + 1045) (ks + 6270) 75531 463384 (some (.inl (some (.int ((0 : Int32)))), h186)))) else jf_w (kc + 554) (ks + 3324) 75531 463384 (some (.inl (some (.int ((0 : Int32)))), h184)))
def gl98 (κ : Nat → Int32) (T0 : List (Nat → Int32)) (L : Nat) (xs : Nat → Int32) (N n kc ks k : Nat) (l4 : Int64) (r : Option jm_X) : Prop := ∃ v' W' h' kc' ks', r = FL_law_98 L xs N n kc' ks' 0 108 (nI (List.length W')) l4 (nI (k + 1)) h' ∧ kc' ≤ kc + 1045 ∧ ks' ≤ ks + 6270 ∧ LI κ T0 v' W' h' ∧ W'.length ≤ k + 1
theorem tl_e {n kc ks k : Nat} {l4 : Int64} {r : Option jm_X} {f : Int32 → jm_H → Option jm_X} (hN : 2001 ≤ N) (hk : k < 28) (hW : W.length ≤ k) (hc : kc + 1045 ≤ 600086 ∧ ks + 6270 ≤ 7301442) (hw : ∀ i w, W[i]? = some w → fL i = seenP w) (hm : fL W.length = seenP v) (cs : Cs (wq fL) v (l6 (T0 ++ W)) (some κ) [] h) (he : cEnd (wq fL) v (l6 (T0 ++ W)) (some κ) h r) (hf : f = tl98 L xs N n kc ks l4 (nI W.length) (nI k) (nI (l6 (T0 ++ W)).length)) : gl98 κ T0 L xs N n kc ks k l4 (jf_I r f) := by
  subst hf
  rcases he with ⟨y, h', w, rfl, hy, c2⟩ | ⟨y, rfl, hy⟩
  · rw [I_e]
    unfold tl98
    rw [if_pos hy, nI_1, nI_1]
    rw [psh_l6, List.append_assoc] at c2
    refine ⟨w, W ++ [v], h', kc + 553, ks + 3318, by simp, by omega, by omega, ⟨fL, c2, fun i u hu => ?_⟩, by simp; omega⟩
    by_cases hi : i = W.length
    · subst hi
      rw [List.getElem?_append_right (Nat.le_refl _)] at hu
      simp at hu
      rw [hm, hu]
    · have hl : i < W.length := by
        have := (List.getElem?_eq_some_iff.mp hu).1
        simp at this
        omega
      rw [List.getElem?_append_left hl] at hu
      exact hw i u hu
  · rw [I_e]
    unfold tl98
    rw [if_neg hy, kLw (by omega), Cs_o cs, ct_e11 hN cs, I_e, if_pos rfl, kLw (by omega), seen_e hN cs, L_e, wq_ld cs (by omega), hm, if_pos (lg_s _), nI_1, Int32.add_zero]
    exact ⟨v, W, h, kc + 1045, ks + 6270, rfl, by omega, by omega, ⟨fL, cs, hw⟩, by omega⟩
theorem lp98_s {n kc ks k : Nat} {l4 : Int64} (hN : 2001 ≤ N) (hL : L < 4000) (hκ : 0 ≤ κ 1) (hk : k < 28) (hW : W.length ≤ k) (hc : kc + 1045 ≤ 600086 ∧ ks + 6270 ≤ 7301442) (hi : LI κ T0 v W h) : gl98 κ T0 L xs N n kc ks k l4 (FL_law_98 L xs N (n + 1) kc ks 0 108 (nI W.length) l4 (nI k) h) := by
  obtain ⟨fL, cs0, hw0⟩ := hi
  obtain ⟨x, ex⟩ := drawn_e (L := L) (xs := xs) hL hk
  obtain ⟨h, est, cs⟩ := wq_st cs0 (i := W.length) (by omega) (seenP v)
  have hm : vp_updL fL W.length (seenP v) W.length = seenP v := uL_s
  have hw : ∀ i w, W[i]? = some w → vp_updL fL W.length (seenP v) i = seenP w := fun i w hw1 => by
    have := (List.getElem?_eq_some_iff.mp hw1).1
    rw [uL_n (by omega)]
    exact hw0 i w hw1
  have pe : ∀ (x p : Int32), ¬ p = 0 → ∃ y, ∀ h, FL_part x p h = rI y h := fun x p hp => part_e hp
  obtain ⟨y1, e1⟩ := pe x 18 (by decide)
  obtain ⟨y2, e2⟩ := pe (x >>> ((5 : Int32) &&& 31)) 4 (by decide)
  obtain ⟨y3, e3⟩ := pe (x >>> ((7 : Int32) &&& 31)) 4 (by decide)
  obtain ⟨y4, e4⟩ := pe (x >>> ((9 : Int32) &&& 31)) 900 (by decide)
  rw [FL_law_98, kLw (by omega), if_neg (show ¬ (28 : Int32) ≤ nI k from nI_ge (b := 28) hk (by decide)), ex, I_e, e1, I_e, kLw (by omega), seen_e hN cs0, L_e, est, kLw (by omega), Cs_o cs, ct_e11 hN cs, I_e, e2, I_e, e3, I_e, e4, I_e]
  have K : ∀ {r : Option jm_X} {f : Int32 → jm_H → Option jm_X}, cEnd (wq (vp_updL fL W.length (seenP v))) v (l6 (T0 ++ W)) (some κ) h r → f = tl98 L xs N n kc ks l4 (nI W.length) (nI k) (nI (l6 (T0 ++ W)).length) → gl98 κ T0 L xs N n kc ks k l4 (jf_I r f) := fun he hf => tl_e hN hk hW hc hw hm cs he hf
  by_cases b1 : (6 : Int32) ≤ y1
  · rw [if_pos b1]
    by_cases b2 : (8 : Int32) ≤ y1
    · rw [if_pos b2]
      by_cases b3 : y1 = 8
      · rw [if_pos b3, kLw (by omega)]
        exact K (ce_4 hN cs) rfl
      · rw [if_neg b3]
        by_cases b4 : (11 : Int32) ≤ y1
        · rw [if_pos b4]
          by_cases b5 : (13 : Int32) ≤ y1
          · rw [if_pos b5]
            by_cases b6 : y1 = 13
            · obtain ⟨y5, e5⟩ := pe (x >>> ((5 : Int32) &&& 31)) 3 (by decide)
              rw [if_pos b6, e5, I_e, kLw (by omega)]
              exact K (ce_6 hN cs) rfl
            · rw [if_neg b6]
              by_cases b7 : y1 = 14
              · obtain ⟨y5, e5⟩ := pe (x >>> ((9 : Int32) &&& 31)) 64 (by decide)
                rw [if_pos b7, e5, I_e, kLw (by omega)]
                exact K (ce_2 hN cs) rfl
              · rw [if_neg b7]
                by_cases b8 : y1 = 15
                · obtain ⟨y5, e5⟩ := pe (x >>> ((9 : Int32) &&& 31)) 420 (by decide)
                  rw [if_pos b8, e5, I_e, kLw (by omega)]
                  exact K (ce_1 hN cs) rfl
                · rw [if_neg b8]
                  by_cases b9 : y1 = 16
                  · obtain ⟨y5, e5⟩ := pe (x >>> ((9 : Int32) &&& 31)) 17 (by decide)
                    rw [if_pos b9, e5, I_e, kLw (by omega)]
                    exact K (ce_0 hN cs) rfl
                  · rw [if_neg b9, kLw (by omega)]
                    exact K (ce_13 hN cs hκ) rfl
          · obtain ⟨y5, e5⟩ := pe (x >>> ((7 : Int32) &&& 31)) 3 (by decide)
            obtain ⟨y6, e6⟩ := pe (x >>> ((9 : Int32) &&& 31)) 12 (by decide)
            rw [if_neg b5, e5, I_e, e6, I_e, kLw (by omega)]
            exact K (ce_8 hN cs) rfl
        · rw [if_neg b4, kLw (by omega)]
          exact K (ce_7 hN cs) rfl
    · rw [if_neg b2, kLw (by omega)]
      exact K (ce_5 hN cs) rfl
  · obtain ⟨y5, e5⟩ := pe (x >>> ((5 : Int32) &&& 31)) 3 (by decide)
    obtain ⟨y6, e6⟩ := pe (x >>> ((19 : Int32) &&& 31)) 27 (by decide)
    rw [if_neg b1, e5, I_e, e6, I_e, kLw (by omega)]
    exact K (ce_3 hN cs) rfl
theorem lp98 {l4 : Int64} (hN : 2001 ≤ N) (hL : L < 4000) (hκ : 0 ≤ κ 1) : ∀ (d n kc ks k : Nat) (v : Nat → Int32) (W : List (Nat → Int32)) (h : jm_H), k + d = 28 → d < n → kc + 1045 * d ≤ 600086 ∧ ks + 6270 * d ≤ 7301442 → W.length ≤ k → LI κ T0 v W h →
    ∃ v' W' h' n' kc' ks', FL_law_98 L xs N n kc ks 0 108 (nI W.length) l4 (nI k) h = FL_law_98 L xs N (n' + 1) kc' ks' 0 108 (nI (List.length W')) l4 (nI 28) h' ∧ kc' ≤ kc + 1045 * d ∧ ks' ≤ ks + 6270 * d ∧ LI κ T0 v' W' h' ∧ W'.length ≤ 28
  | 0, n, kc, ks, k, v, W, h, hk, hn, hc, hW, hi => by
    obtain ⟨n, rfl⟩ : ∃ m, n = m + 1 := ⟨n - 1, by omega⟩
    have : k = 28 := by omega
    subst this
    exact ⟨v, W, h, n, kc, ks, rfl, by omega, by omega, hi, hW⟩
  | d + 1, n, kc, ks, k, v, W, h, hk, hn, hc, hW, hi => by
    obtain ⟨n, rfl⟩ : ∃ m, n = m + 1 := ⟨n - 1, by omega⟩
    have g1 : k < 28 := by omega
    have g2 : kc + 1045 ≤ 600086 ∧ ks + 6270 ≤ 7301442 := by
      rw [Nat.mul_succ, Nat.mul_succ] at hc
      exact ⟨by omega, by omega⟩
    obtain ⟨v1, W1, h1, kc1, ks1, e1, a1, a2, i1, w1⟩ := lp98_s (L := L) (xs := xs) (n := n) (kc := kc) (ks := ks) (l4 := l4) hN hL hκ g1 hW g2 hi
    obtain ⟨v2, W2, h2, n2, kc2, ks2, e2, b1, b2, i2, w2⟩ := lp98 hN hL hκ d n kc1 ks1 (k + 1) v1 W1 h1 (by omega) (by omega) (by omega) w1 i1
    exact ⟨v2, W2, h2, n2, kc2, ks2, e1.trans e2, by omega, by omega, i2, w2⟩
/-! undoing all -/
theorem fin_e {l4 : Int64} (hN : 2001 ≤ N) (hκ : κ 1 = 1) (h4 : seenP κ = l4) (cs : Cs (wq fL) v [] (some κ) [] h) : ∃ h', (jf_I (FL_call N 0 ((12 : Int32)) ((0 : Int32)) ((0 : Int32)) ((0 : Int32)) ((0 : Int64)) h) fun x102 h101 => if x102 = ((-13 : Int32)) then (jf_I (jf_o 3 0 h101 (FX3_restore N 0 h101)) fun x104 h103 => if x104 = ((1 : Int32)) then (jf_L (FL_seen N 0 h103) fun l106 h105 => if (lg_cmp l106 l4) = 0 then (jf_I (jf_o 3 0 h105 (FX3_count N 0 ((11 : Int32)) h105)) fun x108 h107 => if x108 = ((1 : Int32)) then (some (.inl (some (.int ((1 : Int32)))), h107)) else some (.inl (some (.int ((0 : Int32)))), h107)) else some (.inl (some (.int ((0 : Int32)))), h105)) else some (.inl (some (.int ((0 : Int32)))), h103)) else some (.inl (some (.int ((0 : Int32)))), h101)) = rI 1 h' := by
  obtain ⟨h2, e2, c2⟩ := st_restore (N := N) (by omega) cs
  refine ⟨h2, ?_⟩
  rw [cR_12 cs, I_e, if_pos rfl, Cs_o cs, e2, hκ, I_e, if_pos rfl, seen_e hN c2, h4, L_e, if_pos (lg_s _), Cs_o c2, ct_e11 hN c2, I_e, if_pos (show nI (psh [] v).length = 1 by rw [psh_len]; rfl)]
theorem lp594 {l4 : Int64} (hN : 2001 ≤ N) (hκ : κ 1 = 1) (h4 : seenP κ = l4) : ∀ (d n kc ks k : Nat) (v : Nat → Int32) (S : List (Nat → Int32)) (h : jm_H), k + d = 6 → d < n → kc + 2 * d + 1 ≤ 93442 ∧ ks + 12 * d + 6 ≤ 570850 → S.length ≤ d → Cs (wq fL) v S (some κ) [] h → ∃ h', FL_law_594 L xs N n kc ks 0 l4 (nI k) h = rI 1 h'
  | 0, n, kc, ks, k, v, S, h, hk, hn, hc, hS, cs => by
    obtain ⟨n, rfl⟩ : ∃ m, n = m + 1 := ⟨n - 1, by omega⟩
    have : k = 6 := by omega
    subst this
    have : S = [] := List.length_eq_zero_iff.mp (by omega)
    subst this
    rw [FL_law_594, kLw (by omega), if_pos (show (6 : Int32) ≤ nI 6 by decide), w_ok (by omega)]
    exact fin_e hN hκ h4 cs
  | d + 1, n, kc, ks, k, v, S, h, hk, hn, hc, hS, cs => by
    obtain ⟨n, rfl⟩ : ∃ m, n = m + 1 := ⟨n - 1, by omega⟩
    have h6 := Cs_S6 cs
    rw [FL_law_594, kLw (by omega), if_neg (show ¬ (6 : Int32) ≤ nI k from nI_ge (b := 6) (by omega) (by decide)), kLw (by omega), Cs_o cs, ct_e11 hN cs, I_e]
    rcases List.eq_nil_or_concat S with rfl | ⟨S1, u, rfl⟩
    · rw [if_pos (show nI ([] : List (Nat → Int32)).length ≤ 0 by decide), w_ok (by omega)]
      exact fin_e hN hκ h4 cs
    · rw [List.concat_eq_append] at cs hS h6 ⊢
      have hl : (S1 ++ [u]).length = S1.length + 1 := by simp
      rw [hl] at hS h6 ⊢
      obtain ⟨h2, e2, c2⟩ := st_undo cs
      rw [if_neg (show ¬ nI (S1.length + 1) ≤ 0 from nI_ge (a := 0) (by omega) (by omega)), kLw (by omega), Cs_o cs, e2, I_e, if_pos (nn (by omega)), nI_1]
      exact lp594 hN hκ h4 d n (kc + 2) (ks + 12) (k + 1) u S1 h2 (by omega) (by omega) (by omega) (by omega) c2
theorem lp529 {l4 : Int64} (hN : 2001 ≤ N) (hκ : κ 1 = 1) (h4 : seenP κ = l4) {m : Nat} (hm : m ≤ 28) {Z : List (Nat → Int32)} (hZ : Z.length = m + 1) (hf : ∀ i w, Z[i]? = some w → fL i = seenP w) : ∀ (d n kc ks k : Nat) (v : Nat → Int32) (S : List (Nat → Int32)) (h : jm_H), S.length ≤ d → d + k ≤ 6 → k ≤ m → d < n → kc + 494 * d + 1 ≤ 93428 ∧ ks + 2964 * d + 6 ≤ 570766 → (∀ i w, k + i + 1 ≤ m → S[S.length - 1 - i]? = some w → i < S.length → Z[m - (k + i + 1)]? = some w) → Z[m - k]? = some v → Cs (wq fL) v S (some κ) [] h → ∃ h', FL_law_529 L xs N n kc ks 0 108 (nI m) l4 (nI k) h = rI 1 h'
  | d, n, kc, ks, k, v, S, h, hS, hd, hk, hn, hc, hT, hv, cs => by
    obtain ⟨n, rfl⟩ : ∃ m, n = m + 1 := ⟨n - 1, by omega⟩
    have h6 := Cs_S6 cs
    rw [FL_law_529, kLw (by omega), kLw (by omega), Cs_o cs, ct_e11 hN cs, I_e]
    rcases List.eq_nil_or_concat S with rfl | ⟨S1, u, rfl⟩
    · rw [if_pos (show nI ([] : List (Nat → Int32)).length ≤ 0 by decide), w_ok (by omega)]
      exact lp594 (n := N) (kc := 93428) (ks := 570766) (k := 0) (d := 6) hN hκ h4 v [] h (by omega) (by omega) (by decide) (by decide) cs
    · rw [List.concat_eq_append] at cs hS h6 hT ⊢
      have hl : (S1 ++ [u]).length = S1.length + 1 := by simp
      rw [hl] at hS h6 hT ⊢
      rw [if_neg (show ¬ nI (S1.length + 1) ≤ 0 from nI_ge (a := 0) (by omega) (by omega))]
      by_cases hkm : m ≤ k
      · rw [if_pos (nI_le hkm (by omega)), w_ok (by omega)]
        exact lp594 (n := N) (kc := 93428) (ks := 570766) (k := 0) (d := 6) hN hκ h4 v (S1 ++ [u]) h (by omega) (by omega) (by decide) (by omega) cs
      · obtain ⟨h2, e2, c2⟩ := st_undo cs
        have e9 : nI m - nI k = nI (m - k) := pk_sub (by omega)
        rw [if_neg (nI_ge (by omega) (by omega)), kLw (by omega), Cs_o cs, ct_e11 hN cs, I_e, if_neg (show ¬ (5 : Int32) < nI k from nI_nlt (a := 5) (by omega) (by omega)), kLw (by omega), seen_e hN cs, L_e, e9, wq_ld cs (by omega), hf _ _ hv, if_pos (lg_s _), kLw (by omega), Cs_o cs, e2, I_e, hl, show (1 : Int32) = nI 1 from rfl, pk_sub (by omega), if_pos (by rw [Nat.add_sub_cancel]), show (nI 1 : Int32) = 1 from rfl, nI_1]
        have hu : Z[m - (k + 1)]? = some u := by
          have := hT 0 u (by omega) (by simp) (by omega)
          exact this
        obtain ⟨d, rfl⟩ : ∃ d', d = d' + 1 := ⟨d - 1, by omega⟩
        refine lp529 hN hκ h4 hm hZ hf d n (kc + 494) (ks + 2964) (k + 1) u S1 h2 (by omega) (by omega) (by omega) (by omega) (by omega) (fun i w g1 g2 g3 => ?_) hu c2
        have := hT (i + 1) w (by omega) (by rw [List.getElem?_append_left (by omega), show S1.length + 1 - 1 - (i + 1) = S1.length - 1 - i by omega]; exact g2) (by omega)
        rw [show k + 1 + i + 1 = k + (i + 1) + 1 by omega]
        exact this
/-- what stands saved, from behind -/
theorem l6_back {T0 W : List (Nat → Int32)} {v : Nat → Int32} {i : Nat} {w : Nat → Int32} (h1 : i + 1 ≤ W.length) (h2 : (l6 (T0 ++ W))[(l6 (T0 ++ W)).length - 1 - i]? = some w) (h3 : i < (l6 (T0 ++ W)).length) : (W ++ [v])[W.length - (0 + i + 1)]? = some w := by
  have hl : (l6 (T0 ++ W)).length = (T0 ++ W).length - ((T0 ++ W).length - 6) := by unfold l6; rw [List.length_drop]
  have e : (T0 ++ W).length = T0.length + W.length := by simp
  rw [e] at hl
  rw [hl] at h2 h3
  unfold l6 at h2
  rw [List.getElem?_drop, e, List.getElem?_append_right (by omega)] at h2
  rw [List.getElem?_append_left (by omega)]
  rw [← h2]
  congr 1
  omega
theorem lp_all {l4 : Int64} (hN : 2001 ≤ N) (hL : L < 4000) (hκ : κ 1 = 1) (h4 : seenP κ = l4) (hi : LI κ T0 v [] h) : ∃ h', FL_law_98 L xs N N 30899 195592 0 108 0 l4 0 h = rI 1 h' := by
  obtain ⟨v1, W, h1, n, kc, ks, e1, a1, a2, i1, w1⟩ := lp98 (L := L) (xs := xs) (l4 := l4) hN hL (by rw [hκ]; decide) 28 N 30899 195592 0 v [] h (by omega) (by omega) (by decide) (by decide) hi
  obtain ⟨fL, cs, hw⟩ := i1
  obtain ⟨h2, est, c2⟩ := wq_st cs (i := W.length) (by omega) (seenP v1)
  obtain ⟨h3, e3, c3⟩ := refused_e hN c2
  rw [show FL_law_98 L xs N N 30899 195592 0 108 0 l4 0 h = FL_law_98 L xs N N 30899 195592 0 108 (nI ([] : List (Nat → Int32)).length) l4 (nI 0) h from rfl, e1, FL_law_98, kLw (by omega), if_pos (show (28 : Int32) ≤ nI 28 by decide), w_ok (by omega), seen_e hN cs, L_e, est, e3, I_e, if_neg (by decide)]
  have h6 := Cs_S6 c3
  refine lp529 (m := W.length) (Z := W ++ [v1]) hN hκ h4 w1 (by simp) (fun i u hu => ?_) 6 N 89970 550018 0 v1 _ h3 h6 (by decide) (by omega) (by omega) (by decide) (fun i u g1 g2 g3 => l6_back (by omega) g2 g3) (by simp) c3
  by_cases hi : i = W.length
  · subst hi
    rw [List.getElem?_append_right (Nat.le_refl _)] at hu
    simp at hu
    rw [uL_s, hu]
  · have hl : i < W.length := by
      have := (List.getElem?_eq_some_iff.mp hu).1
      simp at this
      omega
    rw [List.getElem?_append_left hl] at hu
    rw [uL_n hi]
    exact hw i u hu
end LW
