/-! P34: what a saving call leaves is a festival again, and its answer is no negative number -/
theorem nn {n : Nat} (h : n < 2 ^ 31) : (0 : Int32) ≤ nI n := Int32.not_lt.mp (nI_pos h)
theorem isN_nn {x : Int32} {a b : Nat} (h : isN x a b) (hb : b < 2 ^ 31) : 0 ≤ x := by
  obtain ⟨t, rfl, -, ht⟩ := h
  exact nn (by omega)
theorem fd_cnt {P : Nat → Prop} [DecidablePred P] : ∀ (d k c : Nat), ∃ c', c' ≤ c + d ∧ fd (fun s (a : Int32) => if P s then a + 1 else a) k d (nI c) = nI c'
  | 0, k, c => ⟨c, by omega, rfl⟩
  | d + 1, k, c => by
    show ∃ c', c' ≤ c + (d + 1) ∧ fd (fun s (a : Int32) => if P s then a + 1 else a) (k + 1) d (if P k then nI c + 1 else nI c) = nI c'
    by_cases hp : P k
    · rw [if_pos hp, nI_1]
      obtain ⟨c', h1, h2⟩ := fd_cnt d (k + 1) (c + 1) (P := P)
      exact ⟨c', by omega, h2⟩
    · rw [if_neg hp]
      obtain ⟨c', h1, h2⟩ := fd_cnt d (k + 1) c (P := P)
      exact ⟨c', by omega, h2⟩
theorem sVis_nn {v : Nat → Int32} (hn : cnt v 1 ≤ 12) (j : Int32) : 0 ≤ sVis v j := by
  obtain ⟨c', h1, h2⟩ := fd_cnt (P := fun s => hb (sS v s 4) j) (cnt v 1) 0 0
  have : sVis v j = nI c' := h2
  rw [this]
  exact nn (by omega)
theorem uShift_nn (v : Nat → Int32) (s : Nat) (m : Int32) : 0 ≤ (uShift v s m).1 := by
  unfold uShift
  obtain ⟨c, h1, h2⟩ := fd_inv (f := stM s) (fun i (u : Int32 × (Nat → Int32)) => ∃ c, c ≤ i ∧ u.1 = nI c) 3 0 (0, upd v (26 + 5 * s + 2) m) ⟨0, by omega, rfl⟩ (fun i a _ _ ha => by
    obtain ⟨c, h1, h2⟩ := ha
    unfold stM
    split
    · exact ⟨c + 1, by omega, by rw [← nI_1, ← h2]⟩
    · exact ⟨c, by omega, h2⟩)
  rw [h2]
  exact nn (by omega)
theorem bc_nn : ∀ m, m < 8 → 0 ≤ bc (nI m) := by decide +kernel
section KP
variable {v : Nat → Int32} {a b x y : Int32} {p : Int32 × (Nat → Int32)}
theorem iv_film (hI : Iv v) (ho : o_film v a b = .inl p) : Iv p.2 ∧ 0 ≤ p.1 := by
  have h8 := hI.nf.2
  unfold o_film at ho
  by_cases ha : 1 ≤ a ∧ a ≤ 6
  · rw [if_pos ha] at ho
    by_cases hb : 10 ≤ b ∧ b ≤ 25
    · rw [if_pos hb] at ho
      by_cases hc : cnt v 0 < 8
      · rw [if_pos hc] at ho
        cases ho
        exact ⟨Iv_film hI hc ((in_c (a := 1) (b := 6) (by decide) (by decide)).mp ha) ((in_c (a := 10) (b := 25) (by decide) (by decide)).mp hb), nn (by omega)⟩
      · rw [if_neg hc] at ho; cases ho
    · rw [if_neg hb] at ho; cases ho
  · rw [if_neg ha] at ho; cases ho
theorem iv_seats (hI : Iv v) (ho : o_seats v a b = .inl p) : Iv p.2 ∧ 0 ≤ p.1 := by
  unfold o_seats at ho
  by_cases ha : 0 ≤ a ∧ a ≤ 2
  · rw [if_pos ha] at ho
    obtain ⟨c, hc9, rfl⟩ := (in_i (b := 2) (by decide)).mp ha
    rw [ixN_n (by omega)] at ho
    by_cases hb : 50 ≤ b ∧ b ≤ 400
    · rw [if_pos hb] at ho
      cases ho
      exact ⟨Iv_seat hI (by omega) ((in_c (a := 50) (b := 400) (by decide) (by decide)).mp hb), isN_nn (hI.2.2.2.1 c (by omega)) (by decide)⟩
    · rw [if_neg hb] at ho; cases ho
  · rw [if_neg ha] at ho; cases ho
theorem iv_set (hI : Iv v) (ho : o_set v a b = .inl p) : Iv p.2 ∧ 0 ≤ p.1 := by
  unfold o_set at ho
  by_cases ha : 0 ≤ a ∧ a ≤ 3
  · rw [if_pos ha] at ho
    obtain ⟨c, hc9, rfl⟩ := (in_i (b := 3) (by decide)).mp ha
    rw [ixN_n (by omega)] at ho
    by_cases hb : 0 ≤ b ∧ b ≤ 60
    · rw [if_pos hb] at ho
      cases ho
      exact ⟨Iv_set hI (by omega) ((in_c (a := 0) (b := 60) (by decide) (by decide)).mp hb), isN_nn (hI.2.2.1 c (by omega)) (by decide)⟩
    · rw [if_neg hb] at ho; cases ho
  · rw [if_neg ha] at ho; cases ho
theorem iv_show (hI : Iv v) (ho : o_show v a b x y = .inl p) : Iv p.2 ∧ 0 ≤ p.1 := by
  have n0 := hI.nf.2
  have n1 := hI.ns.2
  unfold o_show at ho
  by_cases ha : inN a (cnt v 0)
  · rw [if_pos ha] at ho
    obtain ⟨f, hf, rfl⟩ := (inN_i (by omega)).mp ha
    rw [ixN_n (by omega)] at ho
    by_cases hb : 0 ≤ b ∧ b ≤ 2
    · rw [if_pos hb] at ho
      obtain ⟨c, hc9, rfl⟩ := (in_i (b := 2) (by decide)).mp hb
      by_cases hx : 0 ≤ x ∧ x ≤ 1999
      · rw [if_pos hx] at ho
        obtain ⟨m, hm9, rfl⟩ := (in_i (b := 1999) (by decide)).mp hx
        by_cases hy : 0 ≤ y ∧ y ≤ 20
        · rw [if_pos hy] at ho
          obtain ⟨w, hw9, rfl⟩ := (in_i (b := 20) (by decide)).mp hy
          by_cases hr : sRf v f (nI c) (nI m) (nI w) = 0
          · rw [if_pos hr] at ho
            cases ho
            exact ⟨Iv_show hI hf (by omega) (by omega) (by omega) hr, nn (by omega)⟩
          · rw [if_neg hr] at ho; cases ho
        · rw [if_neg hy] at ho; cases ho
      · rw [if_neg hx] at ho; cases ho
    · rw [if_neg hb] at ho; cases ho
  · rw [if_neg ha] at ho; cases ho
theorem iv_callOff (hI : Iv v) (ho : o_callOff v a = .inl p) : Iv p.2 ∧ 0 ≤ p.1 := by
  have n1 := hI.ns.2
  unfold o_callOff at ho
  by_cases ha : inN a (cnt v 1)
  · rw [if_pos ha] at ho
    obtain ⟨s, hs, rfl⟩ := (inN_i (by omega)).mp ha
    rw [ixN_n (by omega)] at ho
    cases ho
    exact ⟨Iv_drop hI hs, by rw [hI.go hs]; exact bc_nn _ (hI.go_lt hs)⟩
  · rw [if_neg ha] at ho; cases ho
theorem iv_move (hI : Iv v) (ho : o_move v a b = .inl p) : Iv p.2 ∧ 0 ≤ p.1 := by
  have n1 := hI.ns.2
  unfold o_move at ho
  by_cases ha : inN a (cnt v 1)
  · rw [if_pos ha] at ho
    obtain ⟨s, hs, rfl⟩ := (inN_i (by omega)).mp ha
    rw [ixN_n (by omega)] at ho
    by_cases hb : 0 ≤ b ∧ b ≤ 1999
    · rw [if_pos hb] at ho
      obtain ⟨m, hm9, rfl⟩ := (in_i (b := 1999) (by decide)).mp hb
      by_cases hr : sRb v (fmo v s) (nI (sco v s)) (nI m) (nI (nB v s)) (nI s) = 0
      · rw [if_pos hr] at ho
        cases ho
        exact ⟨(uShift_ok (Iv_start hI hs (by omega) hr) hs).1, uShift_nn _ _ _⟩
      · rw [if_neg hr] at ho; cases ho
    · rw [if_neg hb] at ho; cases ho
  · rw [if_neg ha] at ho; cases ho
theorem iv_guest (hI : Iv v) (ho : o_guest v a b x = .inl p) : Iv p.2 ∧ 0 ≤ p.1 := by
  have n0 := hI.nf.2
  have n2 := hI.ng.2
  unfold o_guest at ho
  by_cases ha : inN a (cnt v 0)
  · rw [if_pos ha] at ho
    obtain ⟨f, hf, rfl⟩ := (inN_i (by omega)).mp ha
    by_cases hb : 0 ≤ b ∧ b ≤ 1999
    · rw [if_pos hb] at ho
      by_cases h1 : x ≤ b
      · rw [if_pos h1] at ho; cases ho
      · rw [if_neg h1] at ho
        by_cases h2 : 2000 < x
        · rw [if_pos h2] at ho; cases ho
        · rw [if_neg h2] at ho
          by_cases h3 : cnt v 2 < 6
          · rw [if_pos h3] at ho
            cases ho
            exact ⟨Iv_guest hI h3 hf, nn (by omega)⟩
          · rw [if_neg h3] at ho; cases ho
    · rw [if_neg hb] at ho; cases ho
  · rw [if_neg ha] at ho; cases ho
theorem iv_attend (hI : Iv v) (ho : o_attend v a b = .inl p) : Iv p.2 ∧ 0 ≤ p.1 := by
  have n1 := hI.ns.2
  unfold o_attend at ho
  by_cases ha : 0 ≤ a ∧ a ≤ 2
  · rw [if_pos ha] at ho
    obtain ⟨j, hj9, rfl⟩ := (in_i (b := 2) (by decide)).mp ha
    by_cases hB : inN b (cnt v 1)
    · rw [if_pos hB] at ho
      obtain ⟨s, hs, rfl⟩ := (inN_i (by omega)).mp hB
      rw [ixN_n (by omega), ixN_n (by omega)] at ho
      by_cases h1 : hb (sS v s 4) (nI j)
      · rw [if_pos h1] at ho; cases ho
      · rw [if_neg h1] at ho
        by_cases h2 : sGo v (nI j) s = 0
        · rw [if_pos h2] at ho; cases ho
        · rw [if_neg h2] at ho
          cases ho
          have hI2 : Iv (upd v (26 + 5 * s + 4) (nI (gro v s + 2 ^ j))) := Iv_goer hI hs (g_on _ (hI.go_lt hs) j (by omega) (by rw [← hI.go hs]; exact h1)).2.2
          exact ⟨hI2, sVis_nn hI2.ns.2 _⟩
    · rw [if_neg hB] at ho; cases ho
  · rw [if_neg ha] at ho; cases ho
theorem iv_vote (hI : Iv v) (ho : o_vote v a b x = .inl p) : Iv p.2 ∧ 0 ≤ p.1 := by
  have n0 := hI.nf.2
  unfold o_vote at ho
  by_cases ha : 0 ≤ a ∧ a ≤ 2
  · rw [if_pos ha] at ho
    obtain ⟨j, hj9, rfl⟩ := (in_i (b := 2) (by decide)).mp ha
    by_cases hB : inN b (cnt v 0)
    · rw [if_pos hB] at ho
      obtain ⟨f, hf, rfl⟩ := (inN_i (by omega)).mp hB
      rw [ixN_n (by omega), ixN_n (by omega)] at ho
      by_cases hx : 0 ≤ x ∧ x ≤ 10
      · rw [if_pos hx] at ho
        by_cases h1 : hb (sSeen v (nI f)) (nI j)
        · rw [if_pos h1] at ho
          cases ho
          exact ⟨Iv_vote hI (by omega) (by omega) ((in_c (a := 0) (b := 10) (by decide) (by decide)).mp hx), isN_nn (hI.2.2.2.2.2.2.1 j f (by omega) (by omega)) (by decide)⟩
        · rw [if_neg h1] at ho; cases ho
      · rw [if_neg hx] at ho; cases ho
    · rw [if_neg hB] at ho; cases ho
  · rw [if_neg ha] at ho; cases ho
end KP
/-! saving calls whose row is told in numbers -/
def chkW (o : (Int32 × (Nat → Int32)) ⊕ String) (y : Int32) (w : Nat → Int32) : Bool := match o with
  | .inl p => p.1 == y && (List.range 132).all (fun x => p.2 x == w x)
  | .inr _ => false
def chkR (o : (Int32 × (Nat → Int32)) ⊕ String) (E : String) : Bool := match o with
  | .inl _ => false
  | .inr e => e == E
theorem chkW_e {o : (Int32 × (Nat → Int32)) ⊕ String} {y : Int32} {w : Nat → Int32} (h : chkW o y w = true) : ∃ u, o = .inl (y, u) ∧ ∀ x, x < 132 → u x = w x := by
  rcases o with ⟨y', u⟩ | E
  · simp only [chkW, Bool.and_eq_true, beq_iff_eq, List.all_eq_true, List.mem_range] at h
    exact ⟨u, by rw [h.1], h.2⟩
  · cases h
theorem chkR_e {o : (Int32 × (Nat → Int32)) ⊕ String} {E : String} (h : chkR o E = true) : o = .inr E := by
  rcases o with p | e
  · cases h
  · simp only [chkR, beq_iff_eq] at h
    rw [h]
theorem qI {o : Int32 ⊕ String} {y : Int32} {h : jm_H} (e : o = .inl y) : rA o h = rI y h := by rw [e]; rfl
section SN9
variable {q : jm_H} {v w : Nat → Int32} {S : List (Nat → Int32)} {K : Option (Nat → Int32)} {B : List Int32} {h : jm_H} {N : Nat} {a b c x y u y9 : Int32} {l : Int64}
theorem sN_film (hN : 2001 ≤ N) (cs : Cs q v S K B h) (hd : chkW (o_film v a b) y9 w = true) : ∃ h', FX3_film N 0 a b h = rI y9 h' ∧ Cs q w (psh S v) K B h' := by
  obtain ⟨u, e1, e2⟩ := chkW_e hd
  obtain ⟨h2, e3, c3⟩ := sL_film hN cs e1 (iv_film (Cs_Iv cs) e1).1
  exact ⟨h2, e3, Cs_row c3 e2⟩
theorem sN_seats (hN : 2001 ≤ N) (cs : Cs q v S K B h) (hd : chkW (o_seats v a b) y9 w = true) : ∃ h', FX3_seats N 0 a b h = rI y9 h' ∧ Cs q w (psh S v) K B h' := by
  obtain ⟨u, e1, e2⟩ := chkW_e hd
  obtain ⟨h2, e3, c3⟩ := sL_seats hN cs e1 (iv_seats (Cs_Iv cs) e1).1
  exact ⟨h2, e3, Cs_row c3 e2⟩
theorem sN_set (hN : 2001 ≤ N) (cs : Cs q v S K B h) (hd : chkW (o_set v a b) y9 w = true) : ∃ h', FX3_set N 0 a b h = rI y9 h' ∧ Cs q w (psh S v) K B h' := by
  obtain ⟨u, e1, e2⟩ := chkW_e hd
  obtain ⟨h2, e3, c3⟩ := sL_set hN cs e1 (iv_set (Cs_Iv cs) e1).1
  exact ⟨h2, e3, Cs_row c3 e2⟩
theorem sN_show (hN : 2001 ≤ N) (cs : Cs q v S K B h) (hd : chkW (o_show v a b x y) y9 w = true) : ∃ h', FX3_show N 0 a b x y h = rI y9 h' ∧ Cs q w (psh S v) K B h' := by
  obtain ⟨u, e1, e2⟩ := chkW_e hd
  obtain ⟨h2, e3, c3⟩ := sL_show hN cs e1 (iv_show (Cs_Iv cs) e1).1
  exact ⟨h2, e3, Cs_row c3 e2⟩
theorem sN_callOff (hN : 2001 ≤ N) (cs : Cs q v S K B h) (hd : chkW (o_callOff v a) y9 w = true) : ∃ h', FX3_callOff N 0 a h = rI y9 h' ∧ Cs q w (psh S v) K B h' := by
  obtain ⟨u, e1, e2⟩ := chkW_e hd
  obtain ⟨h2, e3, c3⟩ := sL_callOff hN cs e1 (iv_callOff (Cs_Iv cs) e1).1
  exact ⟨h2, e3, Cs_row c3 e2⟩
theorem sN_move (hN : 2001 ≤ N) (cs : Cs q v S K B h) (hd : chkW (o_move v a b) y9 w = true) : ∃ h', FX3_move N 0 a b h = rI y9 h' ∧ Cs q w (psh S v) K B h' := by
  obtain ⟨u, e1, e2⟩ := chkW_e hd
  obtain ⟨h2, e3, c3⟩ := sL_move hN cs e1 (iv_move (Cs_Iv cs) e1).1
  exact ⟨h2, e3, Cs_row c3 e2⟩
theorem sN_guest (hN : 2001 ≤ N) (cs : Cs q v S K B h) (hd : chkW (o_guest v a b x) y9 w = true) : ∃ h', FX3_guest N 0 a b x h = rI y9 h' ∧ Cs q w (psh S v) K B h' := by
  obtain ⟨u, e1, e2⟩ := chkW_e hd
  obtain ⟨h2, e3, c3⟩ := sL_guest hN cs e1 (iv_guest (Cs_Iv cs) e1).1
  exact ⟨h2, e3, Cs_row c3 e2⟩
theorem sN_attend (hN : 2001 ≤ N) (cs : Cs q v S K B h) (hd : chkW (o_attend v a b) y9 w = true) : ∃ h', FX3_attend N 0 a b h = rI y9 h' ∧ Cs q w (psh S v) K B h' := by
  obtain ⟨u, e1, e2⟩ := chkW_e hd
  obtain ⟨h2, e3, c3⟩ := sL_attend hN cs e1 (iv_attend (Cs_Iv cs) e1).1
  exact ⟨h2, e3, Cs_row c3 e2⟩
theorem sN_vote (hN : 2001 ≤ N) (cs : Cs q v S K B h) (hd : chkW (o_vote v a b x) y9 w = true) : ∃ h', FX3_vote N 0 a b x h = rI y9 h' ∧ Cs q w (psh S v) K B h' := by
  obtain ⟨u, e1, e2⟩ := chkW_e hd
  obtain ⟨h2, e3, c3⟩ := sL_vote hN cs e1 (iv_vote (Cs_Iv cs) e1).1
  exact ⟨h2, e3, Cs_row c3 e2⟩
end SN9
