/-! P34: what is seen of a festival, as a number of its row -/
abbrev rL (x : Int64) (h : jm_H) : Option jm_X := some (.inl (some (.long x)), h)
theorem fd_pr {S α : Type} {f : Nat → S → S} {g : Nat → α → α} (p : S → α) (h : ∀ k s, p (f k s) = g k (p s)) : ∀ (d k : Nat) (s : S), p (fd f k d s) = fd g k d (p s)
  | 0, _, _ => rfl
  | d + 1, k, s => by
    show p (fd f (k + 1) d (f k s)) = fd g (k + 1) d (g k (p s))
    rw [fd_pr p h d (k + 1), h]
abbrev h31 (l : Int64) : Int64 := (31 : Int64) * l
def sn1 (v : Nat → Int32) (l : Int64) : Int64 := fd (fun k l => h31 l + (sCn v 0 k).toInt64) 0 11 l
def sn2 (v : Nat → Int32) (l : Int64) : Int64 := fd (fun k l => h31 l + (sShow v (k / 6) (k % 6)).toInt64) 0 (6 * cnt v 1) l
def sn3 (v : Nat → Int32) (l : Int64) : Int64 := fd (fun k l => h31 l + (sFilm v (k / 6) (k % 6)).toInt64) 0 (6 * cnt v 0) l
def sn4 (v : Nat → Int32) (l : Int64) : Int64 := fd (fun k l => h31 l + (sGst v (k / 4) (k % 4)).toInt64) 0 (4 * cnt v 2) l
def sn5 (v : Nat → Int32) (l : Int64) : Int64 := fd (fun k l => h31 l + (7 : Int64) * (sJur v (k / 3) (k % 3)).toInt64 + (sScr v (k / 3) (k % 3)).toInt64) 0 9 l
def sn6 (v : Nat → Int32) (l : Int64) : Int64 := fd (fun k l => h31 l + (v (129 + k)).toInt64) 0 3 l
def seenP (v : Nat → Int32) : Int64 := sn6 v (sn5 v (sn4 v (sn3 v (sn2 v (sn1 v 233)))))
theorem dv6 : ∀ k, k < 72 → nI k / 6 = nI (k / 6) ∧ nI k - nI k / 6 * 6 = nI (k % 6) := by decide +kernel
theorem dv4 : ∀ k, k < 24 → nI k / 4 = nI (k / 4) ∧ nI k - nI k / 4 * 4 = nI (k % 4) := by decide +kernel
theorem dv3 : ∀ k, k < 9 → nI k / 3 = nI (k / 3) ∧ nI k - nI k / 3 * 3 = nI (k % 3) := by decide +kernel
theorem oc_e {v : Nat → Int32} {n : Int32} {k : Nat} (hk : k ≤ 11) : o_count v n (nI k) = .inl (sCn v n k) := by
  unfold o_count
  rw [if_pos (show 0 ≤ nI k ∧ nI k ≤ 11 from (in_i (b := 11) (by decide)).mpr ⟨k, hk, rfl⟩), ixN_n (by omega)]
theorem sCn_0 {v : Nat → Int32} {n : Int32} : ∀ k, k < 11 → sCn v n k = sCn v 0 k := by
  intro k hk
  match k, hk with
  | 0, _ => rfl
  | 1, _ => rfl
  | 2, _ => rfl
  | 3, _ => rfl
  | 4, _ => rfl
  | 5, _ => rfl
  | 6, _ => rfl
  | 7, _ => rfl
  | 8, _ => rfl
  | 9, _ => rfl
  | 10, _ => rfl
  | n + 11, h => omega
section SN
variable {q : jm_H} {v : Nat → Int32} {S : List (Nat → Int32)} {K : Option (Nat → Int32)} {B : List Int32} {h : jm_H} {N : Nat}
theorem ct_e (hN : 2001 ≤ N) (cs : Cs q v S K B h) {k : Nat} (hk : k ≤ 11) : FX3_count N 0 (nI k) h = rI (sCn v (nI S.length) k) h := by
  rw [sq_count hN cs, oc_e hk]
  rfl
theorem ct_e0 (hN : 2001 ≤ N) (cs : Cs q v S K B h) : FX3_count N 0 0 h = rI (nI (cnt v 0)) h := (ct_e (k := 0) hN cs (by decide)).trans (by rw [show sCn v (nI S.length) 0 = v 0 from rfl, (Cs_Iv cs).nf.1])
theorem ct_e1 (hN : 2001 ≤ N) (cs : Cs q v S K B h) : FX3_count N 0 1 h = rI (nI (cnt v 1)) h := (ct_e (k := 1) hN cs (by decide)).trans (by rw [show sCn v (nI S.length) 1 = v 1 from rfl, (Cs_Iv cs).ns.1])
theorem ct_e2 (hN : 2001 ≤ N) (cs : Cs q v S K B h) : FX3_count N 0 2 h = rI (nI (cnt v 2)) h := (ct_e (k := 2) hN cs (by decide)).trans (by rw [show sCn v (nI S.length) 2 = v 2 from rfl, (Cs_Iv cs).ng.1])
theorem ct_e11 (hN : 2001 ≤ N) (cs : Cs q v S K B h) : FX3_count N 0 11 h = rI (nI S.length) h := (ct_e (k := 11) hN cs (by decide)).trans rfl
theorem in_w {w b : Nat} (hw : w ≤ b) (hb : b < 2 ^ 31) : 0 ≤ nI w ∧ nI w ≤ nI b := (in_i hb).mpr ⟨w, hw, rfl⟩
theorem e_showing (hN : 2001 ≤ N) (cs : Cs q v S K B h) {s w : Nat} (hs : s < cnt v 1) (hw : w ≤ 5) : FX3_showing 0 (nI s) (nI w) h = rI (sShow v s w) h := by
  have h12 := (Cs_Iv cs).ns.2
  rw [sq_showing hN cs]
  unfold o_showing
  rw [if_pos ((inN_i (by omega)).mpr ⟨s, hs, rfl⟩), if_pos (show 0 ≤ nI w ∧ nI w ≤ 5 from in_w (b := 5) hw (by decide)), ixN_n (by omega), ixN_n (by omega)]
  rfl
theorem e_filmOf (hN : 2001 ≤ N) (cs : Cs q v S K B h) {s w : Nat} (hs : s < cnt v 0) (hw : w ≤ 5) : FX3_filmOf N 0 (nI s) (nI w) h = rI (sFilm v s w) h := by
  have h12 := (Cs_Iv cs).nf.2
  rw [sq_filmOf hN cs]
  unfold o_filmOf
  rw [if_pos ((inN_i (by omega)).mpr ⟨s, hs, rfl⟩), if_pos (show 0 ≤ nI w ∧ nI w ≤ 5 from in_w (b := 5) hw (by decide)), ixN_n (by omega), ixN_n (by omega)]
  rfl
theorem e_guestOf (hN : 2001 ≤ N) (cs : Cs q v S K B h) {s w : Nat} (hs : s < cnt v 2) (hw : w ≤ 3) : FX3_guestOf N 0 (nI s) (nI w) h = rI (sGst v s w) h := by
  have h12 := (Cs_Iv cs).ng.2
  rw [sq_guestOf hN cs]
  unfold o_guestOf
  rw [if_pos ((inN_i (by omega)).mpr ⟨s, hs, rfl⟩), if_pos (show 0 ≤ nI w ∧ nI w ≤ 3 from in_w (b := 3) hw (by decide)), ixN_n (by omega), ixN_n (by omega)]
  rfl
theorem e_juror (hN : 2001 ≤ N) (cs : Cs q v S K B h) {s w : Nat} (hs : s ≤ 2) (hw : w ≤ 2) : FX3_juror N 0 (nI s) (nI w) h = rI (sJur v s w) h := by
  rw [sq_juror hN cs]
  unfold o_juror
  rw [if_pos (show 0 ≤ nI s ∧ nI s ≤ 2 from in_w (b := 2) hs (by decide)), if_pos (show 0 ≤ nI w ∧ nI w ≤ 2 from in_w (b := 2) hw (by decide)), ixN_n (by omega), ixN_n (by omega)]
  rfl
theorem e_screen (hN : 2001 ≤ N) (cs : Cs q v S K B h) {s w : Nat} (hs : s ≤ 2) (hw : w ≤ 4) : FX3_screen N 0 (nI s) (nI w) h = rI (sScr v s w) h := by
  rw [sq_screen hN cs]
  unfold o_screen
  rw [if_pos (show 0 ≤ nI s ∧ nI s ≤ 2 from in_w (b := 2) hs (by decide)), if_pos (show 0 ≤ nI w ∧ nI w ≤ 4 from in_w (b := 4) hw (by decide)), ixN_n (by omega), ixN_n (by omega)]
  rfl
theorem e_stopped (hN : 2001 ≤ N) (cs : Cs q v S K B h) {s : Nat} (hs : s ≤ 2) : FX3_stopped 0 (nI s) h = rI (v (129 + s)) h := by
  rw [sq_stopped hN cs]
  unfold o_stopped
  rw [if_pos (show 0 ≤ nI s ∧ nI s ≤ 2 from in_w (b := 2) hs (by decide)), ixN_n (by omega)]
  rfl
abbrev T3 : Type := Nat × Nat × Int64
theorem mcs : jm_mc M_L_seen = 491 ∧ jm_ms M_L_seen = 2946 := ⟨rfl, rfl⟩
theorem kS {kc ks : Nat} {r : Option jm_X} (h : kc ≤ 491 ∧ ks ≤ 2946) : jf_k M_L_seen kc ks r = r := k_ok h
theorem sn_198 (hN : 2001 ≤ N) (cs : Cs q v S K B h) (l : Int64) : FL_seen_198 N N 488 2928 0 l 0 h = rL (sn6 v l) h := by
  have L := lp_fold (fun n x (s : T3) => FL_seen_198 N n s.1 s.2.1 0 s.2.2 x h) 3 (fun k s => (s.1 + 1, s.2.1 + 6, h31 s.2.2 + (v (129 + k)).toInt64)) (fun s => rL s.2.2 h) (fun k s => s.1 = 488 + k ∧ s.2.1 = 2928 + 6 * k)
    (fun n s hs => by
      show FL_seen_198 N (n + 1) s.1 s.2.1 0 s.2.2 (nI 3) h = _
      rw [FL_seen_198, kS (by omega), if_pos (show (3 : Int32) ≤ nI 3 by decide), w_ok (by omega)])
    (fun n k s hk hs => ⟨by
      show FL_seen_198 N (n + 1) s.1 s.2.1 0 s.2.2 (nI k) h = _
      rw [FL_seen_198, kS (by omega), if_neg (show ¬ (3 : Int32) ≤ nI k from nI_ge (b := 3) hk (by decide)), kS (by omega), Cs_o cs, e_stopped hN cs (by omega), I_e, nI_1], by show s.1 + 1 = 488 + (k + 1) ∧ s.2.1 + 6 = 2928 + 6 * (k + 1); omega⟩)
    3 N 0 (488, 2928, l) (by omega) (by omega) ⟨rfl, rfl⟩
  exact L.trans (by rw [fd_pr (g := fun k l => h31 l + (v (129 + k)).toInt64) (fun s : T3 => s.2.2) (fun _ _ => rfl)]; rfl)
theorem sn_150 (hN : 2001 ≤ N) (cs : Cs q v S K B h) (l : Int64) : FL_seen_150 N N 452 2712 0 l 0 h = rL (sn6 v (sn5 v l)) h := by
  have L := lp_fold (fun n x (s : T3) => FL_seen_150 N n s.1 s.2.1 0 s.2.2 x h) 9 (fun k s => (s.1 + 4, s.2.1 + 24, h31 s.2.2 + (7 : Int64) * (sJur v (k / 3) (k % 3)).toInt64 + (sScr v (k / 3) (k % 3)).toInt64)) (fun s => rL (sn6 v s.2.2) h) (fun k s => s.1 = 452 + 4 * k ∧ s.2.1 = 2712 + 24 * k)
    (fun n s hs => by
      show FL_seen_150 N (n + 1) s.1 s.2.1 0 s.2.2 (nI 9) h = _
      rw [FL_seen_150, kS (by omega), if_pos (show (9 : Int32) ≤ nI 9 by decide), w_ok (by omega), sn_198 hN cs])
    (fun n k s hk hs => ⟨by
      show FL_seen_150 N (n + 1) s.1 s.2.1 0 s.2.2 (nI k) h = _
      rw [FL_seen_150, kS (by omega), if_neg (show ¬ (9 : Int32) ≤ nI k from nI_ge (b := 9) hk (by decide)), kS (by omega), (dv3 k hk).2, (dv3 k hk).1, Cs_o cs, e_juror hN cs (by omega) (by omega), I_e, kS (by omega), Cs_o cs, e_screen hN cs (by omega) (by omega), I_e, nI_1], by show s.1 + 4 = 452 + 4 * (k + 1) ∧ s.2.1 + 24 = 2712 + 24 * (k + 1); omega⟩)
    9 N 0 (452, 2712, l) (by omega) (by omega) ⟨rfl, rfl⟩
  exact L.trans (by rw [fd_pr (g := fun k l => h31 l + (7 : Int64) * (sJur v (k / 3) (k % 3)).toInt64 + (sScr v (k / 3) (k % 3)).toInt64) (fun s : T3 => s.2.2) (fun _ _ => rfl)]; rfl)
theorem sn_113 (hN : 2001 ≤ N) (cs : Cs q v S K B h) (l : Int64) : FL_seen_113 N N 377 2262 0 l 0 h = rL (sn6 v (sn5 v (sn4 v l))) h := by
  have h6 := (Cs_Iv cs).ng.2
  have L := lp_fold (fun n x (s : T3) => FL_seen_113 N n s.1 s.2.1 0 s.2.2 x h) (4 * cnt v 2) (fun k s => (s.1 + 3, s.2.1 + 18, h31 s.2.2 + (sGst v (k / 4) (k % 4)).toInt64)) (fun s => rL (sn6 v (sn5 v s.2.2)) h) (fun k s => s.1 = 377 + 3 * k ∧ s.2.1 = 2262 + 18 * k)
    (fun n s hs => by
      show FL_seen_113 N (n + 1) s.1 s.2.1 0 s.2.2 (nI (4 * cnt v 2)) h = _
      rw [FL_seen_113, kS (by omega), kS (by omega), Cs_o cs, ct_e2 hN cs, I_e, show (4 : Int32) = nI 4 from rfl, pk_mul, if_pos (nI_le (by omega) (by omega)), w_ok (by omega), sn_150 hN cs])
    (fun n k s hk hs => ⟨by
      show FL_seen_113 N (n + 1) s.1 s.2.1 0 s.2.2 (nI k) h = _
      obtain ⟨d1, d2⟩ := dv4 k (by omega)
      rw [FL_seen_113, kS (by omega), kS (by omega), Cs_o cs, ct_e2 hN cs, I_e, d2, d1, show (4 : Int32) = nI 4 from rfl, pk_mul, if_neg (nI_ge (by omega) (by omega)), kS (by omega), Cs_o cs, e_guestOf hN cs (by omega) (by omega), I_e, nI_1], by show s.1 + 3 = 377 + 3 * (k + 1) ∧ s.2.1 + 18 = 2262 + 18 * (k + 1); omega⟩)
    (4 * cnt v 2) N 0 (377, 2262, l) (by omega) (by omega) ⟨rfl, rfl⟩
  exact L.trans (by rw [fd_pr (g := fun k l => h31 l + (sGst v (k / 4) (k % 4)).toInt64) (fun s : T3 => s.2.2) (fun _ _ => rfl)]; rfl)
theorem sn_73 (hN : 2001 ≤ N) (cs : Cs q v S K B h) (l : Int64) : FL_seen_73 N N 230 1380 0 l 0 h = rL (sn6 v (sn5 v (sn4 v (sn3 v l)))) h := by
  have h6 := (Cs_Iv cs).nf.2
  have L := lp_fold (fun n x (s : T3) => FL_seen_73 N n s.1 s.2.1 0 s.2.2 x h) (6 * cnt v 0) (fun k s => (s.1 + 3, s.2.1 + 18, h31 s.2.2 + (sFilm v (k / 6) (k % 6)).toInt64)) (fun s => rL (sn6 v (sn5 v (sn4 v s.2.2))) h) (fun k s => s.1 = 230 + 3 * k ∧ s.2.1 = 1380 + 18 * k)
    (fun n s hs => by
      show FL_seen_73 N (n + 1) s.1 s.2.1 0 s.2.2 (nI (6 * cnt v 0)) h = _
      rw [FL_seen_73, kS (by omega), kS (by omega), Cs_o cs, ct_e0 hN cs, I_e, show (6 : Int32) = nI 6 from rfl, pk_mul, if_pos (nI_le (by omega) (by omega)), w_ok (by omega), sn_113 hN cs])
    (fun n k s hk hs => ⟨by
      show FL_seen_73 N (n + 1) s.1 s.2.1 0 s.2.2 (nI k) h = _
      obtain ⟨d1, d2⟩ := dv6 k (by omega)
      rw [FL_seen_73, kS (by omega), kS (by omega), Cs_o cs, ct_e0 hN cs, I_e, d2, d1, show (6 : Int32) = nI 6 from rfl, pk_mul, if_neg (nI_ge (by omega) (by omega)), kS (by omega), Cs_o cs, e_filmOf hN cs (by omega) (by omega), I_e, nI_1], by show s.1 + 3 = 230 + 3 * (k + 1) ∧ s.2.1 + 18 = 1380 + 18 * (k + 1); omega⟩)
    (6 * cnt v 0) N 0 (230, 1380, l) (by omega) (by omega) ⟨rfl, rfl⟩
  exact L.trans (by rw [fd_pr (g := fun k l => h31 l + (sFilm v (k / 6) (k % 6)).toInt64) (fun s : T3 => s.2.2) (fun _ _ => rfl)]; rfl)
theorem sn_33 (hN : 2001 ≤ N) (cs : Cs q v S K B h) (l : Int64) : FL_seen_33 N N 11 66 0 l 0 h = rL (sn6 v (sn5 v (sn4 v (sn3 v (sn2 v l))))) h := by
  have h6 := (Cs_Iv cs).ns.2
  have L := lp_fold (fun n x (s : T3) => FL_seen_33 N n s.1 s.2.1 0 s.2.2 x h) (6 * cnt v 1) (fun k s => (s.1 + 3, s.2.1 + 18, h31 s.2.2 + (sShow v (k / 6) (k % 6)).toInt64)) (fun s => rL (sn6 v (sn5 v (sn4 v (sn3 v s.2.2)))) h) (fun k s => s.1 = 11 + 3 * k ∧ s.2.1 = 66 + 18 * k)
    (fun n s hs => by
      show FL_seen_33 N (n + 1) s.1 s.2.1 0 s.2.2 (nI (6 * cnt v 1)) h = _
      rw [FL_seen_33, kS (by omega), kS (by omega), Cs_o cs, ct_e1 hN cs, I_e, show (6 : Int32) = nI 6 from rfl, pk_mul, if_pos (nI_le (by omega) (by omega)), w_ok (by omega), sn_73 hN cs])
    (fun n k s hk hs => ⟨by
      show FL_seen_33 N (n + 1) s.1 s.2.1 0 s.2.2 (nI k) h = _
      obtain ⟨d1, d2⟩ := dv6 k (by omega)
      rw [FL_seen_33, kS (by omega), kS (by omega), Cs_o cs, ct_e1 hN cs, I_e, d2, d1, show (6 : Int32) = nI 6 from rfl, pk_mul, if_neg (nI_ge (by omega) (by omega)), kS (by omega), Cs_o cs, e_showing hN cs (by omega) (by omega), I_e, nI_1], by show s.1 + 3 = 11 + 3 * (k + 1) ∧ s.2.1 + 18 = 66 + 18 * (k + 1); omega⟩)
    (6 * cnt v 1) N 0 (11, 66, l) (by omega) (by omega) ⟨rfl, rfl⟩
  exact L.trans (by rw [fd_pr (g := fun k l => h31 l + (sShow v (k / 6) (k % 6)).toInt64) (fun s : T3 => s.2.2) (fun _ _ => rfl)]; rfl)
theorem seen_e (hN : 2001 ≤ N) (cs : Cs q v S K B h) : FL_seen N 0 h = rL (seenP v) h := by
  have L := lp_fold (fun n x (s : T3) => FL_seen_6 N n s.1 s.2.1 0 s.2.2 x h) 11 (fun k s => (s.1 + 1, s.2.1 + 6, h31 s.2.2 + (sCn v (nI S.length) k).toInt64)) (fun s => rL (sn6 v (sn5 v (sn4 v (sn3 v (sn2 v s.2.2))))) h) (fun k s => s.1 = k ∧ s.2.1 = 6 * k)
    (fun n s hs => by
      show FL_seen_6 N (n + 1) s.1 s.2.1 0 s.2.2 (nI 11) h = _
      rw [FL_seen_6, kS (by omega), if_pos (show (11 : Int32) ≤ nI 11 by decide), w_ok (by omega), sn_33 hN cs])
    (fun n k s hk hs => ⟨by
      show FL_seen_6 N (n + 1) s.1 s.2.1 0 s.2.2 (nI k) h = _
      rw [FL_seen_6, kS (by omega), if_neg (show ¬ (11 : Int32) ≤ nI k from nI_ge (b := 11) hk (by decide)), kS (by omega), Cs_o cs, ct_e hN cs (by omega), I_e, nI_1], by show s.1 + 1 = k + 1 ∧ s.2.1 + 6 = 6 * (k + 1); omega⟩)
    11 N 0 (0, 0, 233) (by omega) (by omega) ⟨rfl, rfl⟩
  refine Eq.trans L ?_
  show rL (sn6 v (sn5 v (sn4 v (sn3 v (sn2 v (fd _ 0 11 ((0, 0, 233) : T3)).2.2))))) h = _
  rw [fd_pr (g := fun k l => h31 l + (sCn v (nI S.length) k).toInt64) (fun s : T3 => s.2.2) (fun _ _ => rfl)]
  rw [fd_congr (g := fun k l => h31 l + (sCn v 0 k).toInt64) 11 0 _ (fun i a h1 h2 => by rw [sCn_0 i (by omega)])]
  rfl
end SN
