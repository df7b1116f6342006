/-! THE START: the first state is all right; the law answers 1 -/
theorem vC_at : vC 0 = 0 ∧ vC 1 = 0 ∧ vC 2 = 0 ∧ vC 3 = 10 ∧ vC 4 = 15 ∧ vC 5 = 10 ∧ vC 6 = 5 ∧ vC 7 = 100 ∧ vC 8 = 200 ∧ vC 9 = 300 := ⟨rfl, rfl, rfl, rfl, rfl, rfl, rfl, rfl, rfl, rfl⟩
theorem vC_z {i : Nat} (h : 10 ≤ i) (h2 : i < 128) : vC i = 0 := by
  unfold vC
  rw [pk_un (by omega), pk_un (by omega), pk_un (by omega), pk_un (by omega), pk_un (by omega), pk_un (by omega), pk_un (by omega), pk_un (by omega), pk_un (by omega), pk_un (by omega)]
theorem Iv_0 : Iv vC := by
  have c0 : cnt vC 0 = 0 := rfl
  have c1 : cnt vC 1 = 0 := rfl
  have c2 : cnt vC 2 = 0 := rfl
  refine ⟨⟨⟨rfl, by omega⟩, ⟨rfl, by omega⟩, ⟨rfl, by omega⟩⟩, fun f hf => by omega, fun i hi => ?_, fun c hc => ?_, fun s hs => by omega, fun g hg => by omega, fun j f hj hf => ?_, fun s t hs => by omega⟩
  · have : i = 0 ∨ i = 1 ∨ i = 2 ∨ i = 3 := by omega
    rcases this with rfl | rfl | rfl | rfl
    · exact ⟨10, rfl, by omega, by omega⟩
    · exact ⟨15, rfl, by omega, by omega⟩
    · exact ⟨10, rfl, by omega, by omega⟩
    · exact ⟨5, rfl, by omega, by omega⟩
  · have : c = 0 ∨ c = 1 ∨ c = 2 := by omega
    rcases this with rfl | rfl | rfl
    · exact ⟨100, rfl, by omega, by omega⟩
    · exact ⟨200, rfl, by omega, by omega⟩
    · exact ⟨300, rfl, by omega, by omega⟩
  · exact ⟨0, vC_z (by omega) (by omega), by omega, by omega⟩
theorem Rl_0 : Rl F0i id (fun _ => 0) (fun _ => 0) (fun _ => 0) (fun _ => 0) (fun _ => 0) :=
  ⟨Iv_0, ⟨0, rfl, rfl, by omega, fun i hi => hi, fun i j _ _ h => h, fun i hi => by omega⟩, ⟨rfl, fun h => absurd rfl h⟩, 0, rfl, rfl, okT_0 _⟩
theorem cl_cls : cl 108 (clsH F0i id (fun _ => 0) (fun _ => 0) (fun _ => 0)) := by
  have f : ∀ b, b + 13 ≤ 108 → cl 108 (fest b vC) := fun b hb => cl_le (cl_fest b vC) hb
  unfold clsH
  refine cl_cons (fun n hn => ok_cons (ne_ref (by omega)) (ok_cons (ne_ref (by omega)) (ok_cons (ne_ref (by omega)) (ok_cons (ne_ref (by omega)) (ok_cons (ne_ref (by omega)) (ok_cons ne_int (ok_cons ne_int (ok_cons ne_int ok_nil)))))))) ?_
  refine cl_app (f 1 (by decide)) (cl_app (f 14 (by decide)) (cl_cons (fun n hn j => ?_) (cl_app (f 28 (by decide)) (cl_app (f 41 (by decide)) (cl_app (f 54 (by decide)) (cl_app (f 67 (by decide)) (cl_app (f 80 (by decide)) (cl_app (f 93 (by decide)) (cl_cons (fun n hn => ok_cons ne_int (ok_cons ne_int (ok_cons ne_int (ok_cons ne_int (ok_cons ne_int ok_nil))))) (cl_cons (fun _ _ => trivial) cl_nil)))))))))) 
  unfold svd
  by_cases hj : j < 6
  · rw [if_pos hj]
    intro e
    have : 28 + 13 * j = n := by injection e
    omega
  · rw [if_neg hj]
    exact fun e => by cases e
theorem cl_ref {v p k t l rs : Nat → Int32} {hs : Int64} : cl 114 (refH v p k t l rs hs) := by
  unfold refH
  exact cl_cons (fun n hn => ok_cons (ne_ref (by omega)) (ok_cons (ne_ref (by omega)) (ok_cons ne_int (ok_cons (ne_ref (by omega)) (ok_cons ne_int (ok_cons (ne_ref (by omega)) (ok_cons ne_int (ok_cons ne_int (ok_cons ne_int (ok_cons ne_int (ok_cons ne_int (ok_cons ne_int (ok_cons (ne_ref (by omega)) (ok_cons ne_int (ok_cons ne_long ok_nil)))))))))))))))
    (cl_cons (fun _ _ => trivial) (cl_cons (fun _ _ => trivial) (cl_cons (fun _ _ => trivial) (cl_cons (fun _ _ => trivial) (cl_cons (fun _ _ => trivial) cl_nil)))))
theorem law_1 {L : Nat} {xs : Nat → Int32} (hL : L < 4000) : ∃ h', FL_law L xs 4000 [] = rI 1 h' := by
  have hk : ∀ (m : Nat) (l : List Nat), (∀ r ∈ l, r < m ∨ r = 1000000) → jm_lv m l := fun m l h => h
  have hP := clsH_len F0i id (fun _ => 0) (fun _ => 0) (fun _ => 0)
  unfold FL_law
  rw [nw_e (b := 0) rfl cl_nil (fun r hr => by
    simp only [List.mem_cons, List.not_mem_nil, or_false] at hr
    exact Or.inr hr) (by decide)]
  rw [jf_lv_eq (hk _ _ (fun r hr => by
    simp only [List.mem_cons, List.not_mem_nil, or_false] at hr
    rcases hr with rfl | rfl
    · exact Or.inr rfl
    · exact Or.inl (by decide)))]
  rw [show ([] ++ [(.inr (3, [.null, .null, .null, .null, .null, .int 0, .int 0, .int 0]) : jm_C)] : jm_H) = [oC .null .null .null .null .null] from rfl, X3_init (by decide), cV_e, show hC F0i id (fun _ => 0) (fun _ => 0) (fun _ => 0) [] = clsH F0i id (fun _ => 0) (fun _ => 0) (fun _ => 0) from List.append_nil _]
  rw [nw_e (b := 108) hP cl_cls (fun r hr => by
    simp only [List.mem_cons, List.not_mem_nil, or_false] at hr
    rcases hr with rfl | rfl
    · exact Or.inl (by decide)
    · exact Or.inr rfl) (by decide)]
  rw [jf_lv_eq (hk _ _ (fun r hr => by
    simp only [List.mem_cons, List.not_mem_nil, or_false] at hr
    rw [List.length_append, hP]
    rcases hr with rfl | rfl | rfl
    · exact Or.inl (by decide)
    · exact Or.inr rfl
    · exact Or.inl (by decide)))]
  rw [show (.inr (4, [.null, .null, .int 0, .null, .int 0, .null, .int 0, .int 0, .int 0, .int 0, .int 0, .int 0, .null, .int 0, .long 0]) : jm_C) = o4 .null .null .null .null .null from rfl, X4_init hP cl_cls (by decide), cV_e]
  have e1 : hR (clsH F0i id (fun _ => 0) (fun _ => 0) (fun _ => 0)) vC (fun _ => 0) (fun _ => 0) (fun _ => 0) (fun _ => 0) (fun _ => 0) 0 [] = clsH F0i id (fun _ => 0) (fun _ => 0) (fun _ => 0) ++ refH vC (fun _ => 0) (fun _ => 0) (fun _ => 0) (fun _ => 0) (fun _ => 0) 0 := by
    unfold hR; rw [List.append_nil]
  rw [e1]
  have c1 : cl 114 (clsH F0i id (fun _ => 0) (fun _ => 0) (fun _ => 0) ++ refH vC (fun _ => 0) (fun _ => 0) (fun _ => 0) (fun _ => 0) (fun _ => 0) 0) := cl_app (cl_le cl_cls (by decide)) cl_ref
  rw [nw_e (b := 114) (by rw [List.length_append, hP]; rfl) c1 (fun r hr => by
    simp only [List.mem_cons, List.not_mem_nil, or_false] at hr
    rcases hr with rfl | rfl | rfl
    · exact Or.inl (by decide)
    · exact Or.inl (by decide)
    · exact Or.inr rfl) (by decide)]
  have c2 : cl 115 (clsH F0i id (fun _ => 0) (fun _ => 0) (fun _ => 0) ++ refH vC (fun _ => 0) (fun _ => 0) (fun _ => 0) (fun _ => 0) (fun _ => 0) 0 ++ [(.inl (1, (1, .inr (.inl (fun _ => 0)))) : jm_C)]) := cl_app (cl_le c1 (by decide)) (cl_cons (fun n hn => (trivial : jm_okC n (.inl (1, (1, .inr (.inl (fun _ => 0))))))) cl_nil)
  rw [nw_e (b := 115) (by rw [List.length_append, List.length_append, hP]; rfl) c2 (fun r hr => by
    simp only [List.mem_cons, List.not_mem_nil, or_false] at hr
    rcases hr with rfl | rfl | rfl | rfl
    · exact Or.inl (by decide)
    · exact Or.inl (by decide)
    · exact Or.inl (by decide)
    · exact Or.inr rfl) (by decide)]
  rw [List.append_assoc, List.append_assoc]
  refine law_l (xs := xs) (N := 4000) (by decide) hL 700 4000 0 116 4364 _ (by omega) (by decide) (by decide) (by decide) (by decide) ⟨F0i, id, fun _ => 0, fun _ => 0, fun _ => 0, fun _ => 0, fun _ => 0, fun _ => 0, fun _ => 0, 0, fun _ => 0, fun _ => 0, ?_, Rl_0⟩
  rfl
