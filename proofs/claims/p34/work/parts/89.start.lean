/-! THE START: the first state is all right; the law answers 1 -/
theorem vC_at : vC 0 = 0 ∧ vC 1 = 0 ∧ vC 2 = 0 ∧ vC 3 = 10 ∧ vC 4 = 15 ∧ vC 5 = 10 ∧ vC 6 = 5 ∧ vC 7 = 100 ∧ vC 8 = 200 ∧ vC 9 = 300 := ⟨rfl, rfl, rfl, rfl, rfl, rfl, rfl, rfl, rfl, rfl⟩
theorem vC_z {i : Nat} (h : 10 ≤ i) (h2 : i < 128) : vC i = 0 := by
  unfold vC
  rw [pk_un (by omega), pk_un (by omega), pk_un (by omega), pk_un (by omega), pk_un (by omega), pk_un (by omega), pk_un (by omega), pk_un (by omega), pk_un (by omega), pk_un (by omega)]
theorem Iv_0 : Iv vC := by
  have c0 : cnt vC 0 = 0 := rfl
  have c1 : cnt vC 1 = 0 := rfl
  have c2 : cnt vC 2 = 0 := rfl
  refine ⟨⟨⟨rfl, by omega⟩, ⟨rfl, by omega⟩, ⟨rfl, by omega⟩⟩, fun f hf => by omega, fun i hi => ?_, fun c hc => ?_, fun s hs => by omega, fun g hg => by omega, fun j f hj hf => ?_, fun s t hs => by omega⟩
  · have : i = 0 ∨ i = 1 ∨ i = 2 ∨ i = 3 := by omega
    rcases this with rfl | rfl | rfl | rfl
    · exact ⟨10, rfl, by omega, by omega⟩
    · exact ⟨15, rfl, by omega, by omega⟩
    · exact ⟨10, rfl, by omega, by omega⟩
    · exact ⟨5, rfl, by omega, by omega⟩
  · have : c = 0 ∨ c = 1 ∨ c = 2 := by omega
    rcases this with rfl | rfl | rfl
    · exact ⟨100, rfl, by omega, by omega⟩
    · exact ⟨200, rfl, by omega, by omega⟩
    · exact ⟨300, rfl, by omega, by omega⟩
  · exact ⟨0, vC_z (by omega) (by omega), by omega, by omega⟩
theorem Rl_0 : Rl F0i id (fun _ => 0) (fun _ => 0) (fun _ => 0) (fun _ => 0) (fun _ => 0) :=
  ⟨Iv_0, ⟨0, rfl, rfl, by omega, fun i hi => hi, fun i j _ _ h => h, fun i hi => by omega⟩, ⟨rfl, fun h => absurd rfl h⟩, 0, rfl, rfl, okT_0 _⟩
theorem cl_cls : cl 108 (clsH F0i id (fun _ => 0) (fun _ => 0) (fun _ => 0)) := by
  have f : ∀ b, b + 13 ≤ 108 → cl 108 (fest b vC) := fun b hb => cl_le (cl_fest b vC) hb
  unfold clsH
  refine cl_cons (fun n hn => ok_cons (ne_ref (by omega)) (ok_cons (ne_ref (by omega)) (ok_cons (ne_ref (by omega)) (ok_cons (ne_ref (by omega)) (ok_cons (ne_ref (by omega)) (ok_cons ne_int (ok_cons ne_int (ok_cons ne_int ok_nil)))))))) ?_
  refine cl_app (f 1 (by decide)) (cl_app (f 14 (by decide)) (cl_cons (fun n hn j => ?_) (cl_app (f 28 (by decide)) (cl_app (f 41 (by decide)) (cl_app (f 54 (by decide)) (cl_app (f 67 (by decide)) (cl_app (f 80 (by decide)) (cl_app (f 93 (by decide)) (cl_cons (fun n hn => ok_cons ne_int (ok_cons ne_int (ok_cons ne_int (ok_cons ne_int (ok_cons ne_int ok_nil))))) (cl_cons (fun _ _ => trivial) cl_nil)))))))))) 
  unfold svd
  by_cases hj : j < 6
  · rw [if_pos hj]
    intro e
    have : 28 + 13 * j = n := by injection e
    omega
  · rw [if_neg hj]
    exact fun e => by cases e
