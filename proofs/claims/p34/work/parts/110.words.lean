/-! words by their places -/
set_option maxRecDepth 100000 in
theorem qw_553 : jm_cd M_L_call ∈ jm_WS := jm_in (List.mem_of_getElem? (i := 475) rfl) (by decide +kernel)
set_option maxRecDepth 100000 in
theorem qw_556 : jm_cd M_L_seen ∈ jm_WS := jm_in (List.mem_of_getElem? (i := 732) rfl) (by decide +kernel)
set_option maxRecDepth 100000 in
theorem qw_559 : jm_cd M_L_refusesFilms ∈ jm_WS := jm_in (List.mem_of_getElem? (i := 741) rfl) (by decide +kernel)
set_option maxRecDepth 100000 in
theorem qw_562 : jm_cd M_L_refusesShown ∈ jm_WS := jm_in (List.mem_of_getElem? (i := 752) rfl) (by decide +kernel)
set_option maxRecDepth 100000 in
theorem qw_568 : jm_cd M_L_refused ∈ jm_WS := jm_in (List.mem_of_getElem? (i := 738) rfl) (by decide +kernel)
set_option maxRecDepth 100000 in
theorem qw_579 : jm_cd M_L_types ∈ jm_WS := jm_in (List.mem_of_getElem? (i := 772) rfl) (by decide +kernel)
set_option maxRecDepth 100000 in
theorem qw_589 : jm_cd M_L_two ∈ jm_WS := jm_in (List.mem_of_getElem? (i := 755) rfl) (by decide +kernel)
set_option maxRecDepth 100000 in
theorem qw_592 : jm_cd M_L_many ∈ jm_WS := jm_in (List.mem_of_getElem? (i := 758) rfl) (by decide +kernel)
set_option maxRecDepth 100000 in
theorem qw_595 : jm_cd M_L_texts ∈ jm_WS := jm_in (List.mem_of_getElem? (i := 761) rfl) (by decide +kernel)
set_option maxRecDepth 100000 in
theorem qw_598 : Cond.code yL_drawn cL_drawn 2 (some .int) ∈ jm_WS := jm_in (List.mem_of_getElem? (i := 471) (by decide +kernel)) (by decide +kernel)
