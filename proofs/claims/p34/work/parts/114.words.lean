/-! words by their places -/
set_option maxRecDepth 100000 in
theorem qw_610 : u_lay RX0 TX0 0 ∈ jm_WS := jm_in (List.mem_of_getElem? (i := 101) rfl) (by decide +kernel)
set_option maxRecDepth 100000 in
theorem qw_611 : u_lay RX0 TX0 1 ∈ jm_WS := jm_in (List.mem_of_getElem? (i := 103) rfl) (by decide +kernel)
set_option maxRecDepth 100000 in
theorem qw_612 : u_lay RX0 TX0 2 ∈ jm_WS := jm_in (List.mem_of_getElem? (i := 105) rfl) (by decide +kernel)
set_option maxRecDepth 100000 in
theorem qw_613 : u_lay RX0 TX0 3 ∈ jm_WS := jm_in (List.mem_of_getElem? (i := 107) rfl) (by decide +kernel)
set_option maxRecDepth 100000 in
theorem qw_614 : u_lay RX0 TX0 4 ∈ jm_WS := jm_in (List.mem_of_getElem? (i := 109) rfl) (by decide +kernel)
set_option maxRecDepth 100000 in
theorem qw_615 : u_lay RX0 TX0 5 ∈ jm_WS := jm_in (List.mem_of_getElem? (i := 111) rfl) (by decide +kernel)
set_option maxRecDepth 100000 in
theorem qw_616 : u_lay RX0 TX0 6 ∈ jm_WS := jm_in (List.mem_of_getElem? (i := 113) rfl) (by decide +kernel)
set_option maxRecDepth 100000 in
theorem qw_617 : u_lay RX0 TX0 7 ∈ jm_WS := jm_in (List.mem_of_getElem? (i := 115) rfl) (by decide +kernel)
set_option maxRecDepth 100000 in
theorem qw_618 : u_lay RX0 TX0 8 ∈ jm_WS := jm_in (List.mem_of_getElem? (i := 117) rfl) (by decide +kernel)
set_option maxRecDepth 100000 in
theorem qw_619 : u_lay RX0 TX0 9 ∈ jm_WS := jm_in (List.mem_of_getElem? (i := 119) rfl) (by decide +kernel)
set_option maxRecDepth 100000 in
theorem qw_620 : u_lay RX1 TX1 0 ∈ jm_WS := jm_in (List.mem_of_getElem? (i := 138) rfl) (by decide +kernel)
set_option maxRecDepth 100000 in
theorem qw_621 : u_lay RX1 TX1 1 ∈ jm_WS := jm_in (List.mem_of_getElem? (i := 140) rfl) (by decide +kernel)
set_option maxRecDepth 100000 in
theorem qw_622 : u_lay RX1 TX1 2 ∈ jm_WS := jm_in (List.mem_of_getElem? (i := 142) rfl) (by decide +kernel)
set_option maxRecDepth 100000 in
theorem qw_623 : u_lay RX1 TX1 3 ∈ jm_WS := jm_in (List.mem_of_getElem? (i := 144) rfl) (by decide +kernel)
set_option maxRecDepth 100000 in
theorem qw_624 : u_lay RX1 TX1 4 ∈ jm_WS := jm_in (List.mem_of_getElem? (i := 146) rfl) (by decide +kernel)
set_option maxRecDepth 100000 in
theorem qw_625 : u_lay RX2 TX2 0 ∈ jm_WS := jm_in (List.mem_of_getElem? (i := 68) rfl) (by decide +kernel)
set_option maxRecDepth 100000 in
theorem qw_626 : u_lay RX2 TX2 1 ∈ jm_WS := jm_in (List.mem_of_getElem? (i := 70) rfl) (by decide +kernel)
set_option maxRecDepth 100000 in
theorem qw_627 : u_lay RX2 TX2 2 ∈ jm_WS := jm_in (List.mem_of_getElem? (i := 72) rfl) (by decide +kernel)
set_option maxRecDepth 100000 in
theorem qw_628 : u_lay RX3 TX3 0 ∈ jm_WS := jm_in (List.mem_of_getElem? (i := 157) rfl) (by decide +kernel)
set_option maxRecDepth 100000 in
theorem qw_629 : u_lay RX3 TX3 1 ∈ jm_WS := jm_in (List.mem_of_getElem? (i := 159) rfl) (by decide +kernel)
set_option maxRecDepth 100000 in
theorem qw_630 : u_lay RX3 TX3 2 ∈ jm_WS := jm_in (List.mem_of_getElem? (i := 161) rfl) (by decide +kernel)
set_option maxRecDepth 100000 in
theorem qw_631 : u_lay RX3 TX3 3 ∈ jm_WS := jm_in (List.mem_of_getElem? (i := 163) rfl) (by decide +kernel)
set_option maxRecDepth 100000 in
theorem qw_632 : u_lay RX3 TX3 4 ∈ jm_WS := jm_in (List.mem_of_getElem? (i := 165) rfl) (by decide +kernel)
set_option maxRecDepth 100000 in
theorem qw_633 : u_lay RX3 TX3 5 ∈ jm_WS := jm_in (List.mem_of_getElem? (i := 167) rfl) (by decide +kernel)
set_option maxRecDepth 100000 in
theorem qw_634 : u_lay RX3 TX3 6 ∈ jm_WS := jm_in (List.mem_of_getElem? (i := 169) rfl) (by decide +kernel)
set_option maxRecDepth 100000 in
theorem qw_635 : u_lay RX3 TX3 7 ∈ jm_WS := jm_in (List.mem_of_getElem? (i := 171) rfl) (by decide +kernel)
