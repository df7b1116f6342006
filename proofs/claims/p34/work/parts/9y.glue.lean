/-! WHAT STANDS AT THE LAW'S ENTRY (printed by wip/whole/glue.py) -/
set_option maxRecDepth 100000 in
theorem gn_0 : Cond.methodLinkNest RX3 25 yX1_init RX3 ∈ lw_tbl := List.mem_of_getElem? (i := 125) rfl
set_option maxRecDepth 100000 in
theorem gn_1 : Cond.methodLinkNest RX1 21 yX3_isWithin RX3 ∈ lw_tbl := List.mem_of_getElem? (i := 554) rfl
set_option maxRecDepth 100000 in
theorem gn_2 : Cond.methodLinkNest RX0 84 yX3_hasBit RX3 ∈ lw_tbl := List.mem_of_getElem? (i := 388) rfl
set_option maxRecDepth 100000 in
theorem gs_0 : Cond.stringRef RX3 54 "there are 8 films" ∈ lw_tbl := List.mem_of_getElem? (i := 261) rfl
set_option maxRecDepth 100000 in
theorem gs_1 : Cond.stringRef RX3 79 "there is no such setting" ∈ lw_tbl := List.mem_of_getElem? (i := 494) rfl
set_option maxRecDepth 100000 in
theorem gs_2 : Cond.stringRef RX3 124 "there are 6 guests" ∈ lw_tbl := List.mem_of_getElem? (i := 521) rfl
set_option maxRecDepth 100000 in
theorem gs_3 : Cond.stringRef RX3 139 "the juror goes to it already, or cannot" ∈ lw_tbl := List.mem_of_getElem? (i := 396) rfl
set_option maxRecDepth 100000 in
theorem gs_4 : Cond.stringRef RX3 150 "the juror has not seen the film" ∈ lw_tbl := List.mem_of_getElem? (i := 532) rfl
set_option maxRecDepth 100000 in
theorem gs_5 : Cond.stringRef RX3 158 "the buffer has 60 characters" ∈ lw_tbl := List.mem_of_getElem? (i := 537) rfl
set_option maxRecDepth 100000 in
theorem gs_6 : Cond.stringRef RX3 181 "there is no saved state" ∈ lw_tbl := List.mem_of_getElem? (i := 409) rfl
set_option maxRecDepth 100000 in
theorem gs_7 : Cond.stringRef RX3 191 "there is no snapshot" ∈ lw_tbl := List.mem_of_getElem? (i := 418) rfl
set_option maxRecDepth 100000 in
theorem gs_8 : Cond.stringRef RX3 208 "there is no such guest" ∈ lw_tbl := List.mem_of_getElem? (i := 668) rfl
set_option maxRecDepth 100000 in
theorem gs_9 : Cond.stringRef RX3 280 "there is no such film" ∈ lw_tbl := List.mem_of_getElem? (i := 311) rfl
set_option maxRecDepth 100000 in
theorem gs_10 : Cond.stringRef RX3 282 "there is no such showing" ∈ lw_tbl := List.mem_of_getElem? (i := 383) rfl
set_option maxRecDepth 100000 in
theorem gs_11 : Cond.stringRef RX3 284 "there is no such screen" ∈ lw_tbl := List.mem_of_getElem? (i := 321) rfl
set_option maxRecDepth 100000 in
theorem gs_12 : Cond.stringRef RX3 286 "there is no such juror" ∈ lw_tbl := List.mem_of_getElem? (i := 378) rfl
set_option maxRecDepth 100000 in
theorem gs_13 : Cond.stringRef RX3 290 "an argument is out of range" ∈ lw_tbl := List.mem_of_getElem? (i := 225) rfl
set_option maxRecDepth 100000 in
theorem gs_14 : Cond.stringRef RX3 293 "the showing is refused" ∈ lw_tbl := List.mem_of_getElem? (i := 366) rfl
set_option maxRecDepth 100000 in
theorem ga_f : Cond.arrayOver (.object "ReelScreens$Festival") ∈ lw_tbl := List.mem_of_getElem? (i := 122) rfl
set_option maxRecDepth 100000 in
theorem ga_int : Cond.arrayClass .int ∈ lw_tbl := List.mem_of_getElem? (i := 75) rfl
set_option maxRecDepth 100000 in
theorem ga_long : Cond.arrayClass .long ∈ lw_tbl := List.mem_of_getElem? (i := 807) rfl
set_option maxRecDepth 100000 in
theorem ga_byte : Cond.arrayClass .byte ∈ lw_tbl := List.mem_of_getElem? (i := 251) rfl
set_option maxRecDepth 100000 in
theorem gd_0 : Cond.declares (Bundle.initS "java/lang/RuntimeException") ∈ lw_tbl := List.mem_of_getElem? (i := 188) rfl
set_option maxRecDepth 100000 in
theorem gd_1 : Cond.declares (Bundle.initS "java/lang/Exception") ∈ lw_tbl := List.mem_of_getElem? (i := 190) rfl
set_option maxRecDepth 100000 in
theorem gd_2 : Cond.declares (Bundle.initS Bundle.tN) ∈ lw_tbl := List.mem_of_getElem? (i := 192) rfl
set_option maxRecDepth 100000 in
theorem gc_0 : Cond.castable "java/lang/IllegalArgumentException" "java/lang/IllegalArgumentException" ∈ lw_tbl := List.mem_of_getElem? (i := 186) rfl
set_option maxRecDepth 100000 in
theorem gc_1 : Cond.castable "java/lang/IllegalStateException" "java/lang/IllegalStateException" ∈ lw_tbl := List.mem_of_getElem? (i := 254) rfl
set_option maxRecDepth 100000 in
theorem gc_2 : Cond.castable "java/lang/IndexOutOfBoundsException" "java/lang/IndexOutOfBoundsException" ∈ lw_tbl := List.mem_of_getElem? (i := 304) rfl
set_option maxRecDepth 100000 in
theorem gl_0 : Cond.laysStatic Bundle.tN "UNASSIGNED_STACK" Bundle.steD ∈ lw_tbl := List.mem_of_getElem? (i := 211) rfl
set_option maxRecDepth 100000 in
theorem gl_1 : Cond.laysStatic Bundle.tN "SUPPRESSED_SENTINEL" Bundle.listD ∈ lw_tbl := List.mem_of_getElem? (i := 213) rfl
set_option maxRecDepth 100000 in
theorem gi_t : Cond.initialized Bundle.tN ∈ lw_tbl := List.mem_of_getElem? (i := 32) rfl
section GL
variable {args : Array Value} {s : State}
theorem gk_str {k : Nat} {tx : String} (hts : ∀ w ∈ lw_tbl, w.before args s = true) {cC : ClassId} (hc : s.vm.findClass RX3 = some cC) (hm : Cond.stringRef RX3 k tx ∈ lw_tbl) : ∃ a, vk_R RX3 k tx a s := by
  obtain ⟨-, -, -, a, -, -, -, -, -, hev⟩ := Cond.stringRef_spec hc (hts _ hm)
  exact ⟨a, vk_R.of (hts _ hm) hev⟩
theorem gk_arr {ty : FieldType} (h : (Cond.arrayClass ty).before args s = true) : ∃ c, ArrOfT s c ty ∧ s.vm.findClass ("[" ++ ty.toString) = some c := by
  obtain ⟨c, k, comp, h1, h2, h3⟩ := Cond.arrayClass_spec h
  exact ⟨c, fun n z => ⟨fun k h => (by cases h), k, h2, comp, h3⟩, h1⟩
theorem gk_arrF {C : String} (h : (Cond.arrayOver (.object C)).before args s = true) : ∃ c, ArrOfT s c (.object C) ∧ va_RA s c (.object C) := by
  obtain ⟨comp, c, k, h1, h2, h3, h4, h5⟩ := Cond.arrayOver_spec h
  exact ⟨c, fun n z => ⟨fun k h => (by cases h), k, h3, comp, h4⟩, k, comp, h3, h4, h1, h5⟩
theorem gk_sf (hts : ∀ w ∈ lw_tbl, w.before args s = true) (hgv : (Jvm.Cond.and given_1 narrow_1).before args s = true) : ∃ (dC : Nat → ClassId) (dI : Nat → Nat → Nat) (dA : Nat → Nat), jm_Sf s.heap.size dC dI dA s := by
  have hj : ∀ w ∈ jm_WS, w.before args s = true := fun w hw => hts w (jm_mem hw)
  have hs := flat_of_before _ hgv
  obtain ⟨c0, i0, k0⟩ := u_known (C := RX0) (T := TX0) (N := 10) (n := 10) hj inX0 (hj _ qw_27)
  obtain ⟨c1, i1, k1⟩ := u_known (C := RX1) (T := TX1) (N := 5) (n := 5) hj inX1 (hj _ qw_33)
  obtain ⟨c2, i2, k2⟩ := u_known (C := RX2) (T := TX2) (N := 3) (n := 3) hj inX2 (hj _ qw_13)
  obtain ⟨c3, i3, k3⟩ := u_known (C := RX3) (T := TX3) (N := 8) (n := 8) hj inX3 (hj _ qw_83)
  obtain ⟨a0, b0, e0⟩ := gk_arr (hts _ ga_int)
  obtain ⟨a1, b1, e1⟩ := gk_arr (hts _ ga_long)
  obtain ⟨a2, b2, e2⟩ := gk_arr (hts _ ga_byte)
  obtain ⟨a3, b3, e3⟩ := gk_arrF (hts _ ga_f)
  refine ⟨fun k => match k with | 0 => c0 | 1 => c1 | 2 => c2 | _ => c3, fun k => match k with | 0 => i0 | 1 => i1 | 2 => i2 | _ => i3, fun k => match k with | 0 => a0 | 1 => a1 | 2 => a2 | _ => a3, Nat.le_refl _, ⟨fun k q hq => ?_, fun k q hq => ?_⟩, fun q hq => ?_, fun q hq => ?_, ⟨va_AO.of (hts _ ga_f), fun x hx => ?_⟩, fun E hE => ?_, fun E hE E' hE' hne => ?_, ?_, ?_⟩
  · match k, hq with
    | 0, hq => cases hq; exact k0
    | 1, hq => cases hq; exact k1
    | 2, hq => cases hq; exact k2
    | 3, hq => cases hq; exact k3
    | k + 4, hq => simp [vwCl] at hq
  · match k, hq with
    | 0, hq => cases hq; exact ⟨b0, e0⟩
    | 1, hq => cases hq; exact ⟨b1, e1⟩
    | 2, hq => cases hq; exact ⟨b2, e2⟩
    | 3, hq => cases hq; exact ⟨b3, e3⟩
    | k + 4, hq => simp [jm_ty] at hq
  · simp only [jm_nests, List.mem_cons, List.not_mem_nil, or_false] at hq
    rcases hq with rfl | rfl | rfl
    · exact va_Nw.of (by rfl) (hts _ gn_0)
    · exact va_Nw.of (by rfl) (hts _ gn_1)
    · exact va_Nw.of (by rfl) (hts _ gn_2)
  · simp only [jm_strs, List.mem_cons, List.not_mem_nil, or_false] at hq
    rcases hq with rfl | rfl | rfl | rfl | rfl | rfl | rfl | rfl | rfl | rfl | rfl | rfl | rfl | rfl | rfl
    · exact gk_str hts k3.2.1 gs_0
    · exact gk_str hts k3.2.1 gs_1
    · exact gk_str hts k3.2.1 gs_2
    · exact gk_str hts k3.2.1 gs_3
    · exact gk_str hts k3.2.1 gs_4
    · exact gk_str hts k3.2.1 gs_5
    · exact gk_str hts k3.2.1 gs_6
    · exact gk_str hts k3.2.1 gs_7
    · exact gk_str hts k3.2.1 gs_8
    · exact gk_str hts k3.2.1 gs_9
    · exact gk_str hts k3.2.1 gs_10
    · exact gk_str hts k3.2.1 gs_11
    · exact gk_str hts k3.2.1 gs_12
    · exact gk_str hts k3.2.1 gs_13
    · exact gk_str hts k3.2.1 gs_14
  · simp only [jm_decl, List.mem_cons, List.not_mem_nil, or_false] at hx
    rcases hx with rfl | rfl | rfl
    · exact va_Nw.of (by rfl) (hts _ gd_0)
    · exact va_Nw.of (by rfl) (hts _ gd_1)
    · exact va_Nw.of (by rfl) (hts _ gd_2)
  · simp only [jm_thrs, List.mem_cons, List.not_mem_nil, or_false] at hE
    rcases hE with rfl | rfl | rfl
    · exact va_Nw.of (by rfl) (hts _ gc_0)
    · exact va_Nw.of (by rfl) (hts _ gc_1)
    · exact va_Nw.of (by rfl) (hts _ gc_2)
  · simp only [jm_thrs, List.mem_cons, List.not_mem_nil, or_false] at hE hE'
    rcases hE with rfl | rfl | rfl <;> rcases hE' with rfl | rfl | rfl
    · exact absurd rfl hne
    · exact va_Nc.of (hs _ (by decide +kernel))
    · exact va_Nc.of (hs _ (by decide +kernel))
    · exact va_Nc.of (hs _ (by decide +kernel))
    · exact absurd rfl hne
    · exact va_Nc.of (hs _ (by decide +kernel))
    · exact va_Nc.of (hs _ (by decide +kernel))
    · exact va_Nc.of (hs _ (by decide +kernel))
    · exact absurd rfl hne
  · exact vx_Zqof (hts _ gl_0) (hts _ gi_t) (hs _ (by decide +kernel)) (fun a h => Nat.not_le.mpr h)
  · exact vx_Zqof (hts _ gl_1) (hts _ gi_t) (hs _ (by decide +kernel)) (fun a h => Nat.not_le.mpr h)
end GL
