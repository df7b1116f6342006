/-! rows for jm_J, printed by wip/whole/rows.py: instructions that touch stack and locals alone -/
section JR
variable {M : jm_M} {pc pc' : Nat} {ls : List (Nat × Value)} {st : List Value} {h : jm_H} {kc ks : Nat} {X : jm_X}
theorem jm_filt (ad : Nat → Nat) (P : Nat → Nat → Bool) (ls : List (Nat × Value)) : jm_L ad (ls.filter (fun q => P q.1 q.2.category)) = (jm_L ad ls).filter (fun q => P q.1 q.2.category) := by
  unfold jm_L
  rw [List.filter_map]
  congr 1
  apply List.filter_congr
  intro q _
  simp [Function.comp, jm_cat]

theorem jj_iadd {x y : Int32} (hd : decode (jm_by M) pc = .ok (.iadd, 1)) (hp : pc + 1 = pc') (k : jm_J M pc' ls (.int (x + y) :: st) h kc ks X) : jm_J M pc ls (.int y :: .int x :: st) h kc ks X := by
  subst hp
  intro p l e R s m args below meth c N0 dC dI dA ad0 n0 Q C ad H locs lsA hy
  obtain ⟨hx, hb, hml, hown, hts, -⟩ := id C
  exact lv_iadd hx hb hd (k p l e R s m args below meth c N0 dC dI dA ad0 n0 Q C ad H locs lsA hy)
theorem jj_isub {x y : Int32} (hd : decode (jm_by M) pc = .ok (.isub, 1)) (hp : pc + 1 = pc') (k : jm_J M pc' ls (.int (x - y) :: st) h kc ks X) : jm_J M pc ls (.int y :: .int x :: st) h kc ks X := by
  subst hp
  intro p l e R s m args below meth c N0 dC dI dA ad0 n0 Q C ad H locs lsA hy
  obtain ⟨hx, hb, hml, hown, hts, -⟩ := id C
  exact lv_isub hx hb hd (k p l e R s m args below meth c N0 dC dI dA ad0 n0 Q C ad H locs lsA hy)
theorem jj_imul {x y : Int32} (hd : decode (jm_by M) pc = .ok (.imul, 1)) (hp : pc + 1 = pc') (k : jm_J M pc' ls (.int (x * y) :: st) h kc ks X) : jm_J M pc ls (.int y :: .int x :: st) h kc ks X := by
  subst hp
  intro p l e R s m args below meth c N0 dC dI dA ad0 n0 Q C ad H locs lsA hy
  obtain ⟨hx, hb, hml, hown, hts, -⟩ := id C
  exact lv_imul hx hb hd (k p l e R s m args below meth c N0 dC dI dA ad0 n0 Q C ad H locs lsA hy)
theorem jj_iand {x y : Int32} (hd : decode (jm_by M) pc = .ok (.iand, 1)) (hp : pc + 1 = pc') (k : jm_J M pc' ls (.int (x &&& y) :: st) h kc ks X) : jm_J M pc ls (.int y :: .int x :: st) h kc ks X := by
  subst hp
  intro p l e R s m args below meth c N0 dC dI dA ad0 n0 Q C ad H locs lsA hy
  obtain ⟨hx, hb, hml, hown, hts, -⟩ := id C
  exact lv_iand hx hb hd (k p l e R s m args below meth c N0 dC dI dA ad0 n0 Q C ad H locs lsA hy)
theorem jj_ior {x y : Int32} (hd : decode (jm_by M) pc = .ok (.ior, 1)) (hp : pc + 1 = pc') (k : jm_J M pc' ls (.int (x ||| y) :: st) h kc ks X) : jm_J M pc ls (.int y :: .int x :: st) h kc ks X := by
  subst hp
  intro p l e R s m args below meth c N0 dC dI dA ad0 n0 Q C ad H locs lsA hy
  obtain ⟨hx, hb, hml, hown, hts, -⟩ := id C
  exact lv_ior hx hb hd (k p l e R s m args below meth c N0 dC dI dA ad0 n0 Q C ad H locs lsA hy)
theorem jj_ixor {x y : Int32} (hd : decode (jm_by M) pc = .ok (.ixor, 1)) (hp : pc + 1 = pc') (k : jm_J M pc' ls (.int (x ^^^ y) :: st) h kc ks X) : jm_J M pc ls (.int y :: .int x :: st) h kc ks X := by
  subst hp
  intro p l e R s m args below meth c N0 dC dI dA ad0 n0 Q C ad H locs lsA hy
  obtain ⟨hx, hb, hml, hown, hts, -⟩ := id C
  exact lv_ixor hx hb hd (k p l e R s m args below meth c N0 dC dI dA ad0 n0 Q C ad H locs lsA hy)
theorem jj_ishl {x y : Int32} (hd : decode (jm_by M) pc = .ok (.ishl, 1)) (hp : pc + 1 = pc') (k : jm_J M pc' ls (.int (x <<< (y &&& 31)) :: st) h kc ks X) : jm_J M pc ls (.int y :: .int x :: st) h kc ks X := by
  subst hp
  intro p l e R s m args below meth c N0 dC dI dA ad0 n0 Q C ad H locs lsA hy
  obtain ⟨hx, hb, hml, hown, hts, -⟩ := id C
  exact lv_ishl hx hb hd (k p l e R s m args below meth c N0 dC dI dA ad0 n0 Q C ad H locs lsA hy)
theorem jj_ishr {x y : Int32} (hd : decode (jm_by M) pc = .ok (.ishr, 1)) (hp : pc + 1 = pc') (k : jm_J M pc' ls (.int (x >>> (y &&& 31)) :: st) h kc ks X) : jm_J M pc ls (.int y :: .int x :: st) h kc ks X := by
  subst hp
  intro p l e R s m args below meth c N0 dC dI dA ad0 n0 Q C ad H locs lsA hy
  obtain ⟨hx, hb, hml, hown, hts, -⟩ := id C
  exact lv_ishr hx hb hd (k p l e R s m args below meth c N0 dC dI dA ad0 n0 Q C ad H locs lsA hy)
theorem jj_iushr {x y v : Int32} (hd : decode (jm_by M) pc = .ok (.iushr, 1)) (hv : (x.toUInt32 >>> (y.toUInt32 &&& Int32.toUInt32 31)).toInt32 = v) (hp : pc + 1 = pc') (k : jm_J M pc' ls (.int v :: st) h kc ks X) : jm_J M pc ls (.int y :: .int x :: st) h kc ks X := by
  subst hp
  intro p l e R s m args below meth c N0 dC dI dA ad0 n0 Q C ad H locs lsA hy
  obtain ⟨hx, hb, hml, hown, hts, -⟩ := id C
  exact lv_iushr hx hb hd hv (k p l e R s m args below meth c N0 dC dI dA ad0 n0 Q C ad H locs lsA hy)
theorem jj_idiv {x y : Int32} (hd : decode (jm_by M) pc = .ok (.idiv, 1)) (hne : ¬ y = 0) (hp : pc + 1 = pc') (k : jm_J M pc' ls (.int (x / y) :: st) h kc ks X) : jm_J M pc ls (.int y :: .int x :: st) h kc ks X := by
  subst hp
  intro p l e R s m args below meth c N0 dC dI dA ad0 n0 Q C ad H locs lsA hy
  obtain ⟨hx, hb, hml, hown, hts, -⟩ := id C
  exact lv_idiv hx hb hd hne (k p l e R s m args below meth c N0 dC dI dA ad0 n0 Q C ad H locs lsA hy)
theorem jj_irem {x y : Int32} (hd : decode (jm_by M) pc = .ok (.irem, 1)) (hne : ¬ y = 0) (hp : pc + 1 = pc') (k : jm_J M pc' ls (.int (x - x / y * y) :: st) h kc ks X) : jm_J M pc ls (.int y :: .int x :: st) h kc ks X := by
  subst hp
  intro p l e R s m args below meth c N0 dC dI dA ad0 n0 Q C ad H locs lsA hy
  obtain ⟨hx, hb, hml, hown, hts, -⟩ := id C
  exact lv_irem hx hb hd hne (k p l e R s m args below meth c N0 dC dI dA ad0 n0 Q C ad H locs lsA hy)
theorem jj_ladd {x y : Int64} (hd : decode (jm_by M) pc = .ok (.ladd, 1)) (hp : pc + 1 = pc') (k : jm_J M pc' ls (.long (x + y) :: st) h kc ks X) : jm_J M pc ls (.long y :: .long x :: st) h kc ks X := by
  subst hp
  intro p l e R s m args below meth c N0 dC dI dA ad0 n0 Q C ad H locs lsA hy
  obtain ⟨hx, hb, hml, hown, hts, -⟩ := id C
  exact lv_ladd hx hb hd (k p l e R s m args below meth c N0 dC dI dA ad0 n0 Q C ad H locs lsA hy)
theorem jj_lsub {x y : Int64} (hd : decode (jm_by M) pc = .ok (.lsub, 1)) (hp : pc + 1 = pc') (k : jm_J M pc' ls (.long (x - y) :: st) h kc ks X) : jm_J M pc ls (.long y :: .long x :: st) h kc ks X := by
  subst hp
  intro p l e R s m args below meth c N0 dC dI dA ad0 n0 Q C ad H locs lsA hy
  obtain ⟨hx, hb, hml, hown, hts, -⟩ := id C
  exact lv_lsub hx hb hd (k p l e R s m args below meth c N0 dC dI dA ad0 n0 Q C ad H locs lsA hy)
theorem jj_lmul {x y : Int64} (hd : decode (jm_by M) pc = .ok (.lmul, 1)) (hp : pc + 1 = pc') (k : jm_J M pc' ls (.long (x * y) :: st) h kc ks X) : jm_J M pc ls (.long y :: .long x :: st) h kc ks X := by
  subst hp
  intro p l e R s m args below meth c N0 dC dI dA ad0 n0 Q C ad H locs lsA hy
  obtain ⟨hx, hb, hml, hown, hts, -⟩ := id C
  exact lv_lmul hx hb hd (k p l e R s m args below meth c N0 dC dI dA ad0 n0 Q C ad H locs lsA hy)
theorem jj_lor {x y : Int64} (hd : decode (jm_by M) pc = .ok (.lor, 1)) (hp : pc + 1 = pc') (k : jm_J M pc' ls (.long (x ||| y) :: st) h kc ks X) : jm_J M pc ls (.long y :: .long x :: st) h kc ks X := by
  subst hp
  intro p l e R s m args below meth c N0 dC dI dA ad0 n0 Q C ad H locs lsA hy
  obtain ⟨hx, hb, hml, hown, hts, -⟩ := id C
  exact lv_lor hx hb hd (k p l e R s m args below meth c N0 dC dI dA ad0 n0 Q C ad H locs lsA hy)
theorem jj_lshl {x : Int64} {y : Int32} (hd : decode (jm_by M) pc = .ok (.lshl, 1)) (hp : pc + 1 = pc') (k : jm_J M pc' ls (.long (x <<< (y.toInt64 &&& 63)) :: st) h kc ks X) : jm_J M pc ls (.int y :: .long x :: st) h kc ks X := by
  subst hp
  intro p l e R s m args below meth c N0 dC dI dA ad0 n0 Q C ad H locs lsA hy
  obtain ⟨hx, hb, hml, hown, hts, -⟩ := id C
  exact lv_lshl hx hb hd rfl (k p l e R s m args below meth c N0 dC dI dA ad0 n0 Q C ad H locs lsA hy)
theorem jj_lcmp {x y : Int64} (hd : decode (jm_by M) pc = .ok (.lcmp, 1)) (hp : pc + 1 = pc') (k : jm_J M pc' ls (.int (lg_cmp x y) :: st) h kc ks X) : jm_J M pc ls (.long y :: .long x :: st) h kc ks X := by
  subst hp
  intro p l e R s m args below meth c N0 dC dI dA ad0 n0 Q C ad H locs lsA hy
  obtain ⟨hx, hb, hml, hown, hts, -⟩ := id C
  exact W.lcmp hx hb hd (k p l e R s m args below meth c N0 dC dI dA ad0 n0 Q C ad H locs lsA hy)
theorem jj_i2l {x : Int32} (hd : decode (jm_by M) pc = .ok (.i2l, 1)) (hp : pc + 1 = pc') (k : jm_J M pc' ls (.long x.toInt64 :: st) h kc ks X) : jm_J M pc ls (.int x :: st) h kc ks X := by
  subst hp
  intro p l e R s m args below meth c N0 dC dI dA ad0 n0 Q C ad H locs lsA hy
  obtain ⟨hx, hb, hml, hown, hts, -⟩ := id C
  exact lv_i2l hx hb hd rfl (k p l e R s m args below meth c N0 dC dI dA ad0 n0 Q C ad H locs lsA hy)
theorem jj_i2d {x : Int32} (hd : decode (jm_by M) pc = .ok (.i2d, 1)) (hp : pc + 1 = pc') (k : jm_J M pc' ls (.double (FP.i2d x) :: st) h kc ks X) : jm_J M pc ls (.int x :: st) h kc ks X := by
  subst hp
  intro p l e R s m args below meth c N0 dC dI dA ad0 n0 Q C ad H locs lsA hy
  obtain ⟨hx, hb, hml, hown, hts, -⟩ := id C
  exact lv_i2d hx hb hd (k p l e R s m args below meth c N0 dC dI dA ad0 n0 Q C ad H locs lsA hy)
theorem jj_d2l {x : UInt64} (hd : decode (jm_by M) pc = .ok (.d2l, 1)) (hp : pc + 1 = pc') (k : jm_J M pc' ls (.long (FP.d2l x) :: st) h kc ks X) : jm_J M pc ls (.double x :: st) h kc ks X := by
  subst hp
  intro p l e R s m args below meth c N0 dC dI dA ad0 n0 Q C ad H locs lsA hy
  obtain ⟨hx, hb, hml, hown, hts, -⟩ := id C
  exact lv_d2l hx hb hd (k p l e R s m args below meth c N0 dC dI dA ad0 n0 Q C ad H locs lsA hy)
theorem jj_dmul {x y : UInt64} (hd : decode (jm_by M) pc = .ok (.dmul, 1)) (hne : vf_n64 (FP.dmul x y)) (hp : pc + 1 = pc') (k : jm_J M pc' ls (.double (FP.dmul x y) :: st) h kc ks X) : jm_J M pc ls (.double y :: .double x :: st) h kc ks X := by
  subst hp
  intro p l e R s m args below meth c N0 dC dI dA ad0 n0 Q C ad H locs lsA hy
  obtain ⟨hx, hb, hml, hown, hts, -⟩ := id C
  exact lv_dmul hx hb hd hne (k p l e R s m args below meth c N0 dC dI dA ad0 n0 Q C ad H locs lsA hy)
theorem jj_dsub {x y : UInt64} (hd : decode (jm_by M) pc = .ok (.dsub, 1)) (hne : vf_n64 (FP.dsub x y)) (hp : pc + 1 = pc') (k : jm_J M pc' ls (.double (FP.dsub x y) :: st) h kc ks X) : jm_J M pc ls (.double y :: .double x :: st) h kc ks X := by
  subst hp
  intro p l e R s m args below meth c N0 dC dI dA ad0 n0 Q C ad H locs lsA hy
  obtain ⟨hx, hb, hml, hown, hts, -⟩ := id C
  exact lv_dsub hx hb hd hne (k p l e R s m args below meth c N0 dC dI dA ad0 n0 Q C ad H locs lsA hy)
theorem jj_ddiv {x y : UInt64} (hd : decode (jm_by M) pc = .ok (.ddiv, 1)) (hne : vf_n64 (FP.ddiv x y)) (hp : pc + 1 = pc') (k : jm_J M pc' ls (.double (FP.ddiv x y) :: st) h kc ks X) : jm_J M pc ls (.double y :: .double x :: st) h kc ks X := by
  subst hp
  intro p l e R s m args below meth c N0 dC dI dA ad0 n0 Q C ad H locs lsA hy
  obtain ⟨hx, hb, hml, hown, hts, -⟩ := id C
  exact lv_ddiv hx hb hd hne (k p l e R s m args below meth c N0 dC dI dA ad0 n0 Q C ad H locs lsA hy)
theorem jj_dcmp {x y : UInt64} {op : CmpOp} (hd : decode (jm_by M) pc = .ok (.dcmp op, 1)) (hp : pc + 1 = pc') (k : jm_J M pc' ls (.int (Op.cmpValue (FP.dcmp x y) op) :: st) h kc ks X) : jm_J M pc ls (.double y :: .double x :: st) h kc ks X := by
  subst hp
  intro p l e R s m args below meth c N0 dC dI dA ad0 n0 Q C ad H locs lsA hy
  obtain ⟨hx, hb, hml, hown, hts, -⟩ := id C
  exact lv_dcmp hx hb hd (k p l e R s m args below meth c N0 dC dI dA ad0 n0 Q C ad H locs lsA hy)
theorem jj_iconst {n : Int} {v : Int32} (hd : decode (jm_by M) pc = .ok (.iconst n, 1)) (hv : Int32.ofInt n = v) (hp : pc + 1 = pc') (k : jm_J M pc' ls (.int v :: st) h kc ks X) : jm_J M pc ls (st) h kc ks X := by
  subst hp
  intro p l e R s m args below meth c N0 dC dI dA ad0 n0 Q C ad H locs lsA hy
  obtain ⟨hx, hb, hml, hown, hts, -⟩ := id C
  exact lv_iconst hx hb hd hv (k p l e R s m args below meth c N0 dC dI dA ad0 n0 Q C ad H locs lsA hy)
theorem jj_bipush {n : Int} {v : Int32} (hd : decode (jm_by M) pc = .ok (.bipush n, 2)) (hv : (Int8.ofInt n).toInt32 = v) (hp : pc + 2 = pc') (k : jm_J M pc' ls (.int v :: st) h kc ks X) : jm_J M pc ls (st) h kc ks X := by
  subst hp
  intro p l e R s m args below meth c N0 dC dI dA ad0 n0 Q C ad H locs lsA hy
  obtain ⟨hx, hb, hml, hown, hts, -⟩ := id C
  exact lv_bipush hx hb hd hv (k p l e R s m args below meth c N0 dC dI dA ad0 n0 Q C ad H locs lsA hy)
theorem jj_sipush {n : Int} {v : Int32} (hd : decode (jm_by M) pc = .ok (.sipush n, 3)) (hv : (Int16.ofInt n).toInt32 = v) (hp : pc + 3 = pc') (k : jm_J M pc' ls (.int v :: st) h kc ks X) : jm_J M pc ls (st) h kc ks X := by
  subst hp
  intro p l e R s m args below meth c N0 dC dI dA ad0 n0 Q C ad H locs lsA hy
  obtain ⟨hx, hb, hml, hown, hts, -⟩ := id C
  exact lv_sipush hx hb hd hv (k p l e R s m args below meth c N0 dC dI dA ad0 n0 Q C ad H locs lsA hy)
theorem jj_lconst {n : Fin 2} {v : Int64} (hd : decode (jm_by M) pc = .ok (.lconst n, 1)) (hv : Int64.ofNat (n : Nat) = v) (hp : pc + 1 = pc') (k : jm_J M pc' ls (.long v :: st) h kc ks X) : jm_J M pc ls (st) h kc ks X := by
  subst hp
  intro p l e R s m args below meth c N0 dC dI dA ad0 n0 Q C ad H locs lsA hy
  obtain ⟨hx, hb, hml, hown, hts, -⟩ := id C
  exact lv_lconst hx hb hd hv (k p l e R s m args below meth c N0 dC dI dA ad0 n0 Q C ad H locs lsA hy)
theorem jj_dconst0  (hd : decode (jm_by M) pc = .ok (.dconst 0, 1)) (hp : pc + 1 = pc') (k : jm_J M pc' ls (.double FP.dconst0 :: st) h kc ks X) : jm_J M pc ls (st) h kc ks X := by
  subst hp
  intro p l e R s m args below meth c N0 dC dI dA ad0 n0 Q C ad H locs lsA hy
  obtain ⟨hx, hb, hml, hown, hts, -⟩ := id C
  exact lv_dconst0 hx hb hd (k p l e R s m args below meth c N0 dC dI dA ad0 n0 Q C ad H locs lsA hy)
theorem jj_dconst1  (hd : decode (jm_by M) pc = .ok (.dconst 1, 1)) (hp : pc + 1 = pc') (k : jm_J M pc' ls (.double FP.dconst1 :: st) h kc ks X) : jm_J M pc ls (st) h kc ks X := by
  subst hp
  intro p l e R s m args below meth c N0 dC dI dA ad0 n0 Q C ad H locs lsA hy
  obtain ⟨hx, hb, hml, hown, hts, -⟩ := id C
  exact lv_dconst1 hx hb hd (k p l e R s m args below meth c N0 dC dI dA ad0 n0 Q C ad H locs lsA hy)
theorem jj_ldc {idx : Nat} {v : Int32} (hd : decode (jm_by M) pc = .ok (.ldc idx, 2)) (hw : Cond.constant (jm_ow M) idx v ∈ jm_WS) (hp : pc + 2 = pc') (k : jm_J M pc' ls (.int v :: st) h kc ks X) : jm_J M pc ls (st) h kc ks X := by
  subst hp
  intro p l e R s m args below meth c N0 dC dI dA ad0 n0 Q C ad H locs lsA hy
  obtain ⟨hx, hb, hml, hown, hts, -⟩ := id C
  exact lv_ldc hx hb hown (hts _ hw) hd (k p l e R s m args below meth c N0 dC dI dA ad0 n0 Q C ad H locs lsA hy)
theorem jj_ldc_w {idx : Nat} {v : Int32} (hd : decode (jm_by M) pc = .ok (.ldc_w idx, 3)) (hw : Cond.constant (jm_ow M) idx v ∈ jm_WS) (hp : pc + 3 = pc') (k : jm_J M pc' ls (.int v :: st) h kc ks X) : jm_J M pc ls (st) h kc ks X := by
  subst hp
  intro p l e R s m args below meth c N0 dC dI dA ad0 n0 Q C ad H locs lsA hy
  obtain ⟨hx, hb, hml, hown, hts, -⟩ := id C
  exact lv_ldcw hx hb hown (hts _ hw) hd (k p l e R s m args below meth c N0 dC dI dA ad0 n0 Q C ad H locs lsA hy)
theorem jj_ldc2l {idx : Nat} {v : Int64} (hd : decode (jm_by M) pc = .ok (.ldc2_w idx, 3)) (hw : Cond.constantLong (jm_ow M) idx v ∈ jm_WS) (hp : pc + 3 = pc') (k : jm_J M pc' ls (.long v :: st) h kc ks X) : jm_J M pc ls (st) h kc ks X := by
  subst hp
  intro p l e R s m args below meth c N0 dC dI dA ad0 n0 Q C ad H locs lsA hy
  obtain ⟨hx, hb, hml, hown, hts, -⟩ := id C
  exact lv_ldc2 hx hb hown (hts _ hw) hd (k p l e R s m args below meth c N0 dC dI dA ad0 n0 Q C ad H locs lsA hy)
theorem jj_ldc2d {idx : Nat} {v : UInt64} (hd : decode (jm_by M) pc = .ok (.ldc2_w idx, 3)) (hw : Cond.constantDouble (jm_ow M) idx v ∈ jm_WS) (hp : pc + 3 = pc') (k : jm_J M pc' ls (.double v :: st) h kc ks X) : jm_J M pc ls (st) h kc ks X := by
  subst hp
  intro p l e R s m args below meth c N0 dC dI dA ad0 n0 Q C ad H locs lsA hy
  obtain ⟨hx, hb, hml, hown, hts, -⟩ := id C
  exact lv_ldc2d hx hb hown (hts _ hw) hd (k p l e R s m args below meth c N0 dC dI dA ad0 n0 Q C ad H locs lsA hy)
theorem jj_dup {v : Value} (hd : decode (jm_by M) pc = .ok (.dup, 1)) (hv : v.category = 1) (hp : pc + 1 = pc') (k : jm_J M pc' ls (v :: v :: st) h kc ks X) : jm_J M pc ls (v :: st) h kc ks X := by
  subst hp
  intro p l e R s m args below meth c N0 dC dI dA ad0 n0 Q C ad H locs lsA hy
  obtain ⟨hx, hb, hml, hown, hts, -⟩ := id C
  exact lv_dup hx hb hd (by rw [jm_cat]; exact hv) (k p l e R s m args below meth c N0 dC dI dA ad0 n0 Q C ad H locs lsA hy)
theorem jj_pop {v : Value} (hd : decode (jm_by M) pc = .ok (.pop, 1)) (hv : v.category = 1) (hp : pc + 1 = pc') (k : jm_J M pc' ls (st) h kc ks X) : jm_J M pc ls (v :: st) h kc ks X := by
  subst hp
  intro p l e R s m args below meth c N0 dC dI dA ad0 n0 Q C ad H locs lsA hy
  obtain ⟨hx, hb, hml, hown, hts, -⟩ := id C
  exact lv_pop hx hb hd (by rw [jm_cat]; exact hv) (k p l e R s m args below meth c N0 dC dI dA ad0 n0 Q C ad H locs lsA hy)
theorem jj_dup2 {v u : Value} (hd : decode (jm_by M) pc = .ok (.dup2, 1)) (hv : v.category = 1) (hu : u.category = 1) (hp : pc + 1 = pc') (k : jm_J M pc' ls (v :: u :: v :: u :: st) h kc ks X) : jm_J M pc ls (v :: u :: st) h kc ks X := by
  subst hp
  intro p l e R s m args below meth c N0 dC dI dA ad0 n0 Q C ad H locs lsA hy
  obtain ⟨hx, hb, hml, hown, hts, -⟩ := id C
  exact lv_dup2_11 hx hb hd (by rw [jm_cat]; exact hv) (by rw [jm_cat]; exact hu) (k p l e R s m args below meth c N0 dC dI dA ad0 n0 Q C ad H locs lsA hy)
theorem jj_iload_n {j i : Nat} {n : Fin 4} {x : Int32} (hd : decode (jm_by M) pc = .ok (.iload_n n, 1)) (hi : (n : Nat) = i) (hl : ls[j]? = some (i, .int x)) (hp : pc + 1 = pc') (k : jm_J M pc' ls (.int x :: st) h kc ks X) : jm_J M pc ls (st) h kc ks X := by
  subst hp
  intro p l e R s m args below meth c N0 dC dI dA ad0 n0 Q C ad H locs lsA hy
  obtain ⟨hx, hb, hml, hown, hts, -⟩ := id C
  exact lv_iload_n hx hb hd hi (jm_at hy.2.2.2.2 (List.mem_of_getElem? hl)) (k p l e R s m args below meth c N0 dC dI dA ad0 n0 Q C ad H locs lsA hy)
theorem jj_iload {j i : Nat} {x : Int32} (hd : decode (jm_by M) pc = .ok (.iload i, 2)) (hl : ls[j]? = some (i, .int x)) (hp : pc + 2 = pc') (k : jm_J M pc' ls (.int x :: st) h kc ks X) : jm_J M pc ls (st) h kc ks X := by
  subst hp
  intro p l e R s m args below meth c N0 dC dI dA ad0 n0 Q C ad H locs lsA hy
  obtain ⟨hx, hb, hml, hown, hts, -⟩ := id C
  exact lv_iload hx hb hd (jm_at hy.2.2.2.2 (List.mem_of_getElem? hl)) (k p l e R s m args below meth c N0 dC dI dA ad0 n0 Q C ad H locs lsA hy)
theorem jj_lload_n {j i : Nat} {n : Fin 4} {x : Int64} (hd : decode (jm_by M) pc = .ok (.lload_n n, 1)) (hi : (n : Nat) = i) (hl : ls[j]? = some (i, .long x)) (hp : pc + 1 = pc') (k : jm_J M pc' ls (.long x :: st) h kc ks X) : jm_J M pc ls (st) h kc ks X := by
  subst hp
  intro p l e R s m args below meth c N0 dC dI dA ad0 n0 Q C ad H locs lsA hy
  obtain ⟨hx, hb, hml, hown, hts, -⟩ := id C
  exact lv_lload_n hx hb hd hi (jm_at hy.2.2.2.2 (List.mem_of_getElem? hl)) (k p l e R s m args below meth c N0 dC dI dA ad0 n0 Q C ad H locs lsA hy)
theorem jj_lload {j i : Nat} {x : Int64} (hd : decode (jm_by M) pc = .ok (.lload i, 2)) (hl : ls[j]? = some (i, .long x)) (hp : pc + 2 = pc') (k : jm_J M pc' ls (.long x :: st) h kc ks X) : jm_J M pc ls (st) h kc ks X := by
  subst hp
  intro p l e R s m args below meth c N0 dC dI dA ad0 n0 Q C ad H locs lsA hy
  obtain ⟨hx, hb, hml, hown, hts, -⟩ := id C
  exact lv_lload hx hb hd (jm_at hy.2.2.2.2 (List.mem_of_getElem? hl)) (k p l e R s m args below meth c N0 dC dI dA ad0 n0 Q C ad H locs lsA hy)
theorem jj_aload_n {j i : Nat} {n : Fin 4} {x : Nat} (hd : decode (jm_by M) pc = .ok (.aload_n n, 1)) (hi : (n : Nat) = i) (hl : ls[j]? = some (i, .ref x)) (hp : pc + 1 = pc') (k : jm_J M pc' ls (.ref x :: st) h kc ks X) : jm_J M pc ls (st) h kc ks X := by
  subst hp
  intro p l e R s m args below meth c N0 dC dI dA ad0 n0 Q C ad H locs lsA hy
  obtain ⟨hx, hb, hml, hown, hts, -⟩ := id C
  exact lv_aload_n hx hb hd hi (jm_at hy.2.2.2.2 (List.mem_of_getElem? hl)) (k p l e R s m args below meth c N0 dC dI dA ad0 n0 Q C ad H locs lsA hy)
theorem jj_aload {j i : Nat} {x : Nat} (hd : decode (jm_by M) pc = .ok (.aload i, 2)) (hl : ls[j]? = some (i, .ref x)) (hp : pc + 2 = pc') (k : jm_J M pc' ls (.ref x :: st) h kc ks X) : jm_J M pc ls (st) h kc ks X := by
  subst hp
  intro p l e R s m args below meth c N0 dC dI dA ad0 n0 Q C ad H locs lsA hy
  obtain ⟨hx, hb, hml, hown, hts, -⟩ := id C
  exact lv_aload hx hb hd (jm_at hy.2.2.2.2 (List.mem_of_getElem? hl)) (k p l e R s m args below meth c N0 dC dI dA ad0 n0 Q C ad H locs lsA hy)
theorem jj_dload_n {j i : Nat} {n : Fin 4} {x : UInt64} (hd : decode (jm_by M) pc = .ok (.dload_n n, 1)) (hi : (n : Nat) = i) (hl : ls[j]? = some (i, .double x)) (hp : pc + 1 = pc') (k : jm_J M pc' ls (.double x :: st) h kc ks X) : jm_J M pc ls (st) h kc ks X := by
  subst hp
  intro p l e R s m args below meth c N0 dC dI dA ad0 n0 Q C ad H locs lsA hy
  obtain ⟨hx, hb, hml, hown, hts, -⟩ := id C
  exact lv_dload_n hx hb hd hi (jm_at hy.2.2.2.2 (List.mem_of_getElem? hl)) (k p l e R s m args below meth c N0 dC dI dA ad0 n0 Q C ad H locs lsA hy)
theorem jj_dload {j i : Nat} {x : UInt64} (hd : decode (jm_by M) pc = .ok (.dload i, 2)) (hl : ls[j]? = some (i, .double x)) (hp : pc + 2 = pc') (k : jm_J M pc' ls (.double x :: st) h kc ks X) : jm_J M pc ls (st) h kc ks X := by
  subst hp
  intro p l e R s m args below meth c N0 dC dI dA ad0 n0 Q C ad H locs lsA hy
  obtain ⟨hx, hb, hml, hown, hts, -⟩ := id C
  exact lv_dload hx hb hd (jm_at hy.2.2.2.2 (List.mem_of_getElem? hl)) (k p l e R s m args below meth c N0 dC dI dA ad0 n0 Q C ad H locs lsA hy)
theorem jj_istore_n {i : Nat} {x : Int32} {ls' : List (Nat × Value)} {n : Fin 4} (hd : decode (jm_by M) pc = .ok (.istore_n n, 1)) (hi : (n : Nat) = i) (hn : i < jm_nL M) (hl : (i, (.int x : Value)) :: ls.filter (fun q => !(q.1 == i) && !(q.1 + 1 == i && q.2.category == 2)) = ls') (hp : pc + 1 = pc') (k : jm_J M pc' ls' st h kc ks X) : jm_J M pc ls (.int x :: st) h kc ks X := by
  subst hp
  intro p l e R s m args below meth c N0 dC dI dA ad0 n0 Q C ad H locs lsA hy
  obtain ⟨hx, hb, hml, hown, hts, -⟩ := id C
  refine lv_istore_n (x := x) (lv' := jm_L ad ls') hx hb hd hi hy.2.2.2.2 hn ?_ (fun lsA' hA' => k p l e R s m args below meth c N0 dC dI dA ad0 n0 Q C ad H locs lsA' (jm_lens hy hA'))
  rw [← hl]
  show _ = (i, (.int x : Value)) :: jm_L ad (ls.filter (fun q => !(q.1 == i) && !(q.1 + 1 == i && q.2.category == 2)))
  rw [show (fun q => !(q.1 == i) && !(q.1 + 1 == i && q.2.category == 2)) = (fun q : Nat × Value => (fun a b => !(a == i) && !(a + 1 == i && b == 2)) q.1 q.2.category) from rfl, jm_filt ad (fun a b => !(a == i) && !(a + 1 == i && b == 2))]
theorem jj_istore {i : Nat} {x : Int32} {ls' : List (Nat × Value)} (hd : decode (jm_by M) pc = .ok (.istore i, 2)) (hn : i < jm_nL M) (hl : (i, (.int x : Value)) :: ls.filter (fun q => !(q.1 == i) && !(q.1 + 1 == i && q.2.category == 2)) = ls') (hp : pc + 2 = pc') (k : jm_J M pc' ls' st h kc ks X) : jm_J M pc ls (.int x :: st) h kc ks X := by
  subst hp
  intro p l e R s m args below meth c N0 dC dI dA ad0 n0 Q C ad H locs lsA hy
  obtain ⟨hx, hb, hml, hown, hts, -⟩ := id C
  refine lv_istore (x := x) (lv' := jm_L ad ls') hx hb hd  hy.2.2.2.2 hn ?_ (fun lsA' hA' => k p l e R s m args below meth c N0 dC dI dA ad0 n0 Q C ad H locs lsA' (jm_lens hy hA'))
  rw [← hl]
  show _ = (i, (.int x : Value)) :: jm_L ad (ls.filter (fun q => !(q.1 == i) && !(q.1 + 1 == i && q.2.category == 2)))
  rw [show (fun q => !(q.1 == i) && !(q.1 + 1 == i && q.2.category == 2)) = (fun q : Nat × Value => (fun a b => !(a == i) && !(a + 1 == i && b == 2)) q.1 q.2.category) from rfl, jm_filt ad (fun a b => !(a == i) && !(a + 1 == i && b == 2))]
theorem jj_astore_n {i : Nat} {x : Nat} {ls' : List (Nat × Value)} {n : Fin 4} (hd : decode (jm_by M) pc = .ok (.astore_n n, 1)) (hi : (n : Nat) = i) (hn : i < jm_nL M) (hl : (i, (.ref x : Value)) :: ls.filter (fun q => !(q.1 == i) && !(q.1 + 1 == i && q.2.category == 2)) = ls') (hp : pc + 1 = pc') (k : jm_J M pc' ls' st h kc ks X) : jm_J M pc ls (.ref x :: st) h kc ks X := by
  subst hp
  intro p l e R s m args below meth c N0 dC dI dA ad0 n0 Q C ad H locs lsA hy
  obtain ⟨hx, hb, hml, hown, hts, -⟩ := id C
  refine lv_astore_n (x := (ad x)) (lv' := jm_L ad ls') hx hb hd hi hy.2.2.2.2 hn ?_ (fun lsA' hA' => k p l e R s m args below meth c N0 dC dI dA ad0 n0 Q C ad H locs lsA' (jm_lens hy hA'))
  rw [← hl]
  show _ = (i, (.ref (ad x) : Value)) :: jm_L ad (ls.filter (fun q => !(q.1 == i) && !(q.1 + 1 == i && q.2.category == 2)))
  rw [show (fun q => !(q.1 == i) && !(q.1 + 1 == i && q.2.category == 2)) = (fun q : Nat × Value => (fun a b => !(a == i) && !(a + 1 == i && b == 2)) q.1 q.2.category) from rfl, jm_filt ad (fun a b => !(a == i) && !(a + 1 == i && b == 2))]
theorem jj_astore {i : Nat} {x : Nat} {ls' : List (Nat × Value)} (hd : decode (jm_by M) pc = .ok (.astore i, 2)) (hn : i < jm_nL M) (hl : (i, (.ref x : Value)) :: ls.filter (fun q => !(q.1 == i) && !(q.1 + 1 == i && q.2.category == 2)) = ls') (hp : pc + 2 = pc') (k : jm_J M pc' ls' st h kc ks X) : jm_J M pc ls (.ref x :: st) h kc ks X := by
  subst hp
  intro p l e R s m args below meth c N0 dC dI dA ad0 n0 Q C ad H locs lsA hy
  obtain ⟨hx, hb, hml, hown, hts, -⟩ := id C
  refine lv_astore (x := (ad x)) (lv' := jm_L ad ls') hx hb hd  hy.2.2.2.2 hn ?_ (fun lsA' hA' => k p l e R s m args below meth c N0 dC dI dA ad0 n0 Q C ad H locs lsA' (jm_lens hy hA'))
  rw [← hl]
  show _ = (i, (.ref (ad x) : Value)) :: jm_L ad (ls.filter (fun q => !(q.1 == i) && !(q.1 + 1 == i && q.2.category == 2)))
  rw [show (fun q => !(q.1 == i) && !(q.1 + 1 == i && q.2.category == 2)) = (fun q : Nat × Value => (fun a b => !(a == i) && !(a + 1 == i && b == 2)) q.1 q.2.category) from rfl, jm_filt ad (fun a b => !(a == i) && !(a + 1 == i && b == 2))]
theorem jj_lstore_n {i : Nat} {x : Int64} {ls' : List (Nat × Value)} {n : Fin 4} (hd : decode (jm_by M) pc = .ok (.lstore_n n, 1)) (hi : (n : Nat) = i) (hn : i + 1 < jm_nL M) (hl : (i, (.long x : Value)) :: ls.filter (fun q => !(q.1 == i) && (!(q.1 == i + 1) && !(q.1 + 1 == i && q.2.category == 2))) = ls') (hp : pc + 1 = pc') (k : jm_J M pc' ls' st h kc ks X) : jm_J M pc ls (.long x :: st) h kc ks X := by
  subst hp
  intro p l e R s m args below meth c N0 dC dI dA ad0 n0 Q C ad H locs lsA hy
  obtain ⟨hx, hb, hml, hown, hts, -⟩ := id C
  refine lv_lstore_n (x := x) (lv' := jm_L ad ls') hx hb hd hi hy.2.2.2.2 hn ?_ (fun lsA' hA' => k p l e R s m args below meth c N0 dC dI dA ad0 n0 Q C ad H locs lsA' (jm_lens hy hA'))
  rw [← hl]
  show _ = (i, (.long x : Value)) :: jm_L ad (ls.filter (fun q => !(q.1 == i) && (!(q.1 == i + 1) && !(q.1 + 1 == i && q.2.category == 2))))
  rw [show (fun q => !(q.1 == i) && (!(q.1 == i + 1) && !(q.1 + 1 == i && q.2.category == 2))) = (fun q : Nat × Value => (fun a b => !(a == i) && (!(a == i + 1) && !(a + 1 == i && b == 2))) q.1 q.2.category) from rfl, jm_filt ad (fun a b => !(a == i) && (!(a == i + 1) && !(a + 1 == i && b == 2)))]
theorem jj_lstore {i : Nat} {x : Int64} {ls' : List (Nat × Value)} (hd : decode (jm_by M) pc = .ok (.lstore i, 2)) (hn : i + 1 < jm_nL M) (hl : (i, (.long x : Value)) :: ls.filter (fun q => !(q.1 == i) && (!(q.1 == i + 1) && !(q.1 + 1 == i && q.2.category == 2))) = ls') (hp : pc + 2 = pc') (k : jm_J M pc' ls' st h kc ks X) : jm_J M pc ls (.long x :: st) h kc ks X := by
  subst hp
  intro p l e R s m args below meth c N0 dC dI dA ad0 n0 Q C ad H locs lsA hy
  obtain ⟨hx, hb, hml, hown, hts, -⟩ := id C
  refine lv_lstore (x := x) (lv' := jm_L ad ls') hx hb hd  hy.2.2.2.2 hn ?_ (fun lsA' hA' => k p l e R s m args below meth c N0 dC dI dA ad0 n0 Q C ad H locs lsA' (jm_lens hy hA'))
  rw [← hl]
  show _ = (i, (.long x : Value)) :: jm_L ad (ls.filter (fun q => !(q.1 == i) && (!(q.1 == i + 1) && !(q.1 + 1 == i && q.2.category == 2))))
  rw [show (fun q => !(q.1 == i) && (!(q.1 == i + 1) && !(q.1 + 1 == i && q.2.category == 2))) = (fun q : Nat × Value => (fun a b => !(a == i) && (!(a == i + 1) && !(a + 1 == i && b == 2))) q.1 q.2.category) from rfl, jm_filt ad (fun a b => !(a == i) && (!(a == i + 1) && !(a + 1 == i && b == 2)))]
theorem jj_dstore_n {i : Nat} {x : UInt64} {ls' : List (Nat × Value)} {n : Fin 4} (hd : decode (jm_by M) pc = .ok (.dstore_n n, 1)) (hi : (n : Nat) = i) (hn : i + 1 < jm_nL M) (hl : (i, (.double x : Value)) :: ls.filter (fun q => !(q.1 == i) && (!(q.1 == i + 1) && !(q.1 + 1 == i && q.2.category == 2))) = ls') (hp : pc + 1 = pc') (k : jm_J M pc' ls' st h kc ks X) : jm_J M pc ls (.double x :: st) h kc ks X := by
  subst hp
  intro p l e R s m args below meth c N0 dC dI dA ad0 n0 Q C ad H locs lsA hy
  obtain ⟨hx, hb, hml, hown, hts, -⟩ := id C
  refine lv_dstore_n (x := x) (lv' := jm_L ad ls') hx hb hd hi hy.2.2.2.2 hn ?_ (fun lsA' hA' => k p l e R s m args below meth c N0 dC dI dA ad0 n0 Q C ad H locs lsA' (jm_lens hy hA'))
  rw [← hl]
  show _ = (i, (.double x : Value)) :: jm_L ad (ls.filter (fun q => !(q.1 == i) && (!(q.1 == i + 1) && !(q.1 + 1 == i && q.2.category == 2))))
  rw [show (fun q => !(q.1 == i) && (!(q.1 == i + 1) && !(q.1 + 1 == i && q.2.category == 2))) = (fun q : Nat × Value => (fun a b => !(a == i) && (!(a == i + 1) && !(a + 1 == i && b == 2))) q.1 q.2.category) from rfl, jm_filt ad (fun a b => !(a == i) && (!(a == i + 1) && !(a + 1 == i && b == 2)))]
theorem jj_dstore {i : Nat} {x : UInt64} {ls' : List (Nat × Value)} (hd : decode (jm_by M) pc = .ok (.dstore i, 2)) (hn : i + 1 < jm_nL M) (hl : (i, (.double x : Value)) :: ls.filter (fun q => !(q.1 == i) && (!(q.1 == i + 1) && !(q.1 + 1 == i && q.2.category == 2))) = ls') (hp : pc + 2 = pc') (k : jm_J M pc' ls' st h kc ks X) : jm_J M pc ls (.double x :: st) h kc ks X := by
  subst hp
  intro p l e R s m args below meth c N0 dC dI dA ad0 n0 Q C ad H locs lsA hy
  obtain ⟨hx, hb, hml, hown, hts, -⟩ := id C
  refine lv_dstore (x := x) (lv' := jm_L ad ls') hx hb hd  hy.2.2.2.2 hn ?_ (fun lsA' hA' => k p l e R s m args below meth c N0 dC dI dA ad0 n0 Q C ad H locs lsA' (jm_lens hy hA'))
  rw [← hl]
  show _ = (i, (.double x : Value)) :: jm_L ad (ls.filter (fun q => !(q.1 == i) && (!(q.1 == i + 1) && !(q.1 + 1 == i && q.2.category == 2))))
  rw [show (fun q => !(q.1 == i) && (!(q.1 == i + 1) && !(q.1 + 1 == i && q.2.category == 2))) = (fun q : Nat × Value => (fun a b => !(a == i) && (!(a == i + 1) && !(a + 1 == i && b == 2))) q.1 q.2.category) from rfl, jm_filt ad (fun a b => !(a == i) && (!(a == i + 1) && !(a + 1 == i && b == 2)))]
theorem jj_iinc {i j : Nat} {n : Int} {x v : Int32} {ls' : List (Nat × Value)} (hd : decode (jm_by M) pc = .ok (.iinc i n, 3)) (hj : ls[j]? = some (i, .int x)) (hv : x + Int32.ofInt n = v) (hn : i < jm_nL M) (hl : (i, (.int v : Value)) :: ls.filter (fun q => !(q.1 == i) && !(q.1 + 1 == i && q.2.category == 2)) = ls') (hp : pc + 3 = pc') (k : jm_J M pc' ls' st h kc ks X) : jm_J M pc ls st h kc ks X := by
  subst hp
  intro p l e R s m args below meth c N0 dC dI dA ad0 n0 Q C ad H locs lsA hy
  obtain ⟨hx, hb, hml, hown, hts, -⟩ := id C
  have hj' : (jm_L ad ls)[j]? = some (i, .int x) := by rw [jm_L, List.getElem?_map, hj]; rfl
  refine lv_iinc (k := j) (x := x) (v := v) (lv' := jm_L ad ls') hx hb hd hy.2.2.2.2 hj' hv hn ?_ (fun lsA' hA' => k p l e R s m args below meth c N0 dC dI dA ad0 n0 Q C ad H locs lsA' (jm_lens hy hA'))
  rw [← hl]
  show _ = (i, (.int v : Value)) :: jm_L ad (ls.filter (fun q => !(q.1 == i) && !(q.1 + 1 == i && q.2.category == 2)))
  rw [show (fun q : Nat × Value => !(q.1 == i) && !(q.1 + 1 == i && q.2.category == 2)) = (fun q : Nat × Value => (fun a b => !(a == i) && !(a + 1 == i && b == 2)) q.1 q.2.category) from rfl, jm_filt ad (fun a b => !(a == i) && !(a + 1 == i && b == 2))]
theorem jj_if_eq {x : Int32} {off : Int} {tgt : Nat} {A B : Option jm_X} (hd : decode (jm_by M) pc = .ok (.ifCond .eq off, 3)) (ht : (pc : Int) + off = (tgt : Int)) (hp : pc + 3 = pc') (kt : x = 0 → A = some X → jm_J M tgt ls st h kc ks X) (kf : ¬ x = 0 → B = some X → jm_J M pc' ls st h kc ks X) (hF : (if x = 0 then A else B) = some X) : jm_J M pc ls (.int x :: st) h kc ks X := by
  subst hp
  intro p l e R s m args below meth c N0 dC dI dA ad0 n0 Q C ad H locs lsA hy
  obtain ⟨hx, hb, hml, hown, hts, -⟩ := id C
  by_cases hc : x = 0
  · rw [if_pos hc] at hF
    exact lv_if_eq hx hb hd ht (fun hc => kt hc hF p l e R s m args below meth c N0 dC dI dA ad0 n0 Q C ad H locs lsA hy) (fun hc' => absurd hc hc')
  · rw [if_neg hc] at hF
    exact lv_if_eq hx hb hd ht (fun hc' => absurd hc' hc) (fun hc => kf hc hF p l e R s m args below meth c N0 dC dI dA ad0 n0 Q C ad H locs lsA hy)
theorem jj_if_eq_t {x : Int32} {off : Int} {tgt : Nat} (hd : decode (jm_by M) pc = .ok (.ifCond .eq off, 3)) (ht : (pc : Int) + off = (tgt : Int)) (hc : x = 0) (k : jm_J M tgt ls st h kc ks X) : jm_J M pc ls (.int x :: st) h kc ks X := by
  intro p l e R s m args below meth c N0 dC dI dA ad0 n0 Q C ad H locs lsA hy
  obtain ⟨hx, hb, hml, hown, hts, -⟩ := id C
  exact lv_if_eq hx hb hd ht (fun _ => k p l e R s m args below meth c N0 dC dI dA ad0 n0 Q C ad H locs lsA hy) (fun hc' => absurd hc hc')
theorem jj_if_eq_f {x : Int32} {off : Int} (hd : decode (jm_by M) pc = .ok (.ifCond .eq off, 3)) (hp : pc + 3 = pc') (hc : ¬ x = 0) (tgt : Nat) (ht : (pc : Int) + off = (tgt : Int)) (k : jm_J M pc' ls st h kc ks X) : jm_J M pc ls (.int x :: st) h kc ks X := by
  subst hp
  intro p l e R s m args below meth c N0 dC dI dA ad0 n0 Q C ad H locs lsA hy
  obtain ⟨hx, hb, hml, hown, hts, -⟩ := id C
  exact lv_if_eq hx hb hd ht (fun hc' => absurd hc' hc) (fun _ => k p l e R s m args below meth c N0 dC dI dA ad0 n0 Q C ad H locs lsA hy)
theorem jj_if_ne {x : Int32} {off : Int} {tgt : Nat} {A B : Option jm_X} (hd : decode (jm_by M) pc = .ok (.ifCond .ne off, 3)) (ht : (pc : Int) + off = (tgt : Int)) (hp : pc + 3 = pc') (kt : ¬ x = 0 → A = some X → jm_J M tgt ls st h kc ks X) (kf : x = 0 → B = some X → jm_J M pc' ls st h kc ks X) (hF : (if x = 0 then B else A) = some X) : jm_J M pc ls (.int x :: st) h kc ks X := by
  subst hp
  intro p l e R s m args below meth c N0 dC dI dA ad0 n0 Q C ad H locs lsA hy
  obtain ⟨hx, hb, hml, hown, hts, -⟩ := id C
  by_cases hc : x = 0
  · rw [if_pos hc] at hF
    exact lv_if_ne hx hb hd ht (fun hc' => absurd hc hc') (fun hc => kf hc hF p l e R s m args below meth c N0 dC dI dA ad0 n0 Q C ad H locs lsA hy)
  · rw [if_neg hc] at hF
    exact lv_if_ne hx hb hd ht (fun hc => kt hc hF p l e R s m args below meth c N0 dC dI dA ad0 n0 Q C ad H locs lsA hy) (fun hc' => absurd hc' hc)
theorem jj_if_ne_t {x : Int32} {off : Int} {tgt : Nat} (hd : decode (jm_by M) pc = .ok (.ifCond .ne off, 3)) (ht : (pc : Int) + off = (tgt : Int)) (hc : ¬ x = 0) (k : jm_J M tgt ls st h kc ks X) : jm_J M pc ls (.int x :: st) h kc ks X := by
  intro p l e R s m args below meth c N0 dC dI dA ad0 n0 Q C ad H locs lsA hy
  obtain ⟨hx, hb, hml, hown, hts, -⟩ := id C
  exact lv_if_ne hx hb hd ht (fun _ => k p l e R s m args below meth c N0 dC dI dA ad0 n0 Q C ad H locs lsA hy) (fun hc' => absurd hc' hc)
theorem jj_if_ne_f {x : Int32} {off : Int} (hd : decode (jm_by M) pc = .ok (.ifCond .ne off, 3)) (hp : pc + 3 = pc') (hc : x = 0) (tgt : Nat) (ht : (pc : Int) + off = (tgt : Int)) (k : jm_J M pc' ls st h kc ks X) : jm_J M pc ls (.int x :: st) h kc ks X := by
  subst hp
  intro p l e R s m args below meth c N0 dC dI dA ad0 n0 Q C ad H locs lsA hy
  obtain ⟨hx, hb, hml, hown, hts, -⟩ := id C
  exact lv_if_ne hx hb hd ht (fun hc' => absurd hc hc') (fun _ => k p l e R s m args below meth c N0 dC dI dA ad0 n0 Q C ad H locs lsA hy)
theorem jj_if_lt {x : Int32} {off : Int} {tgt : Nat} {A B : Option jm_X} (hd : decode (jm_by M) pc = .ok (.ifCond .lt off, 3)) (ht : (pc : Int) + off = (tgt : Int)) (hp : pc + 3 = pc') (kt : x < 0 → A = some X → jm_J M tgt ls st h kc ks X) (kf : ¬ x < 0 → B = some X → jm_J M pc' ls st h kc ks X) (hF : (if x < 0 then A else B) = some X) : jm_J M pc ls (.int x :: st) h kc ks X := by
  subst hp
  intro p l e R s m args below meth c N0 dC dI dA ad0 n0 Q C ad H locs lsA hy
  obtain ⟨hx, hb, hml, hown, hts, -⟩ := id C
  by_cases hc : x < 0
  · rw [if_pos hc] at hF
    exact lv_if_lt hx hb hd ht (fun hc => kt hc hF p l e R s m args below meth c N0 dC dI dA ad0 n0 Q C ad H locs lsA hy) (fun hc' => absurd hc hc')
  · rw [if_neg hc] at hF
    exact lv_if_lt hx hb hd ht (fun hc' => absurd hc' hc) (fun hc => kf hc hF p l e R s m args below meth c N0 dC dI dA ad0 n0 Q C ad H locs lsA hy)
theorem jj_if_lt_t {x : Int32} {off : Int} {tgt : Nat} (hd : decode (jm_by M) pc = .ok (.ifCond .lt off, 3)) (ht : (pc : Int) + off = (tgt : Int)) (hc : x < 0) (k : jm_J M tgt ls st h kc ks X) : jm_J M pc ls (.int x :: st) h kc ks X := by
  intro p l e R s m args below meth c N0 dC dI dA ad0 n0 Q C ad H locs lsA hy
  obtain ⟨hx, hb, hml, hown, hts, -⟩ := id C
  exact lv_if_lt hx hb hd ht (fun _ => k p l e R s m args below meth c N0 dC dI dA ad0 n0 Q C ad H locs lsA hy) (fun hc' => absurd hc hc')
theorem jj_if_lt_f {x : Int32} {off : Int} (hd : decode (jm_by M) pc = .ok (.ifCond .lt off, 3)) (hp : pc + 3 = pc') (hc : ¬ x < 0) (tgt : Nat) (ht : (pc : Int) + off = (tgt : Int)) (k : jm_J M pc' ls st h kc ks X) : jm_J M pc ls (.int x :: st) h kc ks X := by
  subst hp
  intro p l e R s m args below meth c N0 dC dI dA ad0 n0 Q C ad H locs lsA hy
  obtain ⟨hx, hb, hml, hown, hts, -⟩ := id C
  exact lv_if_lt hx hb hd ht (fun hc' => absurd hc' hc) (fun _ => k p l e R s m args below meth c N0 dC dI dA ad0 n0 Q C ad H locs lsA hy)
theorem jj_if_ge {x : Int32} {off : Int} {tgt : Nat} {A B : Option jm_X} (hd : decode (jm_by M) pc = .ok (.ifCond .ge off, 3)) (ht : (pc : Int) + off = (tgt : Int)) (hp : pc + 3 = pc') (kt : 0 ≤ x → A = some X → jm_J M tgt ls st h kc ks X) (kf : ¬ 0 ≤ x → B = some X → jm_J M pc' ls st h kc ks X) (hF : (if 0 ≤ x then A else B) = some X) : jm_J M pc ls (.int x :: st) h kc ks X := by
  subst hp
  intro p l e R s m args below meth c N0 dC dI dA ad0 n0 Q C ad H locs lsA hy
  obtain ⟨hx, hb, hml, hown, hts, -⟩ := id C
  by_cases hc : 0 ≤ x
  · rw [if_pos hc] at hF
    exact lv_if_ge hx hb hd ht (fun hc => kt hc hF p l e R s m args below meth c N0 dC dI dA ad0 n0 Q C ad H locs lsA hy) (fun hc' => absurd hc hc')
  · rw [if_neg hc] at hF
    exact lv_if_ge hx hb hd ht (fun hc' => absurd hc' hc) (fun hc => kf hc hF p l e R s m args below meth c N0 dC dI dA ad0 n0 Q C ad H locs lsA hy)
theorem jj_if_ge_t {x : Int32} {off : Int} {tgt : Nat} (hd : decode (jm_by M) pc = .ok (.ifCond .ge off, 3)) (ht : (pc : Int) + off = (tgt : Int)) (hc : 0 ≤ x) (k : jm_J M tgt ls st h kc ks X) : jm_J M pc ls (.int x :: st) h kc ks X := by
  intro p l e R s m args below meth c N0 dC dI dA ad0 n0 Q C ad H locs lsA hy
  obtain ⟨hx, hb, hml, hown, hts, -⟩ := id C
  exact lv_if_ge hx hb hd ht (fun _ => k p l e R s m args below meth c N0 dC dI dA ad0 n0 Q C ad H locs lsA hy) (fun hc' => absurd hc hc')
theorem jj_if_ge_f {x : Int32} {off : Int} (hd : decode (jm_by M) pc = .ok (.ifCond .ge off, 3)) (hp : pc + 3 = pc') (hc : ¬ 0 ≤ x) (tgt : Nat) (ht : (pc : Int) + off = (tgt : Int)) (k : jm_J M pc' ls st h kc ks X) : jm_J M pc ls (.int x :: st) h kc ks X := by
  subst hp
  intro p l e R s m args below meth c N0 dC dI dA ad0 n0 Q C ad H locs lsA hy
  obtain ⟨hx, hb, hml, hown, hts, -⟩ := id C
  exact lv_if_ge hx hb hd ht (fun hc' => absurd hc' hc) (fun _ => k p l e R s m args below meth c N0 dC dI dA ad0 n0 Q C ad H locs lsA hy)
theorem jj_if_gt {x : Int32} {off : Int} {tgt : Nat} {A B : Option jm_X} (hd : decode (jm_by M) pc = .ok (.ifCond .gt off, 3)) (ht : (pc : Int) + off = (tgt : Int)) (hp : pc + 3 = pc') (kt : 0 < x → A = some X → jm_J M tgt ls st h kc ks X) (kf : ¬ 0 < x → B = some X → jm_J M pc' ls st h kc ks X) (hF : (if 0 < x then A else B) = some X) : jm_J M pc ls (.int x :: st) h kc ks X := by
  subst hp
  intro p l e R s m args below meth c N0 dC dI dA ad0 n0 Q C ad H locs lsA hy
  obtain ⟨hx, hb, hml, hown, hts, -⟩ := id C
  by_cases hc : 0 < x
  · rw [if_pos hc] at hF
    exact lv_if_gt hx hb hd ht (fun hc => kt hc hF p l e R s m args below meth c N0 dC dI dA ad0 n0 Q C ad H locs lsA hy) (fun hc' => absurd hc hc')
  · rw [if_neg hc] at hF
    exact lv_if_gt hx hb hd ht (fun hc' => absurd hc' hc) (fun hc => kf hc hF p l e R s m args below meth c N0 dC dI dA ad0 n0 Q C ad H locs lsA hy)
theorem jj_if_gt_t {x : Int32} {off : Int} {tgt : Nat} (hd : decode (jm_by M) pc = .ok (.ifCond .gt off, 3)) (ht : (pc : Int) + off = (tgt : Int)) (hc : 0 < x) (k : jm_J M tgt ls st h kc ks X) : jm_J M pc ls (.int x :: st) h kc ks X := by
  intro p l e R s m args below meth c N0 dC dI dA ad0 n0 Q C ad H locs lsA hy
  obtain ⟨hx, hb, hml, hown, hts, -⟩ := id C
  exact lv_if_gt hx hb hd ht (fun _ => k p l e R s m args below meth c N0 dC dI dA ad0 n0 Q C ad H locs lsA hy) (fun hc' => absurd hc hc')
theorem jj_if_gt_f {x : Int32} {off : Int} (hd : decode (jm_by M) pc = .ok (.ifCond .gt off, 3)) (hp : pc + 3 = pc') (hc : ¬ 0 < x) (tgt : Nat) (ht : (pc : Int) + off = (tgt : Int)) (k : jm_J M pc' ls st h kc ks X) : jm_J M pc ls (.int x :: st) h kc ks X := by
  subst hp
  intro p l e R s m args below meth c N0 dC dI dA ad0 n0 Q C ad H locs lsA hy
  obtain ⟨hx, hb, hml, hown, hts, -⟩ := id C
  exact lv_if_gt hx hb hd ht (fun hc' => absurd hc' hc) (fun _ => k p l e R s m args below meth c N0 dC dI dA ad0 n0 Q C ad H locs lsA hy)
theorem jj_if_le {x : Int32} {off : Int} {tgt : Nat} {A B : Option jm_X} (hd : decode (jm_by M) pc = .ok (.ifCond .le off, 3)) (ht : (pc : Int) + off = (tgt : Int)) (hp : pc + 3 = pc') (kt : x ≤ 0 → A = some X → jm_J M tgt ls st h kc ks X) (kf : ¬ x ≤ 0 → B = some X → jm_J M pc' ls st h kc ks X) (hF : (if x ≤ 0 then A else B) = some X) : jm_J M pc ls (.int x :: st) h kc ks X := by
  subst hp
  intro p l e R s m args below meth c N0 dC dI dA ad0 n0 Q C ad H locs lsA hy
  obtain ⟨hx, hb, hml, hown, hts, -⟩ := id C
  by_cases hc : x ≤ 0
  · rw [if_pos hc] at hF
    exact lv_if_le hx hb hd ht (fun hc => kt hc hF p l e R s m args below meth c N0 dC dI dA ad0 n0 Q C ad H locs lsA hy) (fun hc' => absurd hc hc')
  · rw [if_neg hc] at hF
    exact lv_if_le hx hb hd ht (fun hc' => absurd hc' hc) (fun hc => kf hc hF p l e R s m args below meth c N0 dC dI dA ad0 n0 Q C ad H locs lsA hy)
theorem jj_if_le_t {x : Int32} {off : Int} {tgt : Nat} (hd : decode (jm_by M) pc = .ok (.ifCond .le off, 3)) (ht : (pc : Int) + off = (tgt : Int)) (hc : x ≤ 0) (k : jm_J M tgt ls st h kc ks X) : jm_J M pc ls (.int x :: st) h kc ks X := by
  intro p l e R s m args below meth c N0 dC dI dA ad0 n0 Q C ad H locs lsA hy
  obtain ⟨hx, hb, hml, hown, hts, -⟩ := id C
  exact lv_if_le hx hb hd ht (fun _ => k p l e R s m args below meth c N0 dC dI dA ad0 n0 Q C ad H locs lsA hy) (fun hc' => absurd hc hc')
theorem jj_if_le_f {x : Int32} {off : Int} (hd : decode (jm_by M) pc = .ok (.ifCond .le off, 3)) (hp : pc + 3 = pc') (hc : ¬ x ≤ 0) (tgt : Nat) (ht : (pc : Int) + off = (tgt : Int)) (k : jm_J M pc' ls st h kc ks X) : jm_J M pc ls (.int x :: st) h kc ks X := by
  subst hp
  intro p l e R s m args below meth c N0 dC dI dA ad0 n0 Q C ad H locs lsA hy
  obtain ⟨hx, hb, hml, hown, hts, -⟩ := id C
  exact lv_if_le hx hb hd ht (fun hc' => absurd hc' hc) (fun _ => k p l e R s m args below meth c N0 dC dI dA ad0 n0 Q C ad H locs lsA hy)
theorem jj_icmp_eq {x y : Int32} {off : Int} {tgt : Nat} {A B : Option jm_X} (hd : decode (jm_by M) pc = .ok (.if_icmp .eq off, 3)) (ht : (pc : Int) + off = (tgt : Int)) (hp : pc + 3 = pc') (kt : x = y → A = some X → jm_J M tgt ls st h kc ks X) (kf : ¬ x = y → B = some X → jm_J M pc' ls st h kc ks X) (hF : (if x = y then A else B) = some X) : jm_J M pc ls (.int y :: .int x :: st) h kc ks X := by
  subst hp
  intro p l e R s m args below meth c N0 dC dI dA ad0 n0 Q C ad H locs lsA hy
  obtain ⟨hx, hb, hml, hown, hts, -⟩ := id C
  by_cases hc : x = y
  · rw [if_pos hc] at hF
    exact lv_icmp_eq hx hb hd ht (fun hc => kt hc hF p l e R s m args below meth c N0 dC dI dA ad0 n0 Q C ad H locs lsA hy) (fun hc' => absurd hc hc')
  · rw [if_neg hc] at hF
    exact lv_icmp_eq hx hb hd ht (fun hc' => absurd hc' hc) (fun hc => kf hc hF p l e R s m args below meth c N0 dC dI dA ad0 n0 Q C ad H locs lsA hy)
theorem jj_icmp_eq_t {x y : Int32} {off : Int} {tgt : Nat} (hd : decode (jm_by M) pc = .ok (.if_icmp .eq off, 3)) (ht : (pc : Int) + off = (tgt : Int)) (hc : x = y) (k : jm_J M tgt ls st h kc ks X) : jm_J M pc ls (.int y :: .int x :: st) h kc ks X := by
  intro p l e R s m args below meth c N0 dC dI dA ad0 n0 Q C ad H locs lsA hy
  obtain ⟨hx, hb, hml, hown, hts, -⟩ := id C
  exact lv_icmp_eq hx hb hd ht (fun _ => k p l e R s m args below meth c N0 dC dI dA ad0 n0 Q C ad H locs lsA hy) (fun hc' => absurd hc hc')
theorem jj_icmp_eq_f {x y : Int32} {off : Int} (hd : decode (jm_by M) pc = .ok (.if_icmp .eq off, 3)) (hp : pc + 3 = pc') (hc : ¬ x = y) (tgt : Nat) (ht : (pc : Int) + off = (tgt : Int)) (k : jm_J M pc' ls st h kc ks X) : jm_J M pc ls (.int y :: .int x :: st) h kc ks X := by
  subst hp
  intro p l e R s m args below meth c N0 dC dI dA ad0 n0 Q C ad H locs lsA hy
  obtain ⟨hx, hb, hml, hown, hts, -⟩ := id C
  exact lv_icmp_eq hx hb hd ht (fun hc' => absurd hc' hc) (fun _ => k p l e R s m args below meth c N0 dC dI dA ad0 n0 Q C ad H locs lsA hy)
theorem jj_icmp_ne {x y : Int32} {off : Int} {tgt : Nat} {A B : Option jm_X} (hd : decode (jm_by M) pc = .ok (.if_icmp .ne off, 3)) (ht : (pc : Int) + off = (tgt : Int)) (hp : pc + 3 = pc') (kt : ¬ x = y → A = some X → jm_J M tgt ls st h kc ks X) (kf : x = y → B = some X → jm_J M pc' ls st h kc ks X) (hF : (if x = y then B else A) = some X) : jm_J M pc ls (.int y :: .int x :: st) h kc ks X := by
  subst hp
  intro p l e R s m args below meth c N0 dC dI dA ad0 n0 Q C ad H locs lsA hy
  obtain ⟨hx, hb, hml, hown, hts, -⟩ := id C
  by_cases hc : x = y
  · rw [if_pos hc] at hF
    exact lv_icmp_ne hx hb hd ht (fun hc' => absurd hc hc') (fun hc => kf hc hF p l e R s m args below meth c N0 dC dI dA ad0 n0 Q C ad H locs lsA hy)
  · rw [if_neg hc] at hF
    exact lv_icmp_ne hx hb hd ht (fun hc => kt hc hF p l e R s m args below meth c N0 dC dI dA ad0 n0 Q C ad H locs lsA hy) (fun hc' => absurd hc' hc)
theorem jj_icmp_ne_t {x y : Int32} {off : Int} {tgt : Nat} (hd : decode (jm_by M) pc = .ok (.if_icmp .ne off, 3)) (ht : (pc : Int) + off = (tgt : Int)) (hc : ¬ x = y) (k : jm_J M tgt ls st h kc ks X) : jm_J M pc ls (.int y :: .int x :: st) h kc ks X := by
  intro p l e R s m args below meth c N0 dC dI dA ad0 n0 Q C ad H locs lsA hy
  obtain ⟨hx, hb, hml, hown, hts, -⟩ := id C
  exact lv_icmp_ne hx hb hd ht (fun _ => k p l e R s m args below meth c N0 dC dI dA ad0 n0 Q C ad H locs lsA hy) (fun hc' => absurd hc' hc)
theorem jj_icmp_ne_f {x y : Int32} {off : Int} (hd : decode (jm_by M) pc = .ok (.if_icmp .ne off, 3)) (hp : pc + 3 = pc') (hc : x = y) (tgt : Nat) (ht : (pc : Int) + off = (tgt : Int)) (k : jm_J M pc' ls st h kc ks X) : jm_J M pc ls (.int y :: .int x :: st) h kc ks X := by
  subst hp
  intro p l e R s m args below meth c N0 dC dI dA ad0 n0 Q C ad H locs lsA hy
  obtain ⟨hx, hb, hml, hown, hts, -⟩ := id C
  exact lv_icmp_ne hx hb hd ht (fun hc' => absurd hc hc') (fun _ => k p l e R s m args below meth c N0 dC dI dA ad0 n0 Q C ad H locs lsA hy)
theorem jj_icmp_lt {x y : Int32} {off : Int} {tgt : Nat} {A B : Option jm_X} (hd : decode (jm_by M) pc = .ok (.if_icmp .lt off, 3)) (ht : (pc : Int) + off = (tgt : Int)) (hp : pc + 3 = pc') (kt : x < y → A = some X → jm_J M tgt ls st h kc ks X) (kf : ¬ x < y → B = some X → jm_J M pc' ls st h kc ks X) (hF : (if x < y then A else B) = some X) : jm_J M pc ls (.int y :: .int x :: st) h kc ks X := by
  subst hp
  intro p l e R s m args below meth c N0 dC dI dA ad0 n0 Q C ad H locs lsA hy
  obtain ⟨hx, hb, hml, hown, hts, -⟩ := id C
  by_cases hc : x < y
  · rw [if_pos hc] at hF
    exact lv_icmp_lt hx hb hd ht (fun hc => kt hc hF p l e R s m args below meth c N0 dC dI dA ad0 n0 Q C ad H locs lsA hy) (fun hc' => absurd hc hc')
  · rw [if_neg hc] at hF
    exact lv_icmp_lt hx hb hd ht (fun hc' => absurd hc' hc) (fun hc => kf hc hF p l e R s m args below meth c N0 dC dI dA ad0 n0 Q C ad H locs lsA hy)
theorem jj_icmp_lt_t {x y : Int32} {off : Int} {tgt : Nat} (hd : decode (jm_by M) pc = .ok (.if_icmp .lt off, 3)) (ht : (pc : Int) + off = (tgt : Int)) (hc : x < y) (k : jm_J M tgt ls st h kc ks X) : jm_J M pc ls (.int y :: .int x :: st) h kc ks X := by
  intro p l e R s m args below meth c N0 dC dI dA ad0 n0 Q C ad H locs lsA hy
  obtain ⟨hx, hb, hml, hown, hts, -⟩ := id C
  exact lv_icmp_lt hx hb hd ht (fun _ => k p l e R s m args below meth c N0 dC dI dA ad0 n0 Q C ad H locs lsA hy) (fun hc' => absurd hc hc')
theorem jj_icmp_lt_f {x y : Int32} {off : Int} (hd : decode (jm_by M) pc = .ok (.if_icmp .lt off, 3)) (hp : pc + 3 = pc') (hc : ¬ x < y) (tgt : Nat) (ht : (pc : Int) + off = (tgt : Int)) (k : jm_J M pc' ls st h kc ks X) : jm_J M pc ls (.int y :: .int x :: st) h kc ks X := by
  subst hp
  intro p l e R s m args below meth c N0 dC dI dA ad0 n0 Q C ad H locs lsA hy
  obtain ⟨hx, hb, hml, hown, hts, -⟩ := id C
  exact lv_icmp_lt hx hb hd ht (fun hc' => absurd hc' hc) (fun _ => k p l e R s m args below meth c N0 dC dI dA ad0 n0 Q C ad H locs lsA hy)
theorem jj_icmp_ge {x y : Int32} {off : Int} {tgt : Nat} {A B : Option jm_X} (hd : decode (jm_by M) pc = .ok (.if_icmp .ge off, 3)) (ht : (pc : Int) + off = (tgt : Int)) (hp : pc + 3 = pc') (kt : y ≤ x → A = some X → jm_J M tgt ls st h kc ks X) (kf : ¬ y ≤ x → B = some X → jm_J M pc' ls st h kc ks X) (hF : (if y ≤ x then A else B) = some X) : jm_J M pc ls (.int y :: .int x :: st) h kc ks X := by
  subst hp
  intro p l e R s m args below meth c N0 dC dI dA ad0 n0 Q C ad H locs lsA hy
  obtain ⟨hx, hb, hml, hown, hts, -⟩ := id C
  by_cases hc : y ≤ x
  · rw [if_pos hc] at hF
    exact lv_icmp_ge hx hb hd ht (fun hc => kt hc hF p l e R s m args below meth c N0 dC dI dA ad0 n0 Q C ad H locs lsA hy) (fun hc' => absurd hc hc')
  · rw [if_neg hc] at hF
    exact lv_icmp_ge hx hb hd ht (fun hc' => absurd hc' hc) (fun hc => kf hc hF p l e R s m args below meth c N0 dC dI dA ad0 n0 Q C ad H locs lsA hy)
theorem jj_icmp_ge_t {x y : Int32} {off : Int} {tgt : Nat} (hd : decode (jm_by M) pc = .ok (.if_icmp .ge off, 3)) (ht : (pc : Int) + off = (tgt : Int)) (hc : y ≤ x) (k : jm_J M tgt ls st h kc ks X) : jm_J M pc ls (.int y :: .int x :: st) h kc ks X := by
  intro p l e R s m args below meth c N0 dC dI dA ad0 n0 Q C ad H locs lsA hy
  obtain ⟨hx, hb, hml, hown, hts, -⟩ := id C
  exact lv_icmp_ge hx hb hd ht (fun _ => k p l e R s m args below meth c N0 dC dI dA ad0 n0 Q C ad H locs lsA hy) (fun hc' => absurd hc hc')
theorem jj_icmp_ge_f {x y : Int32} {off : Int} (hd : decode (jm_by M) pc = .ok (.if_icmp .ge off, 3)) (hp : pc + 3 = pc') (hc : ¬ y ≤ x) (tgt : Nat) (ht : (pc : Int) + off = (tgt : Int)) (k : jm_J M pc' ls st h kc ks X) : jm_J M pc ls (.int y :: .int x :: st) h kc ks X := by
  subst hp
  intro p l e R s m args below meth c N0 dC dI dA ad0 n0 Q C ad H locs lsA hy
  obtain ⟨hx, hb, hml, hown, hts, -⟩ := id C
  exact lv_icmp_ge hx hb hd ht (fun hc' => absurd hc' hc) (fun _ => k p l e R s m args below meth c N0 dC dI dA ad0 n0 Q C ad H locs lsA hy)
theorem jj_icmp_gt {x y : Int32} {off : Int} {tgt : Nat} {A B : Option jm_X} (hd : decode (jm_by M) pc = .ok (.if_icmp .gt off, 3)) (ht : (pc : Int) + off = (tgt : Int)) (hp : pc + 3 = pc') (kt : y < x → A = some X → jm_J M tgt ls st h kc ks X) (kf : ¬ y < x → B = some X → jm_J M pc' ls st h kc ks X) (hF : (if y < x then A else B) = some X) : jm_J M pc ls (.int y :: .int x :: st) h kc ks X := by
  subst hp
  intro p l e R s m args below meth c N0 dC dI dA ad0 n0 Q C ad H locs lsA hy
  obtain ⟨hx, hb, hml, hown, hts, -⟩ := id C
  by_cases hc : y < x
  · rw [if_pos hc] at hF
    exact lv_icmp_gt hx hb hd ht (fun hc => kt hc hF p l e R s m args below meth c N0 dC dI dA ad0 n0 Q C ad H locs lsA hy) (fun hc' => absurd hc hc')
  · rw [if_neg hc] at hF
    exact lv_icmp_gt hx hb hd ht (fun hc' => absurd hc' hc) (fun hc => kf hc hF p l e R s m args below meth c N0 dC dI dA ad0 n0 Q C ad H locs lsA hy)
theorem jj_icmp_gt_t {x y : Int32} {off : Int} {tgt : Nat} (hd : decode (jm_by M) pc = .ok (.if_icmp .gt off, 3)) (ht : (pc : Int) + off = (tgt : Int)) (hc : y < x) (k : jm_J M tgt ls st h kc ks X) : jm_J M pc ls (.int y :: .int x :: st) h kc ks X := by
  intro p l e R s m args below meth c N0 dC dI dA ad0 n0 Q C ad H locs lsA hy
  obtain ⟨hx, hb, hml, hown, hts, -⟩ := id C
  exact lv_icmp_gt hx hb hd ht (fun _ => k p l e R s m args below meth c N0 dC dI dA ad0 n0 Q C ad H locs lsA hy) (fun hc' => absurd hc hc')
theorem jj_icmp_gt_f {x y : Int32} {off : Int} (hd : decode (jm_by M) pc = .ok (.if_icmp .gt off, 3)) (hp : pc + 3 = pc') (hc : ¬ y < x) (tgt : Nat) (ht : (pc : Int) + off = (tgt : Int)) (k : jm_J M pc' ls st h kc ks X) : jm_J M pc ls (.int y :: .int x :: st) h kc ks X := by
  subst hp
  intro p l e R s m args below meth c N0 dC dI dA ad0 n0 Q C ad H locs lsA hy
  obtain ⟨hx, hb, hml, hown, hts, -⟩ := id C
  exact lv_icmp_gt hx hb hd ht (fun hc' => absurd hc' hc) (fun _ => k p l e R s m args below meth c N0 dC dI dA ad0 n0 Q C ad H locs lsA hy)
theorem jj_icmp_le {x y : Int32} {off : Int} {tgt : Nat} {A B : Option jm_X} (hd : decode (jm_by M) pc = .ok (.if_icmp .le off, 3)) (ht : (pc : Int) + off = (tgt : Int)) (hp : pc + 3 = pc') (kt : x ≤ y → A = some X → jm_J M tgt ls st h kc ks X) (kf : ¬ x ≤ y → B = some X → jm_J M pc' ls st h kc ks X) (hF : (if x ≤ y then A else B) = some X) : jm_J M pc ls (.int y :: .int x :: st) h kc ks X := by
  subst hp
  intro p l e R s m args below meth c N0 dC dI dA ad0 n0 Q C ad H locs lsA hy
  obtain ⟨hx, hb, hml, hown, hts, -⟩ := id C
  by_cases hc : x ≤ y
  · rw [if_pos hc] at hF
    exact lv_icmp_le hx hb hd ht (fun hc => kt hc hF p l e R s m args below meth c N0 dC dI dA ad0 n0 Q C ad H locs lsA hy) (fun hc' => absurd hc hc')
  · rw [if_neg hc] at hF
    exact lv_icmp_le hx hb hd ht (fun hc' => absurd hc' hc) (fun hc => kf hc hF p l e R s m args below meth c N0 dC dI dA ad0 n0 Q C ad H locs lsA hy)
theorem jj_icmp_le_t {x y : Int32} {off : Int} {tgt : Nat} (hd : decode (jm_by M) pc = .ok (.if_icmp .le off, 3)) (ht : (pc : Int) + off = (tgt : Int)) (hc : x ≤ y) (k : jm_J M tgt ls st h kc ks X) : jm_J M pc ls (.int y :: .int x :: st) h kc ks X := by
  intro p l e R s m args below meth c N0 dC dI dA ad0 n0 Q C ad H locs lsA hy
  obtain ⟨hx, hb, hml, hown, hts, -⟩ := id C
  exact lv_icmp_le hx hb hd ht (fun _ => k p l e R s m args below meth c N0 dC dI dA ad0 n0 Q C ad H locs lsA hy) (fun hc' => absurd hc hc')
theorem jj_icmp_le_f {x y : Int32} {off : Int} (hd : decode (jm_by M) pc = .ok (.if_icmp .le off, 3)) (hp : pc + 3 = pc') (hc : ¬ x ≤ y) (tgt : Nat) (ht : (pc : Int) + off = (tgt : Int)) (k : jm_J M pc' ls st h kc ks X) : jm_J M pc ls (.int y :: .int x :: st) h kc ks X := by
  subst hp
  intro p l e R s m args below meth c N0 dC dI dA ad0 n0 Q C ad H locs lsA hy
  obtain ⟨hx, hb, hml, hown, hts, -⟩ := id C
  exact lv_icmp_le hx hb hd ht (fun hc' => absurd hc' hc) (fun _ => k p l e R s m args below meth c N0 dC dI dA ad0 n0 Q C ad H locs lsA hy)
theorem jj_goto {off : Int} {tgt : Nat} (hd : decode (jm_by M) pc = .ok (.goto off, 3)) (ht : (pc : Int) + off = (tgt : Int)) (k : jm_J M tgt ls st h kc ks X) : jm_J M pc ls st h kc ks X := by
  intro p l e R s m args below meth c N0 dC dI dA ad0 n0 Q C ad H locs lsA hy
  obtain ⟨hx, hb, hml, hown, hts, -⟩ := id C
  exact lv_goto hx hb hd ht (k p l e R s m args below meth c N0 dC dI dA ad0 n0 Q C ad H locs lsA hy)
theorem jj_ifnull {off : Int} {x : Nat} (hd : decode (jm_by M) pc = .ok (.ifnull off, 3)) (hp : pc + 3 = pc') (k : jm_J M pc' ls st h kc ks X) : jm_J M pc ls (.ref x :: st) h kc ks X := by
  subst hp
  intro p l e R s m args below meth c N0 dC dI dA ad0 n0 Q C ad H locs lsA hy
  obtain ⟨hx, hb, hml, hown, hts, -⟩ := id C
  exact lv_ifnull hx hb hd (k p l e R s m args below meth c N0 dC dI dA ad0 n0 Q C ad H locs lsA hy)
/-- a table of places: place i's branch is the i-th, what is out of it the last -/
def jf_sw (x : Int32) : Nat → List (Option jm_X) → Option jm_X → Option jm_X
  | _, [], d => d
  | k, a :: r, d => if x = nI k then a else jf_sw x (k + 1) r d
theorem jf_sw_out {x : Int32} {d : Option jm_X} : ∀ (bs : List (Option jm_X)) (k : Nat), (∀ i, i < bs.length → ¬ x = nI (k + i)) → jf_sw x k bs d = d
  | [], _, _ => rfl
  | a :: r, k, hne => by
    have h0 : ¬ x = nI k := by simpa using hne 0 (by simp)
    show (if x = nI k then a else jf_sw x (k + 1) r d) = d
    rw [if_neg h0]
    exact jf_sw_out r (k + 1) (fun i hi => by
      have := hne (i + 1) (by simpa using hi)
      rwa [show k + 1 + i = k + (i + 1) by omega])
theorem jf_sw_in {d : Option jm_X} : ∀ (bs : List (Option jm_X)) (k i : Nat) (b : Option jm_X), k + bs.length < 2 ^ 31 → bs[i]? = some b → jf_sw (nI (k + i)) k bs d = b
  | [], _, i, _, _, hb => by simp at hb
  | a :: r, k, 0, b, hk, hb => by
    show (if nI (k + 0) = nI k then a else _) = b
    rw [if_pos (show nI (k + 0) = nI k from rfl)]
    simpa using hb
  | a :: r, k, i + 1, b, hk, hb => by
    have hi : i < r.length := (List.getElem?_eq_some_iff.mp (by simpa using hb : r[i]? = some b)).1
    simp only [List.length_cons] at hk
    show (if nI (k + (i + 1)) = nI k then a else jf_sw (nI (k + (i + 1))) (k + 1) r d) = b
    rw [if_neg (fun he => by have := (nI_eq (by omega) (by omega)).mp he; omega), show k + (i + 1) = k + 1 + i by omega]
    exact jf_sw_in r (k + 1) i b (by omega) (by simpa using hb)
theorem jj_table {x : Int32} {dflt loI hiI : Int} {offs : Array Int} {len lo N dt : Nat} {bs : List (Option jm_X)} {d : Option jm_X} (tgs : List Nat) (hd : decode (jm_by M) pc = .ok (.tableswitch dflt loI hiI offs, len)) (hlh : loI = (lo : Int) ∧ hiI = (lo : Int) + (N : Int) - 1) (hN : 0 < N ∧ lo + N < 2 ^ 31 ∧ bs.length = N ∧ tgs.length = N) (ho : offs.toList.map (fun o => (pc : Int) + o) = tgs.map (fun t : Nat => (t : Int))) (hdt : (pc : Int) + dflt = (dt : Int))
    (kt : ∀ (i : Nat) (b : Option jm_X) (tg : Nat), bs[i]? = some b → tgs[i]? = some tg → x = nI (lo + i) → b = some X → jm_J M tg ls st h kc ks X) (kd : d = some X → jm_J M dt ls st h kc ks X) (hF : jf_sw x lo bs d = some X) : jm_J M pc ls (.int x :: st) h kc ks X := by
  intro p l e R s m args below meth c N0 dC dI dA ad0 n0 Q C ad H locs lsA hy
  obtain ⟨hx, hb, hml, hown, hts, -⟩ := id C
  obtain ⟨hN0, hN1, hbl, htl⟩ := hN
  obtain ⟨rfl, rfl⟩ := hlh
  by_cases hin : (lo : Int) ≤ x.toInt ∧ x.toInt < (lo : Int) + N
  · obtain ⟨i, hi⟩ : ∃ i : Nat, x.toInt = ((lo + i : Nat) : Int) := ⟨(x.toInt - lo).toNat, by omega⟩
    have hiN : i < N := by omega
    have hxi : x = nI (lo + i) := by
      apply Int32.toInt_inj.mp
      rw [nI_toInt (by omega)]
      exact hi
    have hti : tgs[i]? = some tgs[i] := List.getElem?_eq_getElem (by omega)
    have h1 : (offs.toList.map (fun o => (pc : Int) + o))[i]? = (tgs.map (fun t : Nat => (t : Int)))[i]? := by rw [ho]
    rw [List.getElem?_map, List.getElem?_map, hti] at h1
    obtain ⟨off, hoff, h2⟩ := Option.map_eq_some_iff.mp h1
    have hbi : bs[i]? = some bs[i] := List.getElem?_eq_getElem (by omega)
    have hF' : bs[i] = some X := by
      rw [hxi] at hF
      have := jf_sw_in (d := d) bs lo i bs[i] (by omega) hbi
      rw [← this]; exact hF
    have hJ := kt i bs[i] tgs[i] hbi hti hxi hF'
    refine lv_tableIn hx hb hd (by omega) (by omega) (off := off) (tgt := tgs[i]) ?_ h2 (hJ p l e R s m args below meth c N0 dC dI dA ad0 n0 Q C ad H locs lsA hy)
    rw [show (x.toInt - (lo : Int)).toNat = i by omega, ← Array.getElem?_toList]
    exact hoff
  · have hout : jf_sw x lo bs d = d := jf_sw_out bs lo (fun i hi he => hin (by
      rw [he, nI_toInt (by omega)]
      omega))
    rw [hout] at hF
    exact lv_tableOut hx hb hd (by omega) hdt (kd hF p l e R s m args below meth c N0 dC dI dA ad0 n0 Q C ad H locs lsA hy)
theorem jj_lookup2 {x : Int32} {dflt o0 o1 : Int} {len t0 t1 dt : Nat} {b0 b1 d : Option jm_X} (hd : decode (jm_by M) pc = .ok (.lookupswitch dflt #[(0, o0), (1, o1)], len)) (h0 : (pc : Int) + o0 = (t0 : Int)) (h1 : (pc : Int) + o1 = (t1 : Int)) (hdt : (pc : Int) + dflt = (dt : Int))
    (k0 : x = 0 → b0 = some X → jm_J M t0 ls st h kc ks X) (k1 : x = 1 → b1 = some X → jm_J M t1 ls st h kc ks X) (kd : ¬ x = 0 → ¬ x = 1 → d = some X → jm_J M dt ls st h kc ks X) (hF : (if x = 0 then b0 else if x = 1 then b1 else d) = some X) : jm_J M pc ls (.int x :: st) h kc ks X := by
  intro p l e R s m args below meth c N0 dC dI dA ad0 n0 Q C ad H locs lsA hy
  obtain ⟨hx, hb, hml, hown, hts, -⟩ := id C
  by_cases c0 : x = 0
  · rw [if_pos c0] at hF
    exact lv_lookup hx hb hd (by rfl) (off := o0) (by rw [c0]; rfl) h0 (k0 c0 hF p l e R s m args below meth c N0 dC dI dA ad0 n0 Q C ad H locs lsA hy)
  · rw [if_neg c0] at hF
    by_cases c1 : x = 1
    · rw [if_pos c1] at hF
      exact lv_lookup hx hb hd (by rfl) (off := o1) (by rw [c1]; rfl) h1 (k1 c1 hF p l e R s m args below meth c N0 dC dI dA ad0 n0 Q C ad H locs lsA hy)
    · rw [if_neg c1] at hF
      have e0 : ¬ x.toInt = 0 := fun e => c0 (Int32.toInt_inj.mp (by rw [e]; rfl))
      have e1 : ¬ x.toInt = 1 := fun e => c1 (Int32.toInt_inj.mp (by rw [e]; rfl))
      refine lv_lookup hx hb hd (by rfl) (off := dflt) ?_ hdt (kd c0 c1 hF p l e R s m args below meth c N0 dC dI dA ad0 n0 Q C ad H locs lsA hy)
      simp [Op.lookupswitch.offset, List.find?, e0, e1, Ne.symm e0, Ne.symm e1]
end JR
