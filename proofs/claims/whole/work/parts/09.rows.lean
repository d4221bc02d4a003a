theorem i32le {a b : Int} (ha : -2147483648 ≤ a ∧ a ≤ 2147483647) (hb : -2147483648 ≤ b ∧ b ≤ 2147483647) : Int32.ofInt a ≤ Int32.ofInt b ↔ a ≤ b := Int32.ofInt_le_iff_le ha.1 ha.2 hb.1 hb.2
theorem i32lt {a b : Int} (ha : -2147483648 ≤ a ∧ a ≤ 2147483647) (hb : -2147483648 ≤ b ∧ b ≤ 2147483647) : Int32.ofInt a < Int32.ofInt b ↔ a < b := Int32.ofInt_lt_iff_lt ha.1 ha.2 hb.1 hb.2
theorem i32eq {a b : Int} (ha : -2147483648 ≤ a ∧ a ≤ 2147483647) (hb : -2147483648 ≤ b ∧ b ≤ 2147483647) : Int32.ofInt a = Int32.ofInt b ↔ a = b := by
  constructor
  · intro h
    have h1 := (i32le ha hb).mp (Int32.le_of_eq h)
    have h2 := (i32le hb ha).mp (Int32.le_of_eq h.symm)
    omega
  · intro h; rw [h]
theorem i64le {a b : Int} (ha : -9223372036854775808 ≤ a ∧ a ≤ 9223372036854775807) (hb : -9223372036854775808 ≤ b ∧ b ≤ 9223372036854775807) : Int64.ofInt a ≤ Int64.ofInt b ↔ a ≤ b := Int64.ofInt_le_iff_le ha.1 ha.2 hb.1 hb.2
theorem i64lt {a b : Int} (ha : -9223372036854775808 ≤ a ∧ a ≤ 9223372036854775807) (hb : -9223372036854775808 ≤ b ∧ b ≤ 9223372036854775807) : Int64.ofInt a < Int64.ofInt b ↔ a < b := Int64.ofInt_lt_iff_lt ha.1 ha.2 hb.1 hb.2
theorem i64eq {a b : Int} (ha : -9223372036854775808 ≤ a ∧ a ≤ 9223372036854775807) (hb : -9223372036854775808 ≤ b ∧ b ≤ 9223372036854775807) : Int64.ofInt a = Int64.ofInt b ↔ a = b := by
  constructor
  · intro h
    have h1 := (i64le ha hb).mp (Int64.le_of_eq h)
    have h2 := (i64le hb ha).mp (Int64.le_of_eq h.symm)
    omega
  · intro h; rw [h]
theorem i32cl {i : Int} (h : 0 ≤ i ∧ i ≤ 2147483647) : (Int32.ofInt i).toNatClampNeg = i.toNat := by
  have h1 : (Int32.ofInt i).toInt = i := Int32.toInt_ofInt_of_le (by omega) (by omega)
  show (Int32.ofInt i).toInt.toNat = _
  rw [h1]
theorem i32in {i : Int} {n : Nat} (h : 0 ≤ i ∧ i < (n : Int)) (hn : n ≤ 2147483647) : ¬ (Int32.ofInt i < 0 ∨ n ≤ (Int32.ofInt i).toNatClampNeg) := by
  rw [i32cl (by omega)]
  have h2 : ¬ Int32.ofInt i < 0 := fun q => by
    have := (i32lt (a := i) (b := 0) (by omega) (by omega)).mp q
    omega
  exact fun q => q.elim h2 (fun q => by omega)
section AWR
variable {F : ZF} {cells slots sz pc : Nat} {lv lv' : List (Option AwV)} {st : List AwV} {I J : AwI} {R : AwR}
theorem aw_iload_n {n : Fin 4} {x : Int} (hd : decode F.2.1 pc = .ok (.iload_n n, 1)) (hl : lv[(n : Nat)]? = some (some (zi x))) (k : AW F cells slots sz (pc + 1) lv (zi x :: st) I J R) : AW F cells slots sz (pc) lv (st) I J R := by
  intro p l e s m args below meth c H locs ls G X hR hL hS
  exact lv_iload_n X.1 X.2.1 hd rfl (hL.2.2.2 _ _ hl) (k p l e s m args below meth c H locs ls G X hR hL hS)
theorem aw_iload {n : Nat} {x : Int} (hd : decode F.2.1 pc = .ok (.iload n, 2)) (hl : lv[n]? = some (some (zi x))) (k : AW F cells slots sz (pc + 2) lv (zi x :: st) I J R) : AW F cells slots sz (pc) lv (st) I J R := by
  intro p l e s m args below meth c H locs ls G X hR hL hS
  exact lv_iload X.1 X.2.1 hd (hL.2.2.2 _ _ hl) (k p l e s m args below meth c H locs ls G X hR hL hS)
theorem aw_istore_n {n : Fin 4} {x : Int} (hd : decode F.2.1 pc = .ok (.istore_n n, 1)) (hn : (n : Nat) < F.2.2.1) (hl : z_st lv n (zi x) = lv') (k : AW F cells slots sz (pc + 1) lv' (st) I J R) : AW F cells slots sz (pc) lv (zi x :: st) I J R := by
  intro p l e s m args below meth c H locs ls G X hR hL hS
  subst hl
  exact lv_istore_n X.1 X.2.1 hd rfl hL.has hn rfl (fun ls2 h2 => k p l e s m args below meth c H locs ls2 G X hR (z_Lo.st hL h2) hS)
theorem aw_istore {n : Nat} {x : Int} (hd : decode F.2.1 pc = .ok (.istore n, 2)) (hn : n < F.2.2.1) (hl : z_st lv n (zi x) = lv') (k : AW F cells slots sz (pc + 2) lv' (st) I J R) : AW F cells slots sz (pc) lv (zi x :: st) I J R := by
  intro p l e s m args below meth c H locs ls G X hR hL hS
  subst hl
  exact lv_istore X.1 X.2.1 hd hL.has hn rfl (fun ls2 h2 => k p l e s m args below meth c H locs ls2 G X hR (z_Lo.st hL h2) hS)
theorem aw_lload_n {n : Fin 4} {x : Int} (hd : decode F.2.1 pc = .ok (.lload_n n, 1)) (hl : lv[(n : Nat)]? = some (some (zl x))) (k : AW F cells slots sz (pc + 1) lv (zl x :: st) I J R) : AW F cells slots sz (pc) lv (st) I J R := by
  intro p l e s m args below meth c H locs ls G X hR hL hS
  exact lv_lload_n X.1 X.2.1 hd rfl (hL.2.2.2 _ _ hl) (k p l e s m args below meth c H locs ls G X hR hL hS)
theorem aw_lload {n : Nat} {x : Int} (hd : decode F.2.1 pc = .ok (.lload n, 2)) (hl : lv[n]? = some (some (zl x))) (k : AW F cells slots sz (pc + 2) lv (zl x :: st) I J R) : AW F cells slots sz (pc) lv (st) I J R := by
  intro p l e s m args below meth c H locs ls G X hR hL hS
  exact lv_lload X.1 X.2.1 hd (hL.2.2.2 _ _ hl) (k p l e s m args below meth c H locs ls G X hR hL hS)
theorem aw_lstore_n {n : Fin 4} {x : Int} (hd : decode F.2.1 pc = .ok (.lstore_n n, 1)) (hn : (n : Nat) + 1 < F.2.2.1) (hl : z_st2 lv n (zl x) = lv') (k : AW F cells slots sz (pc + 1) lv' (st) I J R) : AW F cells slots sz (pc) lv (zl x :: st) I J R := by
  intro p l e s m args below meth c H locs ls G X hR hL hS
  subst hl
  exact lv_lstore_n X.1 X.2.1 hd rfl hL.has hn rfl (fun ls2 h2 => k p l e s m args below meth c H locs ls2 G X hR (z_Lo.st2 hL h2) hS)
theorem aw_lstore {n : Nat} {x : Int} (hd : decode F.2.1 pc = .ok (.lstore n, 2)) (hn : n + 1 < F.2.2.1) (hl : z_st2 lv n (zl x) = lv') (k : AW F cells slots sz (pc + 2) lv' (st) I J R) : AW F cells slots sz (pc) lv (zl x :: st) I J R := by
  intro p l e s m args below meth c H locs ls G X hR hL hS
  subst hl
  exact lv_lstore X.1 X.2.1 hd hL.has hn rfl (fun ls2 h2 => k p l e s m args below meth c H locs ls2 G X hR (z_Lo.st2 hL h2) hS)
theorem aw_aload_n {n : Fin 4} {x : Nat} (hd : decode F.2.1 pc = .ok (.aload_n n, 1)) (hl : lv[(n : Nat)]? = some (some (zr x))) (k : AW F cells slots sz (pc + 1) lv (zr x :: st) I J R) : AW F cells slots sz (pc) lv (st) I J R := by
  intro p l e s m args below meth c H locs ls G X hR hL hS
  exact lv_aload_n X.1 X.2.1 hd rfl (hL.2.2.2 _ _ hl) (k p l e s m args below meth c H locs ls G X hR hL hS)
theorem aw_aload {n : Nat} {x : Nat} (hd : decode F.2.1 pc = .ok (.aload n, 2)) (hl : lv[n]? = some (some (zr x))) (k : AW F cells slots sz (pc + 2) lv (zr x :: st) I J R) : AW F cells slots sz (pc) lv (st) I J R := by
  intro p l e s m args below meth c H locs ls G X hR hL hS
  exact lv_aload X.1 X.2.1 hd (hL.2.2.2 _ _ hl) (k p l e s m args below meth c H locs ls G X hR hL hS)
theorem aw_astore_n {n : Fin 4} {x : Nat} (hd : decode F.2.1 pc = .ok (.astore_n n, 1)) (hn : (n : Nat) < F.2.2.1) (hl : z_st lv n (zr x) = lv') (k : AW F cells slots sz (pc + 1) lv' (st) I J R) : AW F cells slots sz (pc) lv (zr x :: st) I J R := by
  intro p l e s m args below meth c H locs ls G X hR hL hS
  subst hl
  exact lv_astore_n X.1 X.2.1 hd rfl hL.has hn rfl (fun ls2 h2 => k p l e s m args below meth c H locs ls2 G X hR (z_Lo.st hL h2) hS)
theorem aw_astore {n : Nat} {x : Nat} (hd : decode F.2.1 pc = .ok (.astore n, 2)) (hn : n < F.2.2.1) (hl : z_st lv n (zr x) = lv') (k : AW F cells slots sz (pc + 2) lv' (st) I J R) : AW F cells slots sz (pc) lv (zr x :: st) I J R := by
  intro p l e s m args below meth c H locs ls G X hR hL hS
  subst hl
  exact lv_astore X.1 X.2.1 hd hL.has hn rfl (fun ls2 h2 => k p l e s m args below meth c H locs ls2 G X hR (z_Lo.st hL h2) hS)
theorem aw_iinc {n : Nat} {d x : Int} (hd : decode F.2.1 pc = .ok (.iinc n d, 3)) (hn : n < F.2.2.1) (hg : lv[n]? = some (some (zi x))) (hl : z_st lv n (zi (x + d)) = lv') (k : AW F cells slots sz (pc + 3) lv' (st) I J R) : AW F cells slots sz (pc) lv (st) I J R := by
  intro p l e s m args below meth c H locs ls G X hR hL hS
  subst hl
  obtain ⟨q, hq⟩ := List.getElem?_of_mem (z_Lo.in (b := G.2.2) (nL := 0) hg)
  exact lv_iinc X.1 X.2.1 hd hL.has hq (Int32.ofInt_add x d).symm hn rfl (fun ls2 h2 => k p l e s m args below meth c H locs ls2 G X hR (z_Lo.st (v := zi (x + d)) hL h2) hS)
theorem aw_iconst {n : Int} (hd : decode F.2.1 pc = .ok (.iconst n, 1)) (k : AW F cells slots sz (pc + 1) lv (zi n :: st) I J R) : AW F cells slots sz (pc) lv (st) I J R := by
  intro p l e s m args below meth c H locs ls G X hR hL hS
  exact lv_iconst X.1 X.2.1 hd rfl (k p l e s m args below meth c H locs ls G X hR hL hS)
theorem aw_bipush {n : Int} (hd : decode F.2.1 pc = .ok (.bipush n, 2)) (hn : (Int8.ofInt n).toInt32 = Int32.ofInt n) (k : AW F cells slots sz (pc + 2) lv (zi n :: st) I J R) : AW F cells slots sz (pc) lv (st) I J R := by
  intro p l e s m args below meth c H locs ls G X hR hL hS
  exact lv_bipush X.1 X.2.1 hd hn (k p l e s m args below meth c H locs ls G X hR hL hS)
theorem aw_sipush {n : Int} (hd : decode F.2.1 pc = .ok (.sipush n, 3)) (hn : (Int16.ofInt n).toInt32 = Int32.ofInt n) (k : AW F cells slots sz (pc + 3) lv (zi n :: st) I J R) : AW F cells slots sz (pc) lv (st) I J R := by
  intro p l e s m args below meth c H locs ls G X hR hL hS
  exact lv_sipush X.1 X.2.1 hd hn (k p l e s m args below meth c H locs ls G X hR hL hS)
theorem aw_lconst {n : Fin 2} {v : Int} (hd : decode F.2.1 pc = .ok (.lconst n, 1)) (hn : Int64.ofNat (n : Nat) = Int64.ofInt v) (k : AW F cells slots sz (pc + 1) lv (zl v :: st) I J R) : AW F cells slots sz (pc) lv (st) I J R := by
  intro p l e s m args below meth c H locs ls G X hR hL hS
  exact lv_lconst X.1 X.2.1 hd hn (k p l e s m args below meth c H locs ls G X hR hL hS)
theorem aw_ldc {n : Nat} {v : Int} (hd : decode F.2.1 pc = .ok (.ldc n, 2)) (hw : Cond.constant F.1.cls n (Int32.ofInt v) ∈ z_tb) (k : AW F cells slots sz (pc + 2) lv (zi v :: st) I J R) : AW F cells slots sz (pc) lv (st) I J R := by
  intro p l e s m args below meth c H locs ls G X hR hL hS
  exact lv_ldc X.1 X.2.1 X.2.2.2.2.2.1 (X.2.2.2.2.2.2.1 _ hw) hd (k p l e s m args below meth c H locs ls G X hR hL hS)
theorem aw_ldcw {n : Nat} {v : Int} (hd : decode F.2.1 pc = .ok (.ldc_w n, 3)) (hw : Cond.constant F.1.cls n (Int32.ofInt v) ∈ z_tb) (k : AW F cells slots sz (pc + 3) lv (zi v :: st) I J R) : AW F cells slots sz (pc) lv (st) I J R := by
  intro p l e s m args below meth c H locs ls G X hR hL hS
  exact lv_ldcw X.1 X.2.1 X.2.2.2.2.2.1 (X.2.2.2.2.2.2.1 _ hw) hd (k p l e s m args below meth c H locs ls G X hR hL hS)
theorem aw_ldc2 {n : Nat} {v : Int} (hd : decode F.2.1 pc = .ok (.ldc2_w n, 3)) (hw : Cond.constantLong F.1.cls n (Int64.ofInt v) ∈ z_tb) (k : AW F cells slots sz (pc + 3) lv (zl v :: st) I J R) : AW F cells slots sz (pc) lv (st) I J R := by
  intro p l e s m args below meth c H locs ls G X hR hL hS
  exact lv_ldc2 X.1 X.2.1 X.2.2.2.2.2.1 (X.2.2.2.2.2.2.1 _ hw) hd (k p l e s m args below meth c H locs ls G X hR hL hS)
theorem aw_iadd {x y : Int} (hd : decode F.2.1 pc = .ok (.iadd, 1)) (k : AW F cells slots sz (pc + 1) lv (zi (x + y) :: st) I J R) : AW F cells slots sz (pc) lv (zi y :: zi x :: st) I J R := by
  intro p l e s m args below meth c H locs ls G X hR hL hS
  have K := k p l e s m args below meth c H locs ls G X hR hL hS
  rw [List.map_cons, show z_cv G.2.2 (zi (x + y)) = Value.int (Int32.ofInt x + Int32.ofInt y) from congrArg Value.int (Int32.ofInt_add x y)] at K
  exact lv_iadd X.1 X.2.1 hd K
theorem aw_isub {x y : Int} (hd : decode F.2.1 pc = .ok (.isub, 1)) (k : AW F cells slots sz (pc + 1) lv (zi (x - y) :: st) I J R) : AW F cells slots sz (pc) lv (zi y :: zi x :: st) I J R := by
  intro p l e s m args below meth c H locs ls G X hR hL hS
  have K := k p l e s m args below meth c H locs ls G X hR hL hS
  rw [List.map_cons, show z_cv G.2.2 (zi (x - y)) = Value.int (Int32.ofInt x - Int32.ofInt y) from congrArg Value.int (Int32.ofInt_sub x y)] at K
  exact lv_isub X.1 X.2.1 hd K
theorem aw_imul {x y : Int} (hd : decode F.2.1 pc = .ok (.imul, 1)) (k : AW F cells slots sz (pc + 1) lv (zi (x * y) :: st) I J R) : AW F cells slots sz (pc) lv (zi y :: zi x :: st) I J R := by
  intro p l e s m args below meth c H locs ls G X hR hL hS
  have K := k p l e s m args below meth c H locs ls G X hR hL hS
  rw [List.map_cons, show z_cv G.2.2 (zi (x * y)) = Value.int (Int32.ofInt x * Int32.ofInt y) from congrArg Value.int (Int32.ofInt_mul x y)] at K
  exact lv_imul X.1 X.2.1 hd K
theorem aw_ladd {x y : Int} (hd : decode F.2.1 pc = .ok (.ladd, 1)) (k : AW F cells slots sz (pc + 1) lv (zl (x + y) :: st) I J R) : AW F cells slots sz (pc) lv (zl y :: zl x :: st) I J R := by
  intro p l e s m args below meth c H locs ls G X hR hL hS
  have K := k p l e s m args below meth c H locs ls G X hR hL hS
  rw [List.map_cons, show z_cv G.2.2 (zl (x + y)) = Value.long (Int64.ofInt x + Int64.ofInt y) from congrArg Value.long (Int64.ofInt_add x y)] at K
  exact lv_ladd X.1 X.2.1 hd K
theorem aw_lsub {x y : Int} (hd : decode F.2.1 pc = .ok (.lsub, 1)) (k : AW F cells slots sz (pc + 1) lv (zl (x - y) :: st) I J R) : AW F cells slots sz (pc) lv (zl y :: zl x :: st) I J R := by
  intro p l e s m args below meth c H locs ls G X hR hL hS
  have K := k p l e s m args below meth c H locs ls G X hR hL hS
  rw [List.map_cons, show z_cv G.2.2 (zl (x - y)) = Value.long (Int64.ofInt x - Int64.ofInt y) from congrArg Value.long (Int64.ofInt_sub x y)] at K
  exact lv_lsub X.1 X.2.1 hd K
theorem aw_lmul {x y : Int} (hd : decode F.2.1 pc = .ok (.lmul, 1)) (k : AW F cells slots sz (pc + 1) lv (zl (x * y) :: st) I J R) : AW F cells slots sz (pc) lv (zl y :: zl x :: st) I J R := by
  intro p l e s m args below meth c H locs ls G X hR hL hS
  have K := k p l e s m args below meth c H locs ls G X hR hL hS
  rw [List.map_cons, show z_cv G.2.2 (zl (x * y)) = Value.long (Int64.ofInt x * Int64.ofInt y) from congrArg Value.long (Int64.ofInt_mul x y)] at K
  exact lv_lmul X.1 X.2.1 hd K
theorem aw_ineg {x : Int} (hd : decode F.2.1 pc = .ok (.ineg, 1)) (k : AW F cells slots sz (pc + 1) lv (zi (-x) :: st) I J R) : AW F cells slots sz (pc) lv (zi x :: st) I J R := by
  intro p l e s m args below meth c H locs ls G X hR hL hS
  have K := k p l e s m args below meth c H locs ls G X hR hL hS
  rw [List.map_cons, show z_cv G.2.2 (zi (-x)) = Value.int (-Int32.ofInt x) from congrArg Value.int (Int32.ofInt_neg x)] at K
  exact lv_ineg X.1 X.2.1 hd K
theorem aw_lneg {x : Int} (hd : decode F.2.1 pc = .ok (.lneg, 1)) (k : AW F cells slots sz (pc + 1) lv (zl (-x) :: st) I J R) : AW F cells slots sz (pc) lv (zl x :: st) I J R := by
  intro p l e s m args below meth c H locs ls G X hR hL hS
  have K := k p l e s m args below meth c H locs ls G X hR hL hS
  rw [List.map_cons, show z_cv G.2.2 (zl (-x)) = Value.long (-Int64.ofInt x) from congrArg Value.long (Int64.ofInt_neg x)] at K
  exact lv_lneg X.1 X.2.1 hd K
theorem aw_idiv {x y : Int} (hd : decode F.2.1 pc = .ok (.idiv, 1)) (hx : -2147483648 ≤ x ∧ x ≤ 2147483647) (hy : -2147483648 ≤ y ∧ y ≤ 2147483647) (h0 : y ≠ 0) (k : AW F cells slots sz (pc + 1) lv (zi (x.tdiv y) :: st) I J R) : AW F cells slots sz (pc) lv (zi y :: zi x :: st) I J R := by
  intro p l e s m args below meth c H locs ls G X hR hL hS
  have K := k p l e s m args below meth c H locs ls G X hR hL hS
  rw [List.map_cons, show z_cv G.2.2 (zi (x.tdiv y)) = Value.int (Int32.ofInt x / Int32.ofInt y) from congrArg Value.int (Int32.ofInt_tdiv hx.1 hx.2 hy.1 hy.2)] at K
  exact lv_idiv X.1 X.2.1 hd (fun q => h0 ((i32eq hy (by omega)).mp (q.trans (by rfl : (0 : Int32) = Int32.ofInt 0)))) K
theorem aw_irem {x y : Int} (hd : decode F.2.1 pc = .ok (.irem, 1)) (hx : -2147483648 ≤ x ∧ x ≤ 2147483647) (hy : -2147483648 ≤ y ∧ y ≤ 2147483647) (h0 : y ≠ 0) (k : AW F cells slots sz (pc + 1) lv (zi (x.tmod y) :: st) I J R) : AW F cells slots sz (pc) lv (zi y :: zi x :: st) I J R := by
  intro p l e s m args below meth c H locs ls G X hR hL hS
  have K := k p l e s m args below meth c H locs ls G X hR hL hS
  rw [List.map_cons, show z_cv G.2.2 (zi (x.tmod y)) = Value.int (Int32.ofInt x - Int32.ofInt x / Int32.ofInt y * Int32.ofInt y) from congrArg Value.int (by rw [← Int32.ofInt_tdiv hx.1 hx.2 hy.1 hy.2, ← Int32.ofInt_mul, ← Int32.ofInt_sub, Int.tmod_def, Int.mul_comm])] at K
  exact lv_irem X.1 X.2.1 hd (fun q => h0 ((i32eq hy (by omega)).mp (q.trans (by rfl : (0 : Int32) = Int32.ofInt 0)))) K
theorem aw_ldiv {x y : Int} (hd : decode F.2.1 pc = .ok (.ldiv, 1)) (hx : -9223372036854775808 ≤ x ∧ x ≤ 9223372036854775807) (hy : -9223372036854775808 ≤ y ∧ y ≤ 9223372036854775807) (h0 : y ≠ 0) (k : AW F cells slots sz (pc + 1) lv (zl (x.tdiv y) :: st) I J R) : AW F cells slots sz (pc) lv (zl y :: zl x :: st) I J R := by
  intro p l e s m args below meth c H locs ls G X hR hL hS
  have K := k p l e s m args below meth c H locs ls G X hR hL hS
  rw [List.map_cons, show z_cv G.2.2 (zl (x.tdiv y)) = Value.long (Int64.ofInt x / Int64.ofInt y) from congrArg Value.long (Int64.ofInt_tdiv hx.1 hx.2 hy.1 hy.2)] at K
  exact lv_ldiv X.1 X.2.1 hd (fun q => h0 ((i64eq hy (by omega)).mp (q.trans (by rfl : (0 : Int64) = Int64.ofInt 0)))) K
theorem aw_lrem {x y : Int} (hd : decode F.2.1 pc = .ok (.lrem, 1)) (hx : -9223372036854775808 ≤ x ∧ x ≤ 9223372036854775807) (hy : -9223372036854775808 ≤ y ∧ y ≤ 9223372036854775807) (h0 : y ≠ 0) (k : AW F cells slots sz (pc + 1) lv (zl (x.tmod y) :: st) I J R) : AW F cells slots sz (pc) lv (zl y :: zl x :: st) I J R := by
  intro p l e s m args below meth c H locs ls G X hR hL hS
  have K := k p l e s m args below meth c H locs ls G X hR hL hS
  rw [List.map_cons, show z_cv G.2.2 (zl (x.tmod y)) = Value.long (Int64.ofInt x - Int64.ofInt x / Int64.ofInt y * Int64.ofInt y) from congrArg Value.long (by rw [← Int64.ofInt_tdiv hx.1 hx.2 hy.1 hy.2, ← Int64.ofInt_mul, ← Int64.ofInt_sub, Int.tmod_def, Int.mul_comm])] at K
  exact lv_lrem X.1 X.2.1 hd (fun q => h0 ((i64eq hy (by omega)).mp (q.trans (by rfl : (0 : Int64) = Int64.ofInt 0)))) K
theorem aw_i2l {x : Int} (hd : decode F.2.1 pc = .ok (.i2l, 1)) (hx : -2147483648 ≤ x ∧ x ≤ 2147483647) (k : AW F cells slots sz (pc + 1) lv (zl x :: st) I J R) : AW F cells slots sz (pc) lv (zi x :: st) I J R := by
  intro p l e s m args below meth c H locs ls G X hR hL hS
  exact lv_i2l X.1 X.2.1 hd (Int32.toInt64_ofInt hx.1 hx.2) (k p l e s m args below meth c H locs ls G X hR hL hS)
theorem aw_l2i {x : Int} (hd : decode F.2.1 pc = .ok (.l2i, 1)) (k : AW F cells slots sz (pc + 1) lv (zi x :: st) I J R) : AW F cells slots sz (pc) lv (zl x :: st) I J R := by
  intro p l e s m args below meth c H locs ls G X hR hL hS
  exact lv_l2i X.1 X.2.1 hd Int64.toInt32_ofInt (k p l e s m args below meth c H locs ls G X hR hL hS)
theorem aw_icmp_ge {x y off : Int} {tgt : Nat} (hd : decode F.2.1 pc = .ok (.if_icmp .ge off, 3)) (ht : (pc : Int) + off = (tgt : Int)) (hx : -2147483648 ≤ x ∧ x ≤ 2147483647) (hy : -2147483648 ≤ y ∧ y ≤ 2147483647) (kt : y ≤ x → AW F cells slots sz (tgt) lv (st) I J R) (kf : x < y → AW F cells slots sz (pc + 3) lv (st) I J R) : AW F cells slots sz (pc) lv (zi y :: zi x :: st) I J R := by
  intro p l e s m args below meth c H locs ls G X hR hL hS
  exact lv_icmp_ge X.1 X.2.1 hd ht (fun h => kt ((i32le hy hx).mp h) p l e s m args below meth c H locs ls G X hR hL hS) (fun h => kf (by have := mt (i32le hy hx).mpr h; omega) p l e s m args below meth c H locs ls G X hR hL hS)
theorem aw_icmp_gt {x y off : Int} {tgt : Nat} (hd : decode F.2.1 pc = .ok (.if_icmp .gt off, 3)) (ht : (pc : Int) + off = (tgt : Int)) (hx : -2147483648 ≤ x ∧ x ≤ 2147483647) (hy : -2147483648 ≤ y ∧ y ≤ 2147483647) (kt : y < x → AW F cells slots sz (tgt) lv (st) I J R) (kf : x ≤ y → AW F cells slots sz (pc + 3) lv (st) I J R) : AW F cells slots sz (pc) lv (zi y :: zi x :: st) I J R := by
  intro p l e s m args below meth c H locs ls G X hR hL hS
  exact lv_icmp_gt X.1 X.2.1 hd ht (fun h => kt ((i32lt hy hx).mp h) p l e s m args below meth c H locs ls G X hR hL hS) (fun h => kf (by have := mt (i32lt hy hx).mpr h; omega) p l e s m args below meth c H locs ls G X hR hL hS)
theorem aw_icmp_lt {x y off : Int} {tgt : Nat} (hd : decode F.2.1 pc = .ok (.if_icmp .lt off, 3)) (ht : (pc : Int) + off = (tgt : Int)) (hx : -2147483648 ≤ x ∧ x ≤ 2147483647) (hy : -2147483648 ≤ y ∧ y ≤ 2147483647) (kt : x < y → AW F cells slots sz (tgt) lv (st) I J R) (kf : y ≤ x → AW F cells slots sz (pc + 3) lv (st) I J R) : AW F cells slots sz (pc) lv (zi y :: zi x :: st) I J R := by
  intro p l e s m args below meth c H locs ls G X hR hL hS
  exact lv_icmp_lt X.1 X.2.1 hd ht (fun h => kt ((i32lt hx hy).mp h) p l e s m args below meth c H locs ls G X hR hL hS) (fun h => kf (by have := mt (i32lt hx hy).mpr h; omega) p l e s m args below meth c H locs ls G X hR hL hS)
theorem aw_icmp_le {x y off : Int} {tgt : Nat} (hd : decode F.2.1 pc = .ok (.if_icmp .le off, 3)) (ht : (pc : Int) + off = (tgt : Int)) (hx : -2147483648 ≤ x ∧ x ≤ 2147483647) (hy : -2147483648 ≤ y ∧ y ≤ 2147483647) (kt : x ≤ y → AW F cells slots sz (tgt) lv (st) I J R) (kf : y < x → AW F cells slots sz (pc + 3) lv (st) I J R) : AW F cells slots sz (pc) lv (zi y :: zi x :: st) I J R := by
  intro p l e s m args below meth c H locs ls G X hR hL hS
  exact lv_icmp_le X.1 X.2.1 hd ht (fun h => kt ((i32le hx hy).mp h) p l e s m args below meth c H locs ls G X hR hL hS) (fun h => kf (by have := mt (i32le hx hy).mpr h; omega) p l e s m args below meth c H locs ls G X hR hL hS)
theorem aw_icmp_eq {x y off : Int} {tgt : Nat} (hd : decode F.2.1 pc = .ok (.if_icmp .eq off, 3)) (ht : (pc : Int) + off = (tgt : Int)) (hx : -2147483648 ≤ x ∧ x ≤ 2147483647) (hy : -2147483648 ≤ y ∧ y ≤ 2147483647) (kt : x = y → AW F cells slots sz (tgt) lv (st) I J R) (kf : x ≠ y → AW F cells slots sz (pc + 3) lv (st) I J R) : AW F cells slots sz (pc) lv (zi y :: zi x :: st) I J R := by
  intro p l e s m args below meth c H locs ls G X hR hL hS
  exact lv_icmp_eq X.1 X.2.1 hd ht (fun h => kt ((i32eq hx hy).mp h) p l e s m args below meth c H locs ls G X hR hL hS) (fun h => kf (fun q => h ((i32eq hx hy).mpr q)) p l e s m args below meth c H locs ls G X hR hL hS)
theorem aw_icmp_ne {x y off : Int} {tgt : Nat} (hd : decode F.2.1 pc = .ok (.if_icmp .ne off, 3)) (ht : (pc : Int) + off = (tgt : Int)) (hx : -2147483648 ≤ x ∧ x ≤ 2147483647) (hy : -2147483648 ≤ y ∧ y ≤ 2147483647) (kt : x ≠ y → AW F cells slots sz (tgt) lv (st) I J R) (kf : x = y → AW F cells slots sz (pc + 3) lv (st) I J R) : AW F cells slots sz (pc) lv (zi y :: zi x :: st) I J R := by
  intro p l e s m args below meth c H locs ls G X hR hL hS
  exact lv_icmp_ne X.1 X.2.1 hd ht (fun h => kt (fun q => h ((i32eq hx hy).mpr q)) p l e s m args below meth c H locs ls G X hR hL hS) (fun h => kf ((i32eq hx hy).mp h) p l e s m args below meth c H locs ls G X hR hL hS)
theorem aw_if_ge {x off : Int} {tgt : Nat} (hd : decode F.2.1 pc = .ok (.ifCond .ge off, 3)) (ht : (pc : Int) + off = (tgt : Int)) (hx : -2147483648 ≤ x ∧ x ≤ 2147483647) (kt : 0 ≤ x → AW F cells slots sz (tgt) lv (st) I J R) (kf : x < 0 → AW F cells slots sz (pc + 3) lv (st) I J R) : AW F cells slots sz (pc) lv (zi x :: st) I J R := by
  intro p l e s m args below meth c H locs ls G X hR hL hS
  exact lv_if_ge X.1 X.2.1 hd ht (fun h => kt ((i32le (a := 0) (by omega) hx).mp h) p l e s m args below meth c H locs ls G X hR hL hS) (fun h => kf (by have := mt (i32le (a := 0) (by omega) hx).mpr h; omega) p l e s m args below meth c H locs ls G X hR hL hS)
theorem aw_if_gt {x off : Int} {tgt : Nat} (hd : decode F.2.1 pc = .ok (.ifCond .gt off, 3)) (ht : (pc : Int) + off = (tgt : Int)) (hx : -2147483648 ≤ x ∧ x ≤ 2147483647) (kt : 0 < x → AW F cells slots sz (tgt) lv (st) I J R) (kf : x ≤ 0 → AW F cells slots sz (pc + 3) lv (st) I J R) : AW F cells slots sz (pc) lv (zi x :: st) I J R := by
  intro p l e s m args below meth c H locs ls G X hR hL hS
  exact lv_if_gt X.1 X.2.1 hd ht (fun h => kt ((i32lt (a := 0) (by omega) hx).mp h) p l e s m args below meth c H locs ls G X hR hL hS) (fun h => kf (by have := mt (i32lt (a := 0) (by omega) hx).mpr h; omega) p l e s m args below meth c H locs ls G X hR hL hS)
theorem aw_if_lt {x off : Int} {tgt : Nat} (hd : decode F.2.1 pc = .ok (.ifCond .lt off, 3)) (ht : (pc : Int) + off = (tgt : Int)) (hx : -2147483648 ≤ x ∧ x ≤ 2147483647) (kt : x < 0 → AW F cells slots sz (tgt) lv (st) I J R) (kf : 0 ≤ x → AW F cells slots sz (pc + 3) lv (st) I J R) : AW F cells slots sz (pc) lv (zi x :: st) I J R := by
  intro p l e s m args below meth c H locs ls G X hR hL hS
  exact lv_if_lt X.1 X.2.1 hd ht (fun h => kt ((i32lt (b := 0) hx (by omega)).mp h) p l e s m args below meth c H locs ls G X hR hL hS) (fun h => kf (by have := mt (i32lt (b := 0) hx (by omega)).mpr h; omega) p l e s m args below meth c H locs ls G X hR hL hS)
theorem aw_if_le {x off : Int} {tgt : Nat} (hd : decode F.2.1 pc = .ok (.ifCond .le off, 3)) (ht : (pc : Int) + off = (tgt : Int)) (hx : -2147483648 ≤ x ∧ x ≤ 2147483647) (kt : x ≤ 0 → AW F cells slots sz (tgt) lv (st) I J R) (kf : 0 < x → AW F cells slots sz (pc + 3) lv (st) I J R) : AW F cells slots sz (pc) lv (zi x :: st) I J R := by
  intro p l e s m args below meth c H locs ls G X hR hL hS
  exact lv_if_le X.1 X.2.1 hd ht (fun h => kt ((i32le (b := 0) hx (by omega)).mp h) p l e s m args below meth c H locs ls G X hR hL hS) (fun h => kf (by have := mt (i32le (b := 0) hx (by omega)).mpr h; omega) p l e s m args below meth c H locs ls G X hR hL hS)
theorem aw_if_eq {x off : Int} {tgt : Nat} (hd : decode F.2.1 pc = .ok (.ifCond .eq off, 3)) (ht : (pc : Int) + off = (tgt : Int)) (hx : -2147483648 ≤ x ∧ x ≤ 2147483647) (kt : x = 0 → AW F cells slots sz (tgt) lv (st) I J R) (kf : x ≠ 0 → AW F cells slots sz (pc + 3) lv (st) I J R) : AW F cells slots sz (pc) lv (zi x :: st) I J R := by
  intro p l e s m args below meth c H locs ls G X hR hL hS
  exact lv_if_eq X.1 X.2.1 hd ht (fun h => kt ((i32eq (b := 0) hx (by omega)).mp h) p l e s m args below meth c H locs ls G X hR hL hS) (fun h => kf (fun q => h ((i32eq (b := 0) hx (by omega)).mpr q)) p l e s m args below meth c H locs ls G X hR hL hS)
theorem aw_if_ne {x off : Int} {tgt : Nat} (hd : decode F.2.1 pc = .ok (.ifCond .ne off, 3)) (ht : (pc : Int) + off = (tgt : Int)) (hx : -2147483648 ≤ x ∧ x ≤ 2147483647) (kt : x ≠ 0 → AW F cells slots sz (tgt) lv (st) I J R) (kf : x = 0 → AW F cells slots sz (pc + 3) lv (st) I J R) : AW F cells slots sz (pc) lv (zi x :: st) I J R := by
  intro p l e s m args below meth c H locs ls G X hR hL hS
  exact lv_if_ne X.1 X.2.1 hd ht (fun h => kt (fun q => h ((i32eq (b := 0) hx (by omega)).mpr q)) p l e s m args below meth c H locs ls G X hR hL hS) (fun h => kf ((i32eq (b := 0) hx (by omega)).mp h) p l e s m args below meth c H locs ls G X hR hL hS)
def z_cmp (x y : Int) : Int := if y < x then 1 else if x = y then 0 else -1
theorem z_cmp_of {x y : Int} (hx : -9223372036854775808 ≤ x ∧ x ≤ 9223372036854775807) (hy : -9223372036854775808 ≤ y ∧ y ≤ 9223372036854775807) : lg_cmp (Int64.ofInt x) (Int64.ofInt y) = Int32.ofInt (z_cmp x y) := by
  unfold lg_cmp z_cmp
  by_cases h : y < x
  · rw [if_pos h, if_pos ((i64lt hy hx).mpr h)]; rfl
  · rw [if_neg h, if_neg (fun q => h ((i64lt hy hx).mp q))]
    by_cases h2 : x = y
    · rw [if_pos h2, if_pos ((i64eq hx hy).mpr h2)]; rfl
    · rw [if_neg h2, if_neg (fun q => h2 ((i64eq hx hy).mp q))]; rfl
theorem z_cmp_r (x y : Int) : -2147483648 ≤ z_cmp x y ∧ z_cmp x y ≤ 2147483647 := by
  unfold z_cmp
  split
  · omega
  · split <;> omega
theorem z_cmp_ge (x y : Int) : 0 ≤ z_cmp x y ↔ y ≤ x := by
  unfold z_cmp
  split
  · omega
  · split <;> omega
theorem z_cmp_gt (x y : Int) : 0 < z_cmp x y ↔ y < x := by
  unfold z_cmp
  split
  · omega
  · split <;> omega
theorem z_cmp_eq (x y : Int) : z_cmp x y = 0 ↔ x = y := by
  unfold z_cmp
  split
  · omega
  · split <;> omega
theorem aw_lcmp {x y : Int} (hd : decode F.2.1 pc = .ok (.lcmp, 1)) (hx : -9223372036854775808 ≤ x ∧ x ≤ 9223372036854775807) (hy : -9223372036854775808 ≤ y ∧ y ≤ 9223372036854775807) (k : AW F cells slots sz (pc + 1) lv (zi (z_cmp x y) :: st) I J R) : AW F cells slots sz (pc) lv (zl y :: zl x :: st) I J R := by
  intro p l e s m args below meth c H locs ls G X hR hL hS
  have K := k p l e s m args below meth c H locs ls G X hR hL hS
  rw [List.map_cons, show z_cv G.2.2 (zi (z_cmp x y)) = Value.int (lg_cmp (Int64.ofInt x) (Int64.ofInt y)) from congrArg Value.int (z_cmp_of hx hy).symm] at K
  exact W.lcmp X.1 X.2.1 hd K
theorem aw_lcmp_ge {x y off : Int} {tgt : Nat} (hd : decode F.2.1 pc = .ok (.lcmp, 1)) (hd2 : decode F.2.1 (pc + 1) = .ok (.ifCond .ge off, 3)) (ht : ((pc + 1 : Nat) : Int) + off = (tgt : Int)) (hx : -9223372036854775808 ≤ x ∧ x ≤ 9223372036854775807) (hy : -9223372036854775808 ≤ y ∧ y ≤ 9223372036854775807) (kt : y ≤ x → AW F cells slots sz (tgt) lv (st) I J R) (kf : x < y → AW F cells slots sz (pc + 1 + 3) lv (st) I J R) : AW F cells slots sz (pc) lv (zl y :: zl x :: st) I J R :=
  aw_lcmp hd hx hy (aw_if_ge hd2 ht (z_cmp_r x y) (fun h => kt ((z_cmp_ge x y).mp h)) (fun h => kf (by have := mt (z_cmp_ge x y).mpr (by omega); omega)))
theorem aw_lcmp_gt {x y off : Int} {tgt : Nat} (hd : decode F.2.1 pc = .ok (.lcmp, 1)) (hd2 : decode F.2.1 (pc + 1) = .ok (.ifCond .gt off, 3)) (ht : ((pc + 1 : Nat) : Int) + off = (tgt : Int)) (hx : -9223372036854775808 ≤ x ∧ x ≤ 9223372036854775807) (hy : -9223372036854775808 ≤ y ∧ y ≤ 9223372036854775807) (kt : y < x → AW F cells slots sz (tgt) lv (st) I J R) (kf : x ≤ y → AW F cells slots sz (pc + 1 + 3) lv (st) I J R) : AW F cells slots sz (pc) lv (zl y :: zl x :: st) I J R :=
  aw_lcmp hd hx hy (aw_if_gt hd2 ht (z_cmp_r x y) (fun h => kt ((z_cmp_gt x y).mp h)) (fun h => kf (by have := mt (z_cmp_gt x y).mpr (by omega); omega)))
theorem aw_lcmp_lt {x y off : Int} {tgt : Nat} (hd : decode F.2.1 pc = .ok (.lcmp, 1)) (hd2 : decode F.2.1 (pc + 1) = .ok (.ifCond .lt off, 3)) (ht : ((pc + 1 : Nat) : Int) + off = (tgt : Int)) (hx : -9223372036854775808 ≤ x ∧ x ≤ 9223372036854775807) (hy : -9223372036854775808 ≤ y ∧ y ≤ 9223372036854775807) (kt : x < y → AW F cells slots sz (tgt) lv (st) I J R) (kf : y ≤ x → AW F cells slots sz (pc + 1 + 3) lv (st) I J R) : AW F cells slots sz (pc) lv (zl y :: zl x :: st) I J R :=
  aw_lcmp hd hx hy (aw_if_lt hd2 ht (z_cmp_r x y) (fun h => kt (by have := mt (z_cmp_ge x y).mpr (by omega); omega)) (fun h => kf ((z_cmp_ge x y).mp h)))
theorem aw_lcmp_le {x y off : Int} {tgt : Nat} (hd : decode F.2.1 pc = .ok (.lcmp, 1)) (hd2 : decode F.2.1 (pc + 1) = .ok (.ifCond .le off, 3)) (ht : ((pc + 1 : Nat) : Int) + off = (tgt : Int)) (hx : -9223372036854775808 ≤ x ∧ x ≤ 9223372036854775807) (hy : -9223372036854775808 ≤ y ∧ y ≤ 9223372036854775807) (kt : x ≤ y → AW F cells slots sz (tgt) lv (st) I J R) (kf : y < x → AW F cells slots sz (pc + 1 + 3) lv (st) I J R) : AW F cells slots sz (pc) lv (zl y :: zl x :: st) I J R :=
  aw_lcmp hd hx hy (aw_if_le hd2 ht (z_cmp_r x y) (fun h => kt (by have := mt (z_cmp_gt x y).mpr (by omega); omega)) (fun h => kf ((z_cmp_gt x y).mp h)))
theorem aw_lcmp_eq {x y off : Int} {tgt : Nat} (hd : decode F.2.1 pc = .ok (.lcmp, 1)) (hd2 : decode F.2.1 (pc + 1) = .ok (.ifCond .eq off, 3)) (ht : ((pc + 1 : Nat) : Int) + off = (tgt : Int)) (hx : -9223372036854775808 ≤ x ∧ x ≤ 9223372036854775807) (hy : -9223372036854775808 ≤ y ∧ y ≤ 9223372036854775807) (kt : x = y → AW F cells slots sz (tgt) lv (st) I J R) (kf : x ≠ y → AW F cells slots sz (pc + 1 + 3) lv (st) I J R) : AW F cells slots sz (pc) lv (zl y :: zl x :: st) I J R :=
  aw_lcmp hd hx hy (aw_if_eq hd2 ht (z_cmp_r x y) (fun h => kt ((z_cmp_eq x y).mp h)) (fun h => kf (fun q => h ((z_cmp_eq x y).mpr q))))
theorem aw_lcmp_ne {x y off : Int} {tgt : Nat} (hd : decode F.2.1 pc = .ok (.lcmp, 1)) (hd2 : decode F.2.1 (pc + 1) = .ok (.ifCond .ne off, 3)) (ht : ((pc + 1 : Nat) : Int) + off = (tgt : Int)) (hx : -9223372036854775808 ≤ x ∧ x ≤ 9223372036854775807) (hy : -9223372036854775808 ≤ y ∧ y ≤ 9223372036854775807) (kt : x ≠ y → AW F cells slots sz (tgt) lv (st) I J R) (kf : x = y → AW F cells slots sz (pc + 1 + 3) lv (st) I J R) : AW F cells slots sz (pc) lv (zl y :: zl x :: st) I J R :=
  aw_lcmp hd hx hy (aw_if_ne hd2 ht (z_cmp_r x y) (fun h => kt (fun q => h ((z_cmp_eq x y).mpr q))) (fun h => kf ((z_cmp_eq x y).mp h)))
theorem aw_goto {off : Int} {tgt : Nat} (hd : decode F.2.1 pc = .ok (.goto off, 3)) (ht : (pc : Int) + off = (tgt : Int)) (k : AW F cells slots sz (tgt) lv (st) I J R) : AW F cells slots sz (pc) lv (st) I J R := by
  intro p l e s m args below meth c H locs ls G X hR hL hS
  exact lv_goto X.1 X.2.1 hd ht (k p l e s m args below meth c H locs ls G X hR hL hS)
theorem z_c1 (b : Nat) {v : AwV} (h : ∀ x, v ≠ zl x) : (z_cv b v).category = 1 := by
  rcases lv_cat (z_cv b v) with q | q
  · exact q
  · obtain ⟨x, hx⟩ := (z_cat b v).mp q
    exact absurd hx (h x)
theorem aw_dup {v : AwV} (hd : decode F.2.1 pc = .ok (.dup, 1)) (hv : ∀ x, v ≠ zl x) (k : AW F cells slots sz (pc + 1) lv (v :: v :: st) I J R) : AW F cells slots sz (pc) lv (v :: st) I J R := by
  intro p l e s m args below meth c H locs ls G X hR hL hS
  exact lv_dup X.1 X.2.1 hd (z_c1 _ hv) (k p l e s m args below meth c H locs ls G X hR hL hS)
theorem aw_dup_x1 {v u : AwV} (hd : decode F.2.1 pc = .ok (.dup_x1, 1)) (hv : ∀ x, v ≠ zl x) (hu : ∀ x, u ≠ zl x) (k : AW F cells slots sz (pc + 1) lv (v :: u :: v :: st) I J R) : AW F cells slots sz (pc) lv (v :: u :: st) I J R := by
  intro p l e s m args below meth c H locs ls G X hR hL hS
  exact lv_dup_x1 X.1 X.2.1 hd (z_c1 _ hv) (z_c1 _ hu) (k p l e s m args below meth c H locs ls G X hR hL hS)
theorem aw_dup2 {v u : AwV} (hd : decode F.2.1 pc = .ok (.dup2, 1)) (hv : ∀ x, v ≠ zl x) (hu : ∀ x, u ≠ zl x) (k : AW F cells slots sz (pc + 1) lv (v :: u :: v :: u :: st) I J R) : AW F cells slots sz (pc) lv (v :: u :: st) I J R := by
  intro p l e s m args below meth c H locs ls G X hR hL hS
  exact lv_dup2_11 X.1 X.2.1 hd (z_c1 _ hv) (z_c1 _ hu) (k p l e s m args below meth c H locs ls G X hR hL hS)
theorem aw_tbl_out {dflt lo hi : Int} {offs : Array Int} {len : Nat} {x : Int} {tgt : Nat} (hd : decode F.2.1 pc = .ok (.tableswitch dflt lo hi offs, len)) (hx : -2147483648 ≤ x ∧ x ≤ 2147483647) (h : x < lo ∨ hi < x) (ht : (pc : Int) + dflt = (tgt : Int)) (k : AW F cells slots sz (tgt) lv (st) I J R) : AW F cells slots sz (pc) lv (zi x :: st) I J R := by
  intro p l e s m args below meth c H locs ls G X hR hL hS
  exact lv_tableOut X.1 X.2.1 hd (by rw [Int32.toInt_ofInt_of_le (by omega) (by omega)]; exact h) ht (k p l e s m args below meth c H locs ls G X hR hL hS)
theorem aw_tbl_in {dflt lo hi : Int} {offs : Array Int} {len : Nat} {x off : Int} {tgt : Nat} (hd : decode F.2.1 pc = .ok (.tableswitch dflt lo hi offs, len)) (hx : -2147483648 ≤ x ∧ x ≤ 2147483647) (h : lo ≤ x ∧ x ≤ hi) (ho : offs[(x - lo).toNat]? = some off) (ht : (pc : Int) + off = (tgt : Int)) (k : AW F cells slots sz (tgt) lv (st) I J R) : AW F cells slots sz (pc) lv (zi x :: st) I J R := by
  intro p l e s m args below meth c H locs ls G X hR hL hS
  have e1 : (Int32.ofInt x).toInt = x := Int32.toInt_ofInt_of_le (by omega) (by omega)
  exact lv_tableIn X.1 X.2.1 hd (by rw [e1]; omega) (by rw [e1]; omega) (by rw [e1]; exact ho) ht (k p l e s m args below meth c H locs ls G X hR hL hS)
theorem z_ofN (n : Nat) : Int32.ofInt (n : Int) = nI n := Int32.ofInt_eq_ofNat
theorem z_and (a b : Nat) : nI a &&& nI b = nI (a &&& b) := by
  show Int32.ofNat a &&& Int32.ofNat b = Int32.ofNat (a &&& b)
  apply Int32.toBitVec_inj.1
  simp [BitVec.ofNat_and]
theorem z_or (a b : Nat) : nI a ||| nI b = nI (a ||| b) := by
  show Int32.ofNat a ||| Int32.ofNat b = Int32.ofNat (a ||| b)
  apply Int32.toBitVec_inj.1
  simp [BitVec.ofNat_or]
theorem z_xor (a b : Nat) : nI a ^^^ nI b = nI (a ^^^ b) := by
  show Int32.ofNat a ^^^ Int32.ofNat b = Int32.ofNat (a ^^^ b)
  apply Int32.toBitVec_inj.1
  simp [BitVec.ofNat_xor]
theorem aw_iand {x y : Int} {a b : Nat} (hd : decode F.2.1 pc = .ok (.iand, 1)) (hx : x = (a : Int)) (hy : y = (b : Int)) (k : AW F cells slots sz (pc + 1) lv (zi ((a &&& b : Nat) : Int) :: st) I J R) : AW F cells slots sz (pc) lv (zi y :: zi x :: st) I J R := by
  subst hx hy
  intro p l e s m args below meth c H locs ls G X hR hL hS
  have K := k p l e s m args below meth c H locs ls G X hR hL hS
  rw [List.map_cons, show z_cv G.2.2 (zi ((a &&& b : Nat) : Int)) = Value.int (Int32.ofInt (a : Int) &&& Int32.ofInt (b : Int)) from congrArg Value.int (by rw [z_ofN, z_ofN, z_ofN, z_and])] at K
  exact lv_iand X.1 X.2.1 hd K
theorem aw_ior {x y : Int} {a b : Nat} (hd : decode F.2.1 pc = .ok (.ior, 1)) (hx : x = (a : Int)) (hy : y = (b : Int)) (k : AW F cells slots sz (pc + 1) lv (zi ((a ||| b : Nat) : Int) :: st) I J R) : AW F cells slots sz (pc) lv (zi y :: zi x :: st) I J R := by
  subst hx hy
  intro p l e s m args below meth c H locs ls G X hR hL hS
  have K := k p l e s m args below meth c H locs ls G X hR hL hS
  rw [List.map_cons, show z_cv G.2.2 (zi ((a ||| b : Nat) : Int)) = Value.int (Int32.ofInt (a : Int) ||| Int32.ofInt (b : Int)) from congrArg Value.int (by rw [z_ofN, z_ofN, z_ofN, z_or])] at K
  exact lv_ior X.1 X.2.1 hd K
theorem aw_ixor {x y : Int} {a b : Nat} (hd : decode F.2.1 pc = .ok (.ixor, 1)) (hx : x = (a : Int)) (hy : y = (b : Int)) (k : AW F cells slots sz (pc + 1) lv (zi ((a ^^^ b : Nat) : Int) :: st) I J R) : AW F cells slots sz (pc) lv (zi y :: zi x :: st) I J R := by
  subst hx hy
  intro p l e s m args below meth c H locs ls G X hR hL hS
  have K := k p l e s m args below meth c H locs ls G X hR hL hS
  rw [List.map_cons, show z_cv G.2.2 (zi ((a ^^^ b : Nat) : Int)) = Value.int (Int32.ofInt (a : Int) ^^^ Int32.ofInt (b : Int)) from congrArg Value.int (by rw [z_ofN, z_ofN, z_ofN, z_xor])] at K
  exact lv_ixor X.1 X.2.1 hd K
theorem z_not (x : Int) : Int32.ofInt x ^^^ Int32.ofInt (-1) = Int32.ofInt (-x - 1) := by
  have h1 : Int32.ofInt (-1) = -1 := rfl
  rw [h1]
  have h2 : Int32.ofInt (-x - 1) = -(Int32.ofInt x) - 1 := by rw [Int32.ofInt_sub, Int32.ofInt_neg]; rfl
  rw [h2]
  generalize Int32.ofInt x = y
  apply Int32.toBitVec_inj.1
  show y.toBitVec ^^^ (-1 : Int32).toBitVec = -y.toBitVec - 1#32
  rw [show (-1 : Int32).toBitVec = BitVec.allOnes 32 from rfl, BitVec.xor_allOnes, BitVec.not_eq_neg_add]
theorem aw_inot {x : Int} (hd : decode F.2.1 pc = .ok (.ixor, 1)) (k : AW F cells slots sz (pc + 1) lv (zi (-x - 1) :: st) I J R) : AW F cells slots sz (pc) lv (zi (-1) :: zi x :: st) I J R := by
  intro p l e s m args below meth c H locs ls G X hR hL hS
  have K := k p l e s m args below meth c H locs ls G X hR hL hS
  rw [List.map_cons, show z_cv G.2.2 (zi (-x - 1)) = Value.int (Int32.ofInt x ^^^ Int32.ofInt (-1)) from congrArg Value.int (z_not x).symm] at K
  exact lv_ixor X.1 X.2.1 hd K
theorem aw_shl1 {n : Int} {w : Nat} (hd : decode F.2.1 pc = .ok (.ishl, 1)) (hn : n = (w : Int)) (hm : w < 31) (k : AW F cells slots sz (pc + 1) lv (zi ((2 ^ w : Nat) : Int) :: st) I J R) : AW F cells slots sz (pc) lv (zi n :: zi 1 :: st) I J R := by
  subst hn
  intro p l e s m args below meth c H locs ls G X hR hL hS
  have K := k p l e s m args below meth c H locs ls G X hR hL hS
  have e1 : ∀ w : Nat, w < 31 → Int32.ofInt ((2 ^ w : Nat) : Int) = Int32.ofInt 1 <<< (Int32.ofInt (w : Int) &&& 31) := by decide +kernel
  rw [List.map_cons, show z_cv G.2.2 (zi ((2 ^ w : Nat) : Int)) = Value.int (Int32.ofInt 1 <<< (Int32.ofInt (w : Int) &&& 31)) from congrArg Value.int (e1 w hm)] at K
  exact lv_ishl X.1 X.2.1 hd K
theorem aw_shr {x n : Int} {a w : Nat} (hd : decode F.2.1 pc = .ok (.ishr, 1)) (hx : x = (a : Int)) (hn : n = (w : Int)) (ha : a < 2147483648) (hm : w < 31) (k : AW F cells slots sz (pc + 1) lv (zi ((a / 2 ^ w : Nat) : Int) :: st) I J R) : AW F cells slots sz (pc) lv (zi n :: zi x :: st) I J R := by
  subst hx hn
  intro p l e s m args below meth c H locs ls G X hR hL hS
  have K := k p l e s m args below meth c H locs ls G X hR hL hS
  have e1 : ∀ m : Nat, m < 31 → ((nI m &&& 31).toBitVec.smod 32).toNat = m := by decide +kernel
  rw [List.map_cons, show z_cv G.2.2 (zi ((a / 2 ^ w : Nat) : Int)) = Value.int (Int32.ofInt (a : Int) >>> (Int32.ofInt (w : Int) &&& 31)) from congrArg Value.int (by rw [z_ofN, z_ofN, z_ofN]; exact (pk_shrN (by omega) _ w (e1 w hm)).symm)] at K
  exact lv_ishr X.1 X.2.1 hd K
theorem z_szb : ∀ a, a < 255 → (z_sh a).2 ≤ 2147483647 := by decide +kernel
theorem z_shn {a n k : Nat} (ha : a < 255) (h : z_sh a = (k, n)) : n ≤ 2147483647 := by have := z_szb a ha; rw [h] at this; exact this
theorem aw_iaload {a n : Nat} {i : Int} (hd : decode F.2.1 pc = .ok (.iaload, 1)) (ha : a < sz) (hz : sz ≤ 255) (hs : z_sh a = (0, n)) (hi : 0 ≤ i ∧ i < (n : Int)) (k : AW F cells slots sz (pc + 1) lv (zi (I a i.toNat) :: st) I J R) : AW F cells slots sz (pc) lv (zi i :: zr a :: st) I J R := by
  intro p l e s m args below meth c H locs ls G X hR hL hS
  have hn := z_shn (by omega) hs
  have hc := (hR.2.2 a ha).1 n hs
  have hin := i32in hi hn
  exact W.iald (v := .int (Int32.ofInt (I a i.toNat))) X.1 X.2.1 hc ((X.2.2.2.2.2.2.2.1.1.2 0 _ rfl).1 n (fun j => .int (Int32.ofInt (I a j)))) (fun q => by cases q) (by show ¬ (_ < 0 ∨ (arrV _ _ _).slots.size ≤ _); rw [arrV_size]; exact hin) (by show (arrV _ _ _).slots[_]? = _; rw [i32cl (by omega), arrV_read _ _ (by omega)]) rfl rfl hd (k p l e s m args below meth c H locs ls G X hR hL hS)
theorem aw_laload {a n : Nat} {i : Int} (hd : decode F.2.1 pc = .ok (.laload, 1)) (ha : a < sz) (hz : sz ≤ 255) (hs : z_sh a = (1, n)) (hi : 0 ≤ i ∧ i < (n : Int)) (k : AW F cells slots sz (pc + 1) lv (zl (J a i.toNat) :: st) I J R) : AW F cells slots sz (pc) lv (zi i :: zr a :: st) I J R := by
  intro p l e s m args below meth c H locs ls G X hR hL hS
  have hn := z_shn (by omega) hs
  have hc := (hR.2.2 a ha).2.1 n hs
  have hin := i32in hi hn
  exact W.lald (v := .long (Int64.ofInt (J a i.toNat))) X.1 X.2.1 hc ((X.2.2.2.2.2.2.2.1.1.2 1 _ rfl).1 n (fun j => .long (Int64.ofInt (J a j)))) (fun q => by cases q) (by show ¬ (_ < 0 ∨ (arrV _ _ _).slots.size ≤ _); rw [arrV_size]; exact hin) (by show (arrV _ _ _).slots[_]? = _; rw [i32cl (by omega), arrV_read _ _ (by omega)]) rfl rfl hd (k p l e s m args below meth c H locs ls G X hR hL hS)
theorem aw_aaloadQ {a n b : Nat} {i : Int} (hd : decode F.2.1 pc = .ok (.aaload, 1)) (ha : a < sz) (hz : sz ≤ 255) (hs : z_sh a = (2, n)) (hi : 0 ≤ i ∧ i < (n : Int)) (hr : R a i.toNat = some b) (k : AW F cells slots sz (pc + 1) lv (zr b :: st) I J R) : AW F cells slots sz (pc) lv (zi i :: zr a :: st) I J R := by
  intro p l e s m args below meth c H locs ls G X hR hL hS
  have hn := z_shn (by omega) hs
  have hc := (hR.2.2 a ha).2.2.1 n hs
  have hin := i32in hi hn
  exact W.aald (v := z_rf G.2.2 (some b)) (ty := .object "CutProofs$Cut") X.1 X.2.1 hc ((X.2.2.2.2.2.2.2.1.1.2 2 _ rfl).1 n (fun j => z_rf G.2.2 (R a j))) rfl (fun q => by cases q) (by show ¬ (_ < 0 ∨ (arrV _ _ _).slots.size ≤ _); rw [arrV_size]; exact hin) (by show (arrV _ _ _).slots[_]? = _; rw [i32cl (by omega), arrV_read _ _ (by omega), hr]) rfl rfl hd (k p l e s m args below meth c H locs ls G X hR hL hS)
theorem aw_aaloadG {a n b : Nat} {i : Int} (hd : decode F.2.1 pc = .ok (.aaload, 1)) (ha : a < sz) (hz : sz ≤ 255) (hs : z_sh a = (3, n)) (hi : 0 ≤ i ∧ i < (n : Int)) (hr : R a i.toNat = some b) (k : AW F cells slots sz (pc + 1) lv (zr b :: st) I J R) : AW F cells slots sz (pc) lv (zi i :: zr a :: st) I J R := by
  intro p l e s m args below meth c H locs ls G X hR hL hS
  have hn := z_shn (by omega) hs
  have hc := (hR.2.2 a ha).2.2.2.1 n hs
  have hin := i32in hi hn
  exact W.aald (v := z_rf G.2.2 (some b)) (ty := .array .int) X.1 X.2.1 hc ((X.2.2.2.2.2.2.2.1.1.2 3 _ rfl).1 n (fun j => z_rf G.2.2 (R a j))) rfl (fun q => by cases q) (by show ¬ (_ < 0 ∨ (arrV _ _ _).slots.size ≤ _); rw [arrV_size]; exact hin) (by show (arrV _ _ _).slots[_]? = _; rw [i32cl (by omega), arrV_read _ _ (by omega), hr]) rfl rfl hd (k p l e s m args below meth c H locs ls G X hR hL hS)
theorem aw_alen {a n kd : Nat} (hd : decode F.2.1 pc = .ok (.arraylength, 1)) (ha : a < sz) (hz : sz ≤ 255) (hs : z_sh a = (kd, n)) (hk : kd = 0 ∨ kd = 2) (k : AW F cells slots sz (pc + 1) lv (zi (n : Int) :: st) I J R) : AW F cells slots sz (pc) lv (zr a :: st) I J R := by
  intro p l e s m args below meth c H locs ls G X hR hL hS
  have e1 : ∀ (cA : ClassId) (f : Nat → Value), (arrV cA n f).slots.size.toInt32 = Int32.ofInt (n : Int) := fun cA f => by rw [arrV_size]; exact Int32.ofInt_eq_ofNat.symm
  rcases hk with rfl | rfl
  · exact W.alen X.1 X.2.1 ((hR.2.2 a ha).1 n hs) ((X.2.2.2.2.2.2.2.1.1.2 0 _ rfl).1 n _) (e1 _ _) rfl rfl hd (k p l e s m args below meth c H locs ls G X hR hL hS)
  · exact W.alen X.1 X.2.1 ((hR.2.2 a ha).2.2.1 n hs) ((X.2.2.2.2.2.2.2.1.1.2 2 _ rfl).1 n _) (e1 _ _) rfl rfl hd (k p l e s m args below meth c H locs ls G X hR hL hS)
theorem z_at.upI {G : ZG} {I J : AwI} {R : AwR} {H H1 : Heap} {a a' k : Nat} {x : Int} (h : z_at G I J R H a') (hne : a' ≠ a) (oq : ∀ q, q ≠ G.2.2 + a → H1[q]? = H[q]?) : z_at G (z_up I a k x) J R H1 a' := by
  have hq : H1[G.2.2 + a']? = H[G.2.2 + a']? := oq _ (by omega)
  refine ⟨fun n hs => ?_, fun n hs => by rw [hq]; exact h.2.1 n hs, fun n hs => by rw [hq]; exact h.2.2.1 n hs, fun n hs => by rw [hq]; exact h.2.2.2.1 n hs, fun c n hs => ?_⟩
  · rw [hq, h.1 n hs]
    congr 2
    funext j
    rw [z_up_a _ _ hne]
  · refine ((h.2.2.2.2 c n hs).kept hq).to (fun j _ => ?_)
    rw [(z_rd_up I J R a (z_fk c j) k a' j hne x).1]
theorem z_at.upJ {G : ZG} {I J : AwI} {R : AwR} {H H1 : Heap} {a a' k : Nat} {x : Int} (h : z_at G I J R H a') (hne : a' ≠ a) (oq : ∀ q, q ≠ G.2.2 + a → H1[q]? = H[q]?) : z_at G I (z_up J a k x) R H1 a' := by
  have hq : H1[G.2.2 + a']? = H[G.2.2 + a']? := oq _ (by omega)
  refine ⟨fun n hs => by rw [hq]; exact h.1 n hs, fun n hs => ?_, fun n hs => by rw [hq]; exact h.2.2.1 n hs, fun n hs => by rw [hq]; exact h.2.2.2.1 n hs, fun c n hs => ?_⟩
  · rw [hq, h.2.1 n hs]
    congr 2
    funext j
    rw [z_up_a _ _ hne]
  · refine ((h.2.2.2.2 c n hs).kept hq).to (fun j _ => ?_)
    rw [(z_rd_up I J R a (z_fk c j) k a' j hne x).2]
theorem z_at.upR {G : ZG} {I J : AwI} {R : AwR} {H H1 : Heap} {a a' k : Nat} {x : Option Nat} (h : z_at G I J R H a') (hne : a' ≠ a) (oq : ∀ q, q ≠ G.2.2 + a → H1[q]? = H[q]?) : z_at G I J (z_up R a k x) H1 a' := by
  have hq : H1[G.2.2 + a']? = H[G.2.2 + a']? := oq _ (by omega)
  refine ⟨fun n hs => by rw [hq]; exact h.1 n hs, fun n hs => by rw [hq]; exact h.2.1 n hs, fun n hs => ?_, fun n hs => ?_, fun c n hs => ?_⟩
  · rw [hq, h.2.2.1 n hs]
    congr 2
    funext j
    rw [z_up_a _ _ hne]
  · rw [hq, h.2.2.2.1 n hs]
    congr 2
    funext j
    rw [z_up_a _ _ hne]
  · refine ((h.2.2.2.2 c n hs).kept hq).to (fun j _ => ?_)
    unfold z_rd
    rw [z_up_a _ _ hne]
theorem z_Sput {A : Nat → Prop} {H0 H H1 : Heap} {locs : List Loc} {a k : Nat} (h : va_S A H0 H locs) (z : H1.size = H.size) (oq : ∀ q : Nat, q ≠ a → H1[q]? = H[q]?) (ha : A a) : va_S A H0 H1 (locs ++ [⟨a, k⟩]) := h.put z oq ha
theorem aw_iastore {a n : Nat} {i x : Int} (hd : decode F.2.1 pc = .ok (.iastore, 1)) (ha : a < sz) (hz : sz ≤ 255) (hs : z_sh a = (0, n)) (hi : 0 ≤ i ∧ i < (n : Int)) (k : AW F cells slots sz (pc + 1) lv st (z_up I a i.toNat x) J R) : AW F cells slots sz (pc) lv (zi x :: zi i :: zr a :: st) I J R := by
  intro p l e s m args below meth c H locs ls G X hR hL hS
  have hn := z_shn (by omega) hs
  have hc := (hR.2.2 a ha).1 n hs
  have hin := i32in hi hn
  refine W.iast X.1 X.2.1 hc ((X.2.2.2.2.2.2.2.1.1.2 0 _ rfl).1 n (fun j => .int (Int32.ofInt (I a j)))) (fun q => by cases q) (by show ¬ (_ < 0 ∨ (arrV _ _ _).slots.size ≤ _); rw [arrV_size]; exact hin) rfl rfl hd fun H1 he hz1 oq => ?_
  refine k p l e s m args below meth c H1 _ ls G X ⟨fun q => by rw [hz1]; exact hR.1 q, by rw [hz1]; exact hR.2.1, fun a' ha' => ?_⟩ hL (z_Sput hS hz1 oq (Nat.le_add_right _ _))
  by_cases e : a' = a
  · subst e
    refine ⟨fun n2 hs2 => ?_, fun n2 hs2 => ?_, fun n2 hs2 => ?_, fun n2 hs2 => ?_, fun c2 n2 hs2 => ?_⟩
    all_goals (rw [hs] at hs2)
    all_goals (first | (cases hs2; done) | (injection hs2 with h1 h2; omega) | skip)
    cases hs2
    rw [he, i32cl (by omega), arrV_store]
    congr 2
    funext q
    by_cases hq : q = i.toNat
    · subst hq; simp [updV, z_up]
    · simp [updV, z_up, hq]
  · exact (hR.2.2 a' ha').upI e oq
theorem aw_lastore {a n : Nat} {i x : Int} (hd : decode F.2.1 pc = .ok (.lastore, 1)) (ha : a < sz) (hz : sz ≤ 255) (hs : z_sh a = (1, n)) (hi : 0 ≤ i ∧ i < (n : Int)) (k : AW F cells slots sz (pc + 1) lv st I (z_up J a i.toNat x) R) : AW F cells slots sz (pc) lv (zl x :: zi i :: zr a :: st) I J R := by
  intro p l e s m args below meth c H locs ls G X hR hL hS
  have hn := z_shn (by omega) hs
  have hc := (hR.2.2 a ha).2.1 n hs
  have hin := i32in hi hn
  refine W.last X.1 X.2.1 hc ((X.2.2.2.2.2.2.2.1.1.2 1 _ rfl).1 n (fun j => .long (Int64.ofInt (J a j)))) (fun q => by cases q) (by show ¬ (_ < 0 ∨ (arrV _ _ _).slots.size ≤ _); rw [arrV_size]; exact hin) rfl rfl hd fun H1 he hz1 oq => ?_
  refine k p l e s m args below meth c H1 _ ls G X ⟨fun q => by rw [hz1]; exact hR.1 q, by rw [hz1]; exact hR.2.1, fun a' ha' => ?_⟩ hL (z_Sput hS hz1 oq (Nat.le_add_right _ _))
  by_cases e : a' = a
  · subst e
    refine ⟨fun n2 hs2 => ?_, fun n2 hs2 => ?_, fun n2 hs2 => ?_, fun n2 hs2 => ?_, fun c2 n2 hs2 => ?_⟩
    all_goals (rw [hs] at hs2)
    all_goals (first | (cases hs2; done) | (injection hs2 with h1 h2; omega) | skip)
    cases hs2
    rw [he, i32cl (by omega), arrV_store]
    congr 2
    funext q
    by_cases hq : q = i.toNat
    · subst hq; simp [updV, z_up]
    · simp [updV, z_up, hq]
  · exact (hR.2.2 a' ha').upJ e oq
end AWR
