abbrev ZE : Type := Launch → ZG → Array Value → State → Code → Prop
/-- the abstract machine with a premise on the start -/
def AV (E : ZE) (F : ZF) (cells slots sz pc : Nat) (lv : List (Option AwV)) (st : List AwV) (I J : AwI) (R : AwR) : Prop :=
  ∀ (p : Program) (l : Launch) (e : Env) (s : State) (m : MethodId) (args : Array Value) (below : List Frame) (meth : Method) (c : Code) (H : Heap) (locs : List Loc) (ls : Array Slot) (G : ZG), E l G args s c →
    z_X F p s m args meth c G → z_Rl G sz I J R H → z_Lo G.2.2 ls F.2.2.1 lv → va_S (fun q => G.2.2 ≤ q) s.heap H locs →
    W p l e F.2.2.2.2.1 s m args below meth c H locs cells slots (F.2.2.2.2.2 G args s below) (F0 m pc ls (st.map (z_cv G.2.2)))
section AVR
variable {E : ZE} {F : ZF} {cells slots sz pc : Nat} {lv lv' : List (Option AwV)} {st stk : List AwV} {I J : AwI} {R : AwR}
theorem av_iload_n {n : Fin 4} {x : Int} (hd : decode F.2.1 pc = .ok (.iload_n n, 1)) (hl : lv[(n : Nat)]? = some (some (zi x))) (k : AV E F cells slots sz (pc + 1) lv (zi x :: st) I J R) : AV E F cells slots sz (pc) lv (st) I J R := by
  intro p l e s m args below meth c H locs ls G hE X hR hL hS
  exact lv_iload_n X.1 X.2.1 hd rfl (hL.2.2.2 _ _ hl) (k p l e s m args below meth c H locs ls G hE X hR hL hS)
theorem av_iload {n : Nat} {x : Int} (hd : decode F.2.1 pc = .ok (.iload n, 2)) (hl : lv[n]? = some (some (zi x))) (k : AV E F cells slots sz (pc + 2) lv (zi x :: st) I J R) : AV E F cells slots sz (pc) lv (st) I J R := by
  intro p l e s m args below meth c H locs ls G hE X hR hL hS
  exact lv_iload X.1 X.2.1 hd (hL.2.2.2 _ _ hl) (k p l e s m args below meth c H locs ls G hE X hR hL hS)
theorem av_istore_n {n : Fin 4} {x : Int} (hd : decode F.2.1 pc = .ok (.istore_n n, 1)) (hn : (n : Nat) < F.2.2.1) (hl : z_st lv n (zi x) = lv') (k : AV E F cells slots sz (pc + 1) lv' (st) I J R) : AV E F cells slots sz (pc) lv (zi x :: st) I J R := by
  intro p l e s m args below meth c H locs ls G hE X hR hL hS
  subst hl
  exact lv_istore_n X.1 X.2.1 hd rfl hL.has hn rfl (fun ls2 h2 => k p l e s m args below meth c H locs ls2 G hE X hR (z_Lo.st hL h2) hS)
theorem av_istore {n : Nat} {x : Int} (hd : decode F.2.1 pc = .ok (.istore n, 2)) (hn : n < F.2.2.1) (hl : z_st lv n (zi x) = lv') (k : AV E F cells slots sz (pc + 2) lv' (st) I J R) : AV E F cells slots sz (pc) lv (zi x :: st) I J R := by
  intro p l e s m args below meth c H locs ls G hE X hR hL hS
  subst hl
  exact lv_istore X.1 X.2.1 hd hL.has hn rfl (fun ls2 h2 => k p l e s m args below meth c H locs ls2 G hE X hR (z_Lo.st hL h2) hS)
theorem av_aload_n {n : Fin 4} {x : Nat} (hd : decode F.2.1 pc = .ok (.aload_n n, 1)) (hl : lv[(n : Nat)]? = some (some (zr x))) (k : AV E F cells slots sz (pc + 1) lv (zr x :: st) I J R) : AV E F cells slots sz (pc) lv (st) I J R := by
  intro p l e s m args below meth c H locs ls G hE X hR hL hS
  exact lv_aload_n X.1 X.2.1 hd rfl (hL.2.2.2 _ _ hl) (k p l e s m args below meth c H locs ls G hE X hR hL hS)
theorem av_aload {n : Nat} {x : Nat} (hd : decode F.2.1 pc = .ok (.aload n, 2)) (hl : lv[n]? = some (some (zr x))) (k : AV E F cells slots sz (pc + 2) lv (zr x :: st) I J R) : AV E F cells slots sz (pc) lv (st) I J R := by
  intro p l e s m args below meth c H locs ls G hE X hR hL hS
  exact lv_aload X.1 X.2.1 hd (hL.2.2.2 _ _ hl) (k p l e s m args below meth c H locs ls G hE X hR hL hS)
theorem av_astore_n {n : Fin 4} {x : Nat} (hd : decode F.2.1 pc = .ok (.astore_n n, 1)) (hn : (n : Nat) < F.2.2.1) (hl : z_st lv n (zr x) = lv') (k : AV E F cells slots sz (pc + 1) lv' (st) I J R) : AV E F cells slots sz (pc) lv (zr x :: st) I J R := by
  intro p l e s m args below meth c H locs ls G hE X hR hL hS
  subst hl
  exact lv_astore_n X.1 X.2.1 hd rfl hL.has hn rfl (fun ls2 h2 => k p l e s m args below meth c H locs ls2 G hE X hR (z_Lo.st hL h2) hS)
theorem av_astore {n : Nat} {x : Nat} (hd : decode F.2.1 pc = .ok (.astore n, 2)) (hn : n < F.2.2.1) (hl : z_st lv n (zr x) = lv') (k : AV E F cells slots sz (pc + 2) lv' (st) I J R) : AV E F cells slots sz (pc) lv (zr x :: st) I J R := by
  intro p l e s m args below meth c H locs ls G hE X hR hL hS
  subst hl
  exact lv_astore X.1 X.2.1 hd hL.has hn rfl (fun ls2 h2 => k p l e s m args below meth c H locs ls2 G hE X hR (z_Lo.st hL h2) hS)
theorem av_iinc {n : Nat} {d x : Int} (hd : decode F.2.1 pc = .ok (.iinc n d, 3)) (hn : n < F.2.2.1) (hg : lv[n]? = some (some (zi x))) (hl : z_st lv n (zi (x + d)) = lv') (k : AV E F cells slots sz (pc + 3) lv' (st) I J R) : AV E F cells slots sz (pc) lv (st) I J R := by
  intro p l e s m args below meth c H locs ls G hE X hR hL hS
  subst hl
  obtain ⟨q, hq⟩ := List.getElem?_of_mem (z_Lo.in (b := G.2.2) (nL := 0) hg)
  exact lv_iinc X.1 X.2.1 hd hL.has hq (Int32.ofInt_add x d).symm hn rfl (fun ls2 h2 => k p l e s m args below meth c H locs ls2 G hE X hR (z_Lo.st (v := zi (x + d)) hL h2) hS)
theorem av_iconst {n : Int} (hd : decode F.2.1 pc = .ok (.iconst n, 1)) (k : AV E F cells slots sz (pc + 1) lv (zi n :: st) I J R) : AV E F cells slots sz (pc) lv (st) I J R := by
  intro p l e s m args below meth c H locs ls G hE X hR hL hS
  exact lv_iconst X.1 X.2.1 hd rfl (k p l e s m args below meth c H locs ls G hE X hR hL hS)
theorem av_bipush {n : Int} (hd : decode F.2.1 pc = .ok (.bipush n, 2)) (hn : (Int8.ofInt n).toInt32 = Int32.ofInt n) (k : AV E F cells slots sz (pc + 2) lv (zi n :: st) I J R) : AV E F cells slots sz (pc) lv (st) I J R := by
  intro p l e s m args below meth c H locs ls G hE X hR hL hS
  exact lv_bipush X.1 X.2.1 hd hn (k p l e s m args below meth c H locs ls G hE X hR hL hS)
theorem av_sipush {n : Int} (hd : decode F.2.1 pc = .ok (.sipush n, 3)) (hn : (Int16.ofInt n).toInt32 = Int32.ofInt n) (k : AV E F cells slots sz (pc + 3) lv (zi n :: st) I J R) : AV E F cells slots sz (pc) lv (st) I J R := by
  intro p l e s m args below meth c H locs ls G hE X hR hL hS
  exact lv_sipush X.1 X.2.1 hd hn (k p l e s m args below meth c H locs ls G hE X hR hL hS)
theorem av_i2l {x : Int} (hd : decode F.2.1 pc = .ok (.i2l, 1)) (hx : -2147483648 ≤ x ∧ x ≤ 2147483647) (k : AV E F cells slots sz (pc + 1) lv (zl x :: st) I J R) : AV E F cells slots sz (pc) lv (zi x :: st) I J R := by
  intro p l e s m args below meth c H locs ls G hE X hR hL hS
  exact lv_i2l X.1 X.2.1 hd (Int32.toInt64_ofInt hx.1 hx.2) (k p l e s m args below meth c H locs ls G hE X hR hL hS)
theorem av_goto {off : Int} {tgt : Nat} (hd : decode F.2.1 pc = .ok (.goto off, 3)) (ht : (pc : Int) + off = (tgt : Int)) (k : AV E F cells slots sz (tgt) lv (st) I J R) : AV E F cells slots sz (pc) lv (st) I J R := by
  intro p l e s m args below meth c H locs ls G hE X hR hL hS
  exact lv_goto X.1 X.2.1 hd ht (k p l e s m args below meth c H locs ls G hE X hR hL hS)
theorem av_dup {v : AwV} (hd : decode F.2.1 pc = .ok (.dup, 1)) (hv : ∀ x, v ≠ zl x) (k : AV E F cells slots sz (pc + 1) lv (v :: v :: st) I J R) : AV E F cells slots sz (pc) lv (v :: st) I J R := by
  intro p l e s m args below meth c H locs ls G hE X hR hL hS
  exact lv_dup X.1 X.2.1 hd (z_c1 _ hv) (k p l e s m args below meth c H locs ls G hE X hR hL hS)
theorem av_tbl_out {dflt lo hi : Int} {offs : Array Int} {len : Nat} {x : Int} {tgt : Nat} (hd : decode F.2.1 pc = .ok (.tableswitch dflt lo hi offs, len)) (hx : -2147483648 ≤ x ∧ x ≤ 2147483647) (h : x < lo ∨ hi < x) (ht : (pc : Int) + dflt = (tgt : Int)) (k : AV E F cells slots sz (tgt) lv (st) I J R) : AV E F cells slots sz (pc) lv (zi x :: st) I J R := by
  intro p l e s m args below meth c H locs ls G hE X hR hL hS
  exact lv_tableOut X.1 X.2.1 hd (by rw [Int32.toInt_ofInt_of_le (by omega) (by omega)]; exact h) ht (k p l e s m args below meth c H locs ls G hE X hR hL hS)
theorem av_tbl_in {dflt lo hi : Int} {offs : Array Int} {len : Nat} {x off : Int} {tgt : Nat} (hd : decode F.2.1 pc = .ok (.tableswitch dflt lo hi offs, len)) (hx : -2147483648 ≤ x ∧ x ≤ 2147483647) (h : lo ≤ x ∧ x ≤ hi) (ho : offs[(x - lo).toNat]? = some off) (ht : (pc : Int) + off = (tgt : Int)) (k : AV E F cells slots sz (tgt) lv (st) I J R) : AV E F cells slots sz (pc) lv (zi x :: st) I J R := by
  intro p l e s m args below meth c H locs ls G hE X hR hL hS
  have e1 : (Int32.ofInt x).toInt = x := Int32.toInt_ofInt_of_le (by omega) (by omega)
  exact lv_tableIn X.1 X.2.1 hd (by rw [e1]; omega) (by rw [e1]; omega) (by rw [e1]; exact ho) ht (k p l e s m args below meth c H locs ls G hE X hR hL hS)
theorem av_icmp_ge {x y off : Int} {tgt : Nat} (hd : decode F.2.1 pc = .ok (.if_icmp .ge off, 3)) (ht : (pc : Int) + off = (tgt : Int)) (hx : -2147483648 ≤ x ∧ x ≤ 2147483647) (hy : -2147483648 ≤ y ∧ y ≤ 2147483647) (kt : y ≤ x → AV E F cells slots sz (tgt) lv (st) I J R) (kf : x < y → AV E F cells slots sz (pc + 3) lv (st) I J R) : AV E F cells slots sz (pc) lv (zi y :: zi x :: st) I J R := by
  intro p l e s m args below meth c H locs ls G hE X hR hL hS
  exact lv_icmp_ge X.1 X.2.1 hd ht (fun h => kt ((i32le hy hx).mp h) p l e s m args below meth c H locs ls G hE X hR hL hS) (fun h => kf (by have := mt (i32le hy hx).mpr h; omega) p l e s m args below meth c H locs ls G hE X hR hL hS)
theorem av_icmp_eq {x y off : Int} {tgt : Nat} (hd : decode F.2.1 pc = .ok (.if_icmp .eq off, 3)) (ht : (pc : Int) + off = (tgt : Int)) (hx : -2147483648 ≤ x ∧ x ≤ 2147483647) (hy : -2147483648 ≤ y ∧ y ≤ 2147483647) (kt : x = y → AV E F cells slots sz (tgt) lv (st) I J R) (kf : x ≠ y → AV E F cells slots sz (pc + 3) lv (st) I J R) : AV E F cells slots sz (pc) lv (zi y :: zi x :: st) I J R := by
  intro p l e s m args below meth c H locs ls G hE X hR hL hS
  exact lv_icmp_eq X.1 X.2.1 hd ht (fun h => kt ((i32eq hx hy).mp h) p l e s m args below meth c H locs ls G hE X hR hL hS) (fun h => kf (fun q => h ((i32eq hx hy).mpr q)) p l e s m args below meth c H locs ls G hE X hR hL hS)
theorem av_if_eq {x off : Int} {tgt : Nat} (hd : decode F.2.1 pc = .ok (.ifCond .eq off, 3)) (ht : (pc : Int) + off = (tgt : Int)) (hx : -2147483648 ≤ x ∧ x ≤ 2147483647) (kt : x = 0 → AV E F cells slots sz (tgt) lv (st) I J R) (kf : x ≠ 0 → AV E F cells slots sz (pc + 3) lv (st) I J R) : AV E F cells slots sz (pc) lv (zi x :: st) I J R := by
  intro p l e s m args below meth c H locs ls G hE X hR hL hS
  exact lv_if_eq X.1 X.2.1 hd ht (fun h => kt ((i32eq (b := 0) hx (by omega)).mp h) p l e s m args below meth c H locs ls G hE X hR hL hS) (fun h => kf (fun q => h ((i32eq (b := 0) hx (by omega)).mpr q)) p l e s m args below meth c H locs ls G hE X hR hL hS)
theorem av_if_ne {x off : Int} {tgt : Nat} (hd : decode F.2.1 pc = .ok (.ifCond .ne off, 3)) (ht : (pc : Int) + off = (tgt : Int)) (hx : -2147483648 ≤ x ∧ x ≤ 2147483647) (kt : x ≠ 0 → AV E F cells slots sz (tgt) lv (st) I J R) (kf : x = 0 → AV E F cells slots sz (pc + 3) lv (st) I J R) : AV E F cells slots sz (pc) lv (zi x :: st) I J R := by
  intro p l e s m args below meth c H locs ls G hE X hR hL hS
  exact lv_if_ne X.1 X.2.1 hd ht (fun h => kt (fun q => h ((i32eq (b := 0) hx (by omega)).mpr q)) p l e s m args below meth c H locs ls G hE X hR hL hS) (fun h => kf ((i32eq (b := 0) hx (by omega)).mp h) p l e s m args below meth c H locs ls G hE X hR hL hS)
theorem av_aaloadQ {a n b : Nat} {i : Int} (hd : decode F.2.1 pc = .ok (.aaload, 1)) (ha : a < sz) (hz : sz ≤ 255) (hs : z_sh a = (2, n)) (hi : 0 ≤ i ∧ i < (n : Int)) (hr : R a i.toNat = some b) (k : AV E F cells slots sz (pc + 1) lv (zr b :: st) I J R) : AV E F cells slots sz (pc) lv (zi i :: zr a :: st) I J R := by
  intro p l e s m args below meth c H locs ls G hE X hR hL hS
  have hn := z_shn (by omega) hs
  have hc := (hR.2.2 a ha).2.2.1 n hs
  have hin := i32in hi hn
  exact W.aald (v := z_rf G.2.2 (some b)) (ty := .object "CutProofs$Cut") X.1 X.2.1 hc ((X.2.2.2.2.2.2.2.1.1.2 2 _ rfl).1 n (fun j => z_rf G.2.2 (R a j))) rfl (fun q => by cases q) (by show ¬ (_ < 0 ∨ (arrV _ _ _).slots.size ≤ _); rw [arrV_size]; exact hin) (by show (arrV _ _ _).slots[_]? = _; rw [i32cl (by omega), arrV_read _ _ (by omega), hr]) rfl rfl hd (k p l e s m args below meth c H locs ls G hE X hR hL hS)
theorem av_alen {a n kd : Nat} (hd : decode F.2.1 pc = .ok (.arraylength, 1)) (ha : a < sz) (hz : sz ≤ 255) (hs : z_sh a = (kd, n)) (hk : kd = 0 ∨ kd = 2) (k : AV E F cells slots sz (pc + 1) lv (zi (n : Int) :: st) I J R) : AV E F cells slots sz (pc) lv (zr a :: st) I J R := by
  intro p l e s m args below meth c H locs ls G hE X hR hL hS
  have e1 : ∀ (cA : ClassId) (f : Nat → Value), (arrV cA n f).slots.size.toInt32 = Int32.ofInt (n : Int) := fun cA f => by rw [arrV_size]; exact Int32.ofInt_eq_ofNat.symm
  rcases hk with rfl | rfl
  · exact W.alen X.1 X.2.1 ((hR.2.2 a ha).1 n hs) ((X.2.2.2.2.2.2.2.1.1.2 0 _ rfl).1 n _) (e1 _ _) rfl rfl hd (k p l e s m args below meth c H locs ls G hE X hR hL hS)
  · exact W.alen X.1 X.2.1 ((hR.2.2 a ha).2.2.1 n hs) ((X.2.2.2.2.2.2.2.1.1.2 2 _ rfl).1 n _) (e1 _ _) rfl rfl hd (k p l e s m args below meth c H locs ls G hE X hR hL hS)
theorem av_lastore {a n : Nat} {i x : Int} (hd : decode F.2.1 pc = .ok (.lastore, 1)) (ha : a < sz) (hz : sz ≤ 255) (hs : z_sh a = (1, n)) (hi : 0 ≤ i ∧ i < (n : Int)) (k : AV E F cells slots sz (pc + 1) lv st I (z_up J a i.toNat x) R) : AV E F cells slots sz (pc) lv (zl x :: zi i :: zr a :: st) I J R := by
  intro p l e s m args below meth c H locs ls G hE X hR hL hS
  have hn := z_shn (by omega) hs
  have hc := (hR.2.2 a ha).2.1 n hs
  have hin := i32in hi hn
  refine W.last X.1 X.2.1 hc ((X.2.2.2.2.2.2.2.1.1.2 1 _ rfl).1 n (fun j => .long (Int64.ofInt (J a j)))) (fun q => by cases q) (by show ¬ (_ < 0 ∨ (arrV _ _ _).slots.size ≤ _); rw [arrV_size]; exact hin) rfl rfl hd fun H1 he hz1 oq => ?_
  refine k p l e s m args below meth c H1 _ ls G hE X ⟨fun q => by rw [hz1]; exact hR.1 q, by rw [hz1]; exact hR.2.1, fun a' ha' => ?_⟩ hL (z_Sput hS hz1 oq (Nat.le_add_right _ _))
  by_cases e : a' = a
  · subst e
    refine ⟨fun n2 hs2 => ?_, fun n2 hs2 => ?_, fun n2 hs2 => ?_, fun n2 hs2 => ?_, fun c2 n2 hs2 => ?_⟩
    all_goals (rw [hs] at hs2)
    all_goals (first | (cases hs2; done) | (injection hs2 with h1 h2; omega) | skip)
    cases hs2
    rw [he, i32cl (by omega), arrV_store]
    congr 2
    funext q
    by_cases hq : q = i.toNat
    · subst hq; simp [updV, z_up]
    · simp [updV, z_up, hq]
  · exact (hR.2.2 a' ha').upJ e oq
theorem av_getI {a c idx k : Nat} {fin : Bool} {t : FieldType} (hd : decode F.2.1 pc = .ok (.getfield idx, 3)) (hl : z_Fl F.1.cls idx c k fin t) (hf : z_fk c k = 0) (ha : a < sz) (hs : z_sh a = (c + 10, z_cn c)) (kk : AV E F cells slots sz (pc + 3) lv (zi (I a k) :: st) I J R) : AV E F cells slots sz (pc) lv (zr a :: st) I J R := by
  obtain ⟨C, T, ty, ⟨hc, hin, hty, hnm⟩, hk, hlink, -⟩ := hl
  intro p l e s m args below meth c0 H locs ls G hE X hR hL hS
  obtain ⟨cell, q1, q2, q3, q4⟩ := (hR.2.2 a ha).2.2.2.2 c _ hs
  obtain ⟨hS', hfc, kC, hkC, hkind⟩ := X.2.2.2.2.2.2.2.1.1.1 c _ hc
  obtain ⟨cf, kf, fi, f, hi, hsl⟩ := hS' k hk
  refine W.getf X.1 X.2.1 X.2.2.2.2.2.1 (X.2.2.2.2.2.2.1 _ hlink) hi (u_facts hfc hkC (u_lays X.2.2.2.2.2.2.1 hin hk) hi).1 q1 (by rw [q3]; exact fun h => by cases h) (v := z_cv G.2.2 (zi (I a k))) ?_ rfl rfl hd (kk p l e s m args below meth c0 H locs ls G hE X hR hL hS)
  rw [hsl, q4 k hk]
  show some (z_cv G.2.2 (z_rd I J R a (z_fk c k) k)) = _
  rw [hf]
  rfl
theorem av_getR {a c idx k b : Nat} {fin : Bool} {t : FieldType} (hd : decode F.2.1 pc = .ok (.getfield idx, 3)) (hl : z_Fl F.1.cls idx c k fin t) (hf : z_fk c k = 2) (ha : a < sz) (hs : z_sh a = (c + 10, z_cn c)) (hr : R a k = some b) (kk : AV E F cells slots sz (pc + 3) lv (zr b :: st) I J R) : AV E F cells slots sz (pc) lv (zr a :: st) I J R := by
  obtain ⟨C, T, ty, ⟨hc, hin, hty, hnm⟩, hk, hlink, -⟩ := hl
  intro p l e s m args below meth c0 H locs ls G hE X hR hL hS
  obtain ⟨cell, q1, q2, q3, q4⟩ := (hR.2.2 a ha).2.2.2.2 c _ hs
  obtain ⟨hS', hfc, kC, hkC, hkind⟩ := X.2.2.2.2.2.2.2.1.1.1 c _ hc
  obtain ⟨cf, kf, fi, f, hi, hsl⟩ := hS' k hk
  refine W.getf X.1 X.2.1 X.2.2.2.2.2.1 (X.2.2.2.2.2.2.1 _ hlink) hi (u_facts hfc hkC (u_lays X.2.2.2.2.2.2.1 hin hk) hi).1 q1 (by rw [q3]; exact fun h => by cases h) (v := z_cv G.2.2 (zr b)) ?_ rfl rfl hd (kk p l e s m args below meth c0 H locs ls G hE X hR hL hS)
  rw [hsl, q4 k hk]
  show some (z_cv G.2.2 (z_rd I J R a (z_fk c k) k)) = _
  rw [hf]
  show some (z_cv G.2.2 (zq (R a k))) = _
  rw [hr]
theorem av_putI {a c idx k : Nat} {x : Int} (hd : decode F.2.1 pc = .ok (.putfield idx, 3)) (hl : z_Fl F.1.cls idx c k false .int) (hf : z_fk c k = 0) (ha : a < sz) (hs : z_sh a = (c + 10, z_cn c)) (kk : AV E F cells slots sz (pc + 3) lv st (z_up I a k x) J R) : AV E F cells slots sz (pc) lv (zi x :: zr a :: st) I J R := by
  obtain ⟨C, T, ty, ⟨hc, hin, hty, hnm⟩, hk, hlink, hfin, htk, hdec⟩ := hl
  intro p l e s m args below meth c0 H locs ls G hE X hR hL hS
  have hts := X.2.2.2.2.2.2.1
  have hap := va_apart (own := C) hts hin ty hty hnm X.2.2.2.2.2.2.2.1.1 hc
  obtain ⟨cell, q1, q2, q3, q4⟩ := (hR.2.2 a ha).2.2.2.2 c _ hs
  obtain ⟨hS', hfc, kC, hkC, hkind⟩ := X.2.2.2.2.2.2.2.1.1.1 c _ hc
  obtain ⟨cf, kf, fi, f, hi, hsl⟩ := hS' k hk
  have hlay := hts _ (hin _ (u_in_lay hk))
  unfold u_lay at hlay
  rw [if_neg (by rw [hfin]; decide)] at hlay
  have hst := (u_facts hfc hkC (u_lays hts hin hk) hi).1
  have h6 := u_store (v := z_cv G.2.2 (zi x)) hfc hkC hkind hlay hi (by rw [hty k hk, htk]) (rfl) (rfl)
  refine W.putK (v := z_cv G.2.2 (zi x)) X.1 X.2.1 (f := f) ⟨X.2.2.2.2.2.1, hts _ hlink, ⟨_, _, _, hi⟩, hst⟩ (by rw [q2]; exact h6) q1 q3 (by rw [hsl]; exact k2_hasslot (q4 k hk)) rfl rfl hd fun H1 he hz1 oq => ?_
  refine kk p l e s m args below meth c0 H1 _ ls G hE X ⟨fun q => by rw [hz1]; exact hR.1 q, by rw [hz1]; exact hR.2.1, fun a' ha' => ?_⟩ hL (z_Sput hS hz1 oq (Nat.le_add_right _ _))
  by_cases e1 : a' = a
  · subst e1
    refine ⟨fun n2 hs2 => ?_, fun n2 hs2 => ?_, fun n2 hs2 => ?_, fun n2 hs2 => ?_, fun c2 n2 hs2 => ?_⟩
    all_goals (rw [hs] at hs2)
    all_goals (first | (cases hs2; done) | (injection hs2 with h1 h2; omega) | skip)
    obtain ⟨h1, h2⟩ := Prod.mk.inj hs2
    have h1 : c2 = c := by omega
    subst h1
    subst h2
    rw [hsl] at he
    refine t_OB.to (V := updV (fun j => z_cv G.2.2 (z_rd I J R a' (z_fk c2 j) j)) k (z_cv G.2.2 (zi x))) ⟨_, he, q2, q3, t_set q4 hap hk _⟩ (fun j _ => ?_)
    by_cases hj : j = k
    · subst hj; simp [updV, hf, z_rd, z_up_s]
    · simp [updV, hj, z_rd, z_up_k _ _ hj]
  · exact (hR.2.2 a' ha').upI e1 oq
theorem av_putZ {a c idx k : Nat} {x : Int} (hd : decode F.2.1 pc = .ok (.putfield idx, 3)) (hl : z_Fl F.1.cls idx c k false .boolean) (hf : z_fk c k = 0) (ha : a < sz) (hs : z_sh a = (c + 10, z_cn c)) (hx : x = 0 ∨ x = 1) (kk : AV E F cells slots sz (pc + 3) lv st (z_up I a k x) J R) : AV E F cells slots sz (pc) lv (zi x :: zr a :: st) I J R := by
  obtain ⟨C, T, ty, ⟨hc, hin, hty, hnm⟩, hk, hlink, hfin, htk, hdec⟩ := hl
  intro p l e s m args below meth c0 H locs ls G hE X hR hL hS
  have hts := X.2.2.2.2.2.2.1
  have hap := va_apart (own := C) hts hin ty hty hnm X.2.2.2.2.2.2.2.1.1 hc
  obtain ⟨cell, q1, q2, q3, q4⟩ := (hR.2.2 a ha).2.2.2.2 c _ hs
  obtain ⟨hS', hfc, kC, hkC, hkind⟩ := X.2.2.2.2.2.2.2.1.1.1 c _ hc
  obtain ⟨cf, kf, fi, f, hi, hsl⟩ := hS' k hk
  have hlay := hts _ (hin _ (u_in_lay hk))
  unfold u_lay at hlay
  rw [if_neg (by rw [hfin]; decide)] at hlay
  have hst := (u_facts hfc hkC (u_lays hts hin hk) hi).1
  have h6 := u_store (v := z_cv G.2.2 (zi x)) hfc hkC hkind hlay hi (by rw [hty k hk, htk]) (by rcases hx with rfl | rfl <;> rfl) (by rcases hx with rfl | rfl <;> rfl)
  refine W.putK (v := z_cv G.2.2 (zi x)) X.1 X.2.1 (f := f) ⟨X.2.2.2.2.2.1, hts _ hlink, ⟨_, _, _, hi⟩, hst⟩ (by rw [q2]; exact h6) q1 q3 (by rw [hsl]; exact k2_hasslot (q4 k hk)) rfl rfl hd fun H1 he hz1 oq => ?_
  refine kk p l e s m args below meth c0 H1 _ ls G hE X ⟨fun q => by rw [hz1]; exact hR.1 q, by rw [hz1]; exact hR.2.1, fun a' ha' => ?_⟩ hL (z_Sput hS hz1 oq (Nat.le_add_right _ _))
  by_cases e1 : a' = a
  · subst e1
    refine ⟨fun n2 hs2 => ?_, fun n2 hs2 => ?_, fun n2 hs2 => ?_, fun n2 hs2 => ?_, fun c2 n2 hs2 => ?_⟩
    all_goals (rw [hs] at hs2)
    all_goals (first | (cases hs2; done) | (injection hs2 with h1 h2; omega) | skip)
    obtain ⟨h1, h2⟩ := Prod.mk.inj hs2
    have h1 : c2 = c := by omega
    subst h1
    subst h2
    rw [hsl] at he
    refine t_OB.to (V := updV (fun j => z_cv G.2.2 (z_rd I J R a' (z_fk c2 j) j)) k (z_cv G.2.2 (zi x))) ⟨_, he, q2, q3, t_set q4 hap hk _⟩ (fun j _ => ?_)
    by_cases hj : j = k
    · subst hj; simp [updV, hf, z_rd, z_up_s]
    · simp [updV, hj, z_rd, z_up_k _ _ hj]
  · exact (hR.2.2 a' ha').upI e1 oq
theorem av_back {d : ZD} {Q : ZQ} {p : Program} {l : Launch} {e : Env} {s : State} {m : MethodId} {args a : Array Value} {below : List Frame} {meth : Method} {c : Code} {H : Heap} {locs : List Loc} {ls : Array Slot} {G : ZG} {st0 : List Value} (hE : E l G args s c) (X : z_X F p s m args meth c G) (hL : z_Lo G.2.2 ls F.2.2.1 lv) (hS : va_S (fun q => G.2.2 ≤ q) s.heap H locs)
    (hr : va_Run p l e F.2.2.2.2.1 s m args below meth c H locs cells slots d.2.2.2.2.cells d.2.2.2.2.slots (F0 m pc ls st0) (st.map (z_cv G.2.2)) (z_Qc G Q a) (fun q => G.2.2 ≤ q))
    (kk : ∀ r sz' I' J' R', Q r sz' I' J' R' → AV E F (cells + d.2.2.2.2.cells) (slots + d.2.2.2.2.slots) sz' (pc + 3) lv (r.toList ++ st) I' J' R') : W p l e F.2.2.2.2.1 s m args below meth c H locs cells slots (F.2.2.2.2.2 G args s below) (F0 m pc ls st0) := by
  intro T hT XS
  obtain ⟨v, st₀, t, T', L, h0, X', hL', e1, e2, ⟨⟨r, sz2, I2, J2, R2, hv, hq, hR2⟩, hz, hk⟩, go⟩ := hr T hT XS
  rw [h0] at hz hk
  have hv : v = r.map (z_cv G.2.2) := Outcome.returned.inj hv
  subst hv
  obtain ⟨t2, a1, b1⟩ := kk r sz2 I2 J2 R2 hq p l e s m args below meth c T'.heap (locs ++ L) ls G hE X (by rw [e1]; exact hR2) hL
    ⟨Nat.le_trans hS.1 (by rw [e1]; exact hz), fun q h1 h2 => by rw [e1, hk q (Nat.lt_of_lt_of_le h1 hS.1) h2]; exact hS.2.1 q h1 h2, fun q hq => by
      rcases List.mem_append.mp hq with h | h
      · exact hS.2.2 q h
      · exact hL' q h⟩ T' rfl X'
  refine ⟨t2, go t2 ?_, b1⟩
  show Steps _ _ _ (T'.setTop (F0 m (pc + 3) ls _)) _
  rw [z_vmap]
  exact a1
theorem av_invV {d : ZD} {As : List AwV} {a c idx n : Nat} {Q : ZQ} (hM : CT d (zr a :: As) sz I J R Q) (hc : z_Cv d n) (hd : decode F.2.1 pc = .ok (.invokevirtual idx, 3)) (hl : Cond.methodLink F.1.cls idx d.1 ∈ z_tb) (hn : As.length = n) (ha : a < sz) (hs : z_sh a = (c + 10, z_cn c)) (hC : (vwCl[c]?).map (fun q => q.1) = some d.1.cls) (hrm : z_Rm d F) (hce : cells + d.2.2.2.2.cells ≤ F.2.2.2.2.1.cells ∧ slots + d.2.2.2.2.slots ≤ F.2.2.2.2.1.slots) (hst : stk = As.reverse ++ zr a :: st) (hw : (st.map z_c12).sum ≤ 8)
    (kk : ∀ r sz' I' J' R', Q r sz' I' J' R' → AV E F (cells + d.2.2.2.2.cells) (slots + d.2.2.2.2.slots) sz' (pc + 3) lv (r.toList ++ st) I' J' R') : AV E F cells slots sz pc lv stk I J R := by
  intro p l e s m args below meth c0 H locs ls G hE X hR hL hS
  subst hst
  obtain ⟨h1, h2, h3, h4, h5, h6⟩ := hc
  have hts := X.2.2.2.2.2.2.1
  obtain ⟨⟨C, T, N⟩, hcl, hC⟩ := Option.map_eq_some_iff.mp hC
  have hC : C = d.1.cls := hC
  subst hC
  obtain ⟨cell, q1, q2, q3, q4⟩ := (hR.2.2 a ha).2.2.2.2 c _ hs
  have hcls : s.vm.findClass d.1.cls = some cell.cls := by rw [q2]; exact (X.2.2.2.2.2.2.2.1.1.1 c _ hcl).2.1
  refine av_back (d := d) hE X hL hS (va_runV (Ts := z_tb) (own := F.1.cls) (C := d.1.cls) (b := G.2.2 + a) (As := As.map (z_cv G.2.2)) (rest := st.map (z_cv G.2.2)) (bytes := d.2.1) (maxL := d.2.2.1) (ret := d.2.2.2.1) (n := n) ⟨X.1, X.2.1, X.2.2.1, X.2.2.2.2.2.1, hts⟩ (hM l G) ⟨⟨rfl, rfl, hrm.1, hrm.2, pay_in hts (z_goodIn h1), List.mem_cons_self, hts _ h1, hts _ h4, h5, z_sig h6, hts _ hl⟩, hts _ h2, hts _ h3⟩ ⟨z_blind, ⟨cell, q1, by rw [q3]; rfl, hcls⟩, fun U hU hW => ⟨rfl, X.2.2.2.2.2.2.2.1.moved hW, by rw [hU]; exact hR⟩⟩ rfl (by rw [List.length_map]; exact hn) (hL.2.1) (by simp [z_cv, z_rf]) (lv_room (z_wid _ _ hw)) hd hce) kk
theorem av_aastoreQ {a n v : Nat} {i : Int} (hd : decode F.2.1 pc = .ok (.aastore, 1)) (ha : a < sz) (hz : sz ≤ 255) (hs : z_sh a = (2, n)) (hi : 0 ≤ i ∧ i < (n : Int)) (hv : v < sz) (hsv : z_sh v = (4 + 10, 9)) (k : AV E F cells slots sz (pc + 1) lv st I J (z_up R a i.toNat (some v))) : AV E F cells slots sz pc lv (zr v :: zi i :: zr a :: st) I J R := by
  intro p l e s m args below meth c H locs ls G hE X hR hL hS
  have hn := z_shn (by omega) hs
  have hc := (hR.2.2 a ha).2.2.1 n hs
  have hin := i32in hi hn
  obtain ⟨cellV, g1, g2, g3, -⟩ := (hR.2.2 v hv).2.2.2.2 4 9 hsv
  have hcls := (X.2.2.2.2.2.2.2.1.1.1 4 _ rfl).2
  obtain ⟨kA, comp, k1, k2, k3, -⟩ := (X.2.2.2.2.2.2.2.1.1.2 2 _ rfl).2
  have hcomp : comp = G.1.1 4 := Option.some.inj (k3.symm.trans hcls.1)
  subst hcomp
  obtain ⟨kC, hkC, -⟩ := hcls.2
  refine W.aast X.1 X.2.1 hc (fun q h => by cases h) (fun h => by cases h) k1 k2 rfl hkC ⟨fun q => hin (Or.inl q), by show _ < (arrV _ _ _).slots.size; rw [arrV_size]; exact Nat.not_le.mp fun q => hin (Or.inr q)⟩ g1 (fun q h => by rw [g3] at h; cases h) (by rw [g2]; exact hkC) (by rw [g2]; exact va_assign hcls) rfl rfl hd fun H1 he hz1 oq => ?_
  refine k p l e s m args below meth c H1 _ ls G hE X ⟨fun q => by rw [hz1]; exact hR.1 q, by rw [hz1]; exact hR.2.1, fun a' ha' => ?_⟩ hL (z_Sput hS hz1 oq (Nat.le_add_right _ _))
  by_cases e : a' = a
  · subst e
    refine ⟨fun n2 hs2 => ?_, fun n2 hs2 => ?_, fun n2 hs2 => ?_, fun n2 hs2 => ?_, fun c2 n2 hs2 => ?_⟩
    all_goals (rw [hs] at hs2)
    all_goals (first | (cases hs2; done) | (injection hs2 with h1 h2; omega) | skip)
    cases hs2
    rw [he, i32cl (by omega), arrV_store]
    congr 2
    funext q
    by_cases hq : q = i.toNat
    · subst hq; simp [updV, z_up, z_rf]
    · simp [updV, z_up, hq]
  · exact (hR.2.2 a' ha').upR e oq
theorem av_qV {d : ZD} {As : List AwV} {a c idx n : Nat} {Q : ZQ} (hM : CT d (zr a :: As) sz I J R Q) (hc : z_Cv d n) (hd : decode F.2.1 pc = .ok (.invokevirtual idx, 3)) (hl : Cond.methodLink F.1.cls idx d.1 ∈ z_tb) (hn : As.length = n) (h0 : z_n0 d) (ha : a < sz) (hs : z_sh a = (c + 10, z_cn c)) (hC : (vwCl[c]?).map (fun q => q.1) = some d.1.cls) (hrm : z_Rm d F) (hce : cells ≤ F.2.2.2.2.1.cells ∧ slots ≤ F.2.2.2.2.1.slots) (hst : stk = As.reverse ++ zr a :: st) (hw : (st.map z_c12).sum ≤ 8)
    (kk : ∀ r sz' I' J' R', Q r sz' I' J' R' → AV E F cells slots sz' (pc + 3) lv (r.toList ++ st) I' J' R') : AV E F cells slots sz pc lv stk I J R :=
  av_invV hM hc hd hl hn ha hs hC hrm (by rw [h0.1, h0.2]; exact hce) hst hw (fun r sz' I' J' R' q => z_kk h0 (P := fun a b => AV E F a b sz' (pc + 3) lv (r.toList ++ st) I' J' R') (kk r sz' I' J' R' q))
end AVR
section AVE
variable {E : ZE} {d : ZD} {Q : ZQ} {cells slots sz pc : Nat} {lv lv' : List (Option AwV)} {st stk : List AwV} {I J : AwI} {R : AwR}
theorem av_ireturn {x : Int} (hd : decode d.2.1 pc = .ok (.ireturn, 1)) (hr : d.2.2.2.1 = some .int) (hc : cells ≤ d.2.2.2.2.cells ∧ slots ≤ d.2.2.2.2.slots) (hq : Q (some (zi x)) sz I J R) : AV E (FM d Q) cells slots sz pc lv [zi x] I J R := by
  intro p l e s m args below meth c H locs ls G hE X hR hL hS
  refine W.widen hc.1 hc.2 ?_
  exact W.iret X.1 X.2.1 (X.2.2.2.1.trans hr) (fun t ht hW => ⟨⟨some (zi x), sz, I, J, R, rfl, hq, by rw [ht]; exact hR⟩, hS.F ht⟩) hS.2.2 hd X.2.2.2.2.1
theorem av_lreturn {x : Int} (hd : decode d.2.1 pc = .ok (.lreturn, 1)) (hr : d.2.2.2.1 = some .long) (hc : cells ≤ d.2.2.2.2.cells ∧ slots ≤ d.2.2.2.2.slots) (hq : Q (some (zl x)) sz I J R) : AV E (FM d Q) cells slots sz pc lv [zl x] I J R := by
  intro p l e s m args below meth c H locs ls G hE X hR hL hS
  refine W.widen hc.1 hc.2 ?_
  exact W.lret X.1 X.2.1 (X.2.2.2.1.trans hr) (fun t ht hW => ⟨⟨some (zl x), sz, I, J, R, rfl, hq, by rw [ht]; exact hR⟩, hS.F ht⟩) hS.2.2 hd X.2.2.2.2.1
theorem av_return (hd : decode d.2.1 pc = .ok (.return_, 1)) (hr : d.2.2.2.1 = none) (hc : cells ≤ d.2.2.2.2.cells ∧ slots ≤ d.2.2.2.2.slots) (hq : Q none sz I J R) : AV E (FM d Q) cells slots sz pc lv [] I J R := by
  intro p l e s m args below meth c H locs ls G hE X hR hL hS
  refine W.widen hc.1 hc.2 ?_
  exact W.vret X.1 X.2.1 (X.2.2.2.1.trans hr) (fun t ht hW => ⟨⟨none, sz, I, J, R, rfl, hq, by rw [ht]; exact hR⟩, hS.F ht⟩) hS.2.2 hd X.2.2.2.2.1
end AVE
