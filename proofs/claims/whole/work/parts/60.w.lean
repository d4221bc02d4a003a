/-! THE CLAIM OUT OF ONE WALK OF THE LAW'S BODY. Your part is whole_start (and what it stands on); all else here is the same for every law, but numbers. -/
def R_law : String := "CutProofsLaw"
def lw_P (b : Addr) (xs : List Int32) (args : Array Value) (s : State) : Prop := args = #[.ref b] ∧ s.IntsAt b xs ∧ xs.length ≤ 2560 ∧ (Jvm.Cond.and given_1 narrow_1).before args s = true
def lw_Q (_ : Array Value) (s : State) (o : Outcome) (t : State) : Prop := o = .returned (some (.int 1)) ∧ Framed s o t [] 601024 7293034
def lw_Z (below : List Frame) (a : Array Value) (s : State) : State → Prop := fun t => ∃ o, t.status = .running ∧ Ended t below o ∧ lw_Q a s o t
/-- the law's own end, with 1 on the stack, nothing written that was there before, its room as the claim has it -/
theorem lw_ret {p : Program} {l : Launch} {e : Env} {s : State} {m : MethodId} {below : List Frame} {meth : Method} {c : Code} {b : Nat} (hx : p.tables.exec = Jvm.exec) (hb : c.code = code) (hr : meth.sig.returnType = ret) (hlocks : meth.locks = false) {pc : Nat} {H : Heap} {ls : Array Slot} (hdg : decode code pc = .ok (.ireturn, 1)) : W p l e room_1 s m #[Value.ref b] below meth c H [] 601024 7293034 (lw_Z below #[Value.ref b] s) (F0 m pc ls [.int 1]) := by
  intro T hT X
  obtain ⟨fs, hret, hrun, hended, hW, hframe⟩ := X.leave (v := some (.int 1)) (hlocks := hlocks) (fun h => by rw [hr] at h; cases h)
  have hmeth' : T.vm.method? m = some meth := X.method'
  refine ⟨T.setFrames fs, ?_, .returned (some (.int 1)), hrun, hended, rfl, ⟨_, rfl⟩, hW, hframe⟩
  jvm_step X.here [X.here.top, hx, hb, hdg, hmeth', hr, ret, narrow_b1]
  (try refine ⟨rfl, ?_⟩); (try refine ⟨rfl, ?_⟩)
  first | (intro acts; rw [hret _ acts rfl rfl rfl]) | rw [hret _ _ rfl rfl rfl]
  exact Steps.refl _
/-- what holds at the law's entry: the machine, the code, the tables' words (any of lw_tbl by 'hts w (by decide +kernel)'), the script of L ints xs at the cell b, what the Statement gives of the start (any of its parts by flat_of_before) -/
def lw_At (p : Program) (s : State) (m : MethodId) (meth : Method) (c : Code) (b L : Nat) (xs : Nat → Int32) : Prop :=
  p.tables.exec = Jvm.exec ∧ c.code = code ∧ meth.sig.returnType = ret ∧ c.maxLocals = 8 ∧ s.vm.findClass R_law = some m.cls ∧ (∀ w ∈ lw_tbl, w.before #[Value.ref b] s = true) ∧ va_X b L xs s s.heap ∧ b < s.heap.size ∧ meth.locks = false ∧ (Jvm.Cond.and given_1 narrow_1).before #[Value.ref b] s = true
def F_L (nm : String) : ZF := (⟨RL, nm, "([I)Z"⟩, cL_law, 8, ret, room_1, fun _ args s below => lw_Z below args s)
/-- what stands over the whole walk of the law -/
def z_LX (p : Program) (l : Launch) (s : State) (m : MethodId) (meth : Method) (c : Code) (G : ZG) (b N : Nat) (xs : Nat → Int32) : Prop :=
  z_X (F_L meth.name) p s m #[Value.ref b] meth c G ∧ z_XT l G s ∧ va_X b N xs s s.heap ∧ b < s.heap.size ∧ s.heap.size = G.2.2 ∧ N ≤ 2560
def LW (p : Program) (l : Launch) (e : Env) (s : State) (m : MethodId) (below : List Frame) (meth : Method) (c : Code) (G : ZG) (b : Nat) (cells slots pc : Nat) (lv : List (Nat × Value)) (st : List AwV) (I J : AwI) (R : AwR) : Prop :=
  ∀ (H : Heap) (locs : List Loc) (ls : Array Slot), z_Rl G 255 I J R H → lv_has ls 8 lv → va_S (fun q => G.2.2 ≤ q) s.heap H locs →
    W p l e room_1 s m #[Value.ref b] below meth c H locs cells slots (lw_Z below #[Value.ref b] s) (F0 m pc ls (st.map (z_cv G.2.2)))
section LWR
variable {p : Program} {l : Launch} {e : Env} {s : State} {m : MethodId} {below : List Frame} {meth : Method} {c : Code} {G : ZG} {b N : Nat} {xs : Nat → Int32} {cells slots pc : Nat} {lv lv' : List (Nat × Value)} {st stk : List AwV} {I J : AwI} {R : AwR}
theorem lw_widen {c2 s2 : Nat} (h1 : cells ≤ c2) (h2 : slots ≤ s2) (k : LW p l e s m below meth c G b c2 s2 pc lv st I J R) : LW p l e s m below meth c G b cells slots pc lv st I J R :=
  fun H locs ls hR hL hS => W.widen h1 h2 (k H locs ls hR hL hS)
theorem lw_sub (ks : List Nat) (hl : lv_pick lv ks = lv') (k : LW p l e s m below meth c G b cells slots pc lv' st I J R) : LW p l e s m below meth c G b cells slots pc lv st I J R :=
  fun H locs ls hR hL hS => k H locs ls hR (lv_sub hL ks hl) hS
theorem lw_aload {n : Fin 4} {a i : Nat} (C : z_LX p l s m meth c G b N xs) (hd : decode cL_law pc = .ok (.aload_n n, 1)) (hm : lv[i]? = some ((n : Nat), Value.ref (G.2.2 + a))) (k : LW p l e s m below meth c G b cells slots (pc + 1) lv (zr a :: st) I J R) : LW p l e s m below meth c G b cells slots pc lv st I J R :=
  fun H locs ls hR hL hS => lv_aload_n C.1.1 C.1.2.1 hd rfl (hL.2.2 _ (List.mem_of_getElem? hm)) (k H locs ls hR hL hS)
theorem lw_iload {n i : Nat} {v : Int} (C : z_LX p l s m meth c G b N xs) (hd : decode cL_law pc = .ok (.iload n, 2)) (hm : lv[i]? = some (n, Value.int (Int32.ofInt v))) (k : LW p l e s m below meth c G b cells slots (pc + 2) lv (zi v :: st) I J R) : LW p l e s m below meth c G b cells slots pc lv st I J R :=
  fun H locs ls hR hL hS => lv_iload C.1.1 C.1.2.1 hd (hL.2.2 _ (List.mem_of_getElem? hm)) (k H locs ls hR hL hS)
theorem lw_lload {n i : Nat} {v : Int} (C : z_LX p l s m meth c G b N xs) (hd : decode cL_law pc = .ok (.lload n, 2)) (hm : lv[i]? = some (n, Value.long (Int64.ofInt v))) (k : LW p l e s m below meth c G b cells slots (pc + 2) lv (zl v :: st) I J R) : LW p l e s m below meth c G b cells slots pc lv st I J R :=
  fun H locs ls hR hL hS => lv_lload C.1.1 C.1.2.1 hd (hL.2.2 _ (List.mem_of_getElem? hm)) (k H locs ls hR hL hS)
theorem lw_istore {n : Nat} {v : Int} (C : z_LX p l s m meth c G b N xs) (hd : decode cL_law pc = .ok (.istore n, 2)) (hn : n < 8) (hl : (n, Value.int (Int32.ofInt v)) :: lv.filter (fun q => !(q.1 == n) && !(q.1 + 1 == n && q.2.category == 2)) = lv') (k : LW p l e s m below meth c G b cells slots (pc + 2) lv' st I J R) : LW p l e s m below meth c G b cells slots pc lv (zi v :: st) I J R :=
  fun H locs ls hR hL hS => lv_istore C.1.1 C.1.2.1 hd hL hn hl (fun ls2 h2 => k H locs ls2 hR h2 hS)
theorem lw_lstore {n : Nat} {v : Int} (C : z_LX p l s m meth c G b N xs) (hd : decode cL_law pc = .ok (.lstore n, 2)) (hn : n + 1 < 8) (hl : (n, Value.long (Int64.ofInt v)) :: lv.filter (fun q => !(q.1 == n) && (!(q.1 == n + 1) && !(q.1 + 1 == n && q.2.category == 2))) = lv') (k : LW p l e s m below meth c G b cells slots (pc + 2) lv' st I J R) : LW p l e s m below meth c G b cells slots pc lv (zl v :: st) I J R :=
  fun H locs ls hR hL hS => lv_lstore C.1.1 C.1.2.1 hd hL hn hl (fun ls2 h2 => k H locs ls2 hR h2 hS)
theorem lw_iconst {n : Int} (C : z_LX p l s m meth c G b N xs) (hd : decode cL_law pc = .ok (.iconst n, 1)) (k : LW p l e s m below meth c G b cells slots (pc + 1) lv (zi n :: st) I J R) : LW p l e s m below meth c G b cells slots pc lv st I J R :=
  fun H locs ls hR hL hS => lv_iconst C.1.1 C.1.2.1 hd rfl (k H locs ls hR hL hS)
theorem lw_goto {off : Int} {tgt : Nat} (C : z_LX p l s m meth c G b N xs) (hd : decode cL_law pc = .ok (.goto off, 3)) (ht : (pc : Int) + off = (tgt : Int)) (k : LW p l e s m below meth c G b cells slots tgt lv st I J R) : LW p l e s m below meth c G b cells slots pc lv st I J R :=
  fun H locs ls hR hL hS => lv_goto C.1.1 C.1.2.1 hd ht (k H locs ls hR hL hS)
/-- an argument out of the script -/
theorem lw_arg {k x : Int} {i : Nat} (C : z_LX p l s m meth c G b N xs) (d0 : decode cL_law pc = .ok (.aload_n 0, 1)) (d1 : decode cL_law (pc + 1) = .ok (.iload 4, 2)) (d3 : decode cL_law (pc + 3) = .ok (.iconst k, 1)) (d4 : decode cL_law (pc + 4) = .ok (.iadd, 1)) (d5 : decode cL_law (pc + 5) = .ok (.iaload, 1)) (hm0 : lv[i]? = some (0, Value.ref b)) {i4 : Nat} (hm4 : lv[i4]? = some (4, Value.int (Int32.ofInt x))) (hk : 0 ≤ x + k ∧ x + k < (N : Int)) (kk : LW p l e s m below meth c G b cells slots (pc + 6) lv (zi (xs (x + k).toNat).toInt :: st) I J R) : LW p l e s m below meth c G b cells slots pc lv st I J R := by
  intro H locs ls hR hL hS
  obtain ⟨X, hXT, hX, hb, hG, hN⟩ := C
  refine lv_aload_n X.1 X.2.1 d0 rfl (hL.2.2 _ (List.mem_of_getElem? hm0)) ?_
  refine lv_iload X.1 X.2.1 d1 (hL.2.2 _ (List.mem_of_getElem? hm4)) ?_
  refine lv_iconst X.1 X.2.1 d3 rfl ?_
  refine lv_iadd X.1 X.2.1 d4 ?_
  rw [← Int32.ofInt_add]
  have e1 : (Int32.ofInt (x + k)).toNatClampNeg = (x + k).toNat := i32cl (by omega)
  refine va_sld X.1 X.2.1 hX hb (by show ¬ G.2.2 ≤ b; omega) hS (by show ¬ (_ ∨ _); exact i32in hk (by omega)) d5 ?_
  have K := kk H locs ls hR hL hS
  rw [e1]
  rw [List.map_cons, show z_cv G.2.2 (zi (xs (x + k).toNat).toInt) = Value.int (xs (x + k).toNat) from congrArg Value.int (Int32.ofInt_toInt _)] at K
  exact K
theorem lw_arg0 {x : Int} {i : Nat} (C : z_LX p l s m meth c G b N xs) (d0 : decode cL_law pc = .ok (.aload_n 0, 1)) (d1 : decode cL_law (pc + 1) = .ok (.iload 4, 2)) (d3 : decode cL_law (pc + 3) = .ok (.iaload, 1)) (hm0 : lv[i]? = some (0, Value.ref b)) {i4 : Nat} (hm4 : lv[i4]? = some (4, Value.int (Int32.ofInt x))) (hk : 0 ≤ x ∧ x < (N : Int)) (kk : LW p l e s m below meth c G b cells slots (pc + 4) lv (zi (xs x.toNat).toInt :: st) I J R) : LW p l e s m below meth c G b cells slots pc lv st I J R := by
  intro H locs ls hR hL hS
  obtain ⟨X, hXT, hX, hb, hG, hN⟩ := C
  refine lv_aload_n X.1 X.2.1 d0 rfl (hL.2.2 _ (List.mem_of_getElem? hm0)) ?_
  refine lv_iload X.1 X.2.1 d1 (hL.2.2 _ (List.mem_of_getElem? hm4)) ?_
  have e1 : (Int32.ofInt x).toNatClampNeg = x.toNat := i32cl (by omega)
  refine va_sld X.1 X.2.1 hX hb (by show ¬ G.2.2 ≤ b; omega) hS (by show ¬ (_ ∨ _); exact i32in hk (by omega)) d3 ?_
  have K := kk H locs ls hR hL hS
  rw [e1]
  rw [List.map_cons, show z_cv G.2.2 (zi (xs x.toNat).toInt) = Value.int (xs x.toNat) from congrArg Value.int (Int32.ofInt_toInt _)] at K
  exact K
theorem lw_back {d : ZD} {Q : ZQ} {H : Heap} {locs : List Loc} {ls : Array Slot} {a : Array Value} {st0 : List Value} (hL : lv_has ls 8 lv) (hS : va_S (fun q => G.2.2 ≤ q) s.heap H locs)
    (hr : va_Run p l e room_1 s m #[Value.ref b] below meth c H locs cells slots d.2.2.2.2.cells d.2.2.2.2.slots (F0 m pc ls st0) (st.map (z_cv G.2.2)) (z_Qc G Q a) (fun q => G.2.2 ≤ q))
    (hsz : ∀ r sz' I' J' R', Q r sz' I' J' R' → sz' = 255) (kk : ∀ r I' J' R', Q r 255 I' J' R' → LW p l e s m below meth c G b (cells + d.2.2.2.2.cells) (slots + d.2.2.2.2.slots) (pc + 3) lv (r.toList ++ st) I' J' R') : W p l e room_1 s m #[Value.ref b] below meth c H locs cells slots (lw_Z below #[Value.ref b] s) (F0 m pc ls st0) := by
  intro T hT XS
  obtain ⟨v, st₀, t, T', L, h0, X', hL', e1, e2, ⟨⟨r, sz2, I2, J2, R2, hv, hq, hR2⟩, hz, hk⟩, go⟩ := hr T hT XS
  rw [h0] at hz hk
  have hv : v = r.map (z_cv G.2.2) := Outcome.returned.inj hv
  subst hv
  have h9 := hsz _ _ _ _ _ hq
  subst h9
  obtain ⟨t2, a1, b1⟩ := kk r I2 J2 R2 hq T'.heap (locs ++ L) ls (by rw [e1]; exact hR2) hL
    ⟨Nat.le_trans hS.1 (by rw [e1]; exact hz), fun q h1 h2 => by rw [e1, hk q (Nat.lt_of_lt_of_le h1 hS.1) h2]; exact hS.2.1 q h1 h2, fun q hq => by
      rcases List.mem_append.mp hq with h | h
      · exact hS.2.2 q h
      · exact hL' q h⟩ T' rfl X'
  refine ⟨t2, go t2 ?_, b1⟩
  show Steps _ _ _ (T'.setTop (F0 m (pc + 3) ls _)) _
  rw [z_vmap]
  exact a1
theorem lw_callV {d : ZD} {As : List AwV} {a c1 idx n : Nat} {Q : ZQ} (C : z_LX p l s m meth c G b N xs) (hM : CT d (zr a :: As) 255 I J R Q) (hc : z_Cv d n) (hd : decode cL_law pc = .ok (.invokevirtual idx, 3)) (hl : Cond.methodLink RL idx d.1 ∈ z_tb) (hn : As.length = n) (h0 : z_n0 d) (ha : a < 255) (hs : z_sh a = (c1 + 10, z_cn c1)) (hC : (vwCl[c1]?).map (fun q => q.1) = some d.1.cls) (hrm : z_Rm d (F_L meth.name)) (hce : cells ≤ 601024 ∧ slots ≤ 7293034) (hst : stk = As.reverse ++ zr a :: st) (hw : (st.map z_c12).sum ≤ 8)
    (hsz : ∀ r sz' I' J' R', Q r sz' I' J' R' → sz' = 255) (kk : ∀ r I' J' R', Q r 255 I' J' R' → LW p l e s m below meth c G b cells slots (pc + 3) lv (r.toList ++ st) I' J' R') : LW p l e s m below meth c G b cells slots pc lv stk I J R := by
  intro H locs ls hR hL hS
  subst hst
  obtain ⟨X, hXT, hX, hb, hG, hN⟩ := C
  obtain ⟨h1, h2, h3, h4, h5, h6⟩ := hc
  have hts := X.2.2.2.2.2.2.1
  obtain ⟨⟨C, T, N⟩, hcl, hC⟩ := Option.map_eq_some_iff.mp hC
  have hC : C = d.1.cls := hC
  subst hC
  obtain ⟨cell, q1, q2, q3, q4⟩ := (hR.2.2 a ha).2.2.2.2 c1 _ hs
  have hcls : s.vm.findClass d.1.cls = some cell.cls := by rw [q2]; exact (X.2.2.2.2.2.2.2.1.1.1 c1 _ hcl).2.1
  refine lw_back (d := d) (Q := Q) (st := st) hL hS (va_runV (Ts := z_tb) (own := RL) (C := d.1.cls) (b := G.2.2 + a) (As := As.map (z_cv G.2.2)) (rest := st.map (z_cv G.2.2)) (bytes := d.2.1) (maxL := d.2.2.1) (ret := d.2.2.2.1) (n := n) ⟨X.1, X.2.1, X.2.2.1, X.2.2.2.2.2.1, hts⟩ (hM l G) ⟨⟨rfl, rfl, hrm.1, hrm.2, pay_in hts (z_goodIn h1), List.mem_cons_self, hts _ h1, hts _ h4, h5, z_sig h6, hts _ hl⟩, hts _ h2, hts _ h3⟩ ⟨z_blind, ⟨cell, q1, by rw [q3]; rfl, hcls⟩, fun U hU hW => ⟨rfl, X.2.2.2.2.2.2.2.1.moved hW, by rw [hU]; exact hR⟩⟩ rfl (by rw [List.length_map]; exact hn) hL.1 (by simp [z_cv, z_rf]) (lv_room (z_wid _ _ hw)) hd (by rw [h0.1, h0.2]; exact hce)) hsz (fun r I' J' R' q => z_kk h0 (P := fun c0 s0 => LW p l e s m below meth c G b c0 s0 (pc + 3) lv (r.toList ++ st) I' J' R') (kk r I' J' R' q))
def z_Ch (d : ZD) (hh : List (Nat × Nat × Nat × Nat)) (n : Nat) : Prop := Cond.codeWith d.1 d.2.1 d.2.2.1 d.2.2.2.1 hh ∈ z_tb ∧ Cond.static d.1 ∈ z_tb ∧ Cond.initialized d.1.cls ∈ z_tb ∧ (d.1.cls ≠ "java/lang/invoke/MethodHandle" ∧ d.1.cls ≠ "java/lang/invoke/VarHandle") ∧ (parseMethodDescriptor d.1.desc).map (fun d => d.parameters.length) = some n
theorem lw_callH {d : ZD} {hh : List (Nat × Nat × Nat × Nat)} {As : List AwV} {idx n : Nat} {Q : ZQ} (C : z_LX p l s m meth c G b N xs) (hM : CH hh d As I J R Q) (hc : z_Ch d hh n) (hd : decode cL_law pc = .ok (.invokestatic idx, 3)) (hl : Cond.methodLink RL idx d.1 ∈ z_tb) (hn : As.length = n) (hrm : z_Rm d (F_L meth.name)) (hce : cells + d.2.2.2.2.cells ≤ 601024 ∧ slots + d.2.2.2.2.slots ≤ 7293034) (hst : stk = As.reverse ++ st) (hw : (st.map z_c12).sum ≤ 8)
    (hsz : ∀ r sz' I' J' R', Q r sz' I' J' R' → sz' = 255) (kk : ∀ r I' J' R', Q r 255 I' J' R' → LW p l e s m below meth c G b (cells + d.2.2.2.2.cells) (slots + d.2.2.2.2.slots) (pc + 3) lv (r.toList ++ st) I' J' R') : LW p l e s m below meth c G b cells slots pc lv stk I J R := by
  intro H locs ls hR hL hS
  subst hst
  obtain ⟨X, hXT, hX, hb, hG, hN⟩ := C
  obtain ⟨h1, h2, h4, h5, h6⟩ := hc
  have hts := X.2.2.2.2.2.2.1
  have hgi : GoodIn z_tb (z_wsH d hh) := fun w hw => by
    rcases List.mem_cons.mp hw with rfl | hw
    · exact ⟨h1, good_of_word (z_gW h1)⟩
    · exact ⟨hw, good_of_word (z_gW hw)⟩
  refine lw_back (d := d) (Q := Q) (st := st) hL hS (vx_runSW (hh := hh) (Ts := z_tb) (own := RL) (As := As.map (z_cv G.2.2)) (rest := st.map (z_cv G.2.2)) (bytes := d.2.1) (maxL := d.2.2.1) (ret := d.2.2.2.1) (n := n) ⟨X.1, X.2.1, X.2.2.1, X.2.2.2.2.2.1, hts⟩ (hM l G) ⟨⟨rfl, rfl, hrm.1, hrm.2, pay_in hts hgi, List.mem_cons_self⟩, hts _ h1, hts _ h4, h5, z_sig h6, hts _ hl, hts _ h2⟩ ⟨z_blindE z_XTk, fun U hU hW => ⟨⟨rfl, X.2.2.2.2.2.2.2.1.moved hW, by rw [hU]; exact hR⟩, z_XTk.1 _ _ _ _ hW (fun q g1 g2 => by rw [hU]; exact hS.2.1 q g1 (by omega)) hXT⟩⟩ rfl (by rw [List.length_map]; exact hn) hL.1 (by simp) (lv_room (z_wid _ _ hw)) hd hce) hsz kk
/-- equal answers -/
theorem lw_same {v off : Int} {tgt : Nat} (C : z_LX p l s m meth c G b N xs) (hd : decode cL_law pc = .ok (.if_icmp .eq off, 3)) (ht : (pc : Int) + off = (tgt : Int)) (k : LW p l e s m below meth c G b cells slots tgt lv st I J R) : LW p l e s m below meth c G b cells slots pc lv (zi v :: zi v :: st) I J R :=
  fun H locs ls hR hL hS => lv_icmp_eq C.1.1 C.1.2.1 hd ht (fun _ => k H locs ls hR hL hS) (fun h => absurd rfl h)
theorem lw_ifne1 {v off : Int} {tgt : Nat} (C : z_LX p l s m meth c G b N xs) (hd : decode cL_law pc = .ok (.ifCond .ne off, 3)) (ht : (pc : Int) + off = (tgt : Int)) (hv : v = 0 ∨ v = 1 ∨ v = 2) (kt : v ≠ 0 → LW p l e s m below meth c G b cells slots tgt lv st I J R) (kf : v = 0 → LW p l e s m below meth c G b cells slots (pc + 3) lv st I J R) : LW p l e s m below meth c G b cells slots pc lv (zi v :: st) I J R :=
  fun H locs ls hR hL hS => lv_if_ne C.1.1 C.1.2.1 hd ht (fun h => kt (fun q => h ((i32eq (b := 0) (by omega) (by omega)).mpr q)) H locs ls hR hL hS) (fun h => kf ((i32eq (b := 0) (by omega) (by omega)).mp h) H locs ls hR hL hS)
theorem lw_laload (C : z_LX p l s m meth c G b N xs) (hd : decode cL_law pc = .ok (.laload, 1)) (k : LW p l e s m below meth c G b cells slots (pc + 1) lv (zl (J 254 0) :: st) I J R) : LW p l e s m below meth c G b cells slots pc lv (zi 0 :: zr 254 :: st) I J R := by
  intro H locs ls hR hL hS
  have X := C.1
  have hc := (hR.2.2 254 (by omega)).2.1 1 rfl
  have hin := i32in (i := 0) (n := 1) (by omega) (by omega)
  exact W.lald (v := .long (Int64.ofInt (J 254 0))) X.1 X.2.1 hc ((X.2.2.2.2.2.2.2.1.1.2 1 _ rfl).1 1 (fun j => .long (Int64.ofInt (J 254 j)))) (fun q => by cases q) (by show ¬ (_ < 0 ∨ (arrV _ _ _).slots.size ≤ _); rw [arrV_size]; exact hin) (by show (arrV _ _ _).slots[_]? = _; rw [i32cl (by omega), arrV_read _ _ (by omega)]; rfl) rfl rfl hd (k H locs ls hR hL hS)
theorem lw_i2l {v : Int} (C : z_LX p l s m meth c G b N xs) (hd : decode cL_law pc = .ok (.i2l, 1)) (hv : -2147483648 ≤ v ∧ v ≤ 2147483647) (k : LW p l e s m below meth c G b cells slots (pc + 1) lv (zl v :: st) I J R) : LW p l e s m below meth c G b cells slots pc lv (zi v :: st) I J R :=
  fun H locs ls hR hL hS => lv_i2l C.1.1 C.1.2.1 hd (Int32.toInt64_ofInt hv.1 hv.2) (k H locs ls hR hL hS)
theorem lw_lsame {v off : Int} {tgt : Nat} (C : z_LX p l s m meth c G b N xs) (hd : decode cL_law pc = .ok (.lcmp, 1)) (hd2 : decode cL_law (pc + 1) = .ok (.ifCond .eq off, 3)) (ht : ((pc + 1 : Nat) : Int) + off = (tgt : Int)) (k : LW p l e s m below meth c G b cells slots tgt lv st I J R) : LW p l e s m below meth c G b cells slots pc lv (zl v :: zl v :: st) I J R := by
  intro H locs ls hR hL hS
  have e0 : lg_cmp (Int64.ofInt v) (Int64.ofInt v) = 0 := by
    unfold lg_cmp
    rw [if_neg (by simp [Int64.lt_irrefl]), if_pos rfl]
  refine W.lcmp C.1.1 C.1.2.1 hd ?_
  rw [e0]
  exact lv_if_eq C.1.1 C.1.2.1 hd2 ht (fun _ => k H locs ls hR hL hS) (fun h => absurd rfl h)
theorem lw_iinc {x n : Int} {i : Nat} (C : z_LX p l s m meth c G b N xs) (hd : decode cL_law pc = .ok (.iinc 4 n, 3)) (hm : lv[i]? = some (4, Value.int (Int32.ofInt x))) (hl : (4, Value.int (Int32.ofInt (x + n))) :: lv.filter (fun q => !(q.1 == 4) && !(q.1 + 1 == 4 && q.2.category == 2)) = lv') (k : LW p l e s m below meth c G b cells slots (pc + 3) lv' st I J R) : LW p l e s m below meth c G b cells slots pc lv st I J R :=
  fun H locs ls hR hL hS => lv_iinc C.1.1 C.1.2.1 hd hL hm (Int32.ofInt_add x n).symm (by decide) hl (fun ls2 h2 => k H locs ls2 hR h2 hS)
/-- the head of the loop -/
theorem lw_head {x off : Int} {i i4 tgt : Nat} (C : z_LX p l s m meth c G b N xs) (d0 : decode cL_law pc = .ok (.iload 4, 2)) (d2 : decode cL_law (pc + 2) = .ok (.aload_n 0, 1)) (d3 : decode cL_law (pc + 3) = .ok (.arraylength, 1)) (d4 : decode cL_law (pc + 4) = .ok (.iconst 5, 1)) (d5 : decode cL_law (pc + 5) = .ok (.isub, 1)) (d6 : decode cL_law (pc + 6) = .ok (.if_icmp .gt off, 3)) (ht : ((pc + 6 : Nat) : Int) + off = (tgt : Int)) (hm0 : lv[i]? = some (0, Value.ref b)) (hm4 : lv[i4]? = some (4, Value.int (Int32.ofInt x))) (hx : 0 ≤ x ∧ x ≤ 3000)
    (kt : (N : Int) - 5 < x → LW p l e s m below meth c G b cells slots tgt lv st I J R) (kf : x + 5 ≤ (N : Int) → LW p l e s m below meth c G b cells slots (pc + 9) lv st I J R) : LW p l e s m below meth c G b cells slots pc lv st I J R := by
  intro H locs ls hR hL hS
  obtain ⟨X, hXT, hX, hb, hG, hN⟩ := C
  refine lv_iload X.1 X.2.1 d0 (hL.2.2 _ (List.mem_of_getElem? hm4)) ?_
  refine lv_aload_n X.1 X.2.1 d2 rfl (hL.2.2 _ (List.mem_of_getElem? hm0)) ?_
  refine va_slen X.1 X.2.1 hX hb (by show ¬ G.2.2 ≤ b; omega) hS d3 ?_
  refine lv_iconst (v := Int32.ofInt 5) X.1 X.2.1 d4 rfl ?_
  refine lv_isub X.1 X.2.1 d5 ?_
  rw [show Int32.ofNat N = Int32.ofInt (N : Int) from Int32.ofInt_eq_ofNat.symm, ← Int32.ofInt_sub]
  exact lv_icmp_gt X.1 X.2.1 d6 ht (fun h => kt ((i32lt (by omega) (by omega)).mp h) H locs ls hR hL hS) (fun h => kf (by have := mt (i32lt (a := (N : Int) - 5) (b := x) (by omega) (by omega)).mpr h; omega) H locs ls hR hL hS)
end LWR
