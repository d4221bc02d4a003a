def z_Cl (c : Nat) (C : String) (T : u_T) (ty : Nat → FieldType) : Prop := vwCl[c]? = some (C, T, z_cn c) ∧ (∀ w ∈ u_ws C T (z_cn c), w ∈ z_tb) ∧ (∀ k, k < z_cn c → parseFieldDescriptor (T k).2.2.1 = some (ty k)) ∧ (∀ a, a < z_cn c → ∀ b, b < z_cn c → a ≠ b → (T a).2.1 ≠ (T b).2.1)
def z_Fl (own : String) (idx c k : Nat) (fin : Bool) (t : FieldType) : Prop := ∃ (C : String) (T : u_T) (ty : Nat → FieldType), z_Cl c C T ty ∧ k < z_cn c ∧ Cond.fieldLink own idx (T k).1 (T k).2.1 (T k).2.2.1 ∈ z_tb ∧ (T k).2.2.2 = fin ∧ ty k = t ∧ (T k).1 = C
theorem z_gW {w : Cond} (h : w ∈ z_tb) : goodWord w = true := (List.mem_filter.mp h).2
theorem z_goodIn {d : ZD} (h : Cond.code d.1 d.2.1 d.2.2.1 d.2.2.2.1 ∈ z_tb) : GoodIn z_tb (z_ws d) := fun w hw => by
  rcases List.mem_cons.mp hw with rfl | hw
  · exact ⟨h, good_of_word (z_gW h)⟩
  · exact ⟨hw, good_of_word (z_gW hw)⟩
theorem z_blind {G : ZG} {as : List AwV} {sz : Nat} {I J : AwI} {R : AwR} : FrameBlind (z_Pc G as sz I J R) := by
  intro a U g mk h
  obtain ⟨h1, h2, h3⟩ := h
  exact ⟨h1, h2.blind, h3⟩
def z_c12 : AwV → Nat
  | .inr (.inl _) => 2
  | _ => 1
theorem z_c12_of (b : Nat) (v : AwV) : (z_cv b v).category = z_c12 v := by
  rcases v with x | x | r
  · rfl
  · rfl
  · cases r <;> rfl
theorem z_wid (b : Nat) (st : List AwV) (h : (st.map z_c12).sum ≤ 8) : ((st.map (z_cv b)).map fun v => v.category).sum ≤ 8 := by
  rw [List.map_map, show ((fun v : Value => v.category) ∘ z_cv b) = z_c12 from funext (z_c12_of b)]
  exact h
theorem z_vmap (b : Nat) (r : Option AwV) (st : List AwV) : (r.map (z_cv b)).toList ++ st.map (z_cv b) = (r.toList ++ st).map (z_cv b) := by
  cases r <;> rfl
section AWF
variable {F : ZF} {cells slots sz pc : Nat} {lv lv' : List (Option AwV)} {st stk : List AwV} {I J : AwI} {R : AwR}
theorem aw_getI {a c idx k : Nat} {fin : Bool} {t : FieldType} (hd : decode F.2.1 pc = .ok (.getfield idx, 3)) (hl : z_Fl F.1.cls idx c k fin t) (hf : z_fk c k = 0) (ha : a < sz) (hs : z_sh a = (c + 10, z_cn c)) (kk : AW F cells slots sz (pc + 3) lv (zi (I a k) :: st) I J R) : AW F cells slots sz (pc) lv (zr a :: st) I J R := by
  obtain ⟨C, T, ty, ⟨hc, hin, hty, hnm⟩, hk, hlink, -⟩ := hl
  intro p l e s m args below meth c0 H locs ls G X hR hL hS
  obtain ⟨cell, q1, q2, q3, q4⟩ := (hR.2.2 a ha).2.2.2.2 c _ hs
  obtain ⟨hS', hfc, kC, hkC, hkind⟩ := X.2.2.2.2.2.2.2.1.1.1 c _ hc
  obtain ⟨cf, kf, fi, f, hi, hsl⟩ := hS' k hk
  refine W.getf X.1 X.2.1 X.2.2.2.2.2.1 (X.2.2.2.2.2.2.1 _ hlink) hi (u_facts hfc hkC (u_lays X.2.2.2.2.2.2.1 hin hk) hi).1 q1 (by rw [q3]; exact fun h => by cases h) (v := z_cv G.2.2 (zi (I a k))) ?_ rfl rfl hd (kk p l e s m args below meth c0 H locs ls G X hR hL hS)
  rw [hsl, q4 k hk]
  show some (z_cv G.2.2 (z_rd I J R a (z_fk c k) k)) = _
  rw [hf]
  rfl
theorem aw_getJ {a c idx k : Nat} {fin : Bool} {t : FieldType} (hd : decode F.2.1 pc = .ok (.getfield idx, 3)) (hl : z_Fl F.1.cls idx c k fin t) (hf : z_fk c k = 1) (ha : a < sz) (hs : z_sh a = (c + 10, z_cn c)) (kk : AW F cells slots sz (pc + 3) lv (zl (J a k) :: st) I J R) : AW F cells slots sz (pc) lv (zr a :: st) I J R := by
  obtain ⟨C, T, ty, ⟨hc, hin, hty, hnm⟩, hk, hlink, -⟩ := hl
  intro p l e s m args below meth c0 H locs ls G X hR hL hS
  obtain ⟨cell, q1, q2, q3, q4⟩ := (hR.2.2 a ha).2.2.2.2 c _ hs
  obtain ⟨hS', hfc, kC, hkC, hkind⟩ := X.2.2.2.2.2.2.2.1.1.1 c _ hc
  obtain ⟨cf, kf, fi, f, hi, hsl⟩ := hS' k hk
  refine W.getf X.1 X.2.1 X.2.2.2.2.2.1 (X.2.2.2.2.2.2.1 _ hlink) hi (u_facts hfc hkC (u_lays X.2.2.2.2.2.2.1 hin hk) hi).1 q1 (by rw [q3]; exact fun h => by cases h) (v := z_cv G.2.2 (zl (J a k))) ?_ rfl rfl hd (kk p l e s m args below meth c0 H locs ls G X hR hL hS)
  rw [hsl, q4 k hk]
  show some (z_cv G.2.2 (z_rd I J R a (z_fk c k) k)) = _
  rw [hf]
  rfl
theorem aw_getR {a c idx k b : Nat} {fin : Bool} {t : FieldType} (hd : decode F.2.1 pc = .ok (.getfield idx, 3)) (hl : z_Fl F.1.cls idx c k fin t) (hf : z_fk c k = 2) (ha : a < sz) (hs : z_sh a = (c + 10, z_cn c)) (hr : R a k = some b) (kk : AW F cells slots sz (pc + 3) lv (zr b :: st) I J R) : AW F cells slots sz (pc) lv (zr a :: st) I J R := by
  obtain ⟨C, T, ty, ⟨hc, hin, hty, hnm⟩, hk, hlink, -⟩ := hl
  intro p l e s m args below meth c0 H locs ls G X hR hL hS
  obtain ⟨cell, q1, q2, q3, q4⟩ := (hR.2.2 a ha).2.2.2.2 c _ hs
  obtain ⟨hS', hfc, kC, hkC, hkind⟩ := X.2.2.2.2.2.2.2.1.1.1 c _ hc
  obtain ⟨cf, kf, fi, f, hi, hsl⟩ := hS' k hk
  refine W.getf X.1 X.2.1 X.2.2.2.2.2.1 (X.2.2.2.2.2.2.1 _ hlink) hi (u_facts hfc hkC (u_lays X.2.2.2.2.2.2.1 hin hk) hi).1 q1 (by rw [q3]; exact fun h => by cases h) (v := z_cv G.2.2 (zr b)) ?_ rfl rfl hd (kk p l e s m args below meth c0 H locs ls G X hR hL hS)
  rw [hsl, q4 k hk]
  show some (z_cv G.2.2 (z_rd I J R a (z_fk c k) k)) = _
  rw [hf]
  show some (z_cv G.2.2 (zq (R a k))) = _
  rw [hr]
theorem aw_putI {a c idx k : Nat} {x : Int} (hd : decode F.2.1 pc = .ok (.putfield idx, 3)) (hl : z_Fl F.1.cls idx c k false .int) (hf : z_fk c k = 0) (ha : a < sz) (hs : z_sh a = (c + 10, z_cn c)) (kk : AW F cells slots sz (pc + 3) lv st (z_up I a k x) J R) : AW F cells slots sz (pc) lv (zi x :: zr a :: st) I J R := by
  obtain ⟨C, T, ty, ⟨hc, hin, hty, hnm⟩, hk, hlink, hfin, htk, hdec⟩ := hl
  intro p l e s m args below meth c0 H locs ls G X hR hL hS
  have hts := X.2.2.2.2.2.2.1
  have hap := va_apart (own := C) hts hin ty hty hnm X.2.2.2.2.2.2.2.1.1 hc
  obtain ⟨cell, q1, q2, q3, q4⟩ := (hR.2.2 a ha).2.2.2.2 c _ hs
  obtain ⟨hS', hfc, kC, hkC, hkind⟩ := X.2.2.2.2.2.2.2.1.1.1 c _ hc
  obtain ⟨cf, kf, fi, f, hi, hsl⟩ := hS' k hk
  have hlay := hts _ (hin _ (u_in_lay hk))
  unfold u_lay at hlay
  rw [if_neg (by rw [hfin]; decide)] at hlay
  have hst := (u_facts hfc hkC (u_lays hts hin hk) hi).1
  have h6 := u_store (v := z_cv G.2.2 (zi x)) hfc hkC hkind hlay hi (by rw [hty k hk, htk]) (rfl) (rfl)
  refine W.putK (v := z_cv G.2.2 (zi x)) X.1 X.2.1 (f := f) ⟨X.2.2.2.2.2.1, hts _ hlink, ⟨_, _, _, hi⟩, hst⟩ (by rw [q2]; exact h6) q1 q3 (by rw [hsl]; exact k2_hasslot (q4 k hk)) rfl rfl hd fun H1 he hz1 oq => ?_
  refine kk p l e s m args below meth c0 H1 _ ls G X ⟨fun q => by rw [hz1]; exact hR.1 q, by rw [hz1]; exact hR.2.1, fun a' ha' => ?_⟩ hL (z_Sput hS hz1 oq (Nat.le_add_right _ _))
  by_cases e1 : a' = a
  · subst e1
    refine ⟨fun n2 hs2 => ?_, fun n2 hs2 => ?_, fun n2 hs2 => ?_, fun n2 hs2 => ?_, fun c2 n2 hs2 => ?_⟩
    all_goals (rw [hs] at hs2)
    all_goals (first | (cases hs2; done) | (injection hs2 with h1 h2; omega) | skip)
    obtain ⟨h1, h2⟩ := Prod.mk.inj hs2
    have h1 : c2 = c := by omega
    subst h1
    subst h2
    rw [hsl] at he
    refine t_OB.to (V := updV (fun j => z_cv G.2.2 (z_rd I J R a' (z_fk c2 j) j)) k (z_cv G.2.2 (zi x))) ⟨_, he, q2, q3, t_set q4 hap hk _⟩ (fun j _ => ?_)
    by_cases hj : j = k
    · subst hj; simp [updV, hf, z_rd, z_up_s]
    · simp [updV, hj, z_rd, z_up_k _ _ hj]
  · exact (hR.2.2 a' ha').upI e1 oq
theorem aw_putZ {a c idx k : Nat} {x : Int} (hd : decode F.2.1 pc = .ok (.putfield idx, 3)) (hl : z_Fl F.1.cls idx c k false .boolean) (hf : z_fk c k = 0) (ha : a < sz) (hs : z_sh a = (c + 10, z_cn c)) (hx : x = 0 ∨ x = 1) (kk : AW F cells slots sz (pc + 3) lv st (z_up I a k x) J R) : AW F cells slots sz (pc) lv (zi x :: zr a :: st) I J R := by
  obtain ⟨C, T, ty, ⟨hc, hin, hty, hnm⟩, hk, hlink, hfin, htk, hdec⟩ := hl
  intro p l e s m args below meth c0 H locs ls G X hR hL hS
  have hts := X.2.2.2.2.2.2.1
  have hap := va_apart (own := C) hts hin ty hty hnm X.2.2.2.2.2.2.2.1.1 hc
  obtain ⟨cell, q1, q2, q3, q4⟩ := (hR.2.2 a ha).2.2.2.2 c _ hs
  obtain ⟨hS', hfc, kC, hkC, hkind⟩ := X.2.2.2.2.2.2.2.1.1.1 c _ hc
  obtain ⟨cf, kf, fi, f, hi, hsl⟩ := hS' k hk
  have hlay := hts _ (hin _ (u_in_lay hk))
  unfold u_lay at hlay
  rw [if_neg (by rw [hfin]; decide)] at hlay
  have hst := (u_facts hfc hkC (u_lays hts hin hk) hi).1
  have h6 := u_store (v := z_cv G.2.2 (zi x)) hfc hkC hkind hlay hi (by rw [hty k hk, htk]) (by rcases hx with rfl | rfl <;> rfl) (by rcases hx with rfl | rfl <;> rfl)
  refine W.putK (v := z_cv G.2.2 (zi x)) X.1 X.2.1 (f := f) ⟨X.2.2.2.2.2.1, hts _ hlink, ⟨_, _, _, hi⟩, hst⟩ (by rw [q2]; exact h6) q1 q3 (by rw [hsl]; exact k2_hasslot (q4 k hk)) rfl rfl hd fun H1 he hz1 oq => ?_
  refine kk p l e s m args below meth c0 H1 _ ls G X ⟨fun q => by rw [hz1]; exact hR.1 q, by rw [hz1]; exact hR.2.1, fun a' ha' => ?_⟩ hL (z_Sput hS hz1 oq (Nat.le_add_right _ _))
  by_cases e1 : a' = a
  · subst e1
    refine ⟨fun n2 hs2 => ?_, fun n2 hs2 => ?_, fun n2 hs2 => ?_, fun n2 hs2 => ?_, fun c2 n2 hs2 => ?_⟩
    all_goals (rw [hs] at hs2)
    all_goals (first | (cases hs2; done) | (injection hs2 with h1 h2; omega) | skip)
    obtain ⟨h1, h2⟩ := Prod.mk.inj hs2
    have h1 : c2 = c := by omega
    subst h1
    subst h2
    rw [hsl] at he
    refine t_OB.to (V := updV (fun j => z_cv G.2.2 (z_rd I J R a' (z_fk c2 j) j)) k (z_cv G.2.2 (zi x))) ⟨_, he, q2, q3, t_set q4 hap hk _⟩ (fun j _ => ?_)
    by_cases hj : j = k
    · subst hj; simp [updV, hf, z_rd, z_up_s]
    · simp [updV, hj, z_rd, z_up_k _ _ hj]
  · exact (hR.2.2 a' ha').upI e1 oq
theorem aw_putJ {a c idx k : Nat} {x : Int} (hd : decode F.2.1 pc = .ok (.putfield idx, 3)) (hl : z_Fl F.1.cls idx c k false .long) (hf : z_fk c k = 1) (ha : a < sz) (hs : z_sh a = (c + 10, z_cn c)) (kk : AW F cells slots sz (pc + 3) lv st I (z_up J a k x) R) : AW F cells slots sz (pc) lv (zl x :: zr a :: st) I J R := by
  obtain ⟨C, T, ty, ⟨hc, hin, hty, hnm⟩, hk, hlink, hfin, htk, hdec⟩ := hl
  intro p l e s m args below meth c0 H locs ls G X hR hL hS
  have hts := X.2.2.2.2.2.2.1
  have hap := va_apart (own := C) hts hin ty hty hnm X.2.2.2.2.2.2.2.1.1 hc
  obtain ⟨cell, q1, q2, q3, q4⟩ := (hR.2.2 a ha).2.2.2.2 c _ hs
  obtain ⟨hS', hfc, kC, hkC, hkind⟩ := X.2.2.2.2.2.2.2.1.1.1 c _ hc
  obtain ⟨cf, kf, fi, f, hi, hsl⟩ := hS' k hk
  have hlay := hts _ (hin _ (u_in_lay hk))
  unfold u_lay at hlay
  rw [if_neg (by rw [hfin]; decide)] at hlay
  have hst := (u_facts hfc hkC (u_lays hts hin hk) hi).1
  have h6 := u_store (v := z_cv G.2.2 (zl x)) hfc hkC hkind hlay hi (by rw [hty k hk, htk]) (rfl) (rfl)
  refine W.putK (v := z_cv G.2.2 (zl x)) X.1 X.2.1 (f := f) ⟨X.2.2.2.2.2.1, hts _ hlink, ⟨_, _, _, hi⟩, hst⟩ (by rw [q2]; exact h6) q1 q3 (by rw [hsl]; exact k2_hasslot (q4 k hk)) rfl rfl hd fun H1 he hz1 oq => ?_
  refine kk p l e s m args below meth c0 H1 _ ls G X ⟨fun q => by rw [hz1]; exact hR.1 q, by rw [hz1]; exact hR.2.1, fun a' ha' => ?_⟩ hL (z_Sput hS hz1 oq (Nat.le_add_right _ _))
  by_cases e1 : a' = a
  · subst e1
    refine ⟨fun n2 hs2 => ?_, fun n2 hs2 => ?_, fun n2 hs2 => ?_, fun n2 hs2 => ?_, fun c2 n2 hs2 => ?_⟩
    all_goals (rw [hs] at hs2)
    all_goals (first | (cases hs2; done) | (injection hs2 with h1 h2; omega) | skip)
    obtain ⟨h1, h2⟩ := Prod.mk.inj hs2
    have h1 : c2 = c := by omega
    subst h1
    subst h2
    rw [hsl] at he
    refine t_OB.to (V := updV (fun j => z_cv G.2.2 (z_rd I J R a' (z_fk c2 j) j)) k (z_cv G.2.2 (zl x))) ⟨_, he, q2, q3, t_set q4 hap hk _⟩ (fun j _ => ?_)
    by_cases hj : j = k
    · subst hj; simp [updV, hf, z_rd, z_up_s]
    · simp [updV, hj, z_rd, z_up_k _ _ hj]
  · exact (hR.2.2 a' ha').upJ e1 oq
def z_Cv (d : ZD) (n : Nat) : Prop := Cond.code d.1 d.2.1 d.2.2.1 d.2.2.2.1 ∈ z_tb ∧ Cond.instanceMethod d.1 ∈ z_tb ∧ Cond.selects d.1.cls d.1 d.1 ∈ z_tb ∧ Cond.initialized d.1.cls ∈ z_tb ∧ (d.1.cls ≠ "java/lang/invoke/MethodHandle" ∧ d.1.cls ≠ "java/lang/invoke/VarHandle") ∧ (parseMethodDescriptor d.1.desc).map (fun d => d.parameters.length) = some n
def z_Cs (d : ZD) (n : Nat) : Prop := Cond.code d.1 d.2.1 d.2.2.1 d.2.2.2.1 ∈ z_tb ∧ Cond.static d.1 ∈ z_tb ∧ Cond.initialized d.1.cls ∈ z_tb ∧ (d.1.cls ≠ "java/lang/invoke/MethodHandle" ∧ d.1.cls ≠ "java/lang/invoke/VarHandle") ∧ (parseMethodDescriptor d.1.desc).map (fun d => d.parameters.length) = some n
def z_Rm (d : ZD) (F : ZF) : Prop := d.2.2.2.2.frames + 1 ≤ F.2.2.2.2.1.frames ∧ 8 + (d.2.2.1 + 11) + d.2.2.2.2.locals ≤ F.2.2.2.2.1.locals
theorem z_sig {y : MethodName} {n : Nat} (h : (parseMethodDescriptor y.desc).map (fun d => d.parameters.length) = some n) : ∀ sig, parseMethodDescriptor y.desc = some sig → n = sig.parameters.length := fun sig hs => by
  rw [hs] at h
  exact (Option.some.inj h).symm
theorem aw_back {d : ZD} {Q : ZQ} {p : Program} {l : Launch} {e : Env} {s : State} {m : MethodId} {args a : Array Value} {below : List Frame} {meth : Method} {c : Code} {H : Heap} {locs : List Loc} {ls : Array Slot} {G : ZG} {st0 : List Value} (X : z_X F p s m args meth c G) (hL : z_Lo G.2.2 ls F.2.2.1 lv) (hS : va_S (fun q => G.2.2 ≤ q) s.heap H locs)
    (hr : va_Run p l e F.2.2.2.2.1 s m args below meth c H locs cells slots d.2.2.2.2.cells d.2.2.2.2.slots (F0 m pc ls st0) (st.map (z_cv G.2.2)) (z_Qc G Q a) (fun q => G.2.2 ≤ q))
    (kk : ∀ r sz' I' J' R', Q r sz' I' J' R' → AW F (cells + d.2.2.2.2.cells) (slots + d.2.2.2.2.slots) sz' (pc + 3) lv (r.toList ++ st) I' J' R') : W p l e F.2.2.2.2.1 s m args below meth c H locs cells slots (F.2.2.2.2.2 G args s below) (F0 m pc ls st0) := by
  intro T hT XS
  obtain ⟨v, st₀, t, T', L, h0, X', hL', e1, e2, ⟨⟨r, sz2, I2, J2, R2, hv, hq, hR2⟩, hz, hk⟩, go⟩ := hr T hT XS
  rw [h0] at hz hk
  have hv : v = r.map (z_cv G.2.2) := Outcome.returned.inj hv
  subst hv
  obtain ⟨t2, a1, b1⟩ := kk r sz2 I2 J2 R2 hq p l e s m args below meth c T'.heap (locs ++ L) ls G X (by rw [e1]; exact hR2) hL
    ⟨Nat.le_trans hS.1 (by rw [e1]; exact hz), fun q h1 h2 => by rw [e1, hk q (Nat.lt_of_lt_of_le h1 hS.1) h2]; exact hS.2.1 q h1 h2, fun q hq => by
      rcases List.mem_append.mp hq with h | h
      · exact hS.2.2 q h
      · exact hL' q h⟩ T' rfl X'
  refine ⟨t2, go t2 ?_, b1⟩
  show Steps _ _ _ (T'.setTop (F0 m (pc + 3) ls _)) _
  rw [z_vmap]
  exact a1
theorem aw_invV {d : ZD} {As : List AwV} {a c idx n : Nat} {Q : ZQ} (hM : CT d (zr a :: As) sz I J R Q) (hc : z_Cv d n) (hd : decode F.2.1 pc = .ok (.invokevirtual idx, 3)) (hl : Cond.methodLink F.1.cls idx d.1 ∈ z_tb) (hn : As.length = n) (ha : a < sz) (hs : z_sh a = (c + 10, z_cn c)) (hC : (vwCl[c]?).map (fun q => q.1) = some d.1.cls) (hrm : z_Rm d F) (hce : cells + d.2.2.2.2.cells ≤ F.2.2.2.2.1.cells ∧ slots + d.2.2.2.2.slots ≤ F.2.2.2.2.1.slots) (hst : stk = As.reverse ++ zr a :: st) (hw : (st.map z_c12).sum ≤ 8)
    (kk : ∀ r sz' I' J' R', Q r sz' I' J' R' → AW F (cells + d.2.2.2.2.cells) (slots + d.2.2.2.2.slots) sz' (pc + 3) lv (r.toList ++ st) I' J' R') : AW F cells slots sz pc lv stk I J R := by
  intro p l e s m args below meth c0 H locs ls G X hR hL hS
  subst hst
  obtain ⟨h1, h2, h3, h4, h5, h6⟩ := hc
  have hts := X.2.2.2.2.2.2.1
  obtain ⟨⟨C, T, N⟩, hcl, hC⟩ := Option.map_eq_some_iff.mp hC
  have hC : C = d.1.cls := hC
  subst hC
  obtain ⟨cell, q1, q2, q3, q4⟩ := (hR.2.2 a ha).2.2.2.2 c _ hs
  have hcls : s.vm.findClass d.1.cls = some cell.cls := by rw [q2]; exact (X.2.2.2.2.2.2.2.1.1.1 c _ hcl).2.1
  refine aw_back (d := d) X hL hS (va_runV (Ts := z_tb) (own := F.1.cls) (C := d.1.cls) (b := G.2.2 + a) (As := As.map (z_cv G.2.2)) (rest := st.map (z_cv G.2.2)) (bytes := d.2.1) (maxL := d.2.2.1) (ret := d.2.2.2.1) (n := n) ⟨X.1, X.2.1, X.2.2.1, X.2.2.2.2.2.1, hts⟩ (hM l G) ⟨⟨rfl, rfl, hrm.1, hrm.2, pay_in hts (z_goodIn h1), List.mem_cons_self, hts _ h1, hts _ h4, h5, z_sig h6, hts _ hl⟩, hts _ h2, hts _ h3⟩ ⟨z_blind, ⟨cell, q1, by rw [q3]; rfl, hcls⟩, fun U hU hW => ⟨rfl, X.2.2.2.2.2.2.2.1.moved hW, by rw [hU]; exact hR⟩⟩ rfl (by rw [List.length_map]; exact hn) (hL.2.1) (by simp [z_cv, z_rf]) (lv_room (z_wid _ _ hw)) hd hce) kk
theorem aw_invS {d : ZD} {As : List AwV} {idx n : Nat} {Q : ZQ} (hM : CT d As sz I J R Q) (hc : z_Cs d n) (hd : decode F.2.1 pc = .ok (.invokestatic idx, 3)) (hl : Cond.methodLink F.1.cls idx d.1 ∈ z_tb) (hn : As.length = n) (hrm : z_Rm d F) (hce : cells + d.2.2.2.2.cells ≤ F.2.2.2.2.1.cells ∧ slots + d.2.2.2.2.slots ≤ F.2.2.2.2.1.slots) (hst : stk = As.reverse ++ st) (hw : (st.map z_c12).sum ≤ 8)
    (kk : ∀ r sz' I' J' R', Q r sz' I' J' R' → AW F (cells + d.2.2.2.2.cells) (slots + d.2.2.2.2.slots) sz' (pc + 3) lv (r.toList ++ st) I' J' R') : AW F cells slots sz pc lv stk I J R := by
  intro p l e s m args below meth c0 H locs ls G X hR hL hS
  subst hst
  obtain ⟨h1, h2, h4, h5, h6⟩ := hc
  have hts := X.2.2.2.2.2.2.1
  refine aw_back (d := d) X hL hS (va_runS (Ts := z_tb) (own := F.1.cls) (As := As.map (z_cv G.2.2)) (rest := st.map (z_cv G.2.2)) (bytes := d.2.1) (maxL := d.2.2.1) (ret := d.2.2.2.1) (n := n) ⟨X.1, X.2.1, X.2.2.1, X.2.2.2.2.2.1, hts⟩ (hM l G) ⟨⟨rfl, rfl, hrm.1, hrm.2, pay_in hts (z_goodIn h1), List.mem_cons_self, hts _ h1, hts _ h4, h5, z_sig h6, hts _ hl⟩, hts _ h2⟩ ⟨z_blind, fun U hU hW => ⟨rfl, X.2.2.2.2.2.2.2.1.moved hW, by rw [hU]; exact hR⟩⟩ rfl (by rw [List.length_map]; exact hn) (hL.2.1) (by simp) (lv_room (z_wid _ _ hw)) hd hce) kk
theorem aw_invSN {d : ZD} {As : List AwV} {idx n : Nat} {Q : ZQ} {host : String} (hM : CT d As sz I J R Q) (hc : z_Cs d n) (hd : decode F.2.1 pc = .ok (.invokestatic idx, 3)) (hl : Cond.methodLinkNest F.1.cls idx d.1 host ∈ z_nl) (hn : As.length = n) (hrm : z_Rm d F) (hce : cells + d.2.2.2.2.cells ≤ F.2.2.2.2.1.cells ∧ slots + d.2.2.2.2.slots ≤ F.2.2.2.2.1.slots) (hst : stk = As.reverse ++ st) (hw : (st.map z_c12).sum ≤ 8)
    (kk : ∀ r sz' I' J' R', Q r sz' I' J' R' → AW F (cells + d.2.2.2.2.cells) (slots + d.2.2.2.2.slots) sz' (pc + 3) lv (r.toList ++ st) I' J' R') : AW F cells slots sz pc lv stk I J R := by
  intro p l e s m args below meth c0 H locs ls G X hR hL hS
  subst hst
  obtain ⟨h1, h2, h4, h5, h6⟩ := hc
  have hts := X.2.2.2.2.2.2.1
  refine aw_back (d := d) X hL hS (va_runSN (host := host) (Ts := z_tb) (own := F.1.cls) (As := As.map (z_cv G.2.2)) (rest := st.map (z_cv G.2.2)) (bytes := d.2.1) (maxL := d.2.2.1) (ret := d.2.2.2.1) (n := n) ⟨X.1, X.2.1, X.2.2.1, X.2.2.2.2.2.1, hts⟩ (hM l G) ⟨⟨⟨rfl, rfl, hrm.1, hrm.2, pay_in hts (z_goodIn h1), List.mem_cons_self⟩, hts _ h1, hts _ h4, h5, z_sig h6, va_Nw.use rfl (X.2.2.2.2.2.2.2.1.2 _ hl)⟩, hts _ h2, trivial⟩ ⟨z_blind, fun U hU hW => ⟨rfl, X.2.2.2.2.2.2.2.1.moved hW, by rw [hU]; exact hR⟩⟩ rfl (by rw [List.length_map]; exact hn) (hL.2.1) (by simp) (lv_room (z_wid _ _ hw)) hd hce) kk
end AWF
section AWE
variable {d : ZD} {Q : ZQ} {cells slots sz pc : Nat} {lv lv' : List (Option AwV)} {st stk : List AwV} {I J : AwI} {R : AwR}
theorem aw_ireturn {x : Int} (hd : decode d.2.1 pc = .ok (.ireturn, 1)) (hr : d.2.2.2.1 = some .int) (hc : cells ≤ d.2.2.2.2.cells ∧ slots ≤ d.2.2.2.2.slots) (hq : Q (some (zi x)) sz I J R) : AW (FM d Q) cells slots sz pc lv [zi x] I J R := by
  intro p l e s m args below meth c H locs ls G X hR hL hS
  refine W.widen hc.1 hc.2 ?_
  exact W.iret X.1 X.2.1 (X.2.2.2.1.trans hr) (fun t ht hW => ⟨⟨some (zi x), sz, I, J, R, rfl, hq, by rw [ht]; exact hR⟩, hS.F ht⟩) hS.2.2 hd X.2.2.2.2.1
theorem aw_zreturn {x : Int} (hd : decode d.2.1 pc = .ok (.ireturn, 1)) (hr : d.2.2.2.1 = some .boolean) (hx : x = 0 ∨ x = 1) (hc : cells ≤ d.2.2.2.2.cells ∧ slots ≤ d.2.2.2.2.slots) (hq : Q (some (zi x)) sz I J R) : AW (FM d Q) cells slots sz pc lv [zi x] I J R := by
  intro p l e s m args below meth c H locs ls G X hR hL hS
  refine W.widen hc.1 hc.2 ?_
  exact W.zret X.1 X.2.1 (X.2.2.2.1.trans hr) (by rcases hx with rfl | rfl <;> rfl) (fun t ht hW => ⟨⟨some (zi x), sz, I, J, R, rfl, hq, by rw [ht]; exact hR⟩, hS.F ht⟩) hS.2.2 hd X.2.2.2.2.1
theorem aw_lreturn {x : Int} (hd : decode d.2.1 pc = .ok (.lreturn, 1)) (hr : d.2.2.2.1 = some .long) (hc : cells ≤ d.2.2.2.2.cells ∧ slots ≤ d.2.2.2.2.slots) (hq : Q (some (zl x)) sz I J R) : AW (FM d Q) cells slots sz pc lv [zl x] I J R := by
  intro p l e s m args below meth c H locs ls G X hR hL hS
  refine W.widen hc.1 hc.2 ?_
  exact W.lret X.1 X.2.1 (X.2.2.2.1.trans hr) (fun t ht hW => ⟨⟨some (zl x), sz, I, J, R, rfl, hq, by rw [ht]; exact hR⟩, hS.F ht⟩) hS.2.2 hd X.2.2.2.2.1
theorem aw_areturn {a : Nat} {ty : String} (hd : decode d.2.1 pc = .ok (.areturn, 1)) (hr : d.2.2.2.1 = some (.object ty)) (hc : cells ≤ d.2.2.2.2.cells ∧ slots ≤ d.2.2.2.2.slots) (hq : Q (some (zr a)) sz I J R) : AW (FM d Q) cells slots sz pc lv [zr a] I J R := by
  intro p l e s m args below meth c H locs ls G X hR hL hS
  refine W.widen hc.1 hc.2 ?_
  exact W.aret X.1 X.2.1 (X.2.2.2.1.trans hr) (Or.inl ⟨_, rfl⟩) (Or.inr ⟨_, rfl⟩) (fun t ht hW => ⟨⟨some (zr a), sz, I, J, R, rfl, hq, by rw [ht]; exact hR⟩, hS.F ht⟩) hS.2.2 hd X.2.2.2.2.1
theorem aw_return (hd : decode d.2.1 pc = .ok (.return_, 1)) (hr : d.2.2.2.1 = none) (hc : cells ≤ d.2.2.2.2.cells ∧ slots ≤ d.2.2.2.2.slots) (hq : Q none sz I J R) : AW (FM d Q) cells slots sz pc lv [] I J R := by
  intro p l e s m args below meth c H locs ls G X hR hL hS
  refine W.widen hc.1 hc.2 ?_
  exact W.vret X.1 X.2.1 (X.2.2.2.1.trans hr) (fun t ht hW => ⟨⟨none, sz, I, J, R, rfl, hq, by rw [ht]; exact hR⟩, hS.F ht⟩) hS.2.2 hd X.2.2.2.2.1
end AWE
