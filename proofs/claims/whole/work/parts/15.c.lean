theorem CT.ofF {d : ZD} {as : List AwV} {sz : Nat} {I J : AwI} {R : AwR} {Q : ZQ} (hy : plainFor d.1 = true) (hn : (z_en1 as).length ≤ d.2.2.1) (h : AW (FM d Q) 0 0 sz 0 (z_en as d.2.2.1) [] I J R) : CT d as sz I J R Q := by
  intro l G
  refine Free.MetFree.of_bodySF (code := d.2.1) (maxLocals := d.2.2.1) (ret := d.2.2.2.1) hy ?_ ?_
  · intro args s m h hn
    obtain ⟨meth, c, h1, h2, h3, h4, h5, h6, -, -⟩ := Cond.code_spec hn (atoms_spec (ws := z_ws d) h _ List.mem_cons_self)
    exact ⟨meth, c, h1, h2, h3, h4, h5, h6⟩
  · intro p e s m args below meth c s₁ B hml hv _
    have hh0 : s₁.heap = s.heap := by rw [B.state]; rfl
    obtain ⟨rfl, hK, hRl⟩ := hv
    have hts := atoms_spec (ws := z_ws d) B.pre
    have K := h p l e s m ((as.map (z_cv G.2.2)).toArray) below meth c s.heap [] _ G ⟨B.exec, B.bytes, hml, B.returns, B.notSynchronized, findClass_of_methodNamed B.named, fun w hw => hts w (List.mem_cons_of_mem _ hw), hK, (name_of_methodNamed B.named B.method).1⟩ hRl (z_en_Lo _ as d.2.2.1 hn) va_S.rf
    rw [lg_entry_eq]
    obtain ⟨t, a1, o, b1, b2, b3⟩ := K s₁ hh0 (Stand.of_body B)
    exact ⟨t, o, a1, b1, b2, ⟨b3.1, b3.2⟩⟩
theorem z_sgn (x y : BitVec 32) : (x ^^^ y).toInt < 0 ↔ ¬ (x.toInt < 0 ↔ y.toInt < 0) := by
  have h1 := BitVec.msb_eq_toInt (x := x ^^^ y)
  have h2 := BitVec.msb_eq_toInt (x := x)
  have h3 := BitVec.msb_eq_toInt (x := y)
  rw [BitVec.msb_xor, h2, h3] at h1
  generalize (x ^^^ y).toInt = z at h1 ⊢
  generalize x.toInt = u at h1 ⊢
  generalize y.toInt = v at h1 ⊢
  by_cases a : u < 0 <;> by_cases b : v < 0 <;> by_cases c : z < 0 <;> simp [a, b, c] at h1 ⊢
theorem z_sgl (x y : BitVec 64) : (x ^^^ y).toInt < 0 ↔ ¬ (x.toInt < 0 ↔ y.toInt < 0) := by
  have h1 := BitVec.msb_eq_toInt (x := x ^^^ y)
  have h2 := BitVec.msb_eq_toInt (x := x)
  have h3 := BitVec.msb_eq_toInt (x := y)
  rw [BitVec.msb_xor, h2, h3] at h1
  generalize (x ^^^ y).toInt = z at h1 ⊢
  generalize x.toInt = u at h1 ⊢
  generalize y.toInt = v at h1 ⊢
  by_cases a : u < 0 <;> by_cases b : v < 0 <;> by_cases c : z < 0 <;> simp [a, b, c] at h1 ⊢
section AWX
variable {F : ZF} {cells slots sz pc : Nat} {lv lv' : List (Option AwV)} {st stk : List AwV} {I J : AwI} {R : AwR}
theorem aw_ixorS {x y : Int} (hd : decode F.2.1 pc = .ok (.ixor, 1)) (hx : -2147483648 ≤ x ∧ x ≤ 2147483647) (hy : -2147483648 ≤ y ∧ y ≤ 2147483647) (k : ∀ z : Int, (-2147483648 ≤ z ∧ z ≤ 2147483647) → (z < 0 ↔ ¬ (x < 0 ↔ y < 0)) → AW F cells slots sz (pc + 1) lv (zi z :: st) I J R) : AW F cells slots sz pc lv (zi y :: zi x :: st) I J R := by
  have e1 : (Int32.ofInt x).toInt = x := Int32.toInt_ofInt_of_le (by omega) (by omega)
  have e2 : (Int32.ofInt y).toInt = y := Int32.toInt_ofInt_of_le (by omega) (by omega)
  have h1 := (Int32.ofInt x ^^^ Int32.ofInt y).le_toInt
  have h2 := (Int32.ofInt x ^^^ Int32.ofInt y).toInt_lt
  have h3 : (Int32.ofInt x ^^^ Int32.ofInt y).toInt < 0 ↔ ¬ (x < 0 ↔ y < 0) := by
    have h4 := z_sgn (Int32.ofInt x).toBitVec (Int32.ofInt y).toBitVec
    have e3 : (Int32.ofInt x).toBitVec.toInt = x := e1
    have e4 : (Int32.ofInt y).toBitVec.toInt = y := e2
    rw [e3, e4] at h4
    exact h4
  have K0 := k (Int32.ofInt x ^^^ Int32.ofInt y).toInt (by omega) h3
  intro p l e s m args below meth c H locs ls G X hR hL hS
  have K := K0 p l e s m args below meth c H locs ls G X hR hL hS
  rw [List.map_cons, show z_cv G.2.2 (zi (Int32.ofInt x ^^^ Int32.ofInt y).toInt) = Value.int (Int32.ofInt x ^^^ Int32.ofInt y) from congrArg Value.int (Int32.ofInt_toInt _)] at K
  exact lv_ixor X.1 X.2.1 hd K
theorem aw_lxorS {x y : Int} (hd : decode F.2.1 pc = .ok (.lxor, 1)) (hx : -9223372036854775808 ≤ x ∧ x ≤ 9223372036854775807) (hy : -9223372036854775808 ≤ y ∧ y ≤ 9223372036854775807) (k : ∀ z : Int, (-9223372036854775808 ≤ z ∧ z ≤ 9223372036854775807) → (z < 0 ↔ ¬ (x < 0 ↔ y < 0)) → AW F cells slots sz (pc + 1) lv (zl z :: st) I J R) : AW F cells slots sz pc lv (zl y :: zl x :: st) I J R := by
  have e1 : (Int64.ofInt x).toInt = x := Int64.toInt_ofInt_of_le (by omega) (by omega)
  have e2 : (Int64.ofInt y).toInt = y := Int64.toInt_ofInt_of_le (by omega) (by omega)
  have h1 := (Int64.ofInt x ^^^ Int64.ofInt y).le_toInt
  have h2 := (Int64.ofInt x ^^^ Int64.ofInt y).toInt_lt
  have h3 : (Int64.ofInt x ^^^ Int64.ofInt y).toInt < 0 ↔ ¬ (x < 0 ↔ y < 0) := by
    have h4 := z_sgl (Int64.ofInt x).toBitVec (Int64.ofInt y).toBitVec
    have e3 : (Int64.ofInt x).toBitVec.toInt = x := e1
    have e4 : (Int64.ofInt y).toBitVec.toInt = y := e2
    rw [e3, e4] at h4
    exact h4
  have K0 := k (Int64.ofInt x ^^^ Int64.ofInt y).toInt (by omega) h3
  intro p l e s m args below meth c H locs ls G X hR hL hS
  have K := K0 p l e s m args below meth c H locs ls G X hR hL hS
  rw [List.map_cons, show z_cv G.2.2 (zl (Int64.ofInt x ^^^ Int64.ofInt y).toInt) = Value.long (Int64.ofInt x ^^^ Int64.ofInt y) from congrArg Value.long (Int64.ofInt_toInt _)] at K
  exact lv_lxor X.1 X.2.1 hd K
theorem aw_ushr {x n : Int} {a w : Nat} (hd : decode F.2.1 pc = .ok (.iushr, 1)) (hx : x = (a : Int)) (hn : n = (w : Int)) (ha : a < 2147483648) (hm : w < 31) (k : AW F cells slots sz (pc + 1) lv (zi ((a / 2 ^ w : Nat) : Int) :: st) I J R) : AW F cells slots sz pc lv (zi n :: zi x :: st) I J R := by
  subst hx hn
  intro p l e s m args below meth c H locs ls G X hR hL hS
  have e1 : ∀ m : Nat, m < 31 → (((nI m).toUInt32 &&& Int32.toUInt32 31).toBitVec % 32).toNat = m := by decide +kernel
  exact lv_iushr X.1 X.2.1 hd (v := Int32.ofInt ((a / 2 ^ w : Nat) : Int)) (by rw [z_ofN, z_ofN, z_ofN]; exact pk_ushrN (by omega) _ w (e1 w hm)) (k p l e s m args below meth c H locs ls G X hR hL hS)
theorem aw_land1 {x : Int} (hd : decode F.2.1 pc = .ok (.land, 1)) (k : AW F cells slots sz (pc + 1) lv (zl (x % 2) :: st) I J R) : AW F cells slots sz pc lv (zl 1 :: zl x :: st) I J R := by
  intro p l e s m args below meth c H locs ls G X hR hL hS
  have K := k p l e s m args below meth c H locs ls G X hR hL hS
  have e1 : Int64.ofInt (x % 2) = Int64.ofInt x &&& Int64.ofInt 1 := by
    apply Int64.toBitVec_inj.1
    show BitVec.ofInt 64 (x % 2) = BitVec.ofInt 64 x &&& BitVec.ofInt 64 1
    apply BitVec.eq_of_toNat_eq
    rw [BitVec.toNat_and, BitVec.toNat_ofInt, BitVec.toNat_ofInt, BitVec.toNat_ofInt]
    rw [show (((1 : Int) % ((2 ^ 64 : Nat) : Int)).toNat) = 1 by decide, Nat.and_one_is_mod]
    have h1 : x % ((2 ^ 64 : Nat) : Int) % 2 = x % 2 := Int.emod_emod_of_dvd x (by decide)
    have h2 : 0 ≤ x % ((2 ^ 64 : Nat) : Int) := Int.emod_nonneg _ (by decide)
    have h5 : x % 2 < 2 := Int.emod_lt_of_pos x (by omega)
    have h6 : ((2 ^ 64 : Nat) : Int) = 18446744073709551616 := by decide
    have h3 : x % 2 % ((2 ^ 64 : Nat) : Int) = x % 2 := Int.emod_eq_of_lt (by omega) (by rw [h6]; omega)
    rw [h3]
    omega
  rw [List.map_cons, show z_cv G.2.2 (zl (x % 2)) = Value.long (Int64.ofInt x &&& Int64.ofInt 1) from congrArg Value.long e1] at K
  exact lv_land X.1 X.2.1 hd K
theorem aw_aastoreQ {a n v : Nat} {i : Int} (hd : decode F.2.1 pc = .ok (.aastore, 1)) (ha : a < sz) (hz : sz ≤ 255) (hs : z_sh a = (2, n)) (hi : 0 ≤ i ∧ i < (n : Int)) (hv : v < sz) (hsv : z_sh v = (4 + 10, 9)) (k : AW F cells slots sz (pc + 1) lv st I J (z_up R a i.toNat (some v))) : AW F cells slots sz pc lv (zr v :: zi i :: zr a :: st) I J R := by
  intro p l e s m args below meth c H locs ls G X hR hL hS
  have hn := z_shn (by omega) hs
  have hc := (hR.2.2 a ha).2.2.1 n hs
  have hin := i32in hi hn
  obtain ⟨cellV, g1, g2, g3, -⟩ := (hR.2.2 v hv).2.2.2.2 4 9 hsv
  have hcls := (X.2.2.2.2.2.2.2.1.1.1 4 _ rfl).2
  obtain ⟨kA, comp, k1, k2, k3, -⟩ := (X.2.2.2.2.2.2.2.1.1.2 2 _ rfl).2
  have hcomp : comp = G.1.1 4 := Option.some.inj (k3.symm.trans hcls.1)
  subst hcomp
  obtain ⟨kC, hkC, -⟩ := hcls.2
  refine W.aast X.1 X.2.1 hc (fun q h => by cases h) (fun h => by cases h) k1 k2 rfl hkC ⟨fun q => hin (Or.inl q), by show _ < (arrV _ _ _).slots.size; rw [arrV_size]; exact Nat.not_le.mp fun q => hin (Or.inr q)⟩ g1 (fun q h => by rw [g3] at h; cases h) (by rw [g2]; exact hkC) (by rw [g2]; exact va_assign hcls) rfl rfl hd fun H1 he hz1 oq => ?_
  refine k p l e s m args below meth c H1 _ ls G X ⟨fun q => by rw [hz1]; exact hR.1 q, by rw [hz1]; exact hR.2.1, fun a' ha' => ?_⟩ hL (z_Sput hS hz1 oq (Nat.le_add_right _ _))
  by_cases e : a' = a
  · subst e
    refine ⟨fun n2 hs2 => ?_, fun n2 hs2 => ?_, fun n2 hs2 => ?_, fun n2 hs2 => ?_, fun c2 n2 hs2 => ?_⟩
    all_goals (rw [hs] at hs2)
    all_goals (first | (cases hs2; done) | (injection hs2 with h1 h2; omega) | skip)
    cases hs2
    rw [he, i32cl (by omega), arrV_store]
    congr 2
    funext q
    by_cases hq : q = i.toNat
    · subst hq; simp [updV, z_up, z_rf]
    · simp [updV, z_up, hq]
  · exact (hR.2.2 a' ha').upR e oq
end AWX
theorem z_tm {x y : Int} (hy : 0 < y) : x.tmod y = if x < 0 ∧ x % y ≠ 0 then x % y - y else x % y := by
  rw [Int.tmod_eq_emod]
  by_cases h : 0 ≤ x
  · rw [if_pos (Or.inl h), if_neg (by omega)]; omega
  · by_cases h2 : x % y = 0
    · rw [if_pos (Or.inr (Int.dvd_of_emod_eq_zero h2)), if_neg (by omega)]; omega
    · rw [if_neg (fun q => q.elim h (fun q => h2 (Int.emod_eq_zero_of_dvd q))), if_pos ⟨by omega, h2⟩]
      omega
theorem z_td {x y : Int} (hy : 0 < y) : x.tdiv y = if x < 0 ∧ x % y ≠ 0 then x / y + 1 else x / y := by
  rw [Int.tdiv_eq_ediv]
  by_cases h : 0 ≤ x
  · rw [if_pos (Or.inl h), if_neg (by omega)]; omega
  · by_cases h2 : x % y = 0
    · rw [if_pos (Or.inr (Int.dvd_of_emod_eq_zero h2)), if_neg (by omega)]; omega
    · rw [if_neg (fun q => q.elim h (fun q => h2 (Int.emod_eq_zero_of_dvd q))), if_pos ⟨by omega, h2⟩, Int.sign_eq_one_of_pos hy]
def z_cnt (s : Nat) : Nat → Nat
  | 0 => 0
  | n + 1 => z_cnt s n + (if s.testBit n then 1 else 0)
def z_bc3 (a : Nat) : Nat := a - ((a / 2 ^ 1) &&& 1431655765)
def z_bc4 (b : Nat) : Nat := (b &&& 858993459) + ((b / 2 ^ 2) &&& 858993459)
def z_bc5 (c : Nat) : Nat := (c + c / 2 ^ 4) &&& 252645135
def z_bc6 (d : Nat) : Nat := d + d / 2 ^ 8
def z_bc7 (e : Nat) : Nat := e + e / 2 ^ 16
theorem z_bcA : ∀ a, a < 1024 → (z_bc7 (z_bc6 (z_bc5 (z_bc4 (z_bc3 a))))) &&& 63 = z_cnt a 10 := by decide +kernel
theorem z_bcB : ∀ a, a < 1024 → ((a / 2 ^ 1) &&& 1431655765) ≤ a ∧ z_bc3 a < 100000 ∧ z_bc4 (z_bc3 a) < 100000 ∧ z_bc5 (z_bc4 (z_bc3 a)) < 100000 ∧ z_bc6 (z_bc5 (z_bc4 (z_bc3 a))) < 100000 := by decide +kernel
def z_ab (x : Int) : Int := if x < 0 then -x else x
def z_mx (x y : Int) : Int := if x < y then y else x
def z_mn (x y : Int) : Int := if y < x then y else x
set_option maxHeartbeats 4000000 in
theorem c_abs {R : AwR} {I J : AwI} {x : Int} (hx : -2147483648 ≤ x ∧ x ≤ 2147483647) : CT m_J9_abs_0f7a4 [zi x] 255 I J R (z_P (some (zi (z_ab x))) 255 I J R) := by
  refine CT.ofF (by decide +kernel) (Nat.le_of_ble_eq_true rfl) ?_
  show AW _ 0 0 _ 0 _ [] _ _ _
  refine aw_iload_n (pc := 0) dJ9_abs_0f7a4_0 rfl ?_
  refine aw_if_ge (pc := 1) (tgt := 9) dJ9_abs_0f7a4_1 rfl (by first | omega | exact z_bl_r _) (fun h1 => ?_) (fun h1 => ?_)
  · refine aw_iload_n (pc := 9) dJ9_abs_0f7a4_9 rfl ?_
    exact aw_ireturn (pc := 10) dJ9_abs_0f7a4_10 rfl ⟨Nat.zero_le _, Nat.zero_le _⟩ (⟨by congr 2; unfold z_ab; split <;> omega, rfl, rfl, rfl, rfl⟩)
  · refine aw_iload_n (pc := 4) dJ9_abs_0f7a4_4 rfl ?_
    refine aw_ineg (pc := 5) dJ9_abs_0f7a4_5 ?_
    refine aw_goto (pc := 6) (tgt := 10) dJ9_abs_0f7a4_6 rfl ?_
    exact aw_ireturn (pc := 10) dJ9_abs_0f7a4_10 rfl ⟨Nat.zero_le _, Nat.zero_le _⟩ (⟨by congr 2; unfold z_ab; split <;> omega, rfl, rfl, rfl, rfl⟩)
set_option maxHeartbeats 4000000 in
theorem c_absL {R : AwR} {I J : AwI} {x : Int} (hx : -9223372036854775808 ≤ x ∧ x ≤ 9223372036854775807) : CT m_J9_abs_067f4 [zl x] 255 I J R (z_P (some (zl (z_ab x))) 255 I J R) := by
  refine CT.ofF (by decide +kernel) (Nat.le_of_ble_eq_true rfl) ?_
  show AW _ 0 0 _ 0 _ [] _ _ _
  refine aw_lload_n (pc := 0) dJ9_abs_067f4_0 rfl ?_
  refine aw_lconst (pc := 1) (v := 0) dJ9_abs_067f4_1 rfl ?_
  refine aw_lcmp_ge (pc := 2) (tgt := 11) dJ9_abs_067f4_2 dJ9_abs_067f4_3 rfl (by first | omega | exact z_bl_r _) (by first | omega | exact z_bl_r _) (fun h2 => ?_) (fun h2 => ?_)
  · refine aw_lload_n (pc := 11) dJ9_abs_067f4_11 rfl ?_
    exact aw_lreturn (pc := 12) dJ9_abs_067f4_12 rfl ⟨Nat.zero_le _, Nat.zero_le _⟩ (⟨by congr 2; unfold z_ab; split <;> omega, rfl, rfl, rfl, rfl⟩)
  · refine aw_lload_n (pc := 6) dJ9_abs_067f4_6 rfl ?_
    refine aw_lneg (pc := 7) dJ9_abs_067f4_7 ?_
    refine aw_goto (pc := 8) (tgt := 12) dJ9_abs_067f4_8 rfl ?_
    exact aw_lreturn (pc := 12) dJ9_abs_067f4_12 rfl ⟨Nat.zero_le _, Nat.zero_le _⟩ (⟨by congr 2; unfold z_ab; split <;> omega, rfl, rfl, rfl, rfl⟩)
set_option maxHeartbeats 4000000 in
theorem c_max {R : AwR} {I J : AwI} {x y : Int} (hx : -2147483648 ≤ x ∧ x ≤ 2147483647) (hy : -2147483648 ≤ y ∧ y ≤ 2147483647) : CT m_J9_max_7cf53 [zi x, zi y] 255 I J R (z_P (some (zi (z_mx x y))) 255 I J R) := by
  refine CT.ofF (by decide +kernel) (Nat.le_of_ble_eq_true rfl) ?_
  show AW _ 0 0 _ 0 _ [] _ _ _
  refine aw_iload_n (pc := 0) dJ9_max_7cf53_0 rfl ?_
  refine aw_iload_n (pc := 1) dJ9_max_7cf53_1 rfl ?_
  refine aw_icmp_lt (pc := 2) (tgt := 9) dJ9_max_7cf53_2 rfl (by first | omega | exact z_bl_r _) (by first | omega | exact z_bl_r _) (fun h2 => ?_) (fun h2 => ?_)
  · refine aw_iload_n (pc := 9) dJ9_max_7cf53_9 rfl ?_
    exact aw_ireturn (pc := 10) dJ9_max_7cf53_10 rfl ⟨Nat.zero_le _, Nat.zero_le _⟩ (⟨by congr 2; unfold z_mx; split <;> omega, rfl, rfl, rfl, rfl⟩)
  · refine aw_iload_n (pc := 5) dJ9_max_7cf53_5 rfl ?_
    refine aw_goto (pc := 6) (tgt := 10) dJ9_max_7cf53_6 rfl ?_
    exact aw_ireturn (pc := 10) dJ9_max_7cf53_10 rfl ⟨Nat.zero_le _, Nat.zero_le _⟩ (⟨by congr 2; unfold z_mx; split <;> omega, rfl, rfl, rfl, rfl⟩)
set_option maxHeartbeats 4000000 in
theorem c_min {R : AwR} {I J : AwI} {x y : Int} (hx : -2147483648 ≤ x ∧ x ≤ 2147483647) (hy : -2147483648 ≤ y ∧ y ≤ 2147483647) : CT m_J9_min_7cf53 [zi x, zi y] 255 I J R (z_P (some (zi (z_mn x y))) 255 I J R) := by
  refine CT.ofF (by decide +kernel) (Nat.le_of_ble_eq_true rfl) ?_
  show AW _ 0 0 _ 0 _ [] _ _ _
  refine aw_iload_n (pc := 0) dJ9_min_7cf53_0 rfl ?_
  refine aw_iload_n (pc := 1) dJ9_min_7cf53_1 rfl ?_
  refine aw_icmp_gt (pc := 2) (tgt := 9) dJ9_min_7cf53_2 rfl (by first | omega | exact z_bl_r _) (by first | omega | exact z_bl_r _) (fun h2 => ?_) (fun h2 => ?_)
  · refine aw_iload_n (pc := 9) dJ9_min_7cf53_9 rfl ?_
    exact aw_ireturn (pc := 10) dJ9_min_7cf53_10 rfl ⟨Nat.zero_le _, Nat.zero_le _⟩ (⟨by congr 2; unfold z_mn; split <;> omega, rfl, rfl, rfl, rfl⟩)
  · refine aw_iload_n (pc := 5) dJ9_min_7cf53_5 rfl ?_
    refine aw_goto (pc := 6) (tgt := 10) dJ9_min_7cf53_6 rfl ?_
    exact aw_ireturn (pc := 10) dJ9_min_7cf53_10 rfl ⟨Nat.zero_le _, Nat.zero_le _⟩ (⟨by congr 2; unfold z_mn; split <;> omega, rfl, rfl, rfl, rfl⟩)
set_option maxHeartbeats 4000000 in
theorem c_maxL {R : AwR} {I J : AwI} {x y : Int} (hx : -9223372036854775808 ≤ x ∧ x ≤ 9223372036854775807) (hy : -9223372036854775808 ≤ y ∧ y ≤ 9223372036854775807) : CT m_J9_max_f86c9 [zl x, zl y] 255 I J R (z_P (some (zl (z_mx x y))) 255 I J R) := by
  refine CT.ofF (by decide +kernel) (Nat.le_of_ble_eq_true rfl) ?_
  show AW _ 0 0 _ 0 _ [] _ _ _
  refine aw_lload_n (pc := 0) dJ9_max_f86c9_0 rfl ?_
  refine aw_lload_n (pc := 1) dJ9_max_f86c9_1 rfl ?_
  refine aw_lcmp_lt (pc := 2) (tgt := 10) dJ9_max_f86c9_2 dJ9_max_f86c9_3 rfl (by first | omega | exact z_bl_r _) (by first | omega | exact z_bl_r _) (fun h2 => ?_) (fun h2 => ?_)
  · refine aw_lload_n (pc := 10) dJ9_max_f86c9_10 rfl ?_
    exact aw_lreturn (pc := 11) dJ9_max_f86c9_11 rfl ⟨Nat.zero_le _, Nat.zero_le _⟩ (⟨by congr 2; unfold z_mx; split <;> omega, rfl, rfl, rfl, rfl⟩)
  · refine aw_lload_n (pc := 6) dJ9_max_f86c9_6 rfl ?_
    refine aw_goto (pc := 7) (tgt := 11) dJ9_max_f86c9_7 rfl ?_
    exact aw_lreturn (pc := 11) dJ9_max_f86c9_11 rfl ⟨Nat.zero_le _, Nat.zero_le _⟩ (⟨by congr 2; unfold z_mx; split <;> omega, rfl, rfl, rfl, rfl⟩)
set_option maxHeartbeats 4000000 in
theorem c_floorMod {R : AwR} {I J : AwI} {x y : Int} (hx : -2147483648 ≤ x ∧ x ≤ 2147483647) (hy : 0 < y ∧ y ≤ 100000) : CT m_J9_floorMod_7cf53 [zi x, zi y] 255 I J R (z_P (some (zi (x % y))) 255 I J R) := by
  refine CT.ofF (by decide +kernel) (Nat.le_of_ble_eq_true rfl) ?_
  show AW _ 0 0 _ 0 _ [] _ _ _
  refine aw_iload_n (pc := 0) dJ9_floorMod_7cf53_0 rfl ?_
  refine aw_iload_n (pc := 1) dJ9_floorMod_7cf53_1 rfl ?_
  refine aw_irem (pc := 2) dJ9_floorMod_7cf53_2 (by first | omega | exact z_bl_r _) (by first | omega | exact z_bl_r _) (by first | omega | exact z_bl_r _) ?_
  have hm := z_tm (x := x) (y := y) hy.1
  have hm1 := Int.emod_nonneg x (show y ≠ 0 by omega)
  have hm2 := Int.emod_lt_of_pos x hy.1
  refine aw_istore_n (pc := 3) (lv' := [_, _, _]) dJ9_floorMod_7cf53_3 (Nat.le_of_ble_eq_true rfl) rfl ?_
  refine aw_iload_n (pc := 4) dJ9_floorMod_7cf53_4 rfl ?_
  refine aw_iload_n (pc := 5) dJ9_floorMod_7cf53_5 rfl ?_
  refine aw_ixorS (pc := 6) dJ9_floorMod_7cf53_6 (by omega) (by omega) (fun z hz1 hz2 => ?_)
  refine aw_if_ge (pc := 7) (tgt := 18) dJ9_floorMod_7cf53_7 rfl (by first | omega | exact z_bl_r _) (fun h7 => ?_) (fun h7 => ?_)
  · refine aw_iload_n (pc := 18) dJ9_floorMod_7cf53_18 rfl ?_
    exact aw_ireturn (pc := 19) dJ9_floorMod_7cf53_19 rfl ⟨Nat.zero_le _, Nat.zero_le _⟩ (⟨by congr 2; omega, rfl, rfl, rfl, rfl⟩)
  · refine aw_iload_n (pc := 10) dJ9_floorMod_7cf53_10 rfl ?_
    refine aw_if_eq (pc := 11) (tgt := 18) dJ9_floorMod_7cf53_11 rfl (by first | omega | exact z_bl_r _) (fun h11 => ?_) (fun h11 => ?_)
    · refine aw_iload_n (pc := 18) dJ9_floorMod_7cf53_18 rfl ?_
      exact aw_ireturn (pc := 19) dJ9_floorMod_7cf53_19 rfl ⟨Nat.zero_le _, Nat.zero_le _⟩ (⟨by congr 2; omega, rfl, rfl, rfl, rfl⟩)
    · refine aw_iload_n (pc := 14) dJ9_floorMod_7cf53_14 rfl ?_
      refine aw_iload_n (pc := 15) dJ9_floorMod_7cf53_15 rfl ?_
      refine aw_iadd (pc := 16) dJ9_floorMod_7cf53_16 ?_
      exact aw_ireturn (pc := 17) dJ9_floorMod_7cf53_17 rfl ⟨Nat.zero_le _, Nat.zero_le _⟩ (⟨by congr 2; omega, rfl, rfl, rfl, rfl⟩)
set_option maxHeartbeats 4000000 in
theorem c_floorDiv {R : AwR} {I J : AwI} {x y : Int} (hx : -2147483648 ≤ x ∧ x ≤ 2147483647) (hy : 0 < y ∧ y ≤ 100000) : CT m_J9_floorDiv_7cf53 [zi x, zi y] 255 I J R (z_P (some (zi (x / y))) 255 I J R) := by
  refine CT.ofF (by decide +kernel) (Nat.le_of_ble_eq_true rfl) ?_
  show AW _ 0 0 _ 0 _ [] _ _ _
  refine aw_iload_n (pc := 0) dJ9_floorDiv_7cf53_0 rfl ?_
  refine aw_iload_n (pc := 1) dJ9_floorDiv_7cf53_1 rfl ?_
  refine aw_idiv (pc := 2) dJ9_floorDiv_7cf53_2 (by first | omega | exact z_bl_r _) (by first | omega | exact z_bl_r _) (by first | omega | exact z_bl_r _) ?_
  have hm := z_td (x := x) (y := y) hy.1
  have hm0 := z_tm (x := x) (y := y) hy.1
  have hm1 := Int.emod_nonneg x (show y ≠ 0 by omega)
  have hm2 := Int.emod_lt_of_pos x hy.1
  have hm4 : x.tdiv y * y = x - x.tmod y := by have := Int.tmod_def x y; rw [Int.mul_comm] at this; omega
  refine aw_istore_n (pc := 3) (lv' := [_, _, _]) dJ9_floorDiv_7cf53_3 (Nat.le_of_ble_eq_true rfl) rfl ?_
  refine aw_iload_n (pc := 4) dJ9_floorDiv_7cf53_4 rfl ?_
  refine aw_iload_n (pc := 5) dJ9_floorDiv_7cf53_5 rfl ?_
  refine aw_ixorS (pc := 6) dJ9_floorDiv_7cf53_6 (by omega) (by omega) (fun z hz1 hz2 => ?_)
  refine aw_if_ge (pc := 7) (tgt := 21) dJ9_floorDiv_7cf53_7 rfl (by first | omega | exact z_bl_r _) (fun h7 => ?_) (fun h7 => ?_)
  · refine aw_iload_n (pc := 21) dJ9_floorDiv_7cf53_21 rfl ?_
    exact aw_ireturn (pc := 22) dJ9_floorDiv_7cf53_22 rfl ⟨Nat.zero_le _, Nat.zero_le _⟩ (⟨by congr 2; first | omega | (rw [hm4] at h14; omega), rfl, rfl, rfl, rfl⟩)
  · refine aw_iload_n (pc := 10) dJ9_floorDiv_7cf53_10 rfl ?_
    refine aw_iload_n (pc := 11) dJ9_floorDiv_7cf53_11 rfl ?_
    refine aw_imul (pc := 12) dJ9_floorDiv_7cf53_12 ?_
    refine aw_iload_n (pc := 13) dJ9_floorDiv_7cf53_13 rfl ?_
    refine aw_icmp_eq (pc := 14) (tgt := 21) dJ9_floorDiv_7cf53_14 rfl (by rw [hm4]; omega) (by omega) (fun h14 => ?_) (fun h14 => ?_)
    · refine aw_iload_n (pc := 21) dJ9_floorDiv_7cf53_21 rfl ?_
      exact aw_ireturn (pc := 22) dJ9_floorDiv_7cf53_22 rfl ⟨Nat.zero_le _, Nat.zero_le _⟩ (⟨by congr 2; first | omega | (rw [hm4] at h14; omega), rfl, rfl, rfl, rfl⟩)
    · refine aw_iload_n (pc := 17) dJ9_floorDiv_7cf53_17 rfl ?_
      refine aw_iconst (pc := 18) dJ9_floorDiv_7cf53_18 ?_
      refine aw_isub (pc := 19) dJ9_floorDiv_7cf53_19 ?_
      exact aw_ireturn (pc := 20) dJ9_floorDiv_7cf53_20 rfl ⟨Nat.zero_le _, Nat.zero_le _⟩ (⟨by congr 2; first | omega | (rw [hm4] at h14; omega), rfl, rfl, rfl, rfl⟩)
set_option maxHeartbeats 4000000 in
theorem c_floorModL {R : AwR} {I J : AwI} {x y : Int} (hx : -1000000000000000000 ≤ x ∧ x ≤ 1000000000000000000) (hy : 0 < y ∧ y ≤ 100000) : CT m_J9_floorMod_f86c9 [zl x, zl y] 255 I J R (z_P (some (zl (x % y))) 255 I J R) := by
  refine CT.ofF (by decide +kernel) (Nat.le_of_ble_eq_true rfl) ?_
  show AW _ 0 0 _ 0 _ [] _ _ _
  refine aw_lload_n (pc := 0) dJ9_floorMod_f86c9_0 rfl ?_
  refine aw_lload_n (pc := 1) dJ9_floorMod_f86c9_1 rfl ?_
  refine aw_lrem (pc := 2) dJ9_floorMod_f86c9_2 (by first | omega | exact z_bl_r _) (by first | omega | exact z_bl_r _) (by first | omega | exact z_bl_r _) ?_
  have hm := z_tm (x := x) (y := y) hy.1
  have hm1 := Int.emod_nonneg x (show y ≠ 0 by omega)
  have hm2 := Int.emod_lt_of_pos x hy.1
  refine aw_lstore (pc := 3) (lv' := [_, _, _, _, _, _]) dJ9_floorMod_f86c9_3 (Nat.le_of_ble_eq_true rfl) rfl ?_
  refine aw_lload_n (pc := 5) dJ9_floorMod_f86c9_5 rfl ?_
  refine aw_lload_n (pc := 6) dJ9_floorMod_f86c9_6 rfl ?_
  refine aw_lxorS (pc := 7) dJ9_floorMod_f86c9_7 (by omega) (by omega) (fun z hz1 hz2 => ?_)
  refine aw_lconst (pc := 8) (v := 0) dJ9_floorMod_f86c9_8 rfl ?_
  refine aw_lcmp_ge (pc := 9) (tgt := 25) dJ9_floorMod_f86c9_9 dJ9_floorMod_f86c9_10 rfl (by first | omega | exact z_bl_r _) (by first | omega | exact z_bl_r _) (fun h9 => ?_) (fun h9 => ?_)
  · refine aw_lload (pc := 25) dJ9_floorMod_f86c9_25 rfl ?_
    exact aw_lreturn (pc := 27) dJ9_floorMod_f86c9_27 rfl ⟨Nat.zero_le _, Nat.zero_le _⟩ (⟨by congr 2; omega, rfl, rfl, rfl, rfl⟩)
  · refine aw_lload (pc := 13) dJ9_floorMod_f86c9_13 rfl ?_
    refine aw_lconst (pc := 15) (v := 0) dJ9_floorMod_f86c9_15 rfl ?_
    refine aw_lcmp_eq (pc := 16) (tgt := 25) dJ9_floorMod_f86c9_16 dJ9_floorMod_f86c9_17 rfl (by first | omega | exact z_bl_r _) (by first | omega | exact z_bl_r _) (fun h16 => ?_) (fun h16 => ?_)
    · refine aw_lload (pc := 25) dJ9_floorMod_f86c9_25 rfl ?_
      exact aw_lreturn (pc := 27) dJ9_floorMod_f86c9_27 rfl ⟨Nat.zero_le _, Nat.zero_le _⟩ (⟨by congr 2; omega, rfl, rfl, rfl, rfl⟩)
    · refine aw_lload (pc := 20) dJ9_floorMod_f86c9_20 rfl ?_
      refine aw_lload_n (pc := 22) dJ9_floorMod_f86c9_22 rfl ?_
      refine aw_ladd (pc := 23) dJ9_floorMod_f86c9_23 ?_
      exact aw_lreturn (pc := 24) dJ9_floorMod_f86c9_24 rfl ⟨Nat.zero_le _, Nat.zero_le _⟩ (⟨by congr 2; omega, rfl, rfl, rfl, rfl⟩)
set_option maxHeartbeats 4000000 in
theorem c_floorDivL {R : AwR} {I J : AwI} {x y : Int} (hx : -1000000000000000000 ≤ x ∧ x ≤ 1000000000000000000) (hy : 0 < y ∧ y ≤ 100000) : CT m_J9_floorDiv_f86c9 [zl x, zl y] 255 I J R (z_P (some (zl (x / y))) 255 I J R) := by
  refine CT.ofF (by decide +kernel) (Nat.le_of_ble_eq_true rfl) ?_
  show AW _ 0 0 _ 0 _ [] _ _ _
  refine aw_lload_n (pc := 0) dJ9_floorDiv_f86c9_0 rfl ?_
  refine aw_lload_n (pc := 1) dJ9_floorDiv_f86c9_1 rfl ?_
  refine aw_ldiv (pc := 2) dJ9_floorDiv_f86c9_2 (by first | omega | exact z_bl_r _) (by first | omega | exact z_bl_r _) (by first | omega | exact z_bl_r _) ?_
  have hm := z_td (x := x) (y := y) hy.1
  have hm0 := z_tm (x := x) (y := y) hy.1
  have hm1 := Int.emod_nonneg x (show y ≠ 0 by omega)
  have hm2 := Int.emod_lt_of_pos x hy.1
  have hm4 : x.tdiv y * y = x - x.tmod y := by have := Int.tmod_def x y; rw [Int.mul_comm] at this; omega
  refine aw_lstore (pc := 3) (lv' := [_, _, _, _, _, _]) dJ9_floorDiv_f86c9_3 (Nat.le_of_ble_eq_true rfl) rfl ?_
  refine aw_lload_n (pc := 5) dJ9_floorDiv_f86c9_5 rfl ?_
  refine aw_lload_n (pc := 6) dJ9_floorDiv_f86c9_6 rfl ?_
  refine aw_lxorS (pc := 7) dJ9_floorDiv_f86c9_7 (by omega) (by omega) (fun z hz1 hz2 => ?_)
  refine aw_lconst (pc := 8) (v := 0) dJ9_floorDiv_f86c9_8 rfl ?_
  refine aw_lcmp_ge (pc := 9) (tgt := 27) dJ9_floorDiv_f86c9_9 dJ9_floorDiv_f86c9_10 rfl (by first | omega | exact z_bl_r _) (by first | omega | exact z_bl_r _) (fun h9 => ?_) (fun h9 => ?_)
  · refine aw_lload (pc := 27) dJ9_floorDiv_f86c9_27 rfl ?_
    exact aw_lreturn (pc := 29) dJ9_floorDiv_f86c9_29 rfl ⟨Nat.zero_le _, Nat.zero_le _⟩ (⟨by congr 2; first | omega | omega, rfl, rfl, rfl, rfl⟩)
  · refine aw_lload (pc := 13) dJ9_floorDiv_f86c9_13 rfl ?_
    refine aw_lload_n (pc := 15) dJ9_floorDiv_f86c9_15 rfl ?_
    refine aw_lmul (pc := 16) dJ9_floorDiv_f86c9_16 ?_
    rw [hm4]
    refine aw_lload_n (pc := 17) dJ9_floorDiv_f86c9_17 rfl ?_
    refine aw_lcmp_eq (pc := 18) (tgt := 27) dJ9_floorDiv_f86c9_18 dJ9_floorDiv_f86c9_19 rfl (by omega) (by omega) (fun h18 => ?_) (fun h18 => ?_)
    · refine aw_lload (pc := 27) dJ9_floorDiv_f86c9_27 rfl ?_
      exact aw_lreturn (pc := 29) dJ9_floorDiv_f86c9_29 rfl ⟨Nat.zero_le _, Nat.zero_le _⟩ (⟨by congr 2; first | omega | omega, rfl, rfl, rfl, rfl⟩)
    · refine aw_lload (pc := 22) dJ9_floorDiv_f86c9_22 rfl ?_
      refine aw_lconst (pc := 24) (v := 1) dJ9_floorDiv_f86c9_24 rfl ?_
      refine aw_lsub (pc := 25) dJ9_floorDiv_f86c9_25 ?_
      exact aw_lreturn (pc := 26) dJ9_floorDiv_f86c9_26 rfl ⟨Nat.zero_le _, Nat.zero_le _⟩ (⟨by congr 2; first | omega | omega, rfl, rfl, rfl, rfl⟩)
set_option maxHeartbeats 4000000 in
theorem c_bitCount {R : AwR} {I J : AwI} {s : Nat} (hs : s < 1024) : CT m_J6_bitCount_0f7a4 [zi (s : Int)] 255 I J R (z_P (some (zi (z_cnt s 10 : Int))) 255 I J R) := by
  refine CT.of (by decide) (Nat.le_of_ble_eq_true rfl) ?_
  show AW _ 0 0 _ 0 [some (zi (s : Int))] [] _ _ _
  obtain ⟨q1, q2, q3, q4, q5⟩ := z_bcB s hs
  refine aw_iload_n (pc := 0) dJ6_bitCount_0f7a4_0 rfl ?_
  refine aw_iload_n (pc := 1) dJ6_bitCount_0f7a4_1 rfl ?_
  refine aw_iconst (pc := 2) dJ6_bitCount_0f7a4_2 ?_
  refine aw_ushr (pc := 3) dJ6_bitCount_0f7a4_3 rfl (w := 1) rfl (by omega) (by omega) ?_
  refine aw_ldcw (pc := 4) (v := 1431655765) dJ6_bitCount_0f7a4_4 k_cst_J6_265 ?_
  refine aw_iand (pc := 7) dJ6_bitCount_0f7a4_7 rfl (b := 1431655765) rfl ?_
  refine aw_isub (pc := 8) dJ6_bitCount_0f7a4_8 ?_
  rw [show (s : Int) - (((s / 2 ^ 1) &&& 1431655765 : Nat) : Int) = (z_bc3 s : Int) by unfold z_bc3; omega]
  refine aw_istore_n (pc := 9) (lv' := [_]) dJ6_bitCount_0f7a4_9 (Nat.le_of_ble_eq_true rfl) rfl ?_
  refine aw_iload_n (pc := 10) dJ6_bitCount_0f7a4_10 rfl ?_
  refine aw_ldcw (pc := 11) (v := 858993459) dJ6_bitCount_0f7a4_11 k_cst_J6_266 ?_
  refine aw_iand (pc := 14) dJ6_bitCount_0f7a4_14 rfl (b := 858993459) rfl ?_
  refine aw_iload_n (pc := 15) dJ6_bitCount_0f7a4_15 rfl ?_
  refine aw_iconst (pc := 16) dJ6_bitCount_0f7a4_16 ?_
  refine aw_ushr (pc := 17) dJ6_bitCount_0f7a4_17 rfl (w := 2) rfl (by omega) (by omega) ?_
  refine aw_ldcw (pc := 18) (v := 858993459) dJ6_bitCount_0f7a4_18 k_cst_J6_266 ?_
  refine aw_iand (pc := 21) dJ6_bitCount_0f7a4_21 rfl (b := 858993459) rfl ?_
  refine aw_iadd (pc := 22) dJ6_bitCount_0f7a4_22 ?_
  rw [show ((z_bc3 s &&& 858993459 : Nat) : Int) + ((z_bc3 s / 2 ^ 2 &&& 858993459 : Nat) : Int) = (z_bc4 (z_bc3 s) : Int) from rfl]
  refine aw_istore_n (pc := 23) (lv' := [_]) dJ6_bitCount_0f7a4_23 (Nat.le_of_ble_eq_true rfl) rfl ?_
  refine aw_iload_n (pc := 24) dJ6_bitCount_0f7a4_24 rfl ?_
  refine aw_iload_n (pc := 25) dJ6_bitCount_0f7a4_25 rfl ?_
  refine aw_iconst (pc := 26) dJ6_bitCount_0f7a4_26 ?_
  refine aw_ushr (pc := 27) dJ6_bitCount_0f7a4_27 rfl (w := 4) rfl (by omega) (by omega) ?_
  refine aw_iadd (pc := 28) dJ6_bitCount_0f7a4_28 ?_
  refine aw_ldcw (pc := 29) (v := 252645135) dJ6_bitCount_0f7a4_29 k_cst_J6_267 ?_
  refine aw_iand (pc := 32) dJ6_bitCount_0f7a4_32 (a := z_bc4 (z_bc3 s) + z_bc4 (z_bc3 s) / 2 ^ 4) rfl (b := 252645135) rfl ?_
  refine aw_istore_n (pc := 33) (lv' := [_]) dJ6_bitCount_0f7a4_33 (Nat.le_of_ble_eq_true rfl) rfl ?_
  refine aw_iload_n (pc := 34) dJ6_bitCount_0f7a4_34 rfl ?_
  refine aw_iload_n (pc := 35) dJ6_bitCount_0f7a4_35 rfl ?_
  refine aw_bipush (pc := 36) dJ6_bitCount_0f7a4_36 rfl ?_
  refine aw_ushr (pc := 38) dJ6_bitCount_0f7a4_38 (a := z_bc5 (z_bc4 (z_bc3 s))) rfl (w := 8) rfl (by omega) (by omega) ?_
  refine aw_iadd (pc := 39) dJ6_bitCount_0f7a4_39 ?_
  refine aw_istore_n (pc := 40) (lv' := [_]) dJ6_bitCount_0f7a4_40 (Nat.le_of_ble_eq_true rfl) rfl ?_
  refine aw_iload_n (pc := 41) dJ6_bitCount_0f7a4_41 rfl ?_
  refine aw_iload_n (pc := 42) dJ6_bitCount_0f7a4_42 rfl ?_
  refine aw_bipush (pc := 43) dJ6_bitCount_0f7a4_43 rfl ?_
  refine aw_ushr (pc := 45) dJ6_bitCount_0f7a4_45 (a := z_bc6 (z_bc5 (z_bc4 (z_bc3 s)))) rfl (w := 16) rfl (by omega) (by omega) ?_
  refine aw_iadd (pc := 46) dJ6_bitCount_0f7a4_46 ?_
  refine aw_istore_n (pc := 47) (lv' := [_]) dJ6_bitCount_0f7a4_47 (Nat.le_of_ble_eq_true rfl) rfl ?_
  refine aw_iload_n (pc := 48) dJ6_bitCount_0f7a4_48 rfl ?_
  refine aw_bipush (pc := 49) dJ6_bitCount_0f7a4_49 rfl ?_
  refine aw_iand (pc := 51) dJ6_bitCount_0f7a4_51 (a := z_bc7 (z_bc6 (z_bc5 (z_bc4 (z_bc3 s))))) rfl (b := 63) rfl ?_
  exact aw_ireturn (pc := 52) dJ6_bitCount_0f7a4_52 rfl ⟨Nat.zero_le _, Nat.zero_le _⟩ (⟨by rw [← z_bcA s hs], rfl, rfl, rfl, rfl⟩)
