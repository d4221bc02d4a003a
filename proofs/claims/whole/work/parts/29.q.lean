def z_an (a b : Nat) : Nat := a ^^^ (a &&& b)
theorem z_an_t (a b i : Nat) : (z_an a b).testBit i = (a.testBit i && !b.testBit i) := by
  unfold z_an
  rw [Nat.testBit_xor, Nat.testBit_and]
  cases a.testBit i <;> cases b.testBit i <;> rfl
theorem z_an_lt {a b k : Nat} (h : a < 2 ^ k) : z_an a b < 2 ^ k := Nat.xor_lt_two_pow h (Nat.lt_of_le_of_lt Nat.and_le_left h)
theorem z_anI (a b : Nat) : nI a &&& Int32.ofInt (-(b : Int) - 1) = nI (z_an a b) := by
  rw [← z_not]
  have e : Int32.ofInt ((b : Nat) : Int) = nI b := Int32.ofInt_eq_ofNat
  rw [e]
  show Int32.ofNat a &&& (Int32.ofNat b ^^^ Int32.ofInt (-1)) = Int32.ofNat (z_an a b)
  apply Int32.toBitVec_inj.1
  show BitVec.ofNat 32 a &&& (BitVec.ofNat 32 b ^^^ (Int32.ofInt (-1)).toBitVec) = BitVec.ofNat 32 (z_an a b)
  rw [show (Int32.ofInt (-1)).toBitVec = BitVec.allOnes 32 from rfl]
  apply BitVec.eq_of_getLsbD_eq
  intro i hi
  rw [BitVec.getLsbD_and, BitVec.getLsbD_xor, BitVec.getLsbD_allOnes, BitVec.getLsbD_ofNat, BitVec.getLsbD_ofNat, BitVec.getLsbD_ofNat, z_an_t]
  simp [hi]
section AWN
variable {F : ZF} {cells slots sz pc : Nat} {lv lv' : List (Option AwV)} {st stk : List AwV} {I J : AwI} {R : AwR}
theorem aw_iandn {x y : Int} {a b : Nat} (hd : decode F.2.1 pc = .ok (.iand, 1)) (hx : x = (a : Int)) (hy : y = -(b : Int) - 1) (k : AW F cells slots sz (pc + 1) lv (zi ((z_an a b : Nat) : Int) :: st) I J R) : AW F cells slots sz pc lv (zi y :: zi x :: st) I J R := by
  subst hx hy
  intro p l e s m args below meth c H locs ls G X hR hL hS
  have K := k p l e s m args below meth c H locs ls G X hR hL hS
  rw [List.map_cons, show z_cv G.2.2 (zi ((z_an a b : Nat) : Int)) = Value.int (Int32.ofInt (a : Int) &&& Int32.ofInt (-(b : Int) - 1)) from congrArg Value.int (by rw [z_ofN, z_ofN, z_anI])] at K
  exact lv_iand X.1 X.2.1 hd K
end AWN
/-- the heap with the clique search's numbers -/
def z_s2 (I : AwI) (b : Int) (cl : Nat → Int) : AwI := fun a j => if a = 232 then cl j else if a = 231 ∧ j = 3 then b else I a j
theorem z_s2_o {I : AwI} {b : Int} {cl : Nat → Int} {a j : Nat} (h : a < 231 ∨ 232 < a) : z_s2 I b cl a j = I a j := by
  unfold z_s2
  rw [if_neg (by omega), if_neg (by omega)]
theorem z_s2_c {I : AwI} {b : Int} {cl : Nat → Int} (j : Nat) : z_s2 I b cl 232 j = cl j := if_pos rfl
theorem z_s2_b {I : AwI} {b : Int} {cl : Nat → Int} : z_s2 I b cl 231 3 = b := rfl
theorem z_s2_uc {I : AwI} {b : Int} {cl : Nat → Int} {k : Nat} {v : Int} : z_up (z_s2 I b cl) 232 k v = z_s2 I b (va_up cl k v) := by
  funext a j
  unfold z_up z_s2 va_up
  by_cases e : a = 232
  · subst e
    by_cases e2 : j = k
    · simp [e2]
    · simp [e2]
  · simp [e]
theorem z_s2_ub {I : AwI} {b v : Int} {cl : Nat → Int} : z_up (z_s2 I b cl) 231 3 v = z_s2 I v cl := by
  funext a j
  unfold z_up z_s2
  by_cases e : a = 231 ∧ j = 3
  · obtain ⟨rfl, rfl⟩ := e
    simp
  · simp [e]
theorem z_s2_id (I : AwI) : z_s2 I (I 231 3) (I 232) = I := by
  funext a j
  unfold z_s2
  by_cases e : a = 232
  · subst e; simp
  · rw [if_neg e]
    by_cases e2 : a = 231 ∧ j = 3
    · obtain ⟨rfl, rfl⟩ := e2; simp
    · rw [if_neg e2]
theorem z_s2_fl {I : AwI} {b : Int} {cl : Nat → Int} : z_fl (z_s2 I b cl) 232 8 0 = z_s2 I b (fun j => if j < 8 then 0 else cl j) := by
  funext a j
  unfold z_fl
  by_cases e : a = 232
  · subst e
    rw [z_s2_c, z_s2_c]
    by_cases e2 : j < 8
    · rw [if_pos ⟨rfl, e2⟩, if_pos e2]
    · rw [if_neg (fun q => e2 q.2), if_neg e2]
  · rw [if_neg (fun q => e q.1)]
    unfold z_s2
    simp only [e, if_false]
theorem z_M.s2 {I J : AwI} {b : Int} {cl : Nat → Int} (h : z_M I J) : z_M (z_s2 I b cl) J := h.congr (fun a j ha => z_s2_o (by omega)) (fun _ => rfl)
/-- the binary names below x, as bits -/
def z_bm (m : z_MM) : Nat → Nat
  | 0 => 0
  | x + 1 => if mlo m x = 0 ∧ mhi m x = 1 then z_bm m x ||| 2 ^ x else z_bm m x
theorem z_bm_t (m : z_MM) (n : Nat) : ∀ x, (z_bm m x).testBit n = true ↔ n < x ∧ z_bin m n
  | 0 => by show (0 : Nat).testBit n = true ↔ _; rw [Nat.zero_testBit]; exact ⟨fun q => (by cases q), fun q => absurd q.1 (by omega)⟩
  | x + 1 => by
    show (if mlo m x = 0 ∧ mhi m x = 1 then z_bm m x ||| 2 ^ x else z_bm m x).testBit n = true ↔ _
    by_cases hb : mlo m x = 0 ∧ mhi m x = 1
    · rw [if_pos hb, Nat.testBit_or, Bool.or_eq_true, z_bm_t m n x, Nat.testBit_two_pow]
      constructor
      · rintro (⟨q1, q2⟩ | q)
        · exact ⟨by omega, q2⟩
        · have q := of_decide_eq_true q; subst q; exact ⟨by omega, hb⟩
      · rintro ⟨q1, q2⟩
        by_cases e : n = x
        · exact Or.inr (decide_eq_true e.symm)
        · exact Or.inl ⟨by omega, q2⟩
    · rw [if_neg hb, z_bm_t m n x]
      constructor
      · rintro ⟨q1, q2⟩; exact ⟨by omega, q2⟩
      · rintro ⟨q1, q2⟩
        by_cases e : n = x
        · subst e; exact absurd q2 hb
        · exact ⟨by omega, q2⟩
theorem z_bm_lt (m : z_MM) : ∀ x, z_bm m x < 2 ^ x
  | 0 => by show 0 < 1; omega
  | x + 1 => by
    show (if mlo m x = 0 ∧ mhi m x = 1 then z_bm m x ||| 2 ^ x else z_bm m x) < _
    have h := z_bm_lt m x
    have h2 : 2 ^ x < 2 ^ (x + 1) := Nat.pow_lt_pow_right (by omega) (by omega)
    split
    · exact Nat.or_lt_two_pow (by omega) h2
    · omega
/-- two names clash, by the model -/
def z_kt (m : z_MM) (r a b : Nat) : Nat → Int := fun n => if n = a ∨ n = b then 0 else z_le (mF m r n) (mlo m n) (mhi m n)
def z_kl2 (m : z_MM) (a b : Nat) : Prop := ∃ r, r < mR m ∧ mrt m r < mF m r a + mF m r b + z_sum (z_kt m r a b) (mN m)
theorem z_kl2_s {m : z_MM} {a b : Nat} : z_kl2 m a b ↔ z_kl2 m b a := by
  have g : ∀ a b, z_kl2 m a b → z_kl2 m b a := fun a b ⟨r, h1, h2⟩ => ⟨r, h1, by
    have e : z_kt m r b a = z_kt m r a b := by
      funext n
      unfold z_kt
      by_cases q : n = a ∨ n = b
      · rw [if_pos q, if_pos (q.elim Or.inr Or.inl)]
      · rw [if_neg q, if_neg (fun z => q (z.elim Or.inr Or.inl))]
    rw [e]
    omega⟩
  exact ⟨g a b, g b a⟩
theorem z_clM_kl {I J : AwI} (h : z_M I J) {a b : Nat} (ha : a < (I 1 5).toNat) (hb : b < (I 1 5).toNat) : z_cn2 I a b ↔ z_kl2 (z_clM I J) a b := by
  have hrw := h.rw
  have hnm := h.nm
  have key : ∀ r, r < (I 1 6).toNat → (z_ci I r a b ↔ mrt (z_clM I J) r < mF (z_clM I J) r a + mF (z_clM I J) r b + z_sum (z_kt (z_clM I J) r a b) (mN (z_clM I J))) := fun r hr => by
    unfold z_ci z_cs z_sm
    rw [z_clM_rt hr, z_clM_F hr ha, z_clM_F hr hb, show mN (z_clM I J) = (I 1 5).toNat from rfl, z_sum_c (f := z_ct I r a b) (g := z_kt (z_clM I J) r a b) _ (fun n hn => by
      unfold z_ct z_kt z_cl
      rw [z_clM_F hr hn, z_clM_lo hn, z_clM_hi hn])]
  constructor
  · rintro ⟨r, h1, h2⟩
    exact ⟨r, by show r < (I 1 6).toNat; omega, (key r (by omega)).mp h2⟩
  · rintro ⟨r, h1, h2⟩
    have h1 : r < (I 1 6).toNat := h1
    exact ⟨r, by omega, (key r h1).mpr h2⟩
theorem z_cn2_c {I I' : AwI} (hI : ∀ a k, a < 17 → I' a k = I a k) {J : AwI} (h : z_M I J) {a b : Nat} : z_cn2 I' a b ↔ z_cn2 I a b := by
  have hrw := h.rw
  have key : ∀ r, r < 10 → (z_ci I' r a b ↔ z_ci I r a b) := fun r hr => by
    unfold z_ci z_cs
    have e : z_ct I' r a b = z_ct I r a b := by
      funext n
      unfold z_ct z_cl
      rw [hI _ _ (by omega), hI _ _ (by omega), hI _ _ (by omega)]
    rw [e, hI _ _ (by omega), hI _ _ (by omega), hI _ _ (by omega), hI _ _ (by omega)]
  unfold z_cn2
  rw [hI _ _ (by omega)]
  exact ⟨fun ⟨r, h1, h2⟩ => ⟨r, h1, (key r (by omega)).mp h2⟩, fun ⟨r, h1, h2⟩ => ⟨r, h1, (key r (by omega)).mpr h2⟩⟩
set_option maxHeartbeats 4000000 in
theorem c_X2_readBinaries {π : Nat → Nat} {I J : AwI} {b : Int} {cl : Nat → Int} (h : z_M I J) : CT m_X2_readBinaries [zr 231] 255 (z_s2 I b cl) J (z_R π) (z_P none 255 (z_s2 I ((z_bm (z_clM I J) (I 1 5).toNat : Nat) : Int) cl) J (z_R π)) := by
  have hnm := h.nm
  refine CT.of (by decide) (Nat.le_of_ble_eq_true rfl) ?_
  show AW _ 0 0 _ 0 [some (zr 231), none] [] _ _ _
  have loop : ∀ (k : Nat) (x : Nat), (x : Int) + k = I 1 5 → AW (FM m_X2_readBinaries (z_P none 255 (z_s2 I ((z_bm (z_clM I J) (I 1 5).toNat : Nat) : Int) cl) J (z_R π))) 0 0 255 7 [some (zr 231), some (zi (x : Int))] [] (z_s2 I ((z_bm (z_clM I J) x : Nat) : Int) cl) J (z_R π) := by
    intro k
    induction k with
    | zero =>
      intro x he
      rw [show (I 1 5).toNat = x by omega]
      refine aw_iload_n (pc := 7) dX2_readBinaries_7 rfl ?_
      refine aw_aload_n (pc := 8) dX2_readBinaries_8 rfl ?_
      refine aw_getR (pc := 9) dX2_readBinaries_9 k_fl_X2_15 rfl (by omega) (by first | rfl | exact z_shr _ (by omega) | exact z_shc0 (by omega) | exact z_shc1 (by omega) | exact z_shc2 (by omega) | exact z_shc3 (by omega) | exact z_shc4 (by omega)) (by first | rfl | exact z_Rc0 _ (by omega) | exact z_Rc1 _ (by omega) | exact z_Rc2 _ (by omega) | exact z_Rc3 _ (by omega)) ?_
      refine aw_getV (pc := 12) (v := I 1 5) dX2_readBinaries_12 k_fl_X2_29 rfl (by omega) (by first | rfl | exact z_shr _ (by omega) | exact z_shc0 (by omega) | exact z_shc1 (by omega) | exact z_shc2 (by omega) | exact z_shc3 (by omega) | exact z_shc4 (by omega)) (z_s2_o (by omega)) ?_
      refine aw_icmp_ge (pc := 15) (tgt := 47) dX2_readBinaries_15 rfl (by first | omega | exact z_bl_r _) (by first | omega | exact z_bl_r _) (fun h15 => ?_) (fun h15 => absurd h15 (by omega))
      exact aw_return (pc := 47) dX2_readBinaries_47 rfl ⟨Nat.zero_le _, Nat.zero_le _⟩ (⟨rfl, rfl, rfl, rfl, rfl⟩)
    | succ k ih =>
      intro x he
      refine aw_iload_n (pc := 7) dX2_readBinaries_7 rfl ?_
      refine aw_aload_n (pc := 8) dX2_readBinaries_8 rfl ?_
      refine aw_getR (pc := 9) dX2_readBinaries_9 k_fl_X2_15 rfl (by omega) (by first | rfl | exact z_shr _ (by omega) | exact z_shc0 (by omega) | exact z_shc1 (by omega) | exact z_shc2 (by omega) | exact z_shc3 (by omega) | exact z_shc4 (by omega)) (by first | rfl | exact z_Rc0 _ (by omega) | exact z_Rc1 _ (by omega) | exact z_Rc2 _ (by omega) | exact z_Rc3 _ (by omega)) ?_
      refine aw_getV (pc := 12) (v := I 1 5) dX2_readBinaries_12 k_fl_X2_29 rfl (by omega) (by first | rfl | exact z_shr _ (by omega) | exact z_shc0 (by omega) | exact z_shc1 (by omega) | exact z_shc2 (by omega) | exact z_shc3 (by omega) | exact z_shc4 (by omega)) (z_s2_o (by omega)) ?_
      refine aw_icmp_ge (pc := 15) (tgt := 47) dX2_readBinaries_15 rfl (by first | omega | exact z_bl_r _) (by first | omega | exact z_bl_r _) (fun h15 => absurd h15 (by omega)) (fun h15 => ?_)
      have hxn : x < (I 1 5).toNat := by omega
      have el : mlo (z_clM I J) x = I 2 x := z_clM_lo hxn
      have eh : mhi (z_clM I J) x = I 3 x := z_clM_hi hxn
      refine aw_aload_n (pc := 18) dX2_readBinaries_18 rfl ?_
      refine aw_getR (pc := 19) dX2_readBinaries_19 k_fl_X2_15 rfl (by omega) (by first | rfl | exact z_shr _ (by omega) | exact z_shc0 (by omega) | exact z_shc1 (by omega) | exact z_shc2 (by omega) | exact z_shc3 (by omega) | exact z_shc4 (by omega)) (by first | rfl | exact z_Rc0 _ (by omega) | exact z_Rc1 _ (by omega) | exact z_Rc2 _ (by omega) | exact z_Rc3 _ (by omega)) ?_
      refine aw_iload_n (pc := 22) dX2_readBinaries_22 rfl ?_
      refine aw_qV (pc := 23) (d := m_X6_isBinary) (c_X6_isBinary h.s2 (by omega)) k_X6_isBinary dX2_readBinaries_23 k_ml_X2_45 rfl ⟨rfl, rfl⟩ (by omega) (by first | rfl | exact z_shr _ (by omega) | exact z_shc0 (by omega) | exact z_shc1 (by omega) | exact z_shc2 (by omega) | exact z_shc3 (by omega) | exact z_shc4 (by omega)) rfl ⟨Nat.le_of_ble_eq_true rfl, Nat.le_of_ble_eq_true rfl⟩ ⟨Nat.zero_le _, Nat.zero_le _⟩ rfl (Nat.le_of_ble_eq_true rfl) (z_Pk ?_)
      refine aw_if_eq (pc := 26) (tgt := 41) dX2_readBinaries_26 rfl (z_bl_r _) (fun h26 => ?_) (fun h26 => ?_)
      · refine aw_iinc (pc := 41) (lv' := [_, _]) dX2_readBinaries_41 (Nat.le_of_ble_eq_true rfl) rfl rfl ?_
        refine aw_goto (pc := 44) (tgt := 7) dX2_readBinaries_44 rfl ?_
        have es : z_bm (z_clM I J) (x + 1) = (if mlo (z_clM I J) x = 0 ∧ mhi (z_clM I J) x = 1 then z_bm (z_clM I J) x ||| 2 ^ x else z_bm (z_clM I J) x) := rfl
        rw [if_neg (by rw [el, eh]; intro q2; exact z_bl_0.mp h26 (by rw [z_s2_o (by omega), z_s2_o (by omega)]; exact q2))] at es
        have K := ih (x + 1) (by omega)
        rw [es, show ((x + 1 : Nat) : Int) = (x : Int) + 1 from rfl] at K
        exact K
      · refine aw_aload_n (pc := 29) dX2_readBinaries_29 rfl ?_
        refine aw_dup (pc := 30) dX2_readBinaries_30 (fun _ h => by cases h) ?_
        refine aw_getV (pc := 31) (v := ((z_bm (z_clM I J) x : Nat) : Int)) dX2_readBinaries_31 k_fl_X2_42 rfl (by omega) (by first | rfl | exact z_shr _ (by omega) | exact z_shc0 (by omega) | exact z_shc1 (by omega) | exact z_shc2 (by omega) | exact z_shc3 (by omega) | exact z_shc4 (by omega)) (z_s2_b) ?_
        refine aw_iconst (pc := 34) dX2_readBinaries_34 ?_
        refine aw_iload_n (pc := 35) dX2_readBinaries_35 rfl ?_
        refine aw_shl1 (pc := 36) dX2_readBinaries_36 (w := x) rfl (by omega) ?_
        refine aw_ior (pc := 37) dX2_readBinaries_37 rfl rfl ?_
        refine aw_putI (pc := 38) dX2_readBinaries_38 k_fl_X2_42 rfl (by omega) (by first | rfl | exact z_shr _ (by omega) | exact z_shc0 (by omega) | exact z_shc1 (by omega) | exact z_shc2 (by omega) | exact z_shc3 (by omega) | exact z_shc4 (by omega)) ?_
        refine aw_iinc (pc := 41) (lv' := [_, _]) dX2_readBinaries_41 (Nat.le_of_ble_eq_true rfl) rfl rfl ?_
        refine aw_goto (pc := 44) (tgt := 7) dX2_readBinaries_44 rfl ?_
        rw [z_s2_ub]
        have es : z_bm (z_clM I J) (x + 1) = (if mlo (z_clM I J) x = 0 ∧ mhi (z_clM I J) x = 1 then z_bm (z_clM I J) x ||| 2 ^ x else z_bm (z_clM I J) x) := rfl
        rw [if_pos (by rw [el, eh]; have q2 := z_bl_n.mp h26; rw [z_s2_o (by omega), z_s2_o (by omega)] at q2; exact q2)] at es
        have K := ih (x + 1) (by omega)
        rw [es, show ((x + 1 : Nat) : Int) = (x : Int) + 1 from rfl] at K
        exact K
  refine aw_aload_n (pc := 0) dX2_readBinaries_0 rfl ?_
  refine aw_iconst (pc := 1) dX2_readBinaries_1 ?_
  refine aw_putI (pc := 2) dX2_readBinaries_2 k_fl_X2_42 rfl (by omega) (by first | rfl | exact z_shr _ (by omega) | exact z_shc0 (by omega) | exact z_shc1 (by omega) | exact z_shc2 (by omega) | exact z_shc3 (by omega) | exact z_shc4 (by omega)) ?_
  rw [z_s2_ub]
  refine aw_iconst (pc := 5) dX2_readBinaries_5 ?_
  refine aw_istore_n (pc := 6) (lv' := [_, _]) dX2_readBinaries_6 (Nat.le_of_ble_eq_true rfl) rfl ?_
  exact loop (I 1 5).toNat 0 (by omega)
/-- the clashes found before the pair (a, b), as bits -/
def z_ck (m : z_MM) (a b : Nat) (cl : Nat → Nat) : Prop := (∀ c, c < 8 → cl c < 2 ^ 8) ∧ ∀ c d, c < 8 → ((cl c).testBit d = true ↔ c ≠ d ∧ c < mN m ∧ d < mN m ∧ z_bin m c ∧ z_bin m d ∧ z_kl2 m c d ∧ ((c < d → c < a ∨ (c = a ∧ d < b)) ∧ (d < c → d < a ∨ (d = a ∧ c < b))))
theorem z_ck_skip {m : z_MM} {a b : Nat} {cl : Nat → Nat} (h : z_ck m a b cl) (hab : a < b) (hn : ¬ (z_bin m a ∧ z_bin m b ∧ z_kl2 m a b)) : z_ck m a (b + 1) cl := by
  refine ⟨h.1, fun c d hc => ?_⟩
  rw [h.2 c d hc]
  constructor
  · rintro ⟨g1, g2, g3, g4, g5, g6, g7, g8⟩
    exact ⟨g1, g2, g3, g4, g5, g6, fun q => by have := g7 q; omega, fun q => by have := g8 q; omega⟩
  · rintro ⟨g1, g2, g3, g4, g5, g6, g7, g8⟩
    refine ⟨g1, g2, g3, g4, g5, g6, fun q => ?_, fun q => ?_⟩
    · have := g7 q
      by_cases e : c = a ∧ d = b
      · obtain ⟨rfl, rfl⟩ := e; exact absurd ⟨g4, g5, g6⟩ hn
      · omega
    · have := g8 q
      by_cases e : d = a ∧ c = b
      · obtain ⟨rfl, rfl⟩ := e; exact absurd ⟨g5, g4, z_kl2_s.mp g6⟩ hn
      · omega
theorem z_ck_next {m : z_MM} {a : Nat} {cl : Nat → Nat} (h : z_ck m a (mN m) cl) : z_ck m (a + 1) (a + 1 + 1) cl := by
  refine ⟨h.1, fun c d hc => ?_⟩
  rw [h.2 c d hc]
  constructor
  · rintro ⟨g1, g2, g3, g4, g5, g6, g7, g8⟩
    exact ⟨g1, g2, g3, g4, g5, g6, fun q => by have := g7 q; omega, fun q => by have := g8 q; omega⟩
  · rintro ⟨g1, g2, g3, g4, g5, g6, g7, g8⟩
    exact ⟨g1, g2, g3, g4, g5, g6, fun q => by have := g7 q; omega, fun q => by have := g8 q; omega⟩
def z_vn (cl : Nat → Nat) (k v : Nat) : Nat → Nat := fun j => if j = k then v else cl j
theorem z_ck_put {m : z_MM} {a b : Nat} {cl : Nat → Nat} (h : z_ck m a b cl) (hab : a < b) (hb : b < mN m) (h8 : mN m ≤ 8) (hy : z_bin m a ∧ z_bin m b ∧ z_kl2 m a b) : z_ck m a (b + 1) (z_vn (z_vn cl a (cl a ||| 2 ^ b)) b (cl b ||| 2 ^ a)) := by
  have hp : ∀ x, x < 8 → 2 ^ x < 2 ^ 8 := fun x hx => Nat.pow_lt_pow_right (by omega) hx
  refine ⟨fun c hc => ?_, fun c d hc => ?_⟩
  · unfold z_vn
    split
    · exact Nat.or_lt_two_pow (h.1 b (by omega)) (hp a (by omega))
    · split
      · exact Nat.or_lt_two_pow (h.1 a (by omega)) (hp b (by omega))
      · exact h.1 c hc
  · unfold z_vn
    by_cases e1 : c = b
    · subst e1
      rw [if_pos rfl, Nat.testBit_or, Bool.or_eq_true, h.2 c d hc, Nat.testBit_two_pow]
      constructor
      · rintro (⟨g1, g2, g3, g4, g5, g6, g7, g8⟩ | q)
        · exact ⟨g1, g2, g3, g4, g5, g6, fun q => by have := g7 q; omega, fun q => by have := g8 q; omega⟩
        · have q := of_decide_eq_true q
          subst q
          exact ⟨by omega, by omega, by omega, hy.2.1, hy.1, z_kl2_s.mp hy.2.2, fun q => by omega, fun q => by omega⟩
      · rintro ⟨g1, g2, g3, g4, g5, g6, g7, g8⟩
        by_cases e : d = a
        · exact Or.inr (decide_eq_true e.symm)
        · exact Or.inl ⟨g1, g2, g3, g4, g5, g6, fun q => by have := g7 q; omega, fun q => by have := g8 q; omega⟩
    · rw [if_neg e1]
      by_cases e2 : c = a
      · subst e2
        rw [if_pos rfl, Nat.testBit_or, Bool.or_eq_true, h.2 c d hc, Nat.testBit_two_pow]
        constructor
        · rintro (⟨g1, g2, g3, g4, g5, g6, g7, g8⟩ | q)
          · exact ⟨g1, g2, g3, g4, g5, g6, fun q => by have := g7 q; omega, fun q => by have := g8 q; omega⟩
          · have q := of_decide_eq_true q
            subst q
            exact ⟨by omega, by omega, by omega, hy.1, hy.2.1, hy.2.2, fun q => by omega, fun q => by omega⟩
        · rintro ⟨g1, g2, g3, g4, g5, g6, g7, g8⟩
          by_cases e : d = b
          · exact Or.inr (decide_eq_true e.symm)
          · exact Or.inl ⟨g1, g2, g3, g4, g5, g6, fun q => by have := g7 q; omega, fun q => by have := g8 q; omega⟩
      · rw [if_neg e2, h.2 c d hc]
        constructor
        · rintro ⟨g1, g2, g3, g4, g5, g6, g7, g8⟩
          exact ⟨g1, g2, g3, g4, g5, g6, fun q => by have := g7 q; omega, fun q => by have := g8 q; omega⟩
        · rintro ⟨g1, g2, g3, g4, g5, g6, g7, g8⟩
          exact ⟨g1, g2, g3, g4, g5, g6, fun q => by have := g7 q; omega, fun q => by have := g8 q; omega⟩
theorem z_vn_c {cl : Nat → Nat} {k v : Nat} : va_up (fun j => ((cl j : Nat) : Int)) k (v : Int) = fun j => ((z_vn cl k v j : Nat) : Int) := by
  funext j
  unfold va_up z_vn
  split <;> rfl
set_option maxHeartbeats 4000000 in
theorem c_X2_readClashes {π : Nat → Nat} {I J : AwI} {cl0 : Nat → Int} (h : z_M I J) (hcl : ∀ j, 0 ≤ cl0 j) : CT m_X2_readClashes [zr 231] 255 (z_s2 I ((z_bm (z_clM I J) (I 1 5).toNat : Nat) : Int) cl0) J (z_R π) (fun q9 sz' I' J' R' => q9 = none ∧ sz' = 255 ∧ J' = J ∧ R' = z_R π ∧ ∃ cl : Nat → Nat, I' = (z_s2 I ((z_bm (z_clM I J) (I 1 5).toNat : Nat) : Int) (fun j => ((cl j : Nat) : Int))) ∧ z_ck (z_clM I J) (mN (z_clM I J)) (mN (z_clM I J) + 1) cl) := by
  have hnm := h.nm
  have eN : mN (z_clM I J) = (I 1 5).toNat := rfl
  have hbl := z_bm_lt (z_clM I J) (I 1 5).toNat
  have hp8 : 2 ^ (I 1 5).toNat ≤ 2 ^ 8 := Nat.pow_le_pow_right (by omega) (by omega)
  have hbt := fun n => z_bm_t (z_clM I J) n (I 1 5).toNat
  refine CT.of (by decide) (Nat.le_of_ble_eq_true rfl) ?_
  show AW _ 0 0 _ 0 [some (zr 231), none, none] [] _ _ _
  have inner : ∀ (a : Nat), a < (I 1 5).toNat → (∀ (cl : Nat → Nat) (v : Option AwV), z_ck (z_clM I J) a (mN (z_clM I J)) cl → AW (FM m_X2_readClashes (fun q9 sz' I' J' R' => q9 = none ∧ sz' = 255 ∧ J' = J ∧ R' = z_R π ∧ ∃ cl : Nat → Nat, I' = (z_s2 I ((z_bm (z_clM I J) (I 1 5).toNat : Nat) : Int) (fun j => ((cl j : Nat) : Int))) ∧ z_ck (z_clM I J) (mN (z_clM I J)) (mN (z_clM I J) + 1) cl)) 0 0 255 103 [some (zr 231), some (zi (a : Int)), v] [] (z_s2 I ((z_bm (z_clM I J) (I 1 5).toNat : Nat) : Int) (fun j => ((cl j : Nat) : Int))) J (z_R π)) → ∀ cl : Nat → Nat, z_ck (z_clM I J) a (a + 1) cl → AW (FM m_X2_readClashes (fun q9 sz' I' J' R' => q9 = none ∧ sz' = 255 ∧ J' = J ∧ R' = z_R π ∧ ∃ cl : Nat → Nat, I' = (z_s2 I ((z_bm (z_clM I J) (I 1 5).toNat : Nat) : Int) (fun j => ((cl j : Nat) : Int))) ∧ z_ck (z_clM I J) (mN (z_clM I J)) (mN (z_clM I J) + 1) cl)) 0 0 255 25 [some (zr 231), some (zi (a : Int)), some (zi ((a : Int) + 1))] [] (z_s2 I ((z_bm (z_clM I J) (I 1 5).toNat : Nat) : Int) (fun j => ((cl j : Nat) : Int))) J (z_R π) := by
    intro a ha hK cl0 hck0
    have loop : ∀ (k : Nat) (b : Nat) (cl : Nat → Nat), (b : Int) + k = I 1 5 → a < b → z_ck (z_clM I J) a b cl → AW (FM m_X2_readClashes (fun q9 sz' I' J' R' => q9 = none ∧ sz' = 255 ∧ J' = J ∧ R' = z_R π ∧ ∃ cl : Nat → Nat, I' = (z_s2 I ((z_bm (z_clM I J) (I 1 5).toNat : Nat) : Int) (fun j => ((cl j : Nat) : Int))) ∧ z_ck (z_clM I J) (mN (z_clM I J)) (mN (z_clM I J) + 1) cl)) 0 0 255 25 [some (zr 231), some (zi (a : Int)), some (zi (b : Int))] [] (z_s2 I ((z_bm (z_clM I J) (I 1 5).toNat : Nat) : Int) (fun j => ((cl j : Nat) : Int))) J (z_R π) := by
      intro k
      induction k with
      | zero =>
        intro b cl he hab hck
        refine aw_iload_n (pc := 25) dX2_readClashes_25 rfl ?_
        refine aw_aload_n (pc := 26) dX2_readClashes_26 rfl ?_
        refine aw_getR (pc := 27) dX2_readClashes_27 k_fl_X2_15 rfl (by omega) (by first | rfl | exact z_shr _ (by omega) | exact z_shc0 (by omega) | exact z_shc1 (by omega) | exact z_shc2 (by omega) | exact z_shc3 (by omega) | exact z_shc4 (by omega)) (by first | rfl | exact z_Rc0 _ (by omega) | exact z_Rc1 _ (by omega) | exact z_Rc2 _ (by omega) | exact z_Rc3 _ (by omega)) ?_
        refine aw_getV (pc := 30) (v := I 1 5) dX2_readClashes_30 k_fl_X2_29 rfl (by omega) (by first | rfl | exact z_shr _ (by omega) | exact z_shc0 (by omega) | exact z_shc1 (by omega) | exact z_shc2 (by omega) | exact z_shc3 (by omega) | exact z_shc4 (by omega)) (z_s2_o (by omega)) ?_
        refine aw_icmp_ge (pc := 33) (tgt := 103) dX2_readClashes_33 rfl (by first | omega | exact z_bl_r _) (by first | omega | exact z_bl_r _) (fun h33 => ?_) (fun h33 => absurd h33 (by omega))
        exact hK cl _ (by rw [eN, show (I 1 5).toNat = b by omega]; exact hck)
      | succ k ih =>
        intro b cl he hab hck
        refine aw_iload_n (pc := 25) dX2_readClashes_25 rfl ?_
        refine aw_aload_n (pc := 26) dX2_readClashes_26 rfl ?_
        refine aw_getR (pc := 27) dX2_readClashes_27 k_fl_X2_15 rfl (by omega) (by first | rfl | exact z_shr _ (by omega) | exact z_shc0 (by omega) | exact z_shc1 (by omega) | exact z_shc2 (by omega) | exact z_shc3 (by omega) | exact z_shc4 (by omega)) (by first | rfl | exact z_Rc0 _ (by omega) | exact z_Rc1 _ (by omega) | exact z_Rc2 _ (by omega) | exact z_Rc3 _ (by omega)) ?_
        refine aw_getV (pc := 30) (v := I 1 5) dX2_readClashes_30 k_fl_X2_29 rfl (by omega) (by first | rfl | exact z_shr _ (by omega) | exact z_shc0 (by omega) | exact z_shc1 (by omega) | exact z_shc2 (by omega) | exact z_shc3 (by omega) | exact z_shc4 (by omega)) (z_s2_o (by omega)) ?_
        refine aw_icmp_ge (pc := 33) (tgt := 103) dX2_readClashes_33 rfl (by first | omega | exact z_bl_r _) (by first | omega | exact z_bl_r _) (fun h33 => absurd h33 (by omega)) (fun h33 => ?_)
        have ecn : z_cn2 (z_s2 I ((z_bm (z_clM I J) (I 1 5).toNat : Nat) : Int) (fun j => ((cl j : Nat) : Int))) a b ↔ z_kl2 (z_clM I J) a b := (z_cn2_c (fun x y hx => z_s2_o (by omega)) h).trans (z_clM_kl h (by omega) (by omega))
        refine aw_aload_n (pc := 36) dX2_readClashes_36 rfl ?_
        refine aw_getV (pc := 37) (v := ((z_bm (z_clM I J) (I 1 5).toNat : Nat) : Int)) dX2_readClashes_37 k_fl_X2_42 rfl (by omega) (by first | rfl | exact z_shr _ (by omega) | exact z_shc0 (by omega) | exact z_shc1 (by omega) | exact z_shc2 (by omega) | exact z_shc3 (by omega) | exact z_shc4 (by omega)) (z_s2_b) ?_
        refine aw_iload_n (pc := 40) dX2_readClashes_40 rfl ?_
        refine aw_qN (pc := 41) (d := m_X8_isIn) (c_X8_isIn (s := z_bm (z_clM I J) (I 1 5).toNat) (w := a) (by omega) (by omega)) k_X8_isIn dX2_readClashes_41 k_nl_X2_54 rfl ⟨rfl, rfl⟩ ⟨Nat.le_of_ble_eq_true rfl, Nat.le_of_ble_eq_true rfl⟩ ⟨Nat.zero_le _, Nat.zero_le _⟩ rfl (Nat.le_of_ble_eq_true rfl) (z_Pk ?_)
        refine aw_if_eq (pc := 44) (tgt := 97) dX2_readClashes_44 rfl (z_bl_r _) (fun h44 => ?_) (fun h44 => ?_)
        · refine aw_iinc (pc := 97) (lv' := [_, _, _]) dX2_readClashes_97 (Nat.le_of_ble_eq_true rfl) rfl rfl ?_
          refine aw_goto (pc := 100) (tgt := 25) dX2_readClashes_100 rfl ?_
          have K := ih (b + 1) cl (by omega) (by omega) (z_ck_skip hck hab (fun q => z_bl_0.mp h44 ((hbt a).mpr ⟨by omega, q.1⟩)))
          rw [show ((b + 1 : Nat) : Int) = (b : Int) + 1 from rfl] at K
          exact K
        · refine aw_aload_n (pc := 47) dX2_readClashes_47 rfl ?_
          refine aw_getV (pc := 48) (v := ((z_bm (z_clM I J) (I 1 5).toNat : Nat) : Int)) dX2_readClashes_48 k_fl_X2_42 rfl (by omega) (by first | rfl | exact z_shr _ (by omega) | exact z_shc0 (by omega) | exact z_shc1 (by omega) | exact z_shc2 (by omega) | exact z_shc3 (by omega) | exact z_shc4 (by omega)) (z_s2_b) ?_
          refine aw_iload_n (pc := 51) dX2_readClashes_51 rfl ?_
          refine aw_qN (pc := 52) (d := m_X8_isIn) (c_X8_isIn (s := z_bm (z_clM I J) (I 1 5).toNat) (w := b) (by omega) (by omega)) k_X8_isIn dX2_readClashes_52 k_nl_X2_54 rfl ⟨rfl, rfl⟩ ⟨Nat.le_of_ble_eq_true rfl, Nat.le_of_ble_eq_true rfl⟩ ⟨Nat.zero_le _, Nat.zero_le _⟩ rfl (Nat.le_of_ble_eq_true rfl) (z_Pk ?_)
          refine aw_if_eq (pc := 55) (tgt := 97) dX2_readClashes_55 rfl (z_bl_r _) (fun h55 => ?_) (fun h55 => ?_)
          · refine aw_iinc (pc := 97) (lv' := [_, _, _]) dX2_readClashes_97 (Nat.le_of_ble_eq_true rfl) rfl rfl ?_
            refine aw_goto (pc := 100) (tgt := 25) dX2_readClashes_100 rfl ?_
            have K := ih (b + 1) cl (by omega) (by omega) (z_ck_skip hck hab (fun q => z_bl_0.mp h55 ((hbt b).mpr ⟨by omega, q.2.1⟩)))
            rw [show ((b + 1 : Nat) : Int) = (b : Int) + 1 from rfl] at K
            exact K
          · refine aw_aload_n (pc := 58) dX2_readClashes_58 rfl ?_
            refine aw_getR (pc := 59) dX2_readClashes_59 k_fl_X2_15 rfl (by omega) (by first | rfl | exact z_shr _ (by omega) | exact z_shc0 (by omega) | exact z_shc1 (by omega) | exact z_shc2 (by omega) | exact z_shc3 (by omega) | exact z_shc4 (by omega)) (by first | rfl | exact z_Rc0 _ (by omega) | exact z_Rc1 _ (by omega) | exact z_Rc2 _ (by omega) | exact z_Rc3 _ (by omega)) ?_
            refine aw_iload_n (pc := 62) dX2_readClashes_62 rfl ?_
            refine aw_iload_n (pc := 63) dX2_readClashes_63 rfl ?_
            refine aw_qV (pc := 64) (d := m_X6_clashAnywhere) (c_X6_clashAnywhere h.s2 (by omega) (by omega)) k_X6_clashAnywhere dX2_readClashes_64 k_ml_X2_58 rfl ⟨rfl, rfl⟩ (by omega) (by first | rfl | exact z_shr _ (by omega) | exact z_shc0 (by omega) | exact z_shc1 (by omega) | exact z_shc2 (by omega) | exact z_shc3 (by omega) | exact z_shc4 (by omega)) rfl ⟨Nat.le_of_ble_eq_true rfl, Nat.le_of_ble_eq_true rfl⟩ ⟨Nat.zero_le _, Nat.zero_le _⟩ rfl (Nat.le_of_ble_eq_true rfl) (z_Pk ?_)
            refine aw_if_ne (pc := 67) (tgt := 73) dX2_readClashes_67 rfl (z_bl_r _) (fun h67 => ?_) (fun h67 => ?_)
            · refine aw_aload_n (pc := 73) dX2_readClashes_73 rfl ?_
              refine aw_getR (pc := 74) dX2_readClashes_74 k_fl_X2_9 rfl (by omega) (by first | rfl | exact z_shr _ (by omega) | exact z_shc0 (by omega) | exact z_shc1 (by omega) | exact z_shc2 (by omega) | exact z_shc3 (by omega) | exact z_shc4 (by omega)) (by first | rfl | exact z_Rc0 _ (by omega) | exact z_Rc1 _ (by omega) | exact z_Rc2 _ (by omega) | exact z_Rc3 _ (by omega)) ?_
              refine aw_iload_n (pc := 77) dX2_readClashes_77 rfl ?_
              refine aw_dup2 (pc := 78) dX2_readClashes_78 (fun _ h => by cases h) (fun _ h => by cases h) ?_
              refine aw_ialoadV (pc := 79) (v := ((cl a : Nat) : Int)) dX2_readClashes_79 (by omega) (Nat.le_refl _) (by first | rfl | exact z_shr _ (by omega) | exact z_shc0 (by omega) | exact z_shc1 (by omega) | exact z_shc2 (by omega) | exact z_shc3 (by omega) | exact z_shc4 (by omega)) (by first | omega | exact z_bl_r _) (z_s2_c _) ?_
              refine aw_iconst (pc := 80) dX2_readClashes_80 ?_
              refine aw_iload_n (pc := 81) dX2_readClashes_81 rfl ?_
              refine aw_shl1 (pc := 82) dX2_readClashes_82 (w := b) rfl (by omega) ?_
              refine aw_ior (pc := 83) dX2_readClashes_83 rfl rfl ?_
              refine aw_iastore (pc := 84) dX2_readClashes_84 (by omega) (Nat.le_refl _) (by first | rfl | exact z_shr _ (by omega) | exact z_shc0 (by omega) | exact z_shc1 (by omega) | exact z_shc2 (by omega) | exact z_shc3 (by omega) | exact z_shc4 (by omega)) (by first | omega | exact z_bl_r _) ?_
              rw [z_s2_uc]
              refine aw_aload_n (pc := 85) dX2_readClashes_85 rfl ?_
              refine aw_getR (pc := 86) dX2_readClashes_86 k_fl_X2_9 rfl (by omega) (by first | rfl | exact z_shr _ (by omega) | exact z_shc0 (by omega) | exact z_shc1 (by omega) | exact z_shc2 (by omega) | exact z_shc3 (by omega) | exact z_shc4 (by omega)) (by first | rfl | exact z_Rc0 _ (by omega) | exact z_Rc1 _ (by omega) | exact z_Rc2 _ (by omega) | exact z_Rc3 _ (by omega)) ?_
              refine aw_iload_n (pc := 89) dX2_readClashes_89 rfl ?_
              refine aw_dup2 (pc := 90) dX2_readClashes_90 (fun _ h => by cases h) (fun _ h => by cases h) ?_
              refine aw_ialoadV (pc := 91) (v := ((cl b : Nat) : Int)) dX2_readClashes_91 (by omega) (Nat.le_refl _) (by first | rfl | exact z_shr _ (by omega) | exact z_shc0 (by omega) | exact z_shc1 (by omega) | exact z_shc2 (by omega) | exact z_shc3 (by omega) | exact z_shc4 (by omega)) (by first | omega | exact z_bl_r _) ((z_s2_c _).trans (if_neg (by omega))) ?_
              refine aw_iconst (pc := 92) dX2_readClashes_92 ?_
              refine aw_iload_n (pc := 93) dX2_readClashes_93 rfl ?_
              refine aw_shl1 (pc := 94) dX2_readClashes_94 (w := a) rfl (by omega) ?_
              refine aw_ior (pc := 95) dX2_readClashes_95 rfl rfl ?_
              refine aw_iastore (pc := 96) dX2_readClashes_96 (by omega) (Nat.le_refl _) (by first | rfl | exact z_shr _ (by omega) | exact z_shc0 (by omega) | exact z_shc1 (by omega) | exact z_shc2 (by omega) | exact z_shc3 (by omega) | exact z_shc4 (by omega)) (by first | omega | exact z_bl_r _) ?_
              refine aw_iinc (pc := 97) (lv' := [_, _, _]) dX2_readClashes_97 (Nat.le_of_ble_eq_true rfl) rfl rfl ?_
              refine aw_goto (pc := 100) (tgt := 25) dX2_readClashes_100 rfl ?_
              rw [z_s2_uc]
              have K := ih (b + 1) _ (by omega) (by omega) (z_ck_put hck hab (by omega) (by omega) ⟨((hbt a).mp (z_bl_n.mp h44)).2, ((hbt b).mp (z_bl_n.mp h55)).2, ecn.mp (z_bl_n.mp h67)⟩)
              rw [show (fun j => ((z_vn (z_vn cl a (cl a ||| 2 ^ b)) b (cl b ||| 2 ^ a) j : Nat) : Int)) = va_up (va_up (fun j => ((cl j : Nat) : Int)) a ((cl a ||| 2 ^ b : Nat) : Int)) b ((cl b ||| 2 ^ a : Nat) : Int) by rw [z_vn_c, z_vn_c]] at K
              rw [show ((b + 1 : Nat) : Int) = (b : Int) + 1 from rfl] at K
              exact K
            · refine aw_goto (pc := 70) (tgt := 97) dX2_readClashes_70 rfl ?_
              refine aw_iinc (pc := 97) (lv' := [_, _, _]) dX2_readClashes_97 (Nat.le_of_ble_eq_true rfl) rfl rfl ?_
              refine aw_goto (pc := 100) (tgt := 25) dX2_readClashes_100 rfl ?_
              have K := ih (b + 1) cl (by omega) (by omega) (z_ck_skip hck hab (fun q => z_bl_0.mp h67 (ecn.mpr q.2.2)))
              rw [show ((b + 1 : Nat) : Int) = (b : Int) + 1 from rfl] at K
              exact K
    have K := loop ((I 1 5).toNat - (a + 1)) (a + 1) cl0 (by omega) (by omega) hck0
    exact K
  have outer : ∀ (k : Nat) (a : Nat) (v : Option AwV) (cl : Nat → Nat), (a : Int) + k = I 1 5 → z_ck (z_clM I J) a (a + 1) cl → AW (FM m_X2_readClashes (fun q9 sz' I' J' R' => q9 = none ∧ sz' = 255 ∧ J' = J ∧ R' = z_R π ∧ ∃ cl : Nat → Nat, I' = (z_s2 I ((z_bm (z_clM I J) (I 1 5).toNat : Nat) : Int) (fun j => ((cl j : Nat) : Int))) ∧ z_ck (z_clM I J) (mN (z_clM I J)) (mN (z_clM I J) + 1) cl)) 0 0 255 10 [some (zr 231), some (zi (a : Int)), v] [] (z_s2 I ((z_bm (z_clM I J) (I 1 5).toNat : Nat) : Int) (fun j => ((cl j : Nat) : Int))) J (z_R π) := by
    intro k
    induction k with
    | zero =>
      intro a v cl he hck
      refine aw_iload_n (pc := 10) dX2_readClashes_10 rfl ?_
      refine aw_aload_n (pc := 11) dX2_readClashes_11 rfl ?_
      refine aw_getR (pc := 12) dX2_readClashes_12 k_fl_X2_15 rfl (by omega) (by first | rfl | exact z_shr _ (by omega) | exact z_shc0 (by omega) | exact z_shc1 (by omega) | exact z_shc2 (by omega) | exact z_shc3 (by omega) | exact z_shc4 (by omega)) (by first | rfl | exact z_Rc0 _ (by omega) | exact z_Rc1 _ (by omega) | exact z_Rc2 _ (by omega) | exact z_Rc3 _ (by omega)) ?_
      refine aw_getV (pc := 15) (v := I 1 5) dX2_readClashes_15 k_fl_X2_29 rfl (by omega) (by first | rfl | exact z_shr _ (by omega) | exact z_shc0 (by omega) | exact z_shc1 (by omega) | exact z_shc2 (by omega) | exact z_shc3 (by omega) | exact z_shc4 (by omega)) (z_s2_o (by omega)) ?_
      refine aw_icmp_ge (pc := 18) (tgt := 109) dX2_readClashes_18 rfl (by first | omega | exact z_bl_r _) (by first | omega | exact z_bl_r _) (fun h18 => ?_) (fun h18 => absurd h18 (by omega))
      exact aw_return (pc := 109) dX2_readClashes_109 rfl ⟨Nat.zero_le _, Nat.zero_le _⟩ (⟨rfl, rfl, rfl, rfl, cl, rfl, by rw [eN, show (I 1 5).toNat = a by omega]; exact hck⟩)
    | succ k ih =>
      intro a v cl he hck
      refine aw_iload_n (pc := 10) dX2_readClashes_10 rfl ?_
      refine aw_aload_n (pc := 11) dX2_readClashes_11 rfl ?_
      refine aw_getR (pc := 12) dX2_readClashes_12 k_fl_X2_15 rfl (by omega) (by first | rfl | exact z_shr _ (by omega) | exact z_shc0 (by omega) | exact z_shc1 (by omega) | exact z_shc2 (by omega) | exact z_shc3 (by omega) | exact z_shc4 (by omega)) (by first | rfl | exact z_Rc0 _ (by omega) | exact z_Rc1 _ (by omega) | exact z_Rc2 _ (by omega) | exact z_Rc3 _ (by omega)) ?_
      refine aw_getV (pc := 15) (v := I 1 5) dX2_readClashes_15 k_fl_X2_29 rfl (by omega) (by first | rfl | exact z_shr _ (by omega) | exact z_shc0 (by omega) | exact z_shc1 (by omega) | exact z_shc2 (by omega) | exact z_shc3 (by omega) | exact z_shc4 (by omega)) (z_s2_o (by omega)) ?_
      refine aw_icmp_ge (pc := 18) (tgt := 109) dX2_readClashes_18 rfl (by first | omega | exact z_bl_r _) (by first | omega | exact z_bl_r _) (fun h18 => absurd h18 (by omega)) (fun h18 => ?_)
      refine aw_iload_n (pc := 21) dX2_readClashes_21 rfl ?_
      refine aw_iconst (pc := 22) dX2_readClashes_22 ?_
      refine aw_iadd (pc := 23) dX2_readClashes_23 ?_
      refine aw_istore_n (pc := 24) (lv' := [_, _, _]) dX2_readClashes_24 (Nat.le_of_ble_eq_true rfl) rfl ?_
      refine inner a (by omega) (fun cl9 v9 q9 => ?_) cl hck
      refine aw_iinc (pc := 103) (lv' := [_, _, _]) dX2_readClashes_103 (Nat.le_of_ble_eq_true rfl) rfl rfl ?_
      refine aw_goto (pc := 106) (tgt := 10) dX2_readClashes_106 rfl ?_
      have K := ih (a + 1) v9 cl9 (by omega) (z_ck_next q9)
      exact K
  refine aw_aload_n (pc := 0) dX2_readClashes_0 rfl ?_
  refine aw_getR (pc := 1) dX2_readClashes_1 k_fl_X2_9 rfl (by omega) (by first | rfl | exact z_shr _ (by omega) | exact z_shc0 (by omega) | exact z_shc1 (by omega) | exact z_shc2 (by omega) | exact z_shc3 (by omega) | exact z_shc4 (by omega)) (by first | rfl | exact z_Rc0 _ (by omega) | exact z_Rc1 _ (by omega) | exact z_Rc2 _ (by omega) | exact z_Rc3 _ (by omega)) ?_
  refine aw_iconst (pc := 4) dX2_readClashes_4 ?_
  refine aw_qS (pc := 5) (d := m_J7_fill_53178) (c_fill (n := 8) (by omega) rfl (by omega)) k_J7_fill_53178 dX2_readClashes_5 k_ml_X2_48 rfl ⟨rfl, rfl⟩ ⟨Nat.le_of_ble_eq_true rfl, Nat.le_of_ble_eq_true rfl⟩ ⟨Nat.zero_le _, Nat.zero_le _⟩ rfl (Nat.le_of_ble_eq_true rfl) (z_Pk ?_)
  rw [z_s2_fl]
  refine aw_iconst (pc := 8) dX2_readClashes_8 ?_
  refine aw_istore_n (pc := 9) (lv' := [_, _, _]) dX2_readClashes_9 (Nat.le_of_ble_eq_true rfl) rfl ?_
  have hck0 : z_ck (z_clM I J) 0 (0 + 1) (fun j => if j < 8 then 0 else (cl0 j).toNat) := ⟨fun c hc => by dsimp only; rw [if_pos hc]; omega, fun c d hc => by
    dsimp only
    rw [if_pos hc, Nat.zero_testBit]
    exact ⟨fun q => (by cases q), fun q => by obtain ⟨g1, g2, g3, g4, g5, g6, g7, g8⟩ := q; omega⟩⟩
  have K := outer (I 1 5).toNat 0 none _ (by omega) hck0
  rw [show (fun j => (((if j < 8 then 0 else (cl0 j).toNat : Nat)) : Int)) = fun j => if j < 8 then (0 : Int) else cl0 j from funext fun j => by split; rfl; have := hcl j; omega] at K
  exact K
