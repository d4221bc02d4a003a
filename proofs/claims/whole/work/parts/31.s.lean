/-- the checker's numbers, of the cut in cell c -/
def z_tb0 (I : AwI) (c : Nat) : Prop := (∃ r : Nat, (r : Int) < I 1 6 ∧ I (19 + 5 * c + 2) r < 0) ∨ ∃ n : Nat, (n : Int) < I 1 5 ∧ (I (19 + 5 * c + 3) n < 0 ∨ I (19 + 5 * c + 4) n < 0)
def z_cf (I : AwI) (c n : Nat) : Int := I (19 + 5 * c + 4) n - I (19 + 5 * c + 3) n + z_sm (fun r => I (19 + 5 * c + 2) r * I (6 + r) n) (I 1 6)
def z_rsm (I : AwI) (c : Nat) (x : Int) : Int := z_sm (fun r => I (19 + 5 * c + 2) r * I 16 r) x
def z_nsm (I : AwI) (c : Nat) (x : Int) : Int := z_sm (fun n => I (19 + 5 * c + 4) n * I 3 n - I (19 + 5 * c + 3) n * I 2 n) x
def z_aR (I : AwI) (c : Nat) : Prop := 1 ≤ I (19 + 5 * c) 7 ∧ ¬ z_tb0 I c ∧ (∀ n : Nat, (n : Int) < I 1 5 → I (19 + 5 * c + 1) n * I (19 + 5 * c) 7 = z_cf I c n) ∧ (z_rsm I c (I 1 6) + z_nsm I c (I 1 5)) / I (19 + 5 * c) 7 ≤ I (19 + 5 * c) 4
def z_so (I : AwI) (a s : Nat) : Int := z_sm (fun n => z_bt s n * I a n) (I 1 5)
def z_um (f : Nat → Int) : Nat → Nat
  | 0 => 0
  | x + 1 => if f x = 0 then z_um f x else z_um f x ||| 2 ^ x
theorem z_um_t (f : Nat → Int) (n : Nat) : ∀ x, (z_um f x).testBit n = true ↔ n < x ∧ f n ≠ 0
  | 0 => by show (0 : Nat).testBit n = true ↔ _; rw [Nat.zero_testBit]; exact ⟨fun q => (by cases q), fun q => absurd q.1 (by omega)⟩
  | x + 1 => by
    show (if f x = 0 then z_um f x else z_um f x ||| 2 ^ x).testBit n = true ↔ _
    by_cases hb : f x = 0
    · rw [if_pos hb, z_um_t f n x]
      constructor
      · rintro ⟨q1, q2⟩; exact ⟨by omega, q2⟩
      · rintro ⟨q1, q2⟩
        by_cases e : n = x
        · subst e; exact absurd hb q2
        · exact ⟨by omega, q2⟩
    · rw [if_neg hb, Nat.testBit_or, Bool.or_eq_true, z_um_t f n x, z_pt]
      constructor
      · rintro (⟨q1, q2⟩ | q)
        · exact ⟨by omega, q2⟩
        · subst q; exact ⟨by omega, hb⟩
      · rintro ⟨q1, q2⟩
        by_cases e : n = x
        · exact Or.inr e
        · exact Or.inl ⟨by omega, q2⟩
theorem z_um_lt (f : Nat → Int) : ∀ x, z_um f x < 2 ^ x
  | 0 => by show 0 < 1; omega
  | x + 1 => by
    show (if f x = 0 then z_um f x else z_um f x ||| 2 ^ x) < _
    have h := z_um_lt f x
    have h2 : 2 ^ x < 2 ^ (x + 1) := Nat.pow_lt_pow_right (by omega) (by omega)
    split
    · omega
    · exact Nat.or_lt_two_pow (by omega) h2
def z_ls (I : AwI) (c r : Nat) (x : Int) : Int := z_sm (fun n => if I (19 + 5 * c + 1) n = 0 then z_cl I r n else 0) x
def z_ub (I : AwI) (c : Nat) : Nat := z_um (fun n => I (19 + 5 * c + 1) n) (I 1 5).toNat
def z_aC (I : AwI) (c : Nat) : Prop := (0 ≤ I (19 + 5 * c) 8 ∧ I (19 + 5 * c) 8 < I 1 6) ∧ (∀ n : Nat, (n : Int) < I 1 5 → I (19 + 5 * c + 1) n ≠ 0 → I 2 n = 0 ∧ I 3 n = 1) ∧ ∀ s : Nat, s ≤ z_ub I c → z_an s (z_ub I c) = 0 → z_so I (6 + (I (19 + 5 * c) 8).toNat) s ≤ I 16 (I (19 + 5 * c) 8).toNat - z_ls I c (I (19 + 5 * c) 8).toNat (I 1 5) → z_so I (19 + 5 * c + 1) s ≤ I (19 + 5 * c) 4
def z_aQ (I : AwI) (c : Nat) : Prop := 1 ≤ I (19 + 5 * c) 4 ∧ ∀ n : Nat, (n : Int) < I 1 5 → I (19 + 5 * c + 1) n ≠ 0 → I (19 + 5 * c + 1) n = 1 ∧ (I 2 n = 0 ∧ I 3 n = 1) ∧ ∀ k, k < n → I (19 + 5 * c + 1) k = 1 → z_cn2 I k n
noncomputable def z_ac (I : AwI) (c : Nat) : Prop := if I (19 + 5 * c) 5 = 0 ∨ I (19 + 5 * c) 5 = 1 then z_aR I c else if I (19 + 5 * c) 5 = 2 then z_aC I c else z_aQ I c
set_option maxHeartbeats 4000000 in
theorem c_X0_isTakenBelowZero {π : Nat → Nat} {I J : AwI} {c : Nat} (h : z_M I J) (hk : c < 41) (hc : z_C I c) : CT m_X0_isTakenBelowZero [zr 233, zr (19 + 5 * c)] 255 I J (z_R π) (z_P (some (zi (z_bl (z_tb0 I c)))) 255 I J (z_R π)) := by
  have hnm := h.nm
  have hrw := h.rw
  refine CT.of (by decide) (Nat.le_of_ble_eq_true rfl) ?_
  show AW _ 0 0 _ 0 [some (zr 233), some (zr (19 + 5 * c)), none] [] _ _ _
  have loop2 : ∀ (k : Nat) (x : Int), 0 ≤ x → x + k = I 1 5 → (∀ n : Nat, (n : Int) < x → 0 ≤ I (19 + 5 * c + 3) n ∧ 0 ≤ I (19 + 5 * c + 4) n) → (∀ r : Nat, (r : Int) < I 1 6 → 0 ≤ I (19 + 5 * c + 2) r) → AW (FM m_X0_isTakenBelowZero (z_P (some (zi (z_bl (z_tb0 I c)))) 255 I J (z_R π))) 0 0 255 32 [some (zr 233), some (zr (19 + 5 * c)), some (zi x)] [] I J (z_R π) := by
    intro k
    induction k with
    | zero =>
      intro x hx he g2 g1
      refine aw_iload_n (pc := 32) dX0_isTakenBelowZero_32 rfl ?_
      refine aw_aload_n (pc := 33) dX0_isTakenBelowZero_33 rfl ?_
      refine aw_getR (pc := 34) dX0_isTakenBelowZero_34 k_fl_X0_9 rfl (by omega) (by first | rfl | exact z_shr _ (by omega) | exact z_shc0 (by omega) | exact z_shc1 (by omega) | exact z_shc2 (by omega) | exact z_shc3 (by omega) | exact z_shc4 (by omega)) (by first | rfl | exact z_Rc0 _ (by omega) | exact z_Rc1 _ (by omega) | exact z_Rc2 _ (by omega) | exact z_Rc3 _ (by omega)) ?_
      refine aw_getI (pc := 37) dX0_isTakenBelowZero_37 k_fl_X0_49 rfl (by omega) (by first | rfl | exact z_shr _ (by omega) | exact z_shc0 (by omega) | exact z_shc1 (by omega) | exact z_shc2 (by omega) | exact z_shc3 (by omega) | exact z_shc4 (by omega)) ?_
      refine aw_icmp_ge (pc := 40) (tgt := 69) dX0_isTakenBelowZero_40 rfl (by first | omega | exact z_bl_r _) (by first | omega | exact z_bl_r _) (fun h40 => ?_) (fun h40 => absurd h40 (by omega))
      refine aw_iconst (pc := 69) dX0_isTakenBelowZero_69 ?_
      exact aw_zreturn (pc := 70) dX0_isTakenBelowZero_70 rfl (by first | exact Or.inl rfl | exact Or.inr rfl | omega) ⟨Nat.zero_le _, Nat.zero_le _⟩ (⟨z_r0 (fun q => q.elim (fun ⟨r, q1, q2⟩ => by have := g1 r q1; omega) (fun ⟨n, q1, q2⟩ => by have := g2 n (by omega); omega)), rfl, rfl, rfl, rfl⟩)
    | succ k ih =>
      intro x hx he g2 g1
      refine aw_iload_n (pc := 32) dX0_isTakenBelowZero_32 rfl ?_
      refine aw_aload_n (pc := 33) dX0_isTakenBelowZero_33 rfl ?_
      refine aw_getR (pc := 34) dX0_isTakenBelowZero_34 k_fl_X0_9 rfl (by omega) (by first | rfl | exact z_shr _ (by omega) | exact z_shc0 (by omega) | exact z_shc1 (by omega) | exact z_shc2 (by omega) | exact z_shc3 (by omega) | exact z_shc4 (by omega)) (by first | rfl | exact z_Rc0 _ (by omega) | exact z_Rc1 _ (by omega) | exact z_Rc2 _ (by omega) | exact z_Rc3 _ (by omega)) ?_
      refine aw_getI (pc := 37) dX0_isTakenBelowZero_37 k_fl_X0_49 rfl (by omega) (by first | rfl | exact z_shr _ (by omega) | exact z_shc0 (by omega) | exact z_shc1 (by omega) | exact z_shc2 (by omega) | exact z_shc3 (by omega) | exact z_shc4 (by omega)) ?_
      refine aw_icmp_ge (pc := 40) (tgt := 69) dX0_isTakenBelowZero_40 rfl (by first | omega | exact z_bl_r _) (by first | omega | exact z_bl_r _) (fun h40 => absurd h40 (by omega)) (fun h40 => ?_)
      have b1 := hc.lt x.toNat
      have b2 := hc.ht x.toNat
      refine aw_aload_n (pc := 43) dX0_isTakenBelowZero_43 rfl ?_
      refine aw_getR (pc := 44) dX0_isTakenBelowZero_44 k_fl_X0_65 rfl (by omega) (by first | rfl | exact z_shr _ (by omega) | exact z_shc0 (by omega) | exact z_shc1 (by omega) | exact z_shc2 (by omega) | exact z_shc3 (by omega) | exact z_shc4 (by omega)) (by first | rfl | exact z_Rc0 _ (by omega) | exact z_Rc1 _ (by omega) | exact z_Rc2 _ (by omega) | exact z_Rc3 _ (by omega)) ?_
      refine aw_iload_n (pc := 47) dX0_isTakenBelowZero_47 rfl ?_
      refine aw_iaload (pc := 48) dX0_isTakenBelowZero_48 (by omega) (Nat.le_refl _) (by first | rfl | exact z_shr _ (by omega) | exact z_shc0 (by omega) | exact z_shc1 (by omega) | exact z_shc2 (by omega) | exact z_shc3 (by omega) | exact z_shc4 (by omega)) (by first | omega | exact z_bl_r _) ?_
      refine aw_if_lt (pc := 49) (tgt := 61) dX0_isTakenBelowZero_49 rfl (by first | omega | exact z_bl_r _) (fun h49 => ?_) (fun h49 => ?_)
      · refine aw_iconst (pc := 61) dX0_isTakenBelowZero_61 ?_
        exact aw_zreturn (pc := 62) dX0_isTakenBelowZero_62 rfl (by first | exact Or.inl rfl | exact Or.inr rfl | omega) ⟨Nat.zero_le _, Nat.zero_le _⟩ (⟨z_r1 (Or.inr ⟨x.toNat, by omega, by omega⟩), rfl, rfl, rfl, rfl⟩)
      · refine aw_aload_n (pc := 52) dX0_isTakenBelowZero_52 rfl ?_
        refine aw_getR (pc := 53) dX0_isTakenBelowZero_53 k_fl_X0_59 rfl (by omega) (by first | rfl | exact z_shr _ (by omega) | exact z_shc0 (by omega) | exact z_shc1 (by omega) | exact z_shc2 (by omega) | exact z_shc3 (by omega) | exact z_shc4 (by omega)) (by first | rfl | exact z_Rc0 _ (by omega) | exact z_Rc1 _ (by omega) | exact z_Rc2 _ (by omega) | exact z_Rc3 _ (by omega)) ?_
        refine aw_iload_n (pc := 56) dX0_isTakenBelowZero_56 rfl ?_
        refine aw_iaload (pc := 57) dX0_isTakenBelowZero_57 (by omega) (Nat.le_refl _) (by first | rfl | exact z_shr _ (by omega) | exact z_shc0 (by omega) | exact z_shc1 (by omega) | exact z_shc2 (by omega) | exact z_shc3 (by omega) | exact z_shc4 (by omega)) (by first | omega | exact z_bl_r _) ?_
        refine aw_if_ge (pc := 58) (tgt := 63) dX0_isTakenBelowZero_58 rfl (by first | omega | exact z_bl_r _) (fun h58 => ?_) (fun h58 => ?_)
        · refine aw_iinc (pc := 63) (lv' := [_, _, _]) dX0_isTakenBelowZero_63 (Nat.le_of_ble_eq_true rfl) rfl rfl ?_
          refine aw_goto (pc := 66) (tgt := 32) dX0_isTakenBelowZero_66 rfl ?_
          refine ih (x + 1) (by omega) (by omega) (fun n hn => by by_cases e : (n : Int) < x; exact g2 n e; rw [show n = x.toNat by omega]; omega) g1
        · refine aw_iconst (pc := 61) dX0_isTakenBelowZero_61 ?_
          exact aw_zreturn (pc := 62) dX0_isTakenBelowZero_62 rfl (by first | exact Or.inl rfl | exact Or.inr rfl | omega) ⟨Nat.zero_le _, Nat.zero_le _⟩ (⟨z_r1 (Or.inr ⟨x.toNat, by omega, by omega⟩), rfl, rfl, rfl, rfl⟩)
  have loop1 : ∀ (k : Nat) (x : Int), 0 ≤ x → x + k = I 1 6 → (∀ r : Nat, (r : Int) < x → 0 ≤ I (19 + 5 * c + 2) r) → AW (FM m_X0_isTakenBelowZero (z_P (some (zi (z_bl (z_tb0 I c)))) 255 I J (z_R π))) 0 0 255 2 [some (zr 233), some (zr (19 + 5 * c)), some (zi x)] [] I J (z_R π) := by
    intro k
    induction k with
    | zero =>
      intro x hx he g1
      refine aw_iload_n (pc := 2) dX0_isTakenBelowZero_2 rfl ?_
      refine aw_aload_n (pc := 3) dX0_isTakenBelowZero_3 rfl ?_
      refine aw_getR (pc := 4) dX0_isTakenBelowZero_4 k_fl_X0_9 rfl (by omega) (by first | rfl | exact z_shr _ (by omega) | exact z_shc0 (by omega) | exact z_shc1 (by omega) | exact z_shc2 (by omega) | exact z_shc3 (by omega) | exact z_shc4 (by omega)) (by first | rfl | exact z_Rc0 _ (by omega) | exact z_Rc1 _ (by omega) | exact z_Rc2 _ (by omega) | exact z_Rc3 _ (by omega)) ?_
      refine aw_getI (pc := 7) dX0_isTakenBelowZero_7 k_fl_X0_37 rfl (by omega) (by first | rfl | exact z_shr _ (by omega) | exact z_shc0 (by omega) | exact z_shc1 (by omega) | exact z_shc2 (by omega) | exact z_shc3 (by omega) | exact z_shc4 (by omega)) ?_
      refine aw_icmp_ge (pc := 10) (tgt := 30) dX0_isTakenBelowZero_10 rfl (by first | omega | exact z_bl_r _) (by first | omega | exact z_bl_r _) (fun h10 => ?_) (fun h10 => absurd h10 (by omega))
      refine aw_iconst (pc := 30) dX0_isTakenBelowZero_30 ?_
      refine aw_istore_n (pc := 31) (lv' := [_, _, _]) dX0_isTakenBelowZero_31 (Nat.le_of_ble_eq_true rfl) rfl ?_
      exact loop2 (I 1 5).toNat 0 (by omega) (by omega) (fun n hn => by omega) (fun r hr => g1 r (by omega))
    | succ k ih =>
      intro x hx he g1
      refine aw_iload_n (pc := 2) dX0_isTakenBelowZero_2 rfl ?_
      refine aw_aload_n (pc := 3) dX0_isTakenBelowZero_3 rfl ?_
      refine aw_getR (pc := 4) dX0_isTakenBelowZero_4 k_fl_X0_9 rfl (by omega) (by first | rfl | exact z_shr _ (by omega) | exact z_shc0 (by omega) | exact z_shc1 (by omega) | exact z_shc2 (by omega) | exact z_shc3 (by omega) | exact z_shc4 (by omega)) (by first | rfl | exact z_Rc0 _ (by omega) | exact z_Rc1 _ (by omega) | exact z_Rc2 _ (by omega) | exact z_Rc3 _ (by omega)) ?_
      refine aw_getI (pc := 7) dX0_isTakenBelowZero_7 k_fl_X0_37 rfl (by omega) (by first | rfl | exact z_shr _ (by omega) | exact z_shc0 (by omega) | exact z_shc1 (by omega) | exact z_shc2 (by omega) | exact z_shc3 (by omega) | exact z_shc4 (by omega)) ?_
      refine aw_icmp_ge (pc := 10) (tgt := 30) dX0_isTakenBelowZero_10 rfl (by first | omega | exact z_bl_r _) (by first | omega | exact z_bl_r _) (fun h10 => absurd h10 (by omega)) (fun h10 => ?_)
      have b1 := hc.rt x.toNat
      refine aw_aload_n (pc := 13) dX0_isTakenBelowZero_13 rfl ?_
      refine aw_getR (pc := 14) dX0_isTakenBelowZero_14 k_fl_X0_42 rfl (by omega) (by first | rfl | exact z_shr _ (by omega) | exact z_shc0 (by omega) | exact z_shc1 (by omega) | exact z_shc2 (by omega) | exact z_shc3 (by omega) | exact z_shc4 (by omega)) (by first | rfl | exact z_Rc0 _ (by omega) | exact z_Rc1 _ (by omega) | exact z_Rc2 _ (by omega) | exact z_Rc3 _ (by omega)) ?_
      refine aw_iload_n (pc := 17) dX0_isTakenBelowZero_17 rfl ?_
      refine aw_iaload (pc := 18) dX0_isTakenBelowZero_18 (by omega) (Nat.le_refl _) (by first | rfl | exact z_shr _ (by omega) | exact z_shc0 (by omega) | exact z_shc1 (by omega) | exact z_shc2 (by omega) | exact z_shc3 (by omega) | exact z_shc4 (by omega)) (by first | omega | exact z_bl_r _) ?_
      refine aw_if_ge (pc := 19) (tgt := 24) dX0_isTakenBelowZero_19 rfl (by first | omega | exact z_bl_r _) (fun h19 => ?_) (fun h19 => ?_)
      · refine aw_iinc (pc := 24) (lv' := [_, _, _]) dX0_isTakenBelowZero_24 (Nat.le_of_ble_eq_true rfl) rfl rfl ?_
        refine aw_goto (pc := 27) (tgt := 2) dX0_isTakenBelowZero_27 rfl ?_
        exact ih (x + 1) (by omega) (by omega) (fun n hn => by by_cases e : (n : Int) < x; exact g1 n e; rw [show n = x.toNat by omega]; omega)
      · refine aw_iconst (pc := 22) dX0_isTakenBelowZero_22 ?_
        exact aw_zreturn (pc := 23) dX0_isTakenBelowZero_23 rfl (by first | exact Or.inl rfl | exact Or.inr rfl | omega) ⟨Nat.zero_le _, Nat.zero_le _⟩ (⟨z_r1 (Or.inl ⟨x.toNat, by omega, by omega⟩), rfl, rfl, rfl, rfl⟩)
  refine aw_iconst (pc := 0) dX0_isTakenBelowZero_0 ?_
  refine aw_istore_n (pc := 1) (lv' := [_, _, _]) dX0_isTakenBelowZero_1 (Nat.le_of_ble_eq_true rfl) rfl ?_
  exact loop1 (I 1 6).toNat 0 (by omega) (by omega) (fun n hn => by omega)
set_option maxHeartbeats 4000000 in
theorem c_X0_comingFactor {π : Nat → Nat} {I J : AwI} {c : Nat} {n : Int} (h : z_M I J) (hk : c < 41) (hc : z_C I c) (hn : 0 ≤ n ∧ n < 8) : CT m_X0_comingFactor [zr 233, zr (19 + 5 * c), zi n] 255 I J (z_R π) (z_P (some (zl (z_cf I c n.toNat))) 255 I J (z_R π)) := by
  have hrw := h.rw
  refine CT.of (by decide) (Nat.le_of_ble_eq_true rfl) ?_
  show AW _ 0 0 _ 0 [some (zr 233), some (zr (19 + 5 * c)), some (zi n), none, none, none] [] _ _ _
  have loop : ∀ (k : Nat) (x : Int), 0 ≤ x → x + k = I 1 6 → AW (FM m_X0_comingFactor (z_P (some (zl (z_cf I c n.toNat))) 255 I J (z_R π))) 0 0 255 19 [some (zr 233), some (zr (19 + 5 * c)), some (zi n), some (zl (I (19 + 5 * c + 4) n.toNat - I (19 + 5 * c + 3) n.toNat + z_sm (fun r => I (19 + 5 * c + 2) r * I (6 + r) n.toNat) x)), none, some (zi x)] [] I J (z_R π) := by
    intro k
    induction k with
    | zero =>
      intro x hx he
      refine aw_iload (pc := 19) dX0_comingFactor_19 rfl ?_
      refine aw_aload_n (pc := 21) dX0_comingFactor_21 rfl ?_
      refine aw_getR (pc := 22) dX0_comingFactor_22 k_fl_X0_9 rfl (by omega) (by first | rfl | exact z_shr _ (by omega) | exact z_shc0 (by omega) | exact z_shc1 (by omega) | exact z_shc2 (by omega) | exact z_shc3 (by omega) | exact z_shc4 (by omega)) (by first | rfl | exact z_Rc0 _ (by omega) | exact z_Rc1 _ (by omega) | exact z_Rc2 _ (by omega) | exact z_Rc3 _ (by omega)) ?_
      refine aw_getI (pc := 25) dX0_comingFactor_25 k_fl_X0_37 rfl (by omega) (by first | rfl | exact z_shr _ (by omega) | exact z_shc0 (by omega) | exact z_shc1 (by omega) | exact z_shc2 (by omega) | exact z_shc3 (by omega) | exact z_shc4 (by omega)) ?_
      refine aw_icmp_ge (pc := 28) (tgt := 62) dX0_comingFactor_28 rfl (by first | omega | exact z_bl_r _) (by first | omega | exact z_bl_r _) (fun h28 => ?_) (fun h28 => absurd h28 (by omega))
      refine aw_lload_n (pc := 62) dX0_comingFactor_62 rfl ?_
      exact aw_lreturn (pc := 63) dX0_comingFactor_63 rfl ⟨Nat.zero_le _, Nat.zero_le _⟩ (⟨by unfold z_cf; rw [show x = I 1 6 by omega], rfl, rfl, rfl, rfl⟩)
    | succ k ih =>
      intro x hx he
      refine aw_iload (pc := 19) dX0_comingFactor_19 rfl ?_
      refine aw_aload_n (pc := 21) dX0_comingFactor_21 rfl ?_
      refine aw_getR (pc := 22) dX0_comingFactor_22 k_fl_X0_9 rfl (by omega) (by first | rfl | exact z_shr _ (by omega) | exact z_shc0 (by omega) | exact z_shc1 (by omega) | exact z_shc2 (by omega) | exact z_shc3 (by omega) | exact z_shc4 (by omega)) (by first | rfl | exact z_Rc0 _ (by omega) | exact z_Rc1 _ (by omega) | exact z_Rc2 _ (by omega) | exact z_Rc3 _ (by omega)) ?_
      refine aw_getI (pc := 25) dX0_comingFactor_25 k_fl_X0_37 rfl (by omega) (by first | rfl | exact z_shr _ (by omega) | exact z_shc0 (by omega) | exact z_shc1 (by omega) | exact z_shc2 (by omega) | exact z_shc3 (by omega) | exact z_shc4 (by omega)) ?_
      refine aw_icmp_ge (pc := 28) (tgt := 62) dX0_comingFactor_28 rfl (by first | omega | exact z_bl_r _) (by first | omega | exact z_bl_r _) (fun h28 => absurd h28 (by omega)) (fun h28 => ?_)
      have b1 := hc.rt x.toNat
      have b2 := h.fc x.toNat n.toNat (by omega)
      refine aw_lload_n (pc := 31) dX0_comingFactor_31 rfl ?_
      refine aw_aload_n (pc := 32) dX0_comingFactor_32 rfl ?_
      refine aw_getR (pc := 33) dX0_comingFactor_33 k_fl_X0_42 rfl (by omega) (by first | rfl | exact z_shr _ (by omega) | exact z_shc0 (by omega) | exact z_shc1 (by omega) | exact z_shc2 (by omega) | exact z_shc3 (by omega) | exact z_shc4 (by omega)) (by first | rfl | exact z_Rc0 _ (by omega) | exact z_Rc1 _ (by omega) | exact z_Rc2 _ (by omega) | exact z_Rc3 _ (by omega)) ?_
      refine aw_iload (pc := 36) dX0_comingFactor_36 rfl ?_
      refine aw_iaload (pc := 38) dX0_comingFactor_38 (by omega) (Nat.le_refl _) (by first | rfl | exact z_shr _ (by omega) | exact z_shc0 (by omega) | exact z_shc1 (by omega) | exact z_shc2 (by omega) | exact z_shc3 (by omega) | exact z_shc4 (by omega)) (by first | omega | exact z_bl_r _) ?_
      refine aw_i2l (pc := 39) dX0_comingFactor_39 (by first | omega | exact z_bl_r _) ?_
      refine aw_aload_n (pc := 40) dX0_comingFactor_40 rfl ?_
      refine aw_getR (pc := 41) dX0_comingFactor_41 k_fl_X0_9 rfl (by omega) (by first | rfl | exact z_shr _ (by omega) | exact z_shc0 (by omega) | exact z_shc1 (by omega) | exact z_shc2 (by omega) | exact z_shc3 (by omega) | exact z_shc4 (by omega)) (by first | rfl | exact z_Rc0 _ (by omega) | exact z_Rc1 _ (by omega) | exact z_Rc2 _ (by omega) | exact z_Rc3 _ (by omega)) ?_
      refine aw_getR (pc := 44) dX0_comingFactor_44 k_fl_X0_80 rfl (by omega) (by first | rfl | exact z_shr _ (by omega) | exact z_shc0 (by omega) | exact z_shc1 (by omega) | exact z_shc2 (by omega) | exact z_shc3 (by omega) | exact z_shc4 (by omega)) (by first | rfl | exact z_Rc0 _ (by omega) | exact z_Rc1 _ (by omega) | exact z_Rc2 _ (by omega) | exact z_Rc3 _ (by omega)) ?_
      refine aw_iload (pc := 47) dX0_comingFactor_47 rfl ?_
      refine aw_aaloadG (b := 6 + x.toNat) (pc := 49) dX0_comingFactor_49 (by omega) (Nat.le_refl _) rfl (by omega) (by rfl) ?_
      refine aw_iload_n (pc := 50) dX0_comingFactor_50 rfl ?_
      refine aw_iaload (pc := 51) dX0_comingFactor_51 (by omega) (Nat.le_refl _) (by first | rfl | exact z_shr _ (by omega) | exact z_shc0 (by omega) | exact z_shc1 (by omega) | exact z_shc2 (by omega) | exact z_shc3 (by omega) | exact z_shc4 (by omega)) (by first | omega | exact z_bl_r _) ?_
      refine aw_i2l (pc := 52) dX0_comingFactor_52 (by first | omega | exact z_bl_r _) ?_
      refine aw_lmul (pc := 53) dX0_comingFactor_53 ?_
      refine aw_ladd (pc := 54) dX0_comingFactor_54 ?_
      refine aw_lstore_n (pc := 55) (lv' := [_, _, _, _, _, _]) dX0_comingFactor_55 (Nat.le_of_ble_eq_true rfl) rfl ?_
      refine aw_iinc (pc := 56) (lv' := [_, _, _, _, _, _]) dX0_comingFactor_56 (Nat.le_of_ble_eq_true rfl) rfl rfl ?_
      refine aw_goto (pc := 59) (tgt := 19) dX0_comingFactor_59 rfl ?_
      have K := ih (x + 1) (by omega) (by omega)
      rw [z_sm_s _ hx, ← Int.add_assoc] at K
      exact K
  have b1 := hc.lt n.toNat
  have b2 := hc.ht n.toNat
  refine aw_aload_n (pc := 0) dX0_comingFactor_0 rfl ?_
  refine aw_getR (pc := 1) dX0_comingFactor_1 k_fl_X0_59 rfl (by omega) (by first | rfl | exact z_shr _ (by omega) | exact z_shc0 (by omega) | exact z_shc1 (by omega) | exact z_shc2 (by omega) | exact z_shc3 (by omega) | exact z_shc4 (by omega)) (by first | rfl | exact z_Rc0 _ (by omega) | exact z_Rc1 _ (by omega) | exact z_Rc2 _ (by omega) | exact z_Rc3 _ (by omega)) ?_
  refine aw_iload_n (pc := 4) dX0_comingFactor_4 rfl ?_
  refine aw_iaload (pc := 5) dX0_comingFactor_5 (by omega) (Nat.le_refl _) (by first | rfl | exact z_shr _ (by omega) | exact z_shc0 (by omega) | exact z_shc1 (by omega) | exact z_shc2 (by omega) | exact z_shc3 (by omega) | exact z_shc4 (by omega)) (by first | omega | exact z_bl_r _) ?_
  refine aw_i2l (pc := 6) dX0_comingFactor_6 (by first | omega | exact z_bl_r _) ?_
  refine aw_aload_n (pc := 7) dX0_comingFactor_7 rfl ?_
  refine aw_getR (pc := 8) dX0_comingFactor_8 k_fl_X0_65 rfl (by omega) (by first | rfl | exact z_shr _ (by omega) | exact z_shc0 (by omega) | exact z_shc1 (by omega) | exact z_shc2 (by omega) | exact z_shc3 (by omega) | exact z_shc4 (by omega)) (by first | rfl | exact z_Rc0 _ (by omega) | exact z_Rc1 _ (by omega) | exact z_Rc2 _ (by omega) | exact z_Rc3 _ (by omega)) ?_
  refine aw_iload_n (pc := 11) dX0_comingFactor_11 rfl ?_
  refine aw_iaload (pc := 12) dX0_comingFactor_12 (by omega) (Nat.le_refl _) (by first | rfl | exact z_shr _ (by omega) | exact z_shc0 (by omega) | exact z_shc1 (by omega) | exact z_shc2 (by omega) | exact z_shc3 (by omega) | exact z_shc4 (by omega)) (by first | omega | exact z_bl_r _) ?_
  refine aw_i2l (pc := 13) dX0_comingFactor_13 (by first | omega | exact z_bl_r _) ?_
  refine aw_lsub (pc := 14) dX0_comingFactor_14 ?_
  refine aw_lstore_n (pc := 15) (lv' := [_, _, _, _, _, _]) dX0_comingFactor_15 (Nat.le_of_ble_eq_true rfl) rfl ?_
  refine aw_iconst (pc := 16) dX0_comingFactor_16 ?_
  refine aw_istore (pc := 17) (lv' := [_, _, _, _, _, _]) dX0_comingFactor_17 (Nat.le_of_ble_eq_true rfl) rfl ?_
  have K := loop (I 1 6).toNat 0 (by omega) (by omega)
  rw [z_sm_0, Int.add_zero] at K
  exact K
theorem z_cf_b {I J : AwI} {c : Nat} (h : z_M I J) (hc : z_C I c) (n : Nat) : -1000000 ≤ z_cf I c n ∧ z_cf I c n ≤ 1000000 := by
  have hrw := h.rw
  have h1 := z_sum_b (f := fun r => I (19 + 5 * c + 2) r * I (6 + r) n) 50000 (I 1 6).toNat (fun r hr => by have a := z_mulb (hc.rt r) (h.fc r n (by omega)); omega)
  have h2 := hc.lt n
  have h3 := hc.ht n
  unfold z_cf z_sm
  omega
theorem z_rsm_b {I J : AwI} {c : Nat} (h : z_M I J) (hc : z_C I c) {x : Int} (hx : x ≤ 10) : -100000000 ≤ z_rsm I c x ∧ z_rsm I c x ≤ 100000000 := by
  have h1 := z_sm_b (f := fun r => I (19 + 5 * c + 2) r * I 16 r) 9999000 x 10 (by omega) (by omega) (fun r => by have a := z_mulb (hc.rt r) (h.rt r); omega)
  unfold z_rsm
  omega
theorem z_nsm_b {I J : AwI} {c : Nat} (h : z_M I J) (hc : z_C I c) {x : Int} (hx : x ≤ 10) : -1000000 ≤ z_nsm I c x ∧ z_nsm I c x ≤ 1000000 := by
  have h1 := z_sm_b (f := fun n => I (19 + 5 * c + 4) n * I 3 n - I (19 + 5 * c + 3) n * I 2 n) 60000 x 10 (by omega) (by omega) (fun n => by have a := z_mulb (hc.ht n) (h.hi n); have b := z_mulb (hc.lt n) (h.lo n); omega)
  unfold z_nsm
  omega
theorem z_edb2 (x : Int) {d : Int} (hd : 1 ≤ d ∧ d ≤ 1000) : x / d ≤ max x 0 ∧ min x (-1) ≤ x / d := by
  constructor
  · by_cases h : 0 ≤ x
    · have := Int.ediv_le_self d h
      omega
    · have := Int.ediv_neg_of_neg_of_pos (by omega : x < 0) (by omega : 0 < d)
      omega
  · by_cases h : 0 ≤ x
    · have := Int.ediv_nonneg h (by omega : 0 ≤ d)
      omega
    · have h5 : 0 ≤ (-x) * (d - 1) := Int.mul_nonneg (by omega) (by omega)
      rw [Int.mul_sub, Int.neg_mul] at h5
      have h6 : x ≤ x / d := (Int.le_ediv_iff_mul_le (by omega)).mpr (by omega)
      omega
set_option maxHeartbeats 4000000 in
theorem c_X0_acceptsRounding {π : Nat → Nat} {I J : AwI} {c : Nat} (h : z_M I J) (hk : c < 41) (hc : z_C I c) : CT m_X0_acceptsRounding [zr 233, zr (19 + 5 * c)] 255 I J (z_R π) (z_P (some (zi (z_bl (z_aR I c)))) 255 I J (z_R π)) := by
  have hnm := h.nm
  have hrw := h.rw
  have hdv := hc.dv
  have hcr := hc.r
  refine CT.of (by decide) (Nat.le_of_ble_eq_true rfl) ?_
  show AW _ 0 0 _ 0 [some (zr 233), some (zr (19 + 5 * c)), none, none, none] [] _ _ _
  refine aw_aload_n (pc := 0) dX0_acceptsRounding_0 rfl ?_
  refine aw_getI (pc := 1) dX0_acceptsRounding_1 k_fl_X0_31 rfl (by omega) (by first | rfl | exact z_shr _ (by omega) | exact z_shc0 (by omega) | exact z_shc1 (by omega) | exact z_shc2 (by omega) | exact z_shc3 (by omega) | exact z_shc4 (by omega)) ?_
  refine aw_iconst (pc := 4) dX0_acceptsRounding_4 ?_
  refine aw_icmp_lt (pc := 5) (tgt := 16) dX0_acceptsRounding_5 rfl (by first | omega | exact z_bl_r _) (by first | omega | exact z_bl_r _) (fun h5 => ?_) (fun h5 => ?_)
  · refine aw_iconst (pc := 16) dX0_acceptsRounding_16 ?_
    refine aw_zreturn (pc := 17) dX0_acceptsRounding_17 rfl (by first | exact Or.inl rfl | exact Or.inr rfl | omega) ⟨Nat.zero_le _, Nat.zero_le _⟩ ?_
    first
      | exact ⟨z_r0 (fun q => q.2.1 (z_bl_n.mp h13)), rfl, rfl, rfl, rfl⟩
      | exact ⟨z_r0 (fun q => by have := q.1; omega), rfl, rfl, rfl, rfl⟩
  · refine aw_aload_n (pc := 8) dX0_acceptsRounding_8 rfl ?_
    refine aw_aload_n (pc := 9) dX0_acceptsRounding_9 rfl ?_
    refine aw_qV (pc := 10) (d := m_X0_isTakenBelowZero) (c_X0_isTakenBelowZero h hk hc) k_X0_isTakenBelowZero dX0_acceptsRounding_10 k_ml_X0_34 rfl ⟨rfl, rfl⟩ (by omega) (by first | rfl | exact z_shr _ (by omega) | exact z_shc0 (by omega) | exact z_shc1 (by omega) | exact z_shc2 (by omega) | exact z_shc3 (by omega) | exact z_shc4 (by omega)) rfl ⟨Nat.le_of_ble_eq_true rfl, Nat.le_of_ble_eq_true rfl⟩ ⟨Nat.zero_le _, Nat.zero_le _⟩ rfl (Nat.le_of_ble_eq_true rfl) (z_Pk ?_)
    refine aw_if_eq (pc := 13) (tgt := 18) dX0_acceptsRounding_13 rfl (z_bl_r _) (fun h13 => ?_) (fun h13 => ?_)
    · have d1 : 1 ≤ I (19 + 5 * c) 7 := h5
      have d2 : ¬ z_tb0 I c := z_bl_0.mp h13
      have loop2 : ∀ (k : Nat) (x : Int), 0 ≤ x → x + k = I 1 5 → (∀ n : Nat, (n : Int) < x → I (19 + 5 * c + 1) n * I (19 + 5 * c) 7 = z_cf I c n) → AW (FM m_X0_acceptsRounding (z_P (some (zi (z_bl (z_aR I c)))) 255 I J (z_R π))) 0 0 255 67 [some (zr 233), some (zr (19 + 5 * c)), some (zl (z_rsm I c (I 1 6) + z_nsm I c x)), none, some (zi x)] [] I J (z_R π) := by
        intro k
        induction k with
        | zero =>
          intro x hx he g
          refine aw_iload (pc := 67) dX0_acceptsRounding_67 rfl ?_
          refine aw_aload_n (pc := 69) dX0_acceptsRounding_69 rfl ?_
          refine aw_getR (pc := 70) dX0_acceptsRounding_70 k_fl_X0_9 rfl (by omega) (by first | rfl | exact z_shr _ (by omega) | exact z_shc0 (by omega) | exact z_shc1 (by omega) | exact z_shc2 (by omega) | exact z_shc3 (by omega) | exact z_shc4 (by omega)) (by first | rfl | exact z_Rc0 _ (by omega) | exact z_Rc1 _ (by omega) | exact z_Rc2 _ (by omega) | exact z_Rc3 _ (by omega)) ?_
          refine aw_getI (pc := 73) dX0_acceptsRounding_73 k_fl_X0_49 rfl (by omega) (by first | rfl | exact z_shr _ (by omega) | exact z_shc0 (by omega) | exact z_shc1 (by omega) | exact z_shc2 (by omega) | exact z_shc3 (by omega) | exact z_shc4 (by omega)) ?_
          refine aw_icmp_ge (pc := 76) (tgt := 156) dX0_acceptsRounding_76 rfl (by first | omega | exact z_bl_r _) (by first | omega | exact z_bl_r _) (fun h76 => ?_) (fun h76 => absurd h76 (by omega))
          have hxx : x = I 1 5 := by omega
          subst hxx
          have q1 := z_rsm_b h hc (x := I 1 6) (by omega)
          have q2 := z_nsm_b h hc (x := I 1 5) (by omega)
          have q3 := z_edb2 (z_rsm I c (I 1 6) + z_nsm I c (I 1 5)) (d := I (19 + 5 * c) 7) (by omega)
          refine aw_aload_n (pc := 156) dX0_acceptsRounding_156 rfl ?_
          refine aw_getI (pc := 157) dX0_acceptsRounding_157 k_fl_X0_71 rfl (by omega) (by first | rfl | exact z_shr _ (by omega) | exact z_shc0 (by omega) | exact z_shc1 (by omega) | exact z_shc2 (by omega) | exact z_shc3 (by omega) | exact z_shc4 (by omega)) ?_
          refine aw_i2l (pc := 160) dX0_acceptsRounding_160 (by first | omega | exact z_bl_r _) ?_
          refine aw_lload_n (pc := 161) dX0_acceptsRounding_161 rfl ?_
          refine aw_aload_n (pc := 162) dX0_acceptsRounding_162 rfl ?_
          refine aw_getI (pc := 163) dX0_acceptsRounding_163 k_fl_X0_31 rfl (by omega) (by first | rfl | exact z_shr _ (by omega) | exact z_shc0 (by omega) | exact z_shc1 (by omega) | exact z_shc2 (by omega) | exact z_shc3 (by omega) | exact z_shc4 (by omega)) ?_
          refine aw_i2l (pc := 166) dX0_acceptsRounding_166 (by first | omega | exact z_bl_r _) ?_
          refine aw_qS (pc := 167) (d := m_J9_floorDiv_f86c9) (c_floorDivL (by omega) (by omega)) k_J9_floorDiv_f86c9 dX0_acceptsRounding_167 k_ml_X0_74 rfl ⟨rfl, rfl⟩ ⟨Nat.le_of_ble_eq_true rfl, Nat.le_of_ble_eq_true rfl⟩ ⟨Nat.zero_le _, Nat.zero_le _⟩ rfl (Nat.le_of_ble_eq_true rfl) (z_Pk ?_)
          refine aw_lcmp_lt (pc := 170) (tgt := 178) dX0_acceptsRounding_170 dX0_acceptsRounding_171 rfl (by first | omega | exact z_bl_r _) (by first | omega | exact z_bl_r _) (fun h170 => ?_) (fun h170 => ?_)
          · refine aw_iconst (pc := 178) dX0_acceptsRounding_178 ?_
            exact aw_zreturn (pc := 179) dX0_acceptsRounding_179 rfl (by first | exact Or.inl rfl | exact Or.inr rfl | omega) ⟨Nat.zero_le _, Nat.zero_le _⟩ (⟨by first | exact z_r1 ⟨d1, d2, fun n hn => g n hn, by omega⟩ | exact z_r0 (fun q => by have := q.2.2.2; omega), rfl, rfl, rfl, rfl⟩)
          · refine aw_iconst (pc := 174) dX0_acceptsRounding_174 ?_
            refine aw_goto (pc := 175) (tgt := 179) dX0_acceptsRounding_175 rfl ?_
            exact aw_zreturn (pc := 179) dX0_acceptsRounding_179 rfl (by first | exact Or.inl rfl | exact Or.inr rfl | omega) ⟨Nat.zero_le _, Nat.zero_le _⟩ (⟨by first | exact z_r1 ⟨d1, d2, fun n hn => g n hn, by omega⟩ | exact z_r0 (fun q => by have := q.2.2.2; omega), rfl, rfl, rfl, rfl⟩)
        | succ k ih =>
          intro x hx he g
          refine aw_iload (pc := 67) dX0_acceptsRounding_67 rfl ?_
          refine aw_aload_n (pc := 69) dX0_acceptsRounding_69 rfl ?_
          refine aw_getR (pc := 70) dX0_acceptsRounding_70 k_fl_X0_9 rfl (by omega) (by first | rfl | exact z_shr _ (by omega) | exact z_shc0 (by omega) | exact z_shc1 (by omega) | exact z_shc2 (by omega) | exact z_shc3 (by omega) | exact z_shc4 (by omega)) (by first | rfl | exact z_Rc0 _ (by omega) | exact z_Rc1 _ (by omega) | exact z_Rc2 _ (by omega) | exact z_Rc3 _ (by omega)) ?_
          refine aw_getI (pc := 73) dX0_acceptsRounding_73 k_fl_X0_49 rfl (by omega) (by first | rfl | exact z_shr _ (by omega) | exact z_shc0 (by omega) | exact z_shc1 (by omega) | exact z_shc2 (by omega) | exact z_shc3 (by omega) | exact z_shc4 (by omega)) ?_
          refine aw_icmp_ge (pc := 76) (tgt := 156) dX0_acceptsRounding_76 rfl (by first | omega | exact z_bl_r _) (by first | omega | exact z_bl_r _) (fun h76 => absurd h76 (by omega)) (fun h76 => ?_)
          have b1 := hc.f x.toNat
          have b2 := hc.lt x.toNat
          have b3 := hc.ht x.toNat
          have b4 := h.lo x.toNat
          have b5 := h.hi x.toNat
          have b6 := z_mulb b1 hdv
          have b7 := z_cf_b h hc x.toNat
          refine aw_aload_n (pc := 79) dX0_acceptsRounding_79 rfl ?_
          refine aw_getR (pc := 80) dX0_acceptsRounding_80 k_fl_X0_52 rfl (by omega) (by first | rfl | exact z_shr _ (by omega) | exact z_shc0 (by omega) | exact z_shc1 (by omega) | exact z_shc2 (by omega) | exact z_shc3 (by omega) | exact z_shc4 (by omega)) (by first | rfl | exact z_Rc0 _ (by omega) | exact z_Rc1 _ (by omega) | exact z_Rc2 _ (by omega) | exact z_Rc3 _ (by omega)) ?_
          refine aw_iload (pc := 83) dX0_acceptsRounding_83 rfl ?_
          refine aw_iaload (pc := 85) dX0_acceptsRounding_85 (by omega) (Nat.le_refl _) (by first | rfl | exact z_shr _ (by omega) | exact z_shc0 (by omega) | exact z_shc1 (by omega) | exact z_shc2 (by omega) | exact z_shc3 (by omega) | exact z_shc4 (by omega)) (by first | omega | exact z_bl_r _) ?_
          refine aw_i2l (pc := 86) dX0_acceptsRounding_86 (by first | omega | exact z_bl_r _) ?_
          refine aw_aload_n (pc := 87) dX0_acceptsRounding_87 rfl ?_
          refine aw_getI (pc := 88) dX0_acceptsRounding_88 k_fl_X0_31 rfl (by omega) (by first | rfl | exact z_shr _ (by omega) | exact z_shc0 (by omega) | exact z_shc1 (by omega) | exact z_shc2 (by omega) | exact z_shc3 (by omega) | exact z_shc4 (by omega)) ?_
          refine aw_i2l (pc := 91) dX0_acceptsRounding_91 (by first | omega | exact z_bl_r _) ?_
          refine aw_lmul (pc := 92) dX0_acceptsRounding_92 ?_
          refine aw_aload_n (pc := 93) dX0_acceptsRounding_93 rfl ?_
          refine aw_aload_n (pc := 94) dX0_acceptsRounding_94 rfl ?_
          refine aw_iload (pc := 95) dX0_acceptsRounding_95 rfl ?_
          refine aw_qV (pc := 97) (d := m_X0_comingFactor) (c_X0_comingFactor h hk hc (by omega)) k_X0_comingFactor dX0_acceptsRounding_97 k_ml_X0_55 rfl ⟨rfl, rfl⟩ (by omega) (by first | rfl | exact z_shr _ (by omega) | exact z_shc0 (by omega) | exact z_shc1 (by omega) | exact z_shc2 (by omega) | exact z_shc3 (by omega) | exact z_shc4 (by omega)) rfl ⟨Nat.le_of_ble_eq_true rfl, Nat.le_of_ble_eq_true rfl⟩ ⟨Nat.zero_le _, Nat.zero_le _⟩ rfl (Nat.le_of_ble_eq_true rfl) (z_Pk ?_)
          refine aw_lcmp_eq (pc := 100) (tgt := 106) dX0_acceptsRounding_100 dX0_acceptsRounding_101 rfl (by first | omega | exact z_bl_r _) (by first | omega | exact z_bl_r _) (fun h100 => ?_) (fun h100 => ?_)
          · refine aw_lload_n (pc := 106) dX0_acceptsRounding_106 rfl ?_
            refine aw_aload_n (pc := 107) dX0_acceptsRounding_107 rfl ?_
            refine aw_getR (pc := 108) dX0_acceptsRounding_108 k_fl_X0_59 rfl (by omega) (by first | rfl | exact z_shr _ (by omega) | exact z_shc0 (by omega) | exact z_shc1 (by omega) | exact z_shc2 (by omega) | exact z_shc3 (by omega) | exact z_shc4 (by omega)) (by first | rfl | exact z_Rc0 _ (by omega) | exact z_Rc1 _ (by omega) | exact z_Rc2 _ (by omega) | exact z_Rc3 _ (by omega)) ?_
            refine aw_iload (pc := 111) dX0_acceptsRounding_111 rfl ?_
            refine aw_iaload (pc := 113) dX0_acceptsRounding_113 (by omega) (Nat.le_refl _) (by first | rfl | exact z_shr _ (by omega) | exact z_shc0 (by omega) | exact z_shc1 (by omega) | exact z_shc2 (by omega) | exact z_shc3 (by omega) | exact z_shc4 (by omega)) (by first | omega | exact z_bl_r _) ?_
            refine aw_i2l (pc := 114) dX0_acceptsRounding_114 (by first | omega | exact z_bl_r _) ?_
            refine aw_aload_n (pc := 115) dX0_acceptsRounding_115 rfl ?_
            refine aw_getR (pc := 116) dX0_acceptsRounding_116 k_fl_X0_9 rfl (by omega) (by first | rfl | exact z_shr _ (by omega) | exact z_shc0 (by omega) | exact z_shc1 (by omega) | exact z_shc2 (by omega) | exact z_shc3 (by omega) | exact z_shc4 (by omega)) (by first | rfl | exact z_Rc0 _ (by omega) | exact z_Rc1 _ (by omega) | exact z_Rc2 _ (by omega) | exact z_Rc3 _ (by omega)) ?_
            refine aw_getR (pc := 119) dX0_acceptsRounding_119 k_fl_X0_62 rfl (by omega) (by first | rfl | exact z_shr _ (by omega) | exact z_shc0 (by omega) | exact z_shc1 (by omega) | exact z_shc2 (by omega) | exact z_shc3 (by omega) | exact z_shc4 (by omega)) (by first | rfl | exact z_Rc0 _ (by omega) | exact z_Rc1 _ (by omega) | exact z_Rc2 _ (by omega) | exact z_Rc3 _ (by omega)) ?_
            refine aw_iload (pc := 122) dX0_acceptsRounding_122 rfl ?_
            refine aw_iaload (pc := 124) dX0_acceptsRounding_124 (by omega) (Nat.le_refl _) (by first | rfl | exact z_shr _ (by omega) | exact z_shc0 (by omega) | exact z_shc1 (by omega) | exact z_shc2 (by omega) | exact z_shc3 (by omega) | exact z_shc4 (by omega)) (by first | omega | exact z_bl_r _) ?_
            refine aw_i2l (pc := 125) dX0_acceptsRounding_125 (by first | omega | exact z_bl_r _) ?_
            refine aw_lmul (pc := 126) dX0_acceptsRounding_126 ?_
            refine aw_aload_n (pc := 127) dX0_acceptsRounding_127 rfl ?_
            refine aw_getR (pc := 128) dX0_acceptsRounding_128 k_fl_X0_65 rfl (by omega) (by first | rfl | exact z_shr _ (by omega) | exact z_shc0 (by omega) | exact z_shc1 (by omega) | exact z_shc2 (by omega) | exact z_shc3 (by omega) | exact z_shc4 (by omega)) (by first | rfl | exact z_Rc0 _ (by omega) | exact z_Rc1 _ (by omega) | exact z_Rc2 _ (by omega) | exact z_Rc3 _ (by omega)) ?_
            refine aw_iload (pc := 131) dX0_acceptsRounding_131 rfl ?_
            refine aw_iaload (pc := 133) dX0_acceptsRounding_133 (by omega) (Nat.le_refl _) (by first | rfl | exact z_shr _ (by omega) | exact z_shc0 (by omega) | exact z_shc1 (by omega) | exact z_shc2 (by omega) | exact z_shc3 (by omega) | exact z_shc4 (by omega)) (by first | omega | exact z_bl_r _) ?_
            refine aw_i2l (pc := 134) dX0_acceptsRounding_134 (by first | omega | exact z_bl_r _) ?_
            refine aw_aload_n (pc := 135) dX0_acceptsRounding_135 rfl ?_
            refine aw_getR (pc := 136) dX0_acceptsRounding_136 k_fl_X0_9 rfl (by omega) (by first | rfl | exact z_shr _ (by omega) | exact z_shc0 (by omega) | exact z_shc1 (by omega) | exact z_shc2 (by omega) | exact z_shc3 (by omega) | exact z_shc4 (by omega)) (by first | rfl | exact z_Rc0 _ (by omega) | exact z_Rc1 _ (by omega) | exact z_Rc2 _ (by omega) | exact z_Rc3 _ (by omega)) ?_
            refine aw_getR (pc := 139) dX0_acceptsRounding_139 k_fl_X0_68 rfl (by omega) (by first | rfl | exact z_shr _ (by omega) | exact z_shc0 (by omega) | exact z_shc1 (by omega) | exact z_shc2 (by omega) | exact z_shc3 (by omega) | exact z_shc4 (by omega)) (by first | rfl | exact z_Rc0 _ (by omega) | exact z_Rc1 _ (by omega) | exact z_Rc2 _ (by omega) | exact z_Rc3 _ (by omega)) ?_
            refine aw_iload (pc := 142) dX0_acceptsRounding_142 rfl ?_
            refine aw_iaload (pc := 144) dX0_acceptsRounding_144 (by omega) (Nat.le_refl _) (by first | rfl | exact z_shr _ (by omega) | exact z_shc0 (by omega) | exact z_shc1 (by omega) | exact z_shc2 (by omega) | exact z_shc3 (by omega) | exact z_shc4 (by omega)) (by first | omega | exact z_bl_r _) ?_
            refine aw_i2l (pc := 145) dX0_acceptsRounding_145 (by first | omega | exact z_bl_r _) ?_
            refine aw_lmul (pc := 146) dX0_acceptsRounding_146 ?_
            refine aw_lsub (pc := 147) dX0_acceptsRounding_147 ?_
            refine aw_ladd (pc := 148) dX0_acceptsRounding_148 ?_
            refine aw_lstore_n (pc := 149) (lv' := [_, _, _, _, _]) dX0_acceptsRounding_149 (Nat.le_of_ble_eq_true rfl) rfl ?_
            refine aw_iinc (pc := 150) (lv' := [_, _, _, _, _]) dX0_acceptsRounding_150 (Nat.le_of_ble_eq_true rfl) rfl rfl ?_
            refine aw_goto (pc := 153) (tgt := 67) dX0_acceptsRounding_153 rfl ?_
            have K := ih (x + 1) (by omega) (by omega) (fun n hn => by by_cases e : (n : Int) < x; exact g n e; rw [show n = x.toNat by omega]; exact h100)
            rw [show z_nsm I c (x + 1) = z_nsm I c x + (I (19 + 5 * c + 4) x.toNat * I 3 x.toNat - I (19 + 5 * c + 3) x.toNat * I 2 x.toNat) from z_sm_s _ hx, ← Int.add_assoc] at K
            exact K
          · refine aw_iconst (pc := 104) dX0_acceptsRounding_104 ?_
            exact aw_zreturn (pc := 105) dX0_acceptsRounding_105 rfl (by first | exact Or.inl rfl | exact Or.inr rfl | omega) ⟨Nat.zero_le _, Nat.zero_le _⟩ (⟨z_r0 (fun q => h100 (q.2.2.1 x.toNat (by omega))), rfl, rfl, rfl, rfl⟩)
      have loop1 : ∀ (k : Nat) (x : Int), 0 ≤ x → x + k = I 1 6 → AW (FM m_X0_acceptsRounding (z_P (some (zi (z_bl (z_aR I c)))) 255 I J (z_R π))) 0 0 255 23 [some (zr 233), some (zr (19 + 5 * c)), some (zl (z_rsm I c x)), none, some (zi x)] [] I J (z_R π) := by
        intro k
        induction k with
        | zero =>
          intro x hx he
          refine aw_iload (pc := 23) dX0_acceptsRounding_23 rfl ?_
          refine aw_aload_n (pc := 25) dX0_acceptsRounding_25 rfl ?_
          refine aw_getR (pc := 26) dX0_acceptsRounding_26 k_fl_X0_9 rfl (by omega) (by first | rfl | exact z_shr _ (by omega) | exact z_shc0 (by omega) | exact z_shc1 (by omega) | exact z_shc2 (by omega) | exact z_shc3 (by omega) | exact z_shc4 (by omega)) (by first | rfl | exact z_Rc0 _ (by omega) | exact z_Rc1 _ (by omega) | exact z_Rc2 _ (by omega) | exact z_Rc3 _ (by omega)) ?_
          refine aw_getI (pc := 29) dX0_acceptsRounding_29 k_fl_X0_37 rfl (by omega) (by first | rfl | exact z_shr _ (by omega) | exact z_shc0 (by omega) | exact z_shc1 (by omega) | exact z_shc2 (by omega) | exact z_shc3 (by omega) | exact z_shc4 (by omega)) ?_
          refine aw_icmp_ge (pc := 32) (tgt := 64) dX0_acceptsRounding_32 rfl (by first | omega | exact z_bl_r _) (by first | omega | exact z_bl_r _) (fun h32 => ?_) (fun h32 => absurd h32 (by omega))
          refine aw_iconst (pc := 64) dX0_acceptsRounding_64 ?_
          refine aw_istore (pc := 65) (lv' := [_, _, _, _, _]) dX0_acceptsRounding_65 (Nat.le_of_ble_eq_true rfl) rfl ?_
          have K := loop2 (I 1 5).toNat 0 (by omega) (by omega) (fun n hn => by omega)
          rw [show z_nsm I c 0 = 0 from rfl, Int.add_zero, show I 1 6 = x by omega] at K
          exact K
        | succ k ih =>
          intro x hx he
          refine aw_iload (pc := 23) dX0_acceptsRounding_23 rfl ?_
          refine aw_aload_n (pc := 25) dX0_acceptsRounding_25 rfl ?_
          refine aw_getR (pc := 26) dX0_acceptsRounding_26 k_fl_X0_9 rfl (by omega) (by first | rfl | exact z_shr _ (by omega) | exact z_shc0 (by omega) | exact z_shc1 (by omega) | exact z_shc2 (by omega) | exact z_shc3 (by omega) | exact z_shc4 (by omega)) (by first | rfl | exact z_Rc0 _ (by omega) | exact z_Rc1 _ (by omega) | exact z_Rc2 _ (by omega) | exact z_Rc3 _ (by omega)) ?_
          refine aw_getI (pc := 29) dX0_acceptsRounding_29 k_fl_X0_37 rfl (by omega) (by first | rfl | exact z_shr _ (by omega) | exact z_shc0 (by omega) | exact z_shc1 (by omega) | exact z_shc2 (by omega) | exact z_shc3 (by omega) | exact z_shc4 (by omega)) ?_
          refine aw_icmp_ge (pc := 32) (tgt := 64) dX0_acceptsRounding_32 rfl (by first | omega | exact z_bl_r _) (by first | omega | exact z_bl_r _) (fun h32 => absurd h32 (by omega)) (fun h32 => ?_)
          have b1 := hc.rt x.toNat
          have b2 := h.rt x.toNat
          refine aw_lload_n (pc := 35) dX0_acceptsRounding_35 rfl ?_
          refine aw_aload_n (pc := 36) dX0_acceptsRounding_36 rfl ?_
          refine aw_getR (pc := 37) dX0_acceptsRounding_37 k_fl_X0_42 rfl (by omega) (by first | rfl | exact z_shr _ (by omega) | exact z_shc0 (by omega) | exact z_shc1 (by omega) | exact z_shc2 (by omega) | exact z_shc3 (by omega) | exact z_shc4 (by omega)) (by first | rfl | exact z_Rc0 _ (by omega) | exact z_Rc1 _ (by omega) | exact z_Rc2 _ (by omega) | exact z_Rc3 _ (by omega)) ?_
          refine aw_iload (pc := 40) dX0_acceptsRounding_40 rfl ?_
          refine aw_iaload (pc := 42) dX0_acceptsRounding_42 (by omega) (Nat.le_refl _) (by first | rfl | exact z_shr _ (by omega) | exact z_shc0 (by omega) | exact z_shc1 (by omega) | exact z_shc2 (by omega) | exact z_shc3 (by omega) | exact z_shc4 (by omega)) (by first | omega | exact z_bl_r _) ?_
          refine aw_i2l (pc := 43) dX0_acceptsRounding_43 (by first | omega | exact z_bl_r _) ?_
          refine aw_aload_n (pc := 44) dX0_acceptsRounding_44 rfl ?_
          refine aw_getR (pc := 45) dX0_acceptsRounding_45 k_fl_X0_9 rfl (by omega) (by first | rfl | exact z_shr _ (by omega) | exact z_shc0 (by omega) | exact z_shc1 (by omega) | exact z_shc2 (by omega) | exact z_shc3 (by omega) | exact z_shc4 (by omega)) (by first | rfl | exact z_Rc0 _ (by omega) | exact z_Rc1 _ (by omega) | exact z_Rc2 _ (by omega) | exact z_Rc3 _ (by omega)) ?_
          refine aw_getR (pc := 48) dX0_acceptsRounding_48 k_fl_X0_46 rfl (by omega) (by first | rfl | exact z_shr _ (by omega) | exact z_shc0 (by omega) | exact z_shc1 (by omega) | exact z_shc2 (by omega) | exact z_shc3 (by omega) | exact z_shc4 (by omega)) (by first | rfl | exact z_Rc0 _ (by omega) | exact z_Rc1 _ (by omega) | exact z_Rc2 _ (by omega) | exact z_Rc3 _ (by omega)) ?_
          refine aw_iload (pc := 51) dX0_acceptsRounding_51 rfl ?_
          refine aw_iaload (pc := 53) dX0_acceptsRounding_53 (by omega) (Nat.le_refl _) (by first | rfl | exact z_shr _ (by omega) | exact z_shc0 (by omega) | exact z_shc1 (by omega) | exact z_shc2 (by omega) | exact z_shc3 (by omega) | exact z_shc4 (by omega)) (by first | omega | exact z_bl_r _) ?_
          refine aw_i2l (pc := 54) dX0_acceptsRounding_54 (by first | omega | exact z_bl_r _) ?_
          refine aw_lmul (pc := 55) dX0_acceptsRounding_55 ?_
          refine aw_ladd (pc := 56) dX0_acceptsRounding_56 ?_
          refine aw_lstore_n (pc := 57) (lv' := [_, _, _, _, _]) dX0_acceptsRounding_57 (Nat.le_of_ble_eq_true rfl) rfl ?_
          refine aw_iinc (pc := 58) (lv' := [_, _, _, _, _]) dX0_acceptsRounding_58 (Nat.le_of_ble_eq_true rfl) rfl rfl ?_
          refine aw_goto (pc := 61) (tgt := 23) dX0_acceptsRounding_61 rfl ?_
          have K := ih (x + 1) (by omega) (by omega)
          rw [show z_rsm I c (x + 1) = z_rsm I c x + I (19 + 5 * c + 2) x.toNat * I 16 x.toNat from z_sm_s _ hx] at K
          exact K
      refine aw_lconst (pc := 18) (v := 0) dX0_acceptsRounding_18 rfl ?_
      refine aw_lstore_n (pc := 19) (lv' := [_, _, _, _, _]) dX0_acceptsRounding_19 (Nat.le_of_ble_eq_true rfl) rfl ?_
      refine aw_iconst (pc := 20) dX0_acceptsRounding_20 ?_
      refine aw_istore (pc := 21) (lv' := [_, _, _, _, _]) dX0_acceptsRounding_21 (Nat.le_of_ble_eq_true rfl) rfl ?_
      exact loop1 (I 1 6).toNat 0 (by omega) (by omega)
    · refine aw_iconst (pc := 16) dX0_acceptsRounding_16 ?_
      refine aw_zreturn (pc := 17) dX0_acceptsRounding_17 rfl (by first | exact Or.inl rfl | exact Or.inr rfl | omega) ⟨Nat.zero_le _, Nat.zero_le _⟩ ?_
      first
        | exact ⟨z_r0 (fun q => q.2.1 (z_bl_n.mp h13)), rfl, rfl, rfl, rfl⟩
        | exact ⟨z_r0 (fun q => by have := q.1; omega), rfl, rfl, rfl, rfl⟩
