/-- a clique that no further name joins -/
def z_wiq (m : z_MM) (s : Nat) : Prop := 2 ≤ z_cnt s 10 ∧ (∀ n, s.testBit n = true → n < mN m ∧ z_bin m n) ∧ ∀ n, n < mN m → z_bin m n → ((∀ d, d ≠ n → s.testBit d = true → z_kl2 m n d) ↔ s.testBit n = true)
theorem z_sub0 {a b : Nat} : z_an a b = 0 ↔ ∀ i, a.testBit i = true → b.testBit i = true := by
  constructor
  · intro h i hi
    have := z_an_t a b i
    rw [h, Nat.zero_testBit, hi] at this
    cases hb : b.testBit i with
    | true => rfl
    | false => rw [hb] at this; cases this
  · intro h
    refine Nat.eq_of_testBit_eq (fun i => ?_)
    rw [z_an_t, Nat.zero_testBit]
    cases ha : a.testBit i with
    | false => rfl
    | true => rw [h i ha]; rfl
theorem z_and_eq {a b : Nat} : a &&& b = b ↔ ∀ i, b.testBit i = true → a.testBit i = true := by
  constructor
  · intro h i hi
    have := Nat.testBit_and a b i
    rw [h, hi] at this
    cases ha : a.testBit i with
    | true => rfl
    | false => rw [ha] at this; cases this
  · intro h
    refine Nat.eq_of_testBit_eq (fun i => ?_)
    rw [Nat.testBit_and]
    cases hb : b.testBit i with
    | false => cases a.testBit i <;> rfl
    | true => rw [h i hb]; rfl
theorem z_pt (n i : Nat) : (2 ^ n).testBit i = true ↔ i = n := by
  rw [Nat.testBit_two_pow]
  exact ⟨fun q => (of_decide_eq_true q).symm, fun q => decide_eq_true q.symm⟩
set_option maxHeartbeats 4000000 in
theorem c_X2_isWidestClique {π : Nat → Nat} {I J : AwI} {cl : Nat → Nat} {s : Nat} (h : z_M I J) (hck : z_ck (z_clM I J) (mN (z_clM I J)) (mN (z_clM I J) + 1) cl) (hs : s < 256) : CT m_X2_isWidestClique [zr 231, zi (s : Int)] 255 (z_s2 I ((z_bm (z_clM I J) (I 1 5).toNat : Nat) : Int) (fun j => ((cl j : Nat) : Int))) J (z_R π) (z_P (some (zi (z_bl (z_wiq (z_clM I J) s)))) 255 (z_s2 I ((z_bm (z_clM I J) (I 1 5).toNat : Nat) : Int) (fun j => ((cl j : Nat) : Int))) J (z_R π)) := by
  have hnm := h.nm
  have eN : mN (z_clM I J) = (I 1 5).toNat := rfl
  have hbl := z_bm_lt (z_clM I J) (I 1 5).toNat
  have hp8 : 2 ^ (I 1 5).toNat ≤ 2 ^ 8 := Nat.pow_le_pow_right (by omega) (by omega)
  have hbt := fun n => z_bm_t (z_clM I J) n (I 1 5).toNat
  have hcn := z_cnt_b s 10
  refine CT.of (by decide) (Nat.le_of_ble_eq_true rfl) ?_
  show AW _ 0 0 _ 0 [some (zr 231), some (zi (s : Int)), none, none, none] [] _ _ _
  have loop : ∀ (k : Nat) (x : Nat) (u v : Option AwV), (x : Int) + k = I 1 5 → 2 ≤ z_cnt s 10 → (∀ n, s.testBit n = true → n < mN (z_clM I J) ∧ z_bin (z_clM I J) n) → (∀ n, n < x → z_bin (z_clM I J) n → ((∀ d, d ≠ n → s.testBit d = true → z_kl2 (z_clM I J) n d) ↔ s.testBit n = true)) → AW (FM m_X2_isWidestClique (z_P (some (zi (z_bl (z_wiq (z_clM I J) s)))) 255 (z_s2 I ((z_bm (z_clM I J) (I 1 5).toNat : Nat) : Int) (fun j => ((cl j : Nat) : Int))) J (z_R π))) 0 0 255 23 [some (zr 231), some (zi (s : Int)), some (zi (x : Int)), u, v] [] (z_s2 I ((z_bm (z_clM I J) (I 1 5).toNat : Nat) : Int) (fun j => ((cl j : Nat) : Int))) J (z_R π) := by
    intro k
    induction k with
    | zero =>
      intro x u v he g1 g2 g3
      refine aw_iload_n (pc := 23) dX2_isWidestClique_23 rfl ?_
      refine aw_aload_n (pc := 24) dX2_isWidestClique_24 rfl ?_
      refine aw_getR (pc := 25) dX2_isWidestClique_25 k_fl_X2_15 rfl (by omega) (by first | rfl | exact z_shr _ (by omega) | exact z_shc0 (by omega) | exact z_shc1 (by omega) | exact z_shc2 (by omega) | exact z_shc3 (by omega) | exact z_shc4 (by omega)) (by first | rfl | exact z_Rc0 _ (by omega) | exact z_Rc1 _ (by omega) | exact z_Rc2 _ (by omega) | exact z_Rc3 _ (by omega)) ?_
      refine aw_getV (pc := 28) (v := I 1 5) dX2_isWidestClique_28 k_fl_X2_29 rfl (by omega) (by first | rfl | exact z_shr _ (by omega) | exact z_shc0 (by omega) | exact z_shc1 (by omega) | exact z_shc2 (by omega) | exact z_shc3 (by omega) | exact z_shc4 (by omega)) (z_s2_o (by omega)) ?_
      refine aw_icmp_ge (pc := 31) (tgt := 93) dX2_isWidestClique_31 rfl (by first | omega | exact z_bl_r _) (by first | omega | exact z_bl_r _) (fun h31 => ?_) (fun h31 => absurd h31 (by omega))
      refine aw_iconst (pc := 93) dX2_isWidestClique_93 ?_
      exact aw_zreturn (pc := 94) dX2_isWidestClique_94 rfl (by first | exact Or.inl rfl | exact Or.inr rfl | omega) ⟨Nat.zero_le _, Nat.zero_le _⟩ (⟨z_r1 ⟨g1, g2, fun n hn hb => g3 n (by omega) hb⟩, rfl, rfl, rfl, rfl⟩)
    | succ k ih =>
      intro x u v he g1 g2 g3
      refine aw_iload_n (pc := 23) dX2_isWidestClique_23 rfl ?_
      refine aw_aload_n (pc := 24) dX2_isWidestClique_24 rfl ?_
      refine aw_getR (pc := 25) dX2_isWidestClique_25 k_fl_X2_15 rfl (by omega) (by first | rfl | exact z_shr _ (by omega) | exact z_shc0 (by omega) | exact z_shc1 (by omega) | exact z_shc2 (by omega) | exact z_shc3 (by omega) | exact z_shc4 (by omega)) (by first | rfl | exact z_Rc0 _ (by omega) | exact z_Rc1 _ (by omega) | exact z_Rc2 _ (by omega) | exact z_Rc3 _ (by omega)) ?_
      refine aw_getV (pc := 28) (v := I 1 5) dX2_isWidestClique_28 k_fl_X2_29 rfl (by omega) (by first | rfl | exact z_shr _ (by omega) | exact z_shc0 (by omega) | exact z_shc1 (by omega) | exact z_shc2 (by omega) | exact z_shc3 (by omega) | exact z_shc4 (by omega)) (z_s2_o (by omega)) ?_
      refine aw_icmp_ge (pc := 31) (tgt := 93) dX2_isWidestClique_31 rfl (by first | omega | exact z_bl_r _) (by first | omega | exact z_bl_r _) (fun h31 => absurd h31 (by omega)) (fun h31 => ?_)
      refine aw_aload_n (pc := 34) dX2_isWidestClique_34 rfl ?_
      refine aw_getV (pc := 35) (v := ((z_bm (z_clM I J) (I 1 5).toNat : Nat) : Int)) dX2_isWidestClique_35 k_fl_X2_42 rfl (by omega) (by first | rfl | exact z_shr _ (by omega) | exact z_shc0 (by omega) | exact z_shc1 (by omega) | exact z_shc2 (by omega) | exact z_shc3 (by omega) | exact z_shc4 (by omega)) (z_s2_b) ?_
      refine aw_iload_n (pc := 38) dX2_isWidestClique_38 rfl ?_
      refine aw_qN (pc := 39) (d := m_X8_isIn) (c_X8_isIn (s := z_bm (z_clM I J) (I 1 5).toNat) (w := x) (by omega) (by omega)) k_X8_isIn dX2_isWidestClique_39 k_nl_X2_54 rfl ⟨rfl, rfl⟩ ⟨Nat.le_of_ble_eq_true rfl, Nat.le_of_ble_eq_true rfl⟩ ⟨Nat.zero_le _, Nat.zero_le _⟩ rfl (Nat.le_of_ble_eq_true rfl) (z_Pk ?_)
      refine aw_if_ne (pc := 42) (tgt := 48) dX2_isWidestClique_42 rfl (z_bl_r _) (fun h42 => ?_) (fun h42 => ?_)
      · have hbx : z_bin (z_clM I J) x := ((hbt x).mp (z_bl_n.mp h42)).2
        have hol : z_an s (2 ^ x) < 2 ^ 8 := z_an_lt (by omega)
        have hcx := hck.1 x (by omega)
        have hal : cl x &&& (z_an s (2 ^ x)) ≤ cl x := Nat.and_le_left
        have hall : ((∀ d, d ≠ x → s.testBit d = true → z_kl2 (z_clM I J) x d) ↔ cl x &&& (z_an s (2 ^ x)) = (z_an s (2 ^ x))) := by
          rw [z_and_eq]
          constructor
          · intro q i hi
            rw [z_an_t] at hi
            have hs : s.testBit i = true := by cases hb : s.testBit i; (rw [hb] at hi; cases hi); rfl
            have hne : i ≠ x := fun e => by subst e; rw [(z_pt i i).mpr rfl] at hi; rw [hs] at hi; cases hi
            have g := g2 i hs
            exact (hck.2 x i (by omega)).mpr ⟨fun e => hne e.symm, by omega, g.1, hbx, g.2, q i hne hs, fun _ => by omega, fun _ => by omega⟩
          · intro q d hd hs
            have g := (hck.2 x d (by omega)).mp (q d (by rw [z_an_t, hs]; cases hp : (2 ^ x).testBit d; rfl; exact absurd ((z_pt x d).mp hp) hd))
            exact g.2.2.2.2.2.1
        refine aw_iload_n (pc := 48) dX2_isWidestClique_48 rfl ?_
        refine aw_iconst (pc := 49) dX2_isWidestClique_49 ?_
        refine aw_iload_n (pc := 50) dX2_isWidestClique_50 rfl ?_
        refine aw_shl1 (pc := 51) dX2_isWidestClique_51 (w := x) rfl (by omega) ?_
        refine aw_iconst (pc := 52) dX2_isWidestClique_52 ?_
        refine aw_inot (pc := 53) dX2_isWidestClique_53 ?_
        refine aw_iandn (pc := 54) dX2_isWidestClique_54 rfl rfl ?_
        refine aw_istore_n (pc := 55) (lv' := [_, _, _, _, _]) dX2_isWidestClique_55 (Nat.le_of_ble_eq_true rfl) rfl ?_
        refine aw_aload_n (pc := 56) dX2_isWidestClique_56 rfl ?_
        refine aw_getR (pc := 57) dX2_isWidestClique_57 k_fl_X2_9 rfl (by omega) (by first | rfl | exact z_shr _ (by omega) | exact z_shc0 (by omega) | exact z_shc1 (by omega) | exact z_shc2 (by omega) | exact z_shc3 (by omega) | exact z_shc4 (by omega)) (by first | rfl | exact z_Rc0 _ (by omega) | exact z_Rc1 _ (by omega) | exact z_Rc2 _ (by omega) | exact z_Rc3 _ (by omega)) ?_
        refine aw_iload_n (pc := 60) dX2_isWidestClique_60 rfl ?_
        refine aw_ialoadV (pc := 61) (v := ((cl x : Nat) : Int)) dX2_isWidestClique_61 (by omega) (Nat.le_refl _) (by first | rfl | exact z_shr _ (by omega) | exact z_shc0 (by omega) | exact z_shc1 (by omega) | exact z_shc2 (by omega) | exact z_shc3 (by omega) | exact z_shc4 (by omega)) (by first | omega | exact z_bl_r _) (z_s2_c _) ?_
        refine aw_iload_n (pc := 62) dX2_isWidestClique_62 rfl ?_
        refine aw_iand (pc := 63) dX2_isWidestClique_63 rfl rfl ?_
        refine aw_iload_n (pc := 64) dX2_isWidestClique_64 rfl ?_
        refine aw_icmp_ne (pc := 65) (tgt := 72) dX2_isWidestClique_65 rfl (by omega) (by omega) (fun h65 => ?_) (fun h65 => ?_)
        · refine aw_iconst (pc := 72) dX2_isWidestClique_72 ?_
          refine aw_istore (pc := 73) (lv' := [_, _, _, _, _]) dX2_isWidestClique_73 (Nat.le_of_ble_eq_true rfl) rfl ?_
          refine aw_iload (pc := 75) dX2_isWidestClique_75 rfl ?_
          refine aw_iload_n (pc := 77) dX2_isWidestClique_77 rfl ?_
          refine aw_iload_n (pc := 78) dX2_isWidestClique_78 rfl ?_
          refine aw_qN (pc := 79) (d := m_X8_isIn) (c_X8_isIn (s := s) (w := x) (by omega) (by omega)) k_X8_isIn dX2_isWidestClique_79 k_nl_X2_54 rfl ⟨rfl, rfl⟩ ⟨Nat.le_of_ble_eq_true rfl, Nat.le_of_ble_eq_true rfl⟩ ⟨Nat.zero_le _, Nat.zero_le _⟩ rfl (Nat.le_of_ble_eq_true rfl) (z_Pk ?_)
          refine aw_icmp_eq (pc := 82) (tgt := 87) dX2_isWidestClique_82 rfl (by omega) (z_bl_r _) (fun h82 => ?_) (fun h82 => ?_)
          · refine aw_iinc (pc := 87) (lv' := [_, _, _, _, _]) dX2_isWidestClique_87 (Nat.le_of_ble_eq_true rfl) rfl rfl ?_
            refine aw_goto (pc := 90) (tgt := 23) dX2_isWidestClique_90 rfl ?_
            have hns : ¬ s.testBit x = true := z_bl_0.mp h82.symm
            exact ih (x + 1) _ _ (by omega) g1 g2 (fun n hn hb => by by_cases e : n = x; (subst e; exact ⟨fun q => absurd (hall.mp q) (fun z => h65 (by rw [z])), fun q => absurd q hns⟩); exact g3 n (by omega) hb)
          · refine aw_iconst (pc := 85) dX2_isWidestClique_85 ?_
            exact aw_zreturn (pc := 86) dX2_isWidestClique_86 rfl (by first | exact Or.inl rfl | exact Or.inr rfl | omega) ⟨Nat.zero_le _, Nat.zero_le _⟩ (⟨z_r0 (fun q => h65 (by have w := (q.2.2 x (by omega) hbx).mpr (z_bl_n.mp (fun z => h82 z.symm)); rw [hall.mp w])), rfl, rfl, rfl, rfl⟩)
        · refine aw_iconst (pc := 68) dX2_isWidestClique_68 ?_
          refine aw_goto (pc := 69) (tgt := 73) dX2_isWidestClique_69 rfl ?_
          refine aw_istore (pc := 73) (lv' := [_, _, _, _, _]) dX2_isWidestClique_73 (Nat.le_of_ble_eq_true rfl) rfl ?_
          refine aw_iload (pc := 75) dX2_isWidestClique_75 rfl ?_
          refine aw_iload_n (pc := 77) dX2_isWidestClique_77 rfl ?_
          refine aw_iload_n (pc := 78) dX2_isWidestClique_78 rfl ?_
          refine aw_qN (pc := 79) (d := m_X8_isIn) (c_X8_isIn (s := s) (w := x) (by omega) (by omega)) k_X8_isIn dX2_isWidestClique_79 k_nl_X2_54 rfl ⟨rfl, rfl⟩ ⟨Nat.le_of_ble_eq_true rfl, Nat.le_of_ble_eq_true rfl⟩ ⟨Nat.zero_le _, Nat.zero_le _⟩ rfl (Nat.le_of_ble_eq_true rfl) (z_Pk ?_)
          refine aw_icmp_eq (pc := 82) (tgt := 87) dX2_isWidestClique_82 rfl (by omega) (z_bl_r _) (fun h82 => ?_) (fun h82 => ?_)
          · refine aw_iinc (pc := 87) (lv' := [_, _, _, _, _]) dX2_isWidestClique_87 (Nat.le_of_ble_eq_true rfl) rfl rfl ?_
            refine aw_goto (pc := 90) (tgt := 23) dX2_isWidestClique_90 rfl ?_
            have hys : s.testBit x = true := z_bl_n.mp (by rw [← h82]; omega)
            have hal2 : cl x &&& (z_an s (2 ^ x)) = (z_an s (2 ^ x)) := by omega
            exact ih (x + 1) _ _ (by omega) g1 g2 (fun n hn hb => by by_cases e : n = x; (subst e; exact ⟨fun _ => hys, fun _ => hall.mpr hal2⟩); exact g3 n (by omega) hb)
          · refine aw_iconst (pc := 85) dX2_isWidestClique_85 ?_
            exact aw_zreturn (pc := 86) dX2_isWidestClique_86 rfl (by first | exact Or.inl rfl | exact Or.inr rfl | omega) ⟨Nat.zero_le _, Nat.zero_le _⟩ (⟨z_r0 (fun q => by have w := (q.2.2 x (by omega) hbx).mp (hall.mpr (by omega)); exact h82 (z_bl_t w).symm), rfl, rfl, rfl, rfl⟩)
      · refine aw_goto (pc := 45) (tgt := 87) dX2_isWidestClique_45 rfl ?_
        refine aw_iinc (pc := 87) (lv' := [_, _, _, _, _]) dX2_isWidestClique_87 (Nat.le_of_ble_eq_true rfl) rfl rfl ?_
        refine aw_goto (pc := 90) (tgt := 23) dX2_isWidestClique_90 rfl ?_
        exact ih (x + 1) _ _ (by omega) g1 g2 (fun n hn hb => by by_cases e : n = x; (subst e; exact absurd ((hbt n).mpr ⟨by omega, hb⟩) (z_bl_0.mp h42)); exact g3 n (by omega) hb)
  refine aw_iload_n (pc := 0) dX2_isWidestClique_0 rfl ?_
  refine aw_qS (pc := 1) (d := m_J6_bitCount_0f7a4) (c_bitCount (by omega)) k_J6_bitCount_0f7a4 dX2_isWidestClique_1 k_ml_X2_61 rfl ⟨rfl, rfl⟩ ⟨Nat.le_of_ble_eq_true rfl, Nat.le_of_ble_eq_true rfl⟩ ⟨Nat.zero_le _, Nat.zero_le _⟩ rfl (Nat.le_of_ble_eq_true rfl) (z_Pk ?_)
  refine aw_iconst (pc := 4) dX2_isWidestClique_4 ?_
  refine aw_icmp_lt (pc := 5) (tgt := 19) dX2_isWidestClique_5 rfl (by first | omega | exact z_bl_r _) (by first | omega | exact z_bl_r _) (fun h5 => ?_) (fun h5 => ?_)
  · refine aw_iconst (pc := 19) dX2_isWidestClique_19 ?_
    refine aw_zreturn (pc := 20) dX2_isWidestClique_20 rfl (by first | exact Or.inl rfl | exact Or.inr rfl | omega) ⟨Nat.zero_le _, Nat.zero_le _⟩ ?_
    first
      | exact ⟨z_r0 (fun q => by have := q.1; omega), rfl, rfl, rfl, rfl⟩
      | exact ⟨z_r0 (fun q => h16 (by have w : z_an s (z_bm (z_clM I J) (I 1 5).toNat) = 0 := z_sub0.mpr (fun i hi => (hbt i).mpr (q.2.1 i hi)); rw [w]; rfl)), rfl, rfl, rfl, rfl⟩
  · refine aw_iload_n (pc := 8) dX2_isWidestClique_8 rfl ?_
    refine aw_aload_n (pc := 9) dX2_isWidestClique_9 rfl ?_
    refine aw_getV (pc := 10) (v := ((z_bm (z_clM I J) (I 1 5).toNat : Nat) : Int)) dX2_isWidestClique_10 k_fl_X2_42 rfl (by omega) (by first | rfl | exact z_shr _ (by omega) | exact z_shc0 (by omega) | exact z_shc1 (by omega) | exact z_shc2 (by omega) | exact z_shc3 (by omega) | exact z_shc4 (by omega)) (z_s2_b) ?_
    refine aw_iconst (pc := 13) dX2_isWidestClique_13 ?_
    refine aw_inot (pc := 14) dX2_isWidestClique_14 ?_
    refine aw_iandn (pc := 15) dX2_isWidestClique_15 rfl rfl ?_
    refine aw_if_eq (pc := 16) (tgt := 21) dX2_isWidestClique_16 rfl (by have := z_an_lt (a := s) (b := z_bm (z_clM I J) (I 1 5).toNat) (k := 8) (by omega); omega) (fun h16 => ?_) (fun h16 => ?_)
    · refine aw_iconst (pc := 21) dX2_isWidestClique_21 ?_
      refine aw_istore_n (pc := 22) (lv' := [_, _, _, _, _]) dX2_isWidestClique_22 (Nat.le_of_ble_eq_true rfl) rfl ?_
      exact loop (I 1 5).toNat 0 none none (by omega) (by omega) (fun n hn => (hbt n).mp (z_sub0.mp (by omega) n hn)) (fun n hn => absurd hn (by omega))
    · refine aw_iconst (pc := 19) dX2_isWidestClique_19 ?_
      refine aw_zreturn (pc := 20) dX2_isWidestClique_20 rfl (by first | exact Or.inl rfl | exact Or.inr rfl | omega) ⟨Nat.zero_le _, Nat.zero_le _⟩ ?_
      first
        | exact ⟨z_r0 (fun q => by have := q.1; omega), rfl, rfl, rfl, rfl⟩
        | exact ⟨z_r0 (fun q => h16 (by have w : z_an s (z_bm (z_clM I J) (I 1 5).toNat) = 0 := z_sub0.mpr (fun i hi => (hbt i).mpr (q.2.1 i hi)); rw [w]; rfl)), rfl, rfl, rfl, rfl⟩
def z_cQ (m : z_MM) (s : Nat) : z_CC := (z_mk (mN m) (z_bt s), 1, 3, 0, fun _ => 0)
noncomputable def z_cdQ (m : z_MM) (i : Nat) : z_CC := z_if (z_wiq m (i + 1)) (z_cQ m (i + 1)) z_C0
theorem z_pf_sn {g f : Nat → Int} {x : Nat} {v : Int} (hv : v = g x) : va_up (z_pf g f x) x v = z_pf g f (x + 1) := by
  have h := z_pf_s (g := g) (f := f) (x := (x : Int)) (v := v) (by omega) hv
  exact h
set_option maxHeartbeats 4000000 in
theorem c_X2_tryClique {π : Nat → Nat} {I J : AwI} {L : List z_CC} {s : Nat} (h : z_M I J) (hL : z_L I π) (hc : z_clL I π (z_clM I J) L) (ht : I 17 2 = 1) (hs : s < 256) : CT m_X2_tryClique [zr 231, zi (s : Int)] 255 I J (z_R π) (fun q9 sz' I' J' R' => q9 = some (zi (z_of (z_clM I J) (L, 1) (z_cQ (z_clM I J) s)).2) ∧ sz' = 255 ∧ J' = J ∧ R' = z_R π ∧ z_F I I' ∧ z_L I' π ∧ z_clL I' π (z_clM I J) (z_of (z_clM I J) (L, 1) (z_cQ (z_clM I J) s)).1 ∧ I' 17 2 = (z_of (z_clM I J) (L, 1) (z_cQ (z_clM I J) s)).2) := by
  have hnm := h.nm
  have hn4 := hL.n
  have hp := hL.p (k := (I 17 1).toNat) (by omega)
  obtain ⟨b1, b2, b3, b4⟩ := hL.f0 hp
  have hfb : ∀ n, -1000 ≤ (z_pf (z_bt s) (z_f0 I (19 + 5 * (π (I 17 1).toNat) + 1) 8) (I 1 5).toNat) n ∧ (z_pf (z_bt s) (z_f0 I (19 + 5 * (π (I 17 1).toNat) + 1) 8) (I 1 5).toNat) n ≤ 1000 := z_pf_b (fun n => by have := z_bt_b s n; omega) b1
  refine CT.of (by decide) (Nat.le_of_ble_eq_true rfl) ?_
  show AW _ 0 0 _ 0 [some (zr 231), some (zi (s : Int)), none, none] [] _ _ _
  have loop : ∀ (k : Nat) (x : Nat), (x : Int) + k = I 1 5 → AW (FM m_X2_tryClique (fun q9 sz' I' J' R' => q9 = some (zi (z_of (z_clM I J) (L, 1) (z_cQ (z_clM I J) s)).2) ∧ sz' = 255 ∧ J' = J ∧ R' = z_R π ∧ z_F I I' ∧ z_L I' π ∧ z_clL I' π (z_clM I J) (z_of (z_clM I J) (L, 1) (z_cQ (z_clM I J) s)).1 ∧ I' 17 2 = (z_of (z_clM I J) (L, 1) (z_cQ (z_clM I J) s)).2)) 0 0 255 11 [some (zr 231), some (zi (s : Int)), some (zr (19 + 5 * (π (I 17 1).toNat))), some (zi (x : Int))] [] (z_ct9 I (π (I 17 1).toNat) (z_pf (z_bt s) (z_f0 I (19 + 5 * (π (I 17 1).toNat) + 1) 8) x) (z_f0 I (19 + 5 * (π (I 17 1).toNat) + 2) 10) (z_f0 I (19 + 5 * (π (I 17 1).toNat) + 3) 8) (z_f0 I (19 + 5 * (π (I 17 1).toNat) + 4) 8) 0 3 0 0 0) J (z_R π) := by
    intro k
    induction k with
    | zero =>
      intro x he
      refine aw_iload_n (pc := 11) dX2_tryClique_11 rfl ?_
      refine aw_aload_n (pc := 12) dX2_tryClique_12 rfl ?_
      refine aw_getR (pc := 13) dX2_tryClique_13 k_fl_X2_15 rfl (by omega) (by first | rfl | exact z_shr _ (by omega) | exact z_shc0 (by omega) | exact z_shc1 (by omega) | exact z_shc2 (by omega) | exact z_shc3 (by omega) | exact z_shc4 (by omega)) (by first | rfl | exact z_Rc0 _ (by omega) | exact z_Rc1 _ (by omega) | exact z_Rc2 _ (by omega) | exact z_Rc3 _ (by omega)) ?_
      refine aw_getV (pc := 16) (v := I 1 5) dX2_tryClique_16 k_fl_X2_29 rfl (by omega) (by first | rfl | exact z_shr _ (by omega) | exact z_shc0 (by omega) | exact z_shc1 (by omega) | exact z_shc2 (by omega) | exact z_shc3 (by omega) | exact z_shc4 (by omega)) (z_c9_o (by omega)) ?_
      refine aw_icmp_ge (pc := 19) (tgt := 47) dX2_tryClique_19 rfl (by first | omega | exact z_bl_r _) (by first | omega | exact z_bl_r _) (fun h19 => ?_) (fun h19 => absurd h19 (by omega))
      rw [show x = (I 1 5).toNat by omega]
      refine aw_aload_n (pc := 47) dX2_tryClique_47 rfl ?_
      refine aw_iconst (pc := 48) dX2_tryClique_48 ?_
      refine aw_putI (pc := 49) dX2_tryClique_49 k_fl_X2_78 rfl (by omega) (by first | rfl | exact z_shr _ (by omega) | exact z_shc0 (by omega) | exact z_shc1 (by omega) | exact z_shc2 (by omega) | exact z_shc3 (by omega) | exact z_shc4 (by omega)) ?_
      rw [z_c9_ur]
      refine aw_aload_n (pc := 52) dX2_tryClique_52 rfl ?_
      refine aw_getR (pc := 53) dX2_tryClique_53 k_fl_X2_19 rfl (by omega) (by first | rfl | exact z_shr _ (by omega) | exact z_shc0 (by omega) | exact z_shc1 (by omega) | exact z_shc2 (by omega) | exact z_shc3 (by omega) | exact z_shc4 (by omega)) (by first | rfl | exact z_Rc0 _ (by omega) | exact z_Rc1 _ (by omega) | exact z_Rc2 _ (by omega) | exact z_Rc3 _ (by omega)) ?_
      refine aw_qV (pc := 56) (d := m_X5_settleDraft) (c_X5_settleDraft h.c9 (hL.c9 hfb b2 b3 b4 (by omega) (by omega) (by omega) (by omega) (by omega))) k_X5_settleDraft dX2_tryClique_56 k_ml_X2_81 rfl ⟨rfl, rfl⟩ (by omega) (by first | rfl | exact z_shr _ (by omega) | exact z_shc0 (by omega) | exact z_shc1 (by omega) | exact z_shc2 (by omega) | exact z_shc3 (by omega) | exact z_shc4 (by omega)) rfl ⟨Nat.le_of_ble_eq_true rfl, Nat.le_of_ble_eq_true rfl⟩ ⟨Nat.zero_le _, Nat.zero_le _⟩ rfl (Nat.le_of_ble_eq_true rfl) (z_Pk ?_)
      refine aw_zreturn (pc := 59) dX2_tryClique_59 rfl (z_sd01 _ _ _) ⟨Nat.zero_le _, Nat.zero_le _⟩ ?_
      have hC : z_clC (z_ct9 I (π (I 17 1).toNat) (z_pf (z_bt s) (z_f0 I (19 + 5 * (π (I 17 1).toNat) + 1) 8) (I 1 5).toNat) (z_f0 I (19 + 5 * (π (I 17 1).toNat) + 2) 10) (z_f0 I (19 + 5 * (π (I 17 1).toNat) + 3) 8) (z_f0 I (19 + 5 * (π (I 17 1).toNat) + 4) 8) 1 3 0 0 0) (π (I 17 1).toNat) (z_clM I J) (z_cQ (z_clM I J) s) := z_clC9 (fun n hn => by
        have hn2 : n < (I 1 5).toNat := hn
        show _ = z_mk (mN (z_clM I J)) (z_bt s) n
        rw [z_mk_in hn, z_pf_lt hn2]) rfl rfl rfl (fun q => absurd q (by show ¬ ((3 : Int) = 0 ∨ (3 : Int) = 1); omega)) (fun q => absurd q (by show ¬ (3 : Int) = 2; omega))
      obtain ⟨k1, k2, k3, k4, k5⟩ := z_draft (L := L) h hL hc ht hfb b2 b3 b4 (by omega) (by omega) (by omega) (by omega) hC
      exact ⟨by rw [k1], rfl, rfl, rfl, k4, k5, k2, k3⟩
    | succ k ih =>
      intro x he
      refine aw_iload_n (pc := 11) dX2_tryClique_11 rfl ?_
      refine aw_aload_n (pc := 12) dX2_tryClique_12 rfl ?_
      refine aw_getR (pc := 13) dX2_tryClique_13 k_fl_X2_15 rfl (by omega) (by first | rfl | exact z_shr _ (by omega) | exact z_shc0 (by omega) | exact z_shc1 (by omega) | exact z_shc2 (by omega) | exact z_shc3 (by omega) | exact z_shc4 (by omega)) (by first | rfl | exact z_Rc0 _ (by omega) | exact z_Rc1 _ (by omega) | exact z_Rc2 _ (by omega) | exact z_Rc3 _ (by omega)) ?_
      refine aw_getV (pc := 16) (v := I 1 5) dX2_tryClique_16 k_fl_X2_29 rfl (by omega) (by first | rfl | exact z_shr _ (by omega) | exact z_shc0 (by omega) | exact z_shc1 (by omega) | exact z_shc2 (by omega) | exact z_shc3 (by omega) | exact z_shc4 (by omega)) (z_c9_o (by omega)) ?_
      refine aw_icmp_ge (pc := 19) (tgt := 47) dX2_tryClique_19 rfl (by first | omega | exact z_bl_r _) (by first | omega | exact z_bl_r _) (fun h19 => absurd h19 (by omega)) (fun h19 => ?_)
      refine aw_aload_n (pc := 22) dX2_tryClique_22 rfl ?_
      refine aw_getR (pc := 23) dX2_tryClique_23 k_fl_X2_73 rfl (by omega) (by first | rfl | exact z_shr _ (by omega) | exact z_shc0 (by omega) | exact z_shc1 (by omega) | exact z_shc2 (by omega) | exact z_shc3 (by omega) | exact z_shc4 (by omega)) (by first | rfl | exact z_Rc0 _ (by omega) | exact z_Rc1 _ (by omega) | exact z_Rc2 _ (by omega) | exact z_Rc3 _ (by omega)) ?_
      refine aw_iload_n (pc := 26) dX2_tryClique_26 rfl ?_
      refine aw_iload_n (pc := 27) dX2_tryClique_27 rfl ?_
      refine aw_iload_n (pc := 28) dX2_tryClique_28 rfl ?_
      refine aw_qN (pc := 29) (d := m_X8_isIn) (c_X8_isIn (s := s) (w := x) (by omega) (by omega)) k_X8_isIn dX2_tryClique_29 k_nl_X2_54 rfl ⟨rfl, rfl⟩ ⟨Nat.le_of_ble_eq_true rfl, Nat.le_of_ble_eq_true rfl⟩ ⟨Nat.zero_le _, Nat.zero_le _⟩ rfl (Nat.le_of_ble_eq_true rfl) (z_Pk ?_)
      refine aw_if_eq (pc := 32) (tgt := 39) dX2_tryClique_32 rfl (z_bl_r _) (fun h32 => ?_) (fun h32 => ?_)
      · refine aw_iconst (pc := 39) dX2_tryClique_39 ?_
        refine aw_iastore (pc := 40) dX2_tryClique_40 (by omega) (Nat.le_refl _) (by first | rfl | exact z_shr _ (by omega) | exact z_shc0 (by omega) | exact z_shc1 (by omega) | exact z_shc2 (by omega) | exact z_shc3 (by omega) | exact z_shc4 (by omega)) (by first | omega | exact z_bl_r _) ?_
        rw [z_c9_uf]
        refine aw_iinc (pc := 41) (lv' := [_, _, _, _]) dX2_tryClique_41 (Nat.le_of_ble_eq_true rfl) rfl rfl ?_
        refine aw_goto (pc := 44) (tgt := 11) dX2_tryClique_44 rfl ?_
        rw [Int.toNat_natCast, z_pf_sn (g := z_bt s) (by unfold z_bt; first | rw [if_pos (z_bl_n.mp h32)] | rw [if_neg (z_bl_0.mp h32)])]
        have K := ih (x + 1) (by omega)
        exact K
      · refine aw_iconst (pc := 35) dX2_tryClique_35 ?_
        refine aw_goto (pc := 36) (tgt := 40) dX2_tryClique_36 rfl ?_
        refine aw_iastore (pc := 40) dX2_tryClique_40 (by omega) (Nat.le_refl _) (by first | rfl | exact z_shr _ (by omega) | exact z_shc0 (by omega) | exact z_shc1 (by omega) | exact z_shc2 (by omega) | exact z_shc3 (by omega) | exact z_shc4 (by omega)) (by first | omega | exact z_bl_r _) ?_
        rw [z_c9_uf]
        refine aw_iinc (pc := 41) (lv' := [_, _, _, _]) dX2_tryClique_41 (Nat.le_of_ble_eq_true rfl) rfl rfl ?_
        refine aw_goto (pc := 44) (tgt := 11) dX2_tryClique_44 rfl ?_
        rw [Int.toNat_natCast, z_pf_sn (g := z_bt s) (by unfold z_bt; first | rw [if_pos (z_bl_n.mp h32)] | rw [if_neg (z_bl_0.mp h32)])]
        have K := ih (x + 1) (by omega)
        exact K
  refine aw_aload_n (pc := 0) dX2_tryClique_0 rfl ?_
  refine aw_getR (pc := 1) dX2_tryClique_1 k_fl_X2_19 rfl (by omega) (by first | rfl | exact z_shr _ (by omega) | exact z_shc0 (by omega) | exact z_shc1 (by omega) | exact z_shc2 (by omega) | exact z_shc3 (by omega) | exact z_shc4 (by omega)) (by first | rfl | exact z_Rc0 _ (by omega) | exact z_Rc1 _ (by omega) | exact z_Rc2 _ (by omega) | exact z_Rc3 _ (by omega)) ?_
  refine aw_iconst (pc := 4) dX2_tryClique_4 ?_
  refine aw_qV (pc := 5) (d := m_X5_newDraft) (c_X5_newDraft hL) k_X5_newDraft dX2_tryClique_5 k_ml_X2_67 rfl ⟨rfl, rfl⟩ (by omega) (by first | rfl | exact z_shr _ (by omega) | exact z_shc0 (by omega) | exact z_shc1 (by omega) | exact z_shc2 (by omega) | exact z_shc3 (by omega) | exact z_shc4 (by omega)) rfl ⟨Nat.le_of_ble_eq_true rfl, Nat.le_of_ble_eq_true rfl⟩ ⟨Nat.zero_le _, Nat.zero_le _⟩ rfl (Nat.le_of_ble_eq_true rfl) (z_Pk ?_)
  rw [z_bg9]
  refine aw_astore_n (pc := 8) (lv' := [_, _, _, _]) dX2_tryClique_8 (Nat.le_of_ble_eq_true rfl) rfl ?_
  refine aw_iconst (pc := 9) dX2_tryClique_9 ?_
  refine aw_istore_n (pc := 10) (lv' := [_, _, _, _]) dX2_tryClique_10 (Nat.le_of_ble_eq_true rfl) rfl ?_
  have K := loop (I 1 5).toNat 0 (by omega)
  rw [z_pf_0] at K
  exact K
set_option maxHeartbeats 4000000 in
theorem c_X2_seekCliques {π : Nat → Nat} {I J : AwI} {L : List z_CC} (h : z_M I J) (hL : z_L I π) (hc : z_clL I π (z_clM I J) L) (ht : I 17 2 = 1) (h232 : ∀ j, 0 ≤ I 232 j) : CT m_X2_seekCliques [zr 231] 255 I J (z_R π) (fun q9 sz' I' J' R' => q9 = none ∧ sz' = 255 ∧ J' = J ∧ R' = z_R π ∧ (∀ a j, a < 17 ∨ (224 ≤ a ∧ a < 231) ∨ 232 < a → I' a j = I a j) ∧ z_L I' π ∧ z_clL I' π (z_clM I J) (z_fo (z_clM I J) (L, 1) (z_cdQ (z_clM I J)) (2 ^ (I 1 5).toNat - 1)).1 ∧ I' 17 2 = (z_fo (z_clM I J) (L, 1) (z_cdQ (z_clM I J)) (2 ^ (I 1 5).toNat - 1)).2 ∧ ∀ j, 0 ≤ I' 232 j) := by
  have hnm := h.nm
  have hp8 : 2 ^ (I 1 5).toNat ≤ 2 ^ 8 := Nat.pow_le_pow_right (by omega) (by omega)
  have hpp : 1 ≤ 2 ^ (I 1 5).toNat := Nat.one_le_two_pow
  refine CT.of (by decide) (Nat.le_of_ble_eq_true rfl) ?_
  show AW _ 0 0 _ 0 [some (zr 231), none] [] _ _ _
  have main : ∀ (cl : Nat → Nat), z_ck (z_clM I J) (mN (z_clM I J)) (mN (z_clM I J) + 1) cl → AW (FM m_X2_seekCliques (fun q9 sz' I' J' R' => q9 = none ∧ sz' = 255 ∧ J' = J ∧ R' = z_R π ∧ (∀ a j, a < 17 ∨ (224 ≤ a ∧ a < 231) ∨ 232 < a → I' a j = I a j) ∧ z_L I' π ∧ z_clL I' π (z_clM I J) (z_fo (z_clM I J) (L, 1) (z_cdQ (z_clM I J)) (2 ^ (I 1 5).toNat - 1)).1 ∧ I' 17 2 = (z_fo (z_clM I J) (L, 1) (z_cdQ (z_clM I J)) (2 ^ (I 1 5).toNat - 1)).2 ∧ ∀ j, 0 ≤ I' 232 j)) 0 0 255 8 [some (zr 231), none] [] (z_s2 I ((z_bm (z_clM I J) (I 1 5).toNat : Nat) : Int) (fun j => ((cl j : Nat) : Int))) J (z_R π) := by
    intro cl hck
    have loop : ∀ (n : Nat) (set : Nat) (I1 : AwI), set + n = 2 ^ (I 1 5).toNat → 1 ≤ set → (∀ a j, a < 17 ∨ (224 ≤ a ∧ a < 231) ∨ 232 < a → I1 a j = I a j) → z_L I1 π → z_clL I1 π (z_clM I J) (z_fo (z_clM I J) (L, 1) (z_cdQ (z_clM I J)) (set - 1)).1 → I1 17 2 = 1 → (z_fo (z_clM I J) (L, 1) (z_cdQ (z_clM I J)) (set - 1)).2 = 1 → (I1 231 3 = ((z_bm (z_clM I J) (I 1 5).toNat : Nat) : Int) ∧ I1 232 = fun j => ((cl j : Nat) : Int)) → AW (FM m_X2_seekCliques (fun q9 sz' I' J' R' => q9 = none ∧ sz' = 255 ∧ J' = J ∧ R' = z_R π ∧ (∀ a j, a < 17 ∨ (224 ≤ a ∧ a < 231) ∨ 232 < a → I' a j = I a j) ∧ z_L I' π ∧ z_clL I' π (z_clM I J) (z_fo (z_clM I J) (L, 1) (z_cdQ (z_clM I J)) (2 ^ (I 1 5).toNat - 1)).1 ∧ I' 17 2 = (z_fo (z_clM I J) (L, 1) (z_cdQ (z_clM I J)) (2 ^ (I 1 5).toNat - 1)).2 ∧ ∀ j, 0 ≤ I' 232 j)) 0 0 255 10 [some (zr 231), some (zi (set : Int))] [] I1 J (z_R π) := by
      intro n
      induction n with
      | zero =>
        intro set I1 he h1 hf hL1 hc1 h17 hS1 hq
        refine aw_iload_n (pc := 10) dX2_seekCliques_10 rfl ?_
        refine aw_iconst (pc := 11) dX2_seekCliques_11 ?_
        refine aw_aload_n (pc := 12) dX2_seekCliques_12 rfl ?_
        refine aw_getR (pc := 13) dX2_seekCliques_13 k_fl_X2_15 rfl (by omega) (by first | rfl | exact z_shr _ (by omega) | exact z_shc0 (by omega) | exact z_shc1 (by omega) | exact z_shc2 (by omega) | exact z_shc3 (by omega) | exact z_shc4 (by omega)) (by first | rfl | exact z_Rc0 _ (by omega) | exact z_Rc1 _ (by omega) | exact z_Rc2 _ (by omega) | exact z_Rc3 _ (by omega)) ?_
        refine aw_getV (pc := 16) (v := I 1 5) dX2_seekCliques_16 k_fl_X2_29 rfl (by omega) (by first | rfl | exact z_shr _ (by omega) | exact z_shc0 (by omega) | exact z_shc1 (by omega) | exact z_shc2 (by omega) | exact z_shc3 (by omega) | exact z_shc4 (by omega)) (hf _ _ (Or.inl (by omega))) ?_
        refine aw_shl1 (pc := 19) dX2_seekCliques_19 (w := (I 1 5).toNat) (by omega) (by omega) ?_
        refine aw_icmp_ge (pc := 20) (tgt := 46) dX2_seekCliques_20 rfl (by first | omega | exact z_bl_r _) (by first | omega | exact z_bl_r _) (fun h20 => ?_) (fun h20 => absurd h20 (by omega))
        exact aw_return (pc := 46) dX2_seekCliques_46 rfl ⟨Nat.zero_le _, Nat.zero_le _⟩ (⟨rfl, rfl, rfl, rfl, hf, hL1, by rw [show 2 ^ (I 1 5).toNat - 1 = set - 1 by omega]; exact hc1, by rw [show 2 ^ (I 1 5).toNat - 1 = set - 1 by omega, h17]; exact hS1.symm, fun j => by rw [hq.2]; exact Int.natCast_nonneg _⟩)
      | succ n ih =>
        intro set I1 he h1 hf hL1 hc1 h17 hS1 hq
        refine aw_iload_n (pc := 10) dX2_seekCliques_10 rfl ?_
        refine aw_iconst (pc := 11) dX2_seekCliques_11 ?_
        refine aw_aload_n (pc := 12) dX2_seekCliques_12 rfl ?_
        refine aw_getR (pc := 13) dX2_seekCliques_13 k_fl_X2_15 rfl (by omega) (by first | rfl | exact z_shr _ (by omega) | exact z_shc0 (by omega) | exact z_shc1 (by omega) | exact z_shc2 (by omega) | exact z_shc3 (by omega) | exact z_shc4 (by omega)) (by first | rfl | exact z_Rc0 _ (by omega) | exact z_Rc1 _ (by omega) | exact z_Rc2 _ (by omega) | exact z_Rc3 _ (by omega)) ?_
        refine aw_getV (pc := 16) (v := I 1 5) dX2_seekCliques_16 k_fl_X2_29 rfl (by omega) (by first | rfl | exact z_shr _ (by omega) | exact z_shc0 (by omega) | exact z_shc1 (by omega) | exact z_shc2 (by omega) | exact z_shc3 (by omega) | exact z_shc4 (by omega)) (hf _ _ (Or.inl (by omega))) ?_
        refine aw_shl1 (pc := 19) dX2_seekCliques_19 (w := (I 1 5).toNat) (by omega) (by omega) ?_
        refine aw_icmp_ge (pc := 20) (tgt := 46) dX2_seekCliques_20 rfl (by first | omega | exact z_bl_r _) (by first | omega | exact z_bl_r _) (fun h20 => absurd h20 (by omega)) (fun h20 => ?_)
        have hM1 : z_M I1 J := h.congr (fun a j ha => hf a j (Or.inl ha)) (fun _ => rfl)
        have em1 : z_clM I1 J = z_clM I J := z_clM.congr h (fun a j ha => hf a j (Or.inl ha)) (fun _ => rfl)
        have K1 := c_X2_isWidestClique (π := π) (I := I1) (J := J) (cl := cl) (s := set) hM1 (by rw [em1]; exact hck) (by omega)
        rw [em1, hf 1 5 (Or.inl (by omega)), ← hq.1, ← hq.2, z_s2_id] at K1
        refine aw_aload_n (pc := 23) dX2_seekCliques_23 rfl ?_
        refine aw_iload_n (pc := 24) dX2_seekCliques_24 rfl ?_
        refine aw_qV (pc := 25) (d := m_X2_isWidestClique) (K1) k_X2_isWidestClique dX2_seekCliques_25 k_ml_X2_35 rfl ⟨rfl, rfl⟩ (by omega) (by first | rfl | exact z_shr _ (by omega) | exact z_shc0 (by omega) | exact z_shc1 (by omega) | exact z_shc2 (by omega) | exact z_shc3 (by omega) | exact z_shc4 (by omega)) rfl ⟨Nat.le_of_ble_eq_true rfl, Nat.le_of_ble_eq_true rfl⟩ ⟨Nat.zero_le _, Nat.zero_le _⟩ rfl (Nat.le_of_ble_eq_true rfl) (z_Pk ?_)
        refine aw_if_eq (pc := 28) (tgt := 40) dX2_seekCliques_28 rfl (z_bl_r _) (fun h28 => ?_) (fun h28 => ?_)
        · refine aw_iinc (pc := 40) (lv' := [_, _]) dX2_seekCliques_40 (Nat.le_of_ble_eq_true rfl) rfl rfl ?_
          refine aw_goto (pc := 43) (tgt := 10) dX2_seekCliques_43 rfl ?_
          have eS : (z_fo (z_clM I J) (L, 1) (z_cdQ (z_clM I J)) (set)) = (z_fo (z_clM I J) (L, 1) (z_cdQ (z_clM I J)) (set - 1)) := by
            rw [show (z_fo (z_clM I J) (L, 1) (z_cdQ (z_clM I J)) (set)) = (z_fo (z_clM I J) (L, 1) (z_cdQ (z_clM I J)) (set - 1 + 1)) by rw [show set - 1 + 1 = set by omega]]
            show z_of (z_clM I J) (z_fo (z_clM I J) (L, 1) (z_cdQ (z_clM I J)) (set - 1)) (z_cdQ (z_clM I J) (set - 1)) = _
            unfold z_cdQ
            rw [show set - 1 + 1 = set by omega, z_if_f (z_bl_0.mp h28)]
            exact z_of_C0
          have K9 := ih (set + 1) I1 (by omega) (by omega) hf hL1 (by rw [show set + 1 - 1 = set by omega, eS]; exact hc1) h17 (by rw [show set + 1 - 1 = set by omega, eS]; exact hS1) hq
          exact K9
        · have K2 := c_X2_tryClique (π := π) (I := I1) (J := J) (L := (z_fo (z_clM I J) (L, 1) (z_cdQ (z_clM I J)) (set - 1)).1) (s := set) hM1 hL1 (by rw [em1]; exact hc1) h17 (by omega)
          rw [em1] at K2
          refine aw_aload_n (pc := 31) dX2_seekCliques_31 rfl ?_
          refine aw_iload_n (pc := 32) dX2_seekCliques_32 rfl ?_
          refine aw_qV (pc := 33) (d := m_X2_tryClique) (K2) k_X2_tryClique dX2_seekCliques_33 k_ml_X2_39 rfl ⟨rfl, rfl⟩ (by omega) (by first | rfl | exact z_shr _ (by omega) | exact z_shc0 (by omega) | exact z_shc1 (by omega) | exact z_shc2 (by omega) | exact z_shc3 (by omega) | exact z_shc4 (by omega)) rfl ⟨Nat.le_of_ble_eq_true rfl, Nat.le_of_ble_eq_true rfl⟩ ⟨Nat.zero_le _, Nat.zero_le _⟩ rfl (Nat.le_of_ble_eq_true rfl) ?_
          rintro q9 sz3 I3 J3 R3 ⟨rfl, rfl, rfl, rfl, f3, hL3, hc3, h173⟩
          have eS : z_of (z_clM I J3) ((z_fo (z_clM I J3) (L, 1) (z_cdQ (z_clM I J3)) (set - 1)).1, 1) (z_cQ (z_clM I J3) set) = (z_fo (z_clM I J3) (L, 1) (z_cdQ (z_clM I J3)) (set)) := by
            rw [show (z_fo (z_clM I J3) (L, 1) (z_cdQ (z_clM I J3)) (set)) = (z_fo (z_clM I J3) (L, 1) (z_cdQ (z_clM I J3)) (set - 1 + 1)) by rw [show set - 1 + 1 = set by omega]]
            show _ = z_of (z_clM I J3) (z_fo (z_clM I J3) (L, 1) (z_cdQ (z_clM I J3)) (set - 1)) (z_cdQ (z_clM I J3) (set - 1))
            unfold z_cdQ
            rw [show set - 1 + 1 = set by omega, z_if_t (z_bl_n.mp h28)]
            exact z_of_e hS1
          rw [eS] at hc3 h173 ⊢
          have hf3 : (∀ a j, a < 17 ∨ (224 ≤ a ∧ a < 231) ∨ 232 < a → I3 a j = I a j) := fun a j ha => (f3 a j (by omega)).trans (hf a j ha)
          have hq3 : I3 231 3 = ((z_bm (z_clM I J3) (I 1 5).toNat : Nat) : Int) ∧ I3 232 = fun j => ((cl j : Nat) : Int) := ⟨(f3 _ _ (by omega)).trans hq.1, (funext fun j => f3 232 j (by omega)).trans hq.2⟩
          have h01 := (z_fo_inv (m := z_clM I J3) (L := L) (cand := z_cdQ (z_clM I J3)) set).2
          refine aw_if_ne (pc := 36) (tgt := 40) dX2_seekCliques_36 rfl (by omega) (fun h36 => ?_) (fun h36 => ?_)
          · refine aw_iinc (pc := 40) (lv' := [_, _]) dX2_seekCliques_40 (Nat.le_of_ble_eq_true rfl) rfl rfl ?_
            refine aw_goto (pc := 43) (tgt := 10) dX2_seekCliques_43 rfl ?_
            have K9 := ih (set + 1) I3 (by omega) (by omega) hf3 hL3 (by rw [show set + 1 - 1 = set by omega]; exact hc3) (by rw [h173]; omega) (by rw [show set + 1 - 1 = set by omega]; omega) hq3
            exact K9
          · exact aw_return (pc := 39) dX2_seekCliques_39 rfl ⟨Nat.zero_le _, Nat.zero_le _⟩ (⟨rfl, rfl, rfl, rfl, hf3, hL3, by rw [show 2 ^ (I 1 5).toNat - 1 = set + (2 ^ (I 1 5).toNat - 1 - set) by omega, z_fo_stop h36]; exact hc3, by rw [show 2 ^ (I 1 5).toNat - 1 = set + (2 ^ (I 1 5).toNat - 1 - set) by omega, z_fo_stop h36]; exact h173, fun j => by rw [hq3.2]; exact Int.natCast_nonneg _⟩)
    refine aw_iconst (pc := 8) dX2_seekCliques_8 ?_
    refine aw_istore_n (pc := 9) (lv' := [_, _]) dX2_seekCliques_9 (Nat.le_of_ble_eq_true rfl) rfl ?_
    exact loop (2 ^ (I 1 5).toNat - 1) 1 _ (by omega) (by omega) (fun a j ha => z_s2_o (by omega)) (hL.frame (fun a j h1 h2 => z_s2_o (by omega))) (hc.frame hL (fun a j h1 h2 => z_s2_o (by omega))) ((z_s2_o (by omega)).trans ht) rfl ⟨z_s2_b, rfl⟩
  have K1 := c_X2_readBinaries (π := π) (J := J) (b := I 231 3) (cl := I 232) h
  rw [z_s2_id] at K1
  refine aw_aload_n (pc := 0) dX2_seekCliques_0 rfl ?_
  refine aw_qV (pc := 1) (d := m_X2_readBinaries) (K1) k_X2_readBinaries dX2_seekCliques_1 k_ml_X2_23 rfl ⟨rfl, rfl⟩ (by omega) (by first | rfl | exact z_shr _ (by omega) | exact z_shc0 (by omega) | exact z_shc1 (by omega) | exact z_shc2 (by omega) | exact z_shc3 (by omega) | exact z_shc4 (by omega)) rfl ⟨Nat.le_of_ble_eq_true rfl, Nat.le_of_ble_eq_true rfl⟩ ⟨Nat.zero_le _, Nat.zero_le _⟩ rfl (Nat.le_of_ble_eq_true rfl) (z_Pk ?_)
  refine aw_aload_n (pc := 4) dX2_seekCliques_4 rfl ?_
  refine aw_qV (pc := 5) (d := m_X2_readClashes) (c_X2_readClashes h h232) k_X2_readClashes dX2_seekCliques_5 k_ml_X2_26 rfl ⟨rfl, rfl⟩ (by omega) (by first | rfl | exact z_shr _ (by omega) | exact z_shc0 (by omega) | exact z_shc1 (by omega) | exact z_shc2 (by omega) | exact z_shc3 (by omega) | exact z_shc4 (by omega)) rfl ⟨Nat.le_of_ble_eq_true rfl, Nat.le_of_ble_eq_true rfl⟩ ⟨Nat.zero_le _, Nat.zero_le _⟩ rfl (Nat.le_of_ble_eq_true rfl) ?_
  rintro q9 sz2 I2 J2 R2 ⟨rfl, rfl, rfl, rfl, cl, rfl, hck⟩
  exact main cl hck
