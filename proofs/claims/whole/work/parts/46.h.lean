set_option maxHeartbeats 4000000 in
theorem c_X9_covers {π : Nat → Nat} {I J : AwI} {m : z_MM} {L : List z_CC} (hI : z_RI I J m L 1) (h140 : I 237 14 = 0) : CT m_X9_covers [zr 237] 255 I J (z_R π) (fun q9 sz' I' J' R' => q9 = none ∧ sz' = 255 ∧ R' = z_R π ∧ z_SQ I J m L (z_cvO m (L, 1) (mR m)) I' J') := by
  refine CT.of (by decide) (Nat.le_of_ble_eq_true rfl) ?_
  show AW _ 0 0 _ 0 [some (zr 237), none, none] [] _ _ _
  have loop : ∀ (nr : Nat) (rr : Nat) (I1 J1 : AwI) (u : Option AwV), rr + nr = mR m → z_RI I1 J1 m (z_cvO m (L, 1) rr).1 (z_cvO m (L, 1) rr).2 → z_FQ I J I1 J1 → I1 237 14 = ((z_cvO m (L, 1) rr).1.length : Int) - (L.length : Int) → AW (FM m_X9_covers (fun q9 sz' I' J' R' => q9 = none ∧ sz' = 255 ∧ R' = z_R π ∧ z_SQ I J m L (z_cvO m (L, 1) (mR m)) I' J')) 0 0 255 2 [some (zr 237), some (zi (rr : Int)), u] [] I1 J1 (z_R π) := by
    intro nr
    induction nr with
    | zero =>
      intro rr I1 J1 u he h1 hf h14
      obtain ⟨hM1, hm1, e0, e4, elo, ehi, ept, eF, ert, hmb, hptb, hF0⟩ := h1.rds
      have hN8 := hmb.1
      have hR10 := hmb.2.1
      refine aw_iload_n (pc := 2) dX9_covers_2 rfl ?_
      refine aw_aload_n (pc := 3) dX9_covers_3 rfl ?_
      refine aw_getV (pc := 4) (v := (mR m : Int)) dX9_covers_4 k_fl_X9_72 rfl (by omega) (by first | rfl | exact z_shr _ (by omega) | exact z_shc0 (by omega) | exact z_shc1 (by omega) | exact z_shc2 (by omega) | exact z_shc3 (by omega) | exact z_shc4 (by omega)) (e4) ?_
      refine aw_icmp_ge (pc := 7) (tgt := 53) dX9_covers_7 rfl (by first | omega | exact z_bl_r _) (by first | omega | exact z_bl_r _) (fun h7 => ?_) (fun h7 => absurd h7 (by omega))
      exact aw_return (pc := 53) dX9_covers_53 rfl ⟨Nat.zero_le _, Nat.zero_le _⟩ (⟨rfl, rfl, rfl, by rw [show mR m = rr by omega]; exact ⟨h1, hf, h14⟩⟩)
    | succ nr ihr =>
      intro rr I1 J1 u he h1 hf h14
      obtain ⟨hM1, hm1, e0, e4, elo, ehi, ept, eF, ert, hmb, hptb, hF0⟩ := h1.rds
      have hN8 := hmb.1
      have hR10 := hmb.2.1
      refine aw_iload_n (pc := 2) dX9_covers_2 rfl ?_
      refine aw_aload_n (pc := 3) dX9_covers_3 rfl ?_
      refine aw_getV (pc := 4) (v := (mR m : Int)) dX9_covers_4 k_fl_X9_72 rfl (by omega) (by first | rfl | exact z_shr _ (by omega) | exact z_shc0 (by omega) | exact z_shc1 (by omega) | exact z_shc2 (by omega) | exact z_shc3 (by omega) | exact z_shc4 (by omega)) (e4) ?_
      refine aw_icmp_ge (pc := 7) (tgt := 53) dX9_covers_7 rfl (by first | omega | exact z_bl_r _) (by first | omega | exact z_bl_r _) (fun h7 => absurd h7 (by omega)) (fun h7 => ?_)
      have sl : ∀ (n : Nat) (set : Nat) (I1 J1 : AwI), set + n = 2 ^ (z_q m rr).1 → 1 ≤ set → z_RI I1 J1 m (z_fo m (z_cvO m (L, 1) rr) (z_cdV m rr) (set - 1)).1 (z_fo m (z_cvO m (L, 1) rr) (z_cdV m rr) (set - 1)).2 → z_FQ I J I1 J1 → I1 237 14 = ((z_fo m (z_cvO m (L, 1) rr) (z_cdV m rr) (set - 1)).1.length : Int) - (L.length : Int) → (I1 237 22 = ((z_q m rr).1 : Int) ∧ I1 237 23 = (z_q m rr).2.2.2 ∧ (∀ j, j < (z_q m rr).1 → I1 250 j = (z_q m rr).2.1 j) ∧ ∀ j, j < (z_q m rr).1 → I1 251 j = (z_q m rr).2.2.1 j) → AW (FM m_X9_covers (fun q9 sz' I' J' R' => q9 = none ∧ sz' = 255 ∧ R' = z_R π ∧ z_SQ I J m L (z_cvO m (L, 1) (mR m)) I' J')) 0 0 255 17 [some (zr 237), some (zi (rr : Int)), some (zi (set : Int))] [] I1 J1 (z_R π) := by
        intro n
        induction n with
        | zero =>
          intro set I1 J1 he hs1 h1 hf h14 hlt
          obtain ⟨hM1, hm1, e0, e4, elo, ehi, ept, eF, ert, hmb, hptb, hF0⟩ := h1.rds
          have hN8 := hmb.1
          have hR10 := hmb.2.1
          obtain ⟨qb1, qb2, qb3⟩ := z_q_b hmb rr
          have hp8 : 2 ^ (z_q m rr).1 ≤ 2 ^ 8 := Nat.pow_le_pow_right (by omega) qb1
          refine aw_iload_n (pc := 17) dX9_covers_17 rfl ?_
          refine aw_iconst (pc := 18) dX9_covers_18 ?_
          refine aw_aload_n (pc := 19) dX9_covers_19 rfl ?_
          refine aw_getV (pc := 20) (v := ((z_q m rr).1 : Int)) dX9_covers_20 k_fl_X9_124 rfl (by omega) (by first | rfl | exact z_shr _ (by omega) | exact z_shc0 (by omega) | exact z_shc1 (by omega) | exact z_shc2 (by omega) | exact z_shc3 (by omega) | exact z_shc4 (by omega)) (hlt.1) ?_
          refine aw_shl1 (pc := 23) dX9_covers_23 (w := (z_q m rr).1) rfl (by omega) ?_
          refine aw_icmp_ge (pc := 24) (tgt := 47) dX9_covers_24 rfl (by omega) (by omega) (fun h24 => ?_) (fun h24 => absurd h24 (by omega))
          refine aw_iinc (pc := 47) (lv' := [_, _, _]) dX9_covers_47 (Nat.le_of_ble_eq_true rfl) rfl rfl ?_
          refine aw_goto (pc := 50) (tgt := 2) dX9_covers_50 rfl ?_
          have eC : (z_fo m (z_cvO m (L, 1) rr) (z_cdV m rr) (set - 1)) = (z_cvO m (L, 1) (rr + 1)) := by rw [show set - 1 = 2 ^ (z_q m rr).1 - 1 by omega]; rfl
          rw [eC] at h1 h14
          exact ihr (rr + 1) I1 J1 _ (by omega) h1 hf h14
        | succ n ih =>
          intro set I1 J1 he hs1 h1 hf h14 hlt
          obtain ⟨hM1, hm1, e0, e4, elo, ehi, ept, eF, ert, hmb, hptb, hF0⟩ := h1.rds
          have hN8 := hmb.1
          have hR10 := hmb.2.1
          obtain ⟨qb1, qb2, qb3⟩ := z_q_b hmb rr
          have hp8 : 2 ^ (z_q m rr).1 ≤ 2 ^ 8 := Nat.pow_le_pow_right (by omega) qb1
          refine aw_iload_n (pc := 17) dX9_covers_17 rfl ?_
          refine aw_iconst (pc := 18) dX9_covers_18 ?_
          refine aw_aload_n (pc := 19) dX9_covers_19 rfl ?_
          refine aw_getV (pc := 20) (v := ((z_q m rr).1 : Int)) dX9_covers_20 k_fl_X9_124 rfl (by omega) (by first | rfl | exact z_shr _ (by omega) | exact z_shc0 (by omega) | exact z_shc1 (by omega) | exact z_shc2 (by omega) | exact z_shc3 (by omega) | exact z_shc4 (by omega)) (hlt.1) ?_
          refine aw_shl1 (pc := 23) dX9_covers_23 (w := (z_q m rr).1) rfl (by omega) ?_
          refine aw_icmp_ge (pc := 24) (tgt := 47) dX9_covers_24 rfl (by omega) (by omega) (fun h24 => absurd h24 (by omega)) (fun h24 => ?_)
          have hwb : ∀ j, j < (z_q m rr).1 → 1 ≤ I1 251 j ∧ I1 251 j ≤ 50 := fun j hj => by rw [hlt.2.2.2 j hj]; have := qb2 j hj; omega
          have K1 := c_X9_isCover (π := π) (I := I1) (J := J1) (k := (z_q m rr).1) (s := set) hlt.1 qb1 (by omega) hwb (by rw [hlt.2.1]; exact qb3)
          rw [hlt.2.1, show z_bl (z_cov (z_q m rr).1 (I1 251) (z_q m rr).2.2.2 set) = z_bl (z_cov (z_q m rr).1 (z_q m rr).2.2.1 (z_q m rr).2.2.2 set) from z_bl_c (z_cov_c hlt.2.2.2)] at K1
          refine aw_aload_n (pc := 27) dX9_covers_27 rfl ?_
          refine aw_iload_n (pc := 28) dX9_covers_28 rfl ?_
          refine aw_qV (pc := 29) (d := m_X9_isCover) (K1) k_X9_isCover dX9_covers_29 k_ml_X9_150 rfl ⟨rfl, rfl⟩ (by omega) (by first | rfl | exact z_shr _ (by omega) | exact z_shc0 (by omega) | exact z_shc1 (by omega) | exact z_shc2 (by omega) | exact z_shc3 (by omega) | exact z_shc4 (by omega)) rfl ⟨Nat.le_of_ble_eq_true rfl, Nat.le_of_ble_eq_true rfl⟩ ⟨Nat.zero_le _, Nat.zero_le _⟩ rfl (Nat.le_of_ble_eq_true rfl) (z_Pk ?_)
          refine aw_if_eq (pc := 32) (tgt := 41) dX9_covers_32 rfl (z_bl_r _) (fun h32 => ?_) (fun h32 => ?_)
          · refine aw_iinc (pc := 41) (lv' := [_, _, _]) dX9_covers_41 (Nat.le_of_ble_eq_true rfl) rfl rfl ?_
            refine aw_goto (pc := 44) (tgt := 17) dX9_covers_44 rfl ?_
            have eS := z_fo_s (m := m) (s := (z_cvO m (L, 1) rr)) (cand := z_cdV m rr) (k := set - 1) (j := set) (by omega)
            rw [show z_cdV m rr (set - 1) = z_C0 by unfold z_cdV; rw [show set - 1 + 1 = set by omega, z_if_f (z_bl_0.mp h32)], z_of_C0] at eS
            have eS2 : (z_fo m (z_cvO m (L, 1) rr) (z_cdV m rr) (set - 1)) = (z_fo m (z_cvO m (L, 1) rr) (z_cdV m rr) (set)) := eS
            exact ih (set + 1) I1 J1 (by omega) (by omega) (by rw [show set + 1 - 1 = set by omega, ← eS2]; exact h1) hf (by rw [show set + 1 - 1 = set by omega, ← eS2]; exact h14) hlt
          · have K2 := c_X9_cover (π := π) (I := I1) (J := J1) (k := (z_q m rr).1) (cap := (z_q m rr).2.2.2) (ln := I1 250) (wt := I1 251) (al0 := I1 252) (q := rr) (s := set) h1 (by omega) qb1 rfl rfl (fun j hj => ⟨hlt.2.2.1 j hj, hlt.2.2.2 j hj⟩) (fun j hj => by rw [hlt.2.2.1 j hj]; have := qb2 j hj; omega) hwb qb3 hs1 (by omega)
            rw [← hlt.1, ← hlt.2.1, z_l9_id, hlt.1, hlt.2.1] at K2
            refine aw_aload_n (pc := 35) dX9_covers_35 rfl ?_
            refine aw_iload_n (pc := 36) dX9_covers_36 rfl ?_
            refine aw_iload_n (pc := 37) dX9_covers_37 rfl ?_
            refine aw_qV (pc := 38) (d := m_X9_cover) (K2) k_X9_cover dX9_covers_38 k_ml_X9_153 rfl ⟨rfl, rfl⟩ (by omega) (by first | rfl | exact z_shr _ (by omega) | exact z_shc0 (by omega) | exact z_shc1 (by omega) | exact z_shc2 (by omega) | exact z_shc3 (by omega) | exact z_shc4 (by omega)) rfl ⟨Nat.le_of_ble_eq_true rfl, Nat.le_of_ble_eq_true rfl⟩ ⟨Nat.zero_le _, Nat.zero_le _⟩ rfl (Nat.le_of_ble_eq_true rfl) ?_
            rintro q9 sz2 I2 J2 R2 ⟨rfl, rfl, rfl, o1, o2, o3, o4, o5, o6, o7⟩
            have eS := z_fo_s (m := m) (s := (z_cvO m (L, 1) rr)) (cand := z_cdV m rr) (k := set - 1) (j := set) (by omega)
            rw [show z_cdV m rr (set - 1) = z_cV m rr set by unfold z_cdV; rw [show set - 1 + 1 = set by omega, z_if_t (z_bl_n.mp h32)]] at eS
            rw [eS] at o1 o2
            refine aw_iinc (pc := 41) (lv' := [_, _, _]) dX9_covers_41 (Nat.le_of_ble_eq_true rfl) rfl rfl ?_
            refine aw_goto (pc := 44) (tgt := 17) dX9_covers_44 rfl ?_
            exact ih (set + 1) I2 J2 (by omega) (by omega) (by rw [show set + 1 - 1 = set by omega]; exact o1) (hf.tr o3) (by rw [show set + 1 - 1 = set by omega, o2, h14]; omega) ⟨o4, o5, fun j hj => (o6 j).trans (hlt.2.2.1 j hj), fun j hj => (o7 j).trans (hlt.2.2.2 j hj)⟩
      have K0 := c_X9_findLiterals (π := π) (k0 := I1 237 22) (cap0 := I1 237 23) (ln := I1 250) (wt := I1 251) (al := I1 252) (q := rr) h1 (by omega)
      rw [z_l9_id] at K0
      obtain ⟨b1, b2, b3⟩ := z_rl_base (m := m) (r := rr) (b1 := I1 250) (b2 := I1 251) (c1 := fun _ => 0) (c2 := fun _ => 0) (mN m)
      refine aw_aload_n (pc := 10) dX9_covers_10 rfl ?_
      refine aw_iload_n (pc := 11) dX9_covers_11 rfl ?_
      refine aw_qV (pc := 12) (d := m_X9_findLiterals) (K0) k_X9_findLiterals dX9_covers_12 k_ml_X9_147 rfl ⟨rfl, rfl⟩ (by omega) (by first | rfl | exact z_shr _ (by omega) | exact z_shc0 (by omega) | exact z_shc1 (by omega) | exact z_shc2 (by omega) | exact z_shc3 (by omega) | exact z_shc4 (by omega)) rfl ⟨Nat.le_of_ble_eq_true rfl, Nat.le_of_ble_eq_true rfl⟩ ⟨Nat.zero_le _, Nat.zero_le _⟩ rfl (Nat.le_of_ble_eq_true rfl) (z_Pk ?_)
      refine aw_iconst (pc := 15) dX9_covers_15 ?_
      refine aw_istore_n (pc := 16) (lv' := [_, _, _]) dX9_covers_16 (Nat.le_of_ble_eq_true rfl) rfl ?_
      exact sl (2 ^ (z_q m rr).1 - 1) 1 _ J1 (by have := Nat.one_le_two_pow (n := (z_q m rr).1); omega) (by omega) h1.l9 hf.l9 ((z_l9_o (by omega) (by omega)).trans h14) ⟨z_l9_k.trans (congrArg _ b1), z_l9_c.trans b2, fun j hj => (z_l9_ln j).trans (b3 j (by rw [b1]; exact hj)).1, fun j hj => (z_l9_wt j).trans (b3 j (by rw [b1]; exact hj)).2⟩
  refine aw_iconst (pc := 0) dX9_covers_0 ?_
  refine aw_istore_n (pc := 1) (lv' := [_, _, _]) dX9_covers_1 (Nat.le_of_ble_eq_true rfl) rfl ?_
  exact loop (mR m) 0 I J _ (by omega) hI z_FQ.rf (by rw [h140]; show _ = (L.length : Int) - L.length; omega)
theorem z_ktb {m : z_MM} (h : z_mb m) {q : Nat} (a b : Nat) : -12000 ≤ z_sum (z_kt m q a b) (mN m) ∧ z_sum (z_kt m q a b) (mN m) ≤ 12000 := by
  have g := z_sum_b (f := z_kt m q a b) 1500 (mN m) (fun k hk => by
    unfold z_kt
    have := z_le_b (h.2.2.2.2.1 q k) (h.2.2.1 k) (h.2.2.2.1 k)
    split <;> omega)
  have := h.1
  omega
set_option maxHeartbeats 4000000 in
theorem c_X9_clash {π : Nat → Nat} {I J : AwI} {m : z_MM} {L : List z_CC} {t : Int} {a b : Nat} (hI : z_RI I J m L t) (ha : a < mN m) (hb : b < mN m) : CT m_X9_clash [zr 237, zi (a : Int), zi (b : Int)] 255 I J (z_R π) (z_P (some (zi (z_bl (z_kl2 m a b)))) 255 I J (z_R π)) := by
  obtain ⟨hM1, hm1, e0, e4, elo, ehi, ept, eF, ert, hmb, hptb, hF0⟩ := hI.rds
  have hN8 := hmb.1
  have hR10 := hmb.2.1
  refine CT.of (by decide) (Nat.le_of_ble_eq_true rfl) ?_
  show AW _ 0 0 _ 0 [some (zr 237), some (zi (a : Int)), some (zi (b : Int)), none, none, none] [] _ _ _
  have loop : ∀ (n : Nat) (q : Nat) (u v : Option AwV), q + n = mR m → (∀ r, r < q → ¬ mrt m r < mF m r a + mF m r b + z_sum (z_kt m r a b) (mN m)) → AW (FM m_X9_clash (z_P (some (zi (z_bl (z_kl2 m a b)))) 255 I J (z_R π))) 0 0 255 2 [some (zr 237), some (zi (a : Int)), some (zi (b : Int)), some (zi (q : Int)), u, v] [] I J (z_R π) := by
    intro n
    induction n with
    | zero =>
      intro q u v he g
      refine aw_iload_n (pc := 2) dX9_clash_2 rfl ?_
      refine aw_aload_n (pc := 3) dX9_clash_3 rfl ?_
      refine aw_getV (pc := 4) (v := (mR m : Int)) dX9_clash_4 k_fl_X9_72 rfl (by omega) (by first | rfl | exact z_shr _ (by omega) | exact z_shc0 (by omega) | exact z_shc1 (by omega) | exact z_shc2 (by omega) | exact z_shc3 (by omega) | exact z_shc4 (by omega)) (e4) ?_
      refine aw_icmp_ge (pc := 7) (tgt := 100) dX9_clash_7 rfl (by first | omega | exact z_bl_r _) (by first | omega | exact z_bl_r _) (fun h7 => ?_) (fun h7 => absurd h7 (by omega))
      refine aw_iconst (pc := 100) dX9_clash_100 ?_
      exact aw_zreturn (pc := 101) dX9_clash_101 rfl (by first | exact Or.inl rfl | exact Or.inr rfl | omega) ⟨Nat.zero_le _, Nat.zero_le _⟩ (⟨z_r0 (fun q1 => by obtain ⟨r, h1, h2⟩ := q1; have := g r (by omega); omega), rfl, rfl, rfl, rfl⟩)
    | succ n ih =>
      intro q u v he g
      refine aw_iload_n (pc := 2) dX9_clash_2 rfl ?_
      refine aw_aload_n (pc := 3) dX9_clash_3 rfl ?_
      refine aw_getV (pc := 4) (v := (mR m : Int)) dX9_clash_4 k_fl_X9_72 rfl (by omega) (by first | rfl | exact z_shr _ (by omega) | exact z_shc0 (by omega) | exact z_shc1 (by omega) | exact z_shc2 (by omega) | exact z_shc3 (by omega) | exact z_shc4 (by omega)) (e4) ?_
      refine aw_icmp_ge (pc := 7) (tgt := 100) dX9_clash_7 rfl (by first | omega | exact z_bl_r _) (by first | omega | exact z_bl_r _) (fun h7 => absurd h7 (by omega)) (fun h7 => ?_)
      have il : ∀ (n2 : Nat) (x : Nat), x + n2 = mN m → AW (FM m_X9_clash (z_P (some (zi (z_bl (z_kl2 m a b)))) 255 I J (z_R π))) 0 0 255 38 [some (zr 237), some (zi (a : Int)), some (zi (b : Int)), some (zi (q : Int)), some (zi (mF m q a + mF m q b + z_sum (z_kt m q a b) x)), some (zi (x : Int))] [] I J (z_R π) := by
        intro n2
        induction n2 with
        | zero =>
          intro x he2
          refine aw_iload (pc := 38) dX9_clash_38 rfl ?_
          refine aw_aload_n (pc := 40) dX9_clash_40 rfl ?_
          refine aw_getV (pc := 41) (v := (mN m : Int)) dX9_clash_41 k_fl_X9_66 rfl (by omega) (by first | rfl | exact z_shr _ (by omega) | exact z_shc0 (by omega) | exact z_shc1 (by omega) | exact z_shc2 (by omega) | exact z_shc3 (by omega) | exact z_shc4 (by omega)) (e0) ?_
          refine aw_icmp_ge (pc := 44) (tgt := 81) dX9_clash_44 rfl (by first | omega | exact z_bl_r _) (by first | omega | exact z_bl_r _) (fun h44 => ?_) (fun h44 => absurd h44 (by omega))
          rw [show x = mN m by omega]
          have hkb := z_ktb hmb (q := q) a b
          have f1 := hmb.2.2.2.2.1 q a
          have f2 := hmb.2.2.2.2.1 q b
          have f3 := hmb.2.2.2.2.2 q
          refine aw_iload (pc := 81) dX9_clash_81 rfl ?_
          refine aw_aload_n (pc := 83) dX9_clash_83 rfl ?_
          refine aw_getR (pc := 84) dX9_clash_84 k_fl_X9_20 rfl (by omega) (by first | rfl | exact z_shr _ (by omega) | exact z_shc0 (by omega) | exact z_shc1 (by omega) | exact z_shc2 (by omega) | exact z_shc3 (by omega) | exact z_shc4 (by omega)) (by first | rfl | exact z_Rc0 _ (by omega) | exact z_Rc1 _ (by omega) | exact z_Rc2 _ (by omega) | exact z_Rc3 _ (by omega)) ?_
          refine aw_iload_n (pc := 87) dX9_clash_87 rfl ?_
          refine aw_ialoadV (pc := 88) (v := mrt m q) dX9_clash_88 (by omega) (Nat.le_refl _) (by first | rfl | exact z_shr _ (by omega) | exact z_shc0 (by omega) | exact z_shc1 (by omega) | exact z_shc2 (by omega) | exact z_shc3 (by omega) | exact z_shc4 (by omega)) (by first | omega | exact z_bl_r _) (ert q (by omega)) ?_
          refine aw_icmp_le (pc := 89) (tgt := 94) dX9_clash_89 rfl (by omega) (by omega) (fun h89 => ?_) (fun h89 => ?_)
          · refine aw_iinc (pc := 94) (lv' := [_, _, _, _, _, _]) dX9_clash_94 (Nat.le_of_ble_eq_true rfl) rfl rfl ?_
            refine aw_goto (pc := 97) (tgt := 2) dX9_clash_97 rfl ?_
            exact ih (q + 1) _ _ (by omega) (fun r hr => by by_cases e : r = q; (rw [e]; omega); exact g r (by omega))
          · refine aw_iconst (pc := 92) dX9_clash_92 ?_
            exact aw_zreturn (pc := 93) dX9_clash_93 rfl (by first | exact Or.inl rfl | exact Or.inr rfl | omega) ⟨Nat.zero_le _, Nat.zero_le _⟩ (⟨z_r1 ⟨q, by omega, by omega⟩, rfl, rfl, rfl, rfl⟩)
        | succ n2 ih2 =>
          intro x he2
          refine aw_iload (pc := 38) dX9_clash_38 rfl ?_
          refine aw_aload_n (pc := 40) dX9_clash_40 rfl ?_
          refine aw_getV (pc := 41) (v := (mN m : Int)) dX9_clash_41 k_fl_X9_66 rfl (by omega) (by first | rfl | exact z_shr _ (by omega) | exact z_shc0 (by omega) | exact z_shc1 (by omega) | exact z_shc2 (by omega) | exact z_shc3 (by omega) | exact z_shc4 (by omega)) (e0) ?_
          refine aw_icmp_ge (pc := 44) (tgt := 81) dX9_clash_44 rfl (by first | omega | exact z_bl_r _) (by first | omega | exact z_bl_r _) (fun h44 => absurd h44 (by omega)) (fun h44 => ?_)
          refine aw_iload (pc := 47) dX9_clash_47 rfl ?_
          refine aw_iload (pc := 49) dX9_clash_49 rfl ?_
          refine aw_iload_n (pc := 51) dX9_clash_51 rfl ?_
          refine aw_icmp_eq (pc := 52) (tgt := 61) dX9_clash_52 rfl (by first | omega | exact z_bl_r _) (by first | omega | exact z_bl_r _) (fun h52 => ?_) (fun h52 => ?_)
          · refine aw_iconst (pc := 61) dX9_clash_61 ?_
            refine aw_goto (pc := 62) (tgt := 72) dX9_clash_62 rfl ?_
            refine aw_iadd (pc := 72) dX9_clash_72 ?_
            refine aw_istore (pc := 73) (lv' := [_, _, _, _, _, _]) dX9_clash_73 (Nat.le_of_ble_eq_true rfl) rfl ?_
            refine aw_iinc (pc := 75) (lv' := [_, _, _, _, _, _]) dX9_clash_75 (Nat.le_of_ble_eq_true rfl) rfl rfl ?_
            refine aw_goto (pc := 78) (tgt := 38) dX9_clash_78 rfl ?_
            have K := ih2 (x + 1) (by omega)
            rw [show mF m q a + mF m q b + z_sum (z_kt m q a b) (x + 1) = (mF m q a + mF m q b + z_sum (z_kt m q a b) x) + 0 by show _ + _ + (z_sum _ x + z_kt m q a b x) = _; rw [show z_kt m q a b x = 0 from if_pos (by omega)]; omega] at K
            exact K
          · refine aw_iload (pc := 55) dX9_clash_55 rfl ?_
            refine aw_iload_n (pc := 57) dX9_clash_57 rfl ?_
            refine aw_icmp_ne (pc := 58) (tgt := 65) dX9_clash_58 rfl (by first | omega | exact z_bl_r _) (by first | omega | exact z_bl_r _) (fun h58 => ?_) (fun h58 => ?_)
            · refine aw_aload_n (pc := 65) dX9_clash_65 rfl ?_
              refine aw_iload_n (pc := 66) dX9_clash_66 rfl ?_
              refine aw_iload (pc := 67) dX9_clash_67 rfl ?_
              refine aw_qV (pc := 69) (d := m_X9_least) (c_X9_least hM1 (by omega) (by omega)) k_X9_least dX9_clash_69 k_ml_X9_133 rfl ⟨rfl, rfl⟩ (by omega) (by first | rfl | exact z_shr _ (by omega) | exact z_shc0 (by omega) | exact z_shc1 (by omega) | exact z_shc2 (by omega) | exact z_shc3 (by omega) | exact z_shc4 (by omega)) rfl ⟨Nat.le_of_ble_eq_true rfl, Nat.le_of_ble_eq_true rfl⟩ ⟨Nat.zero_le _, Nat.zero_le _⟩ rfl (Nat.le_of_ble_eq_true rfl) (z_Pk ?_)
              refine aw_iadd (pc := 72) dX9_clash_72 ?_
              refine aw_istore (pc := 73) (lv' := [_, _, _, _, _, _]) dX9_clash_73 (Nat.le_of_ble_eq_true rfl) rfl ?_
              refine aw_iinc (pc := 75) (lv' := [_, _, _, _, _, _]) dX9_clash_75 (Nat.le_of_ble_eq_true rfl) rfl rfl ?_
              refine aw_goto (pc := 78) (tgt := 38) dX9_clash_78 rfl ?_
              have el : z_ql I q x = z_le (mF m q x) (mlo m x) (mhi m x) := by unfold z_ql; rw [eF q x (by omega) (by omega), elo x (by omega), ehi x (by omega)]
              rw [el]
              have K := ih2 (x + 1) (by omega)
              rw [show mF m q a + mF m q b + z_sum (z_kt m q a b) (x + 1) = (mF m q a + mF m q b + z_sum (z_kt m q a b) x) + z_le (mF m q x) (mlo m x) (mhi m x) by show _ + _ + (z_sum _ x + z_kt m q a b x) = _; rw [show z_kt m q a b x = z_le (mF m q x) (mlo m x) (mhi m x) from if_neg (by omega)]; omega] at K
              exact K
            · refine aw_iconst (pc := 61) dX9_clash_61 ?_
              refine aw_goto (pc := 62) (tgt := 72) dX9_clash_62 rfl ?_
              refine aw_iadd (pc := 72) dX9_clash_72 ?_
              refine aw_istore (pc := 73) (lv' := [_, _, _, _, _, _]) dX9_clash_73 (Nat.le_of_ble_eq_true rfl) rfl ?_
              refine aw_iinc (pc := 75) (lv' := [_, _, _, _, _, _]) dX9_clash_75 (Nat.le_of_ble_eq_true rfl) rfl rfl ?_
              refine aw_goto (pc := 78) (tgt := 38) dX9_clash_78 rfl ?_
              have K := ih2 (x + 1) (by omega)
              rw [show mF m q a + mF m q b + z_sum (z_kt m q a b) (x + 1) = (mF m q a + mF m q b + z_sum (z_kt m q a b) x) + 0 by show _ + _ + (z_sum _ x + z_kt m q a b x) = _; rw [show z_kt m q a b x = 0 from if_pos (by omega)]; omega] at K
              exact K
      refine aw_aload_n (pc := 10) dX9_clash_10 rfl ?_
      refine aw_getR (pc := 11) dX9_clash_11 k_fl_X9_23 rfl (by omega) (by first | rfl | exact z_shr _ (by omega) | exact z_shc0 (by omega) | exact z_shc1 (by omega) | exact z_shc2 (by omega) | exact z_shc3 (by omega) | exact z_shc4 (by omega)) (by first | rfl | exact z_Rc0 _ (by omega) | exact z_Rc1 _ (by omega) | exact z_Rc2 _ (by omega) | exact z_Rc3 _ (by omega)) ?_
      refine aw_bipush (pc := 14) dX9_clash_14 rfl ?_
      refine aw_iload_n (pc := 16) dX9_clash_16 rfl ?_
      refine aw_imul (pc := 17) dX9_clash_17 ?_
      refine aw_iload_n (pc := 18) dX9_clash_18 rfl ?_
      refine aw_iadd (pc := 19) dX9_clash_19 ?_
      refine aw_ialoadV (pc := 20) (v := mF m q a) dX9_clash_20 (by omega) (Nat.le_refl _) (by first | rfl | exact z_shr _ (by omega) | exact z_shc0 (by omega) | exact z_shc1 (by omega) | exact z_shc2 (by omega) | exact z_shc3 (by omega) | exact z_shc4 (by omega)) (by omega) (by rw [show ((8 : Int) * (q : Int) + (a : Int)).toNat = 8 * q + a by omega]; exact eF q a (by omega) ha) ?_
      refine aw_aload_n (pc := 21) dX9_clash_21 rfl ?_
      refine aw_getR (pc := 22) dX9_clash_22 k_fl_X9_23 rfl (by omega) (by first | rfl | exact z_shr _ (by omega) | exact z_shc0 (by omega) | exact z_shc1 (by omega) | exact z_shc2 (by omega) | exact z_shc3 (by omega) | exact z_shc4 (by omega)) (by first | rfl | exact z_Rc0 _ (by omega) | exact z_Rc1 _ (by omega) | exact z_Rc2 _ (by omega) | exact z_Rc3 _ (by omega)) ?_
      refine aw_bipush (pc := 25) dX9_clash_25 rfl ?_
      refine aw_iload_n (pc := 27) dX9_clash_27 rfl ?_
      refine aw_imul (pc := 28) dX9_clash_28 ?_
      refine aw_iload_n (pc := 29) dX9_clash_29 rfl ?_
      refine aw_iadd (pc := 30) dX9_clash_30 ?_
      refine aw_ialoadV (pc := 31) (v := mF m q b) dX9_clash_31 (by omega) (Nat.le_refl _) (by first | rfl | exact z_shr _ (by omega) | exact z_shc0 (by omega) | exact z_shc1 (by omega) | exact z_shc2 (by omega) | exact z_shc3 (by omega) | exact z_shc4 (by omega)) (by omega) (by rw [show ((8 : Int) * (q : Int) + (b : Int)).toNat = 8 * q + b by omega]; exact eF q b (by omega) hb) ?_
      refine aw_iadd (pc := 32) dX9_clash_32 ?_
      refine aw_istore (pc := 33) (lv' := [_, _, _, _, _, _]) dX9_clash_33 (Nat.le_of_ble_eq_true rfl) rfl ?_
      refine aw_iconst (pc := 35) dX9_clash_35 ?_
      refine aw_istore (pc := 36) (lv' := [_, _, _, _, _, _]) dX9_clash_36 (Nat.le_of_ble_eq_true rfl) rfl ?_
      have K := il (mN m) 0 (by omega)
      rw [show mF m q a + mF m q b + z_sum (z_kt m q a b) 0 = mF m q a + mF m q b from Int.add_zero _] at K
      exact K
  refine aw_iconst (pc := 0) dX9_clash_0 ?_
  refine aw_istore_n (pc := 1) (lv' := [_, _, _, _, _, _]) dX9_clash_1 (Nat.le_of_ble_eq_true rfl) rfl ?_
  exact loop (mR m) 0 _ _ (by omega) (fun r hr => absurd hr (by omega))
/-- what the reference asks of one name -/
def z_qa (m : z_MM) (s a : Nat) : Prop := (s.testBit a = true → z_bin m a) ∧ (z_bin m a → ((∀ d, d < mN m → d ≠ a → s.testBit d = true → z_kl2 m a d) ↔ s.testBit a = true))
def z_qx (m : z_MM) (s a x : Nat) : Prop := ∀ d, d < x → d ≠ a → s.testBit d = true → z_kl2 m a d
theorem z_qa_wiq {m : z_MM} {s : Nat} (h2 : 2 ≤ z_cnt s 10) (hs : s < 2 ^ mN m) : (∀ a, a < mN m → z_qa m s a) ↔ z_wiq m s := by
  have hb : ∀ n, s.testBit n = true → n < mN m := fun n hn => by
    rcases Nat.lt_or_ge n (mN m) with q | q
    · exact q
    · rw [Nat.testBit_lt_two_pow (Nat.lt_of_lt_of_le hs (Nat.pow_le_pow_right (by omega) q))] at hn; cases hn
  constructor
  · intro h
    refine ⟨h2, fun n hn => ⟨hb n hn, (h n (hb n hn)).1 hn⟩, fun n hn hB => ?_⟩
    rw [← (h n hn).2 hB]
    exact ⟨fun q d _ h1 h2 => q d h1 h2, fun q d h1 h2 => q d (hb d h2) h1 h2⟩
  · rintro ⟨-, h1, h3⟩ a ha
    refine ⟨fun q => (h1 a q).2, fun hB => ?_⟩
    rw [← h3 a ha hB]
    exact ⟨fun q d h1 h2 => q d (hb d h2) h1 h2, fun q d _ h1 h2 => q d h1 h2⟩
set_option maxHeartbeats 4000000 in
theorem c_X9_isClique {π : Nat → Nat} {I J : AwI} {m : z_MM} {L : List z_CC} {t : Int} {s : Nat} (hI : z_RI I J m L t) (hs : s < 256) : CT m_X9_isClique [zr 237, zi (s : Int)] 255 I J (z_R π) (z_P (some (zi (z_bl (∀ a, a < mN m → z_qa m s a)))) 255 I J (z_R π)) := by
  obtain ⟨hM1, hm1, e0, e4, elo, ehi, ept, eF, ert, hmb, hptb, hF0⟩ := hI.rds
  have hN8 := hmb.1
  have hR10 := hmb.2.1
  refine CT.of (by decide) (Nat.le_of_ble_eq_true rfl) ?_
  show AW _ 0 0 _ 0 [some (zr 237), some (zi (s : Int)), none, none, none, none] [] _ _ _
  have loop : ∀ (n : Nat) (a : Nat) (u v w : Option AwV), a + n = mN m → (∀ j, j < a → z_qa m s j) → AW (FM m_X9_isClique (z_P (some (zi (z_bl (∀ a, a < mN m → z_qa m s a)))) 255 I J (z_R π))) 0 0 255 2 [some (zr 237), some (zi (s : Int)), some (zi (a : Int)), u, v, w] [] I J (z_R π) := by
    intro n
    induction n with
    | zero =>
      intro a u v w he g
      refine aw_iload_n (pc := 2) dX9_isClique_2 rfl ?_
      refine aw_aload_n (pc := 3) dX9_isClique_3 rfl ?_
      refine aw_getV (pc := 4) (v := (mN m : Int)) dX9_isClique_4 k_fl_X9_66 rfl (by omega) (by first | rfl | exact z_shr _ (by omega) | exact z_shc0 (by omega) | exact z_shc1 (by omega) | exact z_shc2 (by omega) | exact z_shc3 (by omega) | exact z_shc4 (by omega)) (e0) ?_
      refine aw_icmp_ge (pc := 7) (tgt := 131) dX9_isClique_7 rfl (by first | omega | exact z_bl_r _) (by first | omega | exact z_bl_r _) (fun h7 => ?_) (fun h7 => absurd h7 (by omega))
      refine aw_iconst (pc := 131) dX9_isClique_131 ?_
      exact aw_zreturn (pc := 132) dX9_isClique_132 rfl (by first | exact Or.inl rfl | exact Or.inr rfl | omega) ⟨Nat.zero_le _, Nat.zero_le _⟩ (⟨z_r1 (fun j hj => g j (by omega)), rfl, rfl, rfl, rfl⟩)
    | succ n ih =>
      intro a u v w he g
      refine aw_iload_n (pc := 2) dX9_isClique_2 rfl ?_
      refine aw_aload_n (pc := 3) dX9_isClique_3 rfl ?_
      refine aw_getV (pc := 4) (v := (mN m : Int)) dX9_isClique_4 k_fl_X9_66 rfl (by omega) (by first | rfl | exact z_shr _ (by omega) | exact z_shc0 (by omega) | exact z_shc1 (by omega) | exact z_shc2 (by omega) | exact z_shc3 (by omega) | exact z_shc4 (by omega)) (e0) ?_
      refine aw_icmp_ge (pc := 7) (tgt := 131) dX9_isClique_7 rfl (by first | omega | exact z_bl_r _) (by first | omega | exact z_bl_r _) (fun h7 => absurd h7 (by omega)) (fun h7 => ?_)
      have hba := z_bt_b s a
      refine aw_iload_n (pc := 10) dX9_isClique_10 rfl ?_
      refine aw_iload_n (pc := 11) dX9_isClique_11 rfl ?_
      refine aw_shr (pc := 12) dX9_isClique_12 (a := s) (w := a) rfl rfl (by omega) (by omega) ?_
      refine aw_iconst (pc := 13) dX9_isClique_13 ?_
      refine aw_iand (pc := 14) dX9_isClique_14 rfl (b := 1) rfl ?_
      rw [z_btn]
      refine aw_iconst (pc := 15) dX9_isClique_15 ?_
      refine aw_icmp_ne (pc := 16) (tgt := 23) dX9_isClique_16 rfl (by omega) (by omega) (fun h16 => ?_) (fun h16 => ?_)
      · refine aw_iconst (pc := 23) dX9_isClique_23 ?_
        refine aw_istore_n (pc := 24) (lv' := [_, _, _, _, _, _]) dX9_isClique_24 (Nat.le_of_ble_eq_true rfl) rfl ?_
        refine aw_iload_n (pc := 25) dX9_isClique_25 rfl ?_
        refine aw_if_eq (pc := 26) (tgt := 39) dX9_isClique_26 rfl (by first | omega | exact z_bl_r _) (fun h26 => ?_) (fun h26 => ?_)
        · refine aw_iconst (pc := 39) dX9_isClique_39 ?_
          refine aw_istore (pc := 40) (lv' := [_, _, _, _, _, _]) dX9_isClique_40 (Nat.le_of_ble_eq_true rfl) rfl ?_
          refine aw_iconst (pc := 42) dX9_isClique_42 ?_
          refine aw_istore (pc := 43) (lv' := [_, _, _, _, _, _]) dX9_isClique_43 (Nat.le_of_ble_eq_true rfl) rfl ?_
          have hbin : s.testBit a = true → z_bin m a := fun q => absurd (z_bt1.mpr q) (by omega)
          have il : ∀ (n2 : Nat) (x : Nat), x + n2 = mN m → AW (FM m_X9_isClique (z_P (some (zi (z_bl (∀ a, a < mN m → z_qa m s a)))) 255 I J (z_R π))) 0 0 255 45 [some (zr 237), some (zi (s : Int)), some (zi (a : Int)), some (zi (z_bt s a)), some (zi (z_bl (z_qx m s a x))), some (zi (x : Int))] [] I J (z_R π) := by
            intro n2
            induction n2 with
            | zero =>
              intro x he2
              refine aw_iload (pc := 45) dX9_isClique_45 rfl ?_
              refine aw_aload_n (pc := 47) dX9_isClique_47 rfl ?_
              refine aw_getV (pc := 48) (v := (mN m : Int)) dX9_isClique_48 k_fl_X9_66 rfl (by omega) (by first | rfl | exact z_shr _ (by omega) | exact z_shc0 (by omega) | exact z_shc1 (by omega) | exact z_shc2 (by omega) | exact z_shc3 (by omega) | exact z_shc4 (by omega)) (e0) ?_
              refine aw_icmp_ge (pc := 51) (tgt := 97) dX9_isClique_51 rfl (by first | omega | exact z_bl_r _) (by first | omega | exact z_bl_r _) (fun h51 => ?_) (fun h51 => absurd h51 (by omega))
              rw [show x = mN m by omega]
              refine aw_iload_n (pc := 97) dX9_isClique_97 rfl ?_
              refine aw_if_eq (pc := 98) (tgt := 106) dX9_isClique_98 rfl (by omega) (fun h98 => ?_) (fun h98 => ?_)
              · refine aw_iload_n (pc := 106) dX9_isClique_106 rfl ?_
                refine aw_if_ne (pc := 107) (tgt := 125) dX9_isClique_107 rfl (by omega) (fun h107 => ?_) (fun h107 => ?_)
                · refine aw_iinc (pc := 125) (lv' := [_, _, _, _, _, _]) dX9_isClique_125 (Nat.le_of_ble_eq_true rfl) rfl rfl ?_
                  refine aw_goto (pc := 128) (tgt := 2) dX9_isClique_128 rfl ?_
                  refine ih (a + 1) _ _ _ (by omega) (fun j hj => ?_)
                  by_cases e : j = a
                  · rw [e]
                    refine ⟨hbin, fun hB => ?_⟩
                    first | (exfalso; omega) | exact ⟨fun _ => z_bt1.mp (by omega), fun _ => z_bl_n.mp h103⟩ | exact absurd hB (z_bl_0.mp h115) | exact ⟨fun q => absurd q (z_bl_0.mp h120), fun q => absurd (z_bt1.mpr q) (by omega)⟩
                  · exact g j (by omega)
                · refine aw_aload_n (pc := 110) dX9_isClique_110 rfl ?_
                  refine aw_iload_n (pc := 111) dX9_isClique_111 rfl ?_
                  refine aw_qV (pc := 112) (d := m_X9_isBinary) (c_X9_isBinary hM1 (n := a) (by omega)) k_X9_isBinary dX9_isClique_112 k_ml_X9_130 rfl ⟨rfl, rfl⟩ (by omega) (by first | rfl | exact z_shr _ (by omega) | exact z_shc0 (by omega) | exact z_shc1 (by omega) | exact z_shc2 (by omega) | exact z_shc3 (by omega) | exact z_shc4 (by omega)) rfl ⟨Nat.le_of_ble_eq_true rfl, Nat.le_of_ble_eq_true rfl⟩ ⟨Nat.zero_le _, Nat.zero_le _⟩ rfl (Nat.le_of_ble_eq_true rfl) (z_Pk ?_)
                  rw [elo a (by omega), ehi a (by omega)]
                  refine aw_if_eq (pc := 115) (tgt := 125) dX9_isClique_115 rfl (z_bl_r _) (fun h115 => ?_) (fun h115 => ?_)
                  · refine aw_iinc (pc := 125) (lv' := [_, _, _, _, _, _]) dX9_isClique_125 (Nat.le_of_ble_eq_true rfl) rfl rfl ?_
                    refine aw_goto (pc := 128) (tgt := 2) dX9_isClique_128 rfl ?_
                    refine ih (a + 1) _ _ _ (by omega) (fun j hj => ?_)
                    by_cases e : j = a
                    · rw [e]
                      refine ⟨hbin, fun hB => ?_⟩
                      first | (exfalso; omega) | exact ⟨fun _ => z_bt1.mp (by omega), fun _ => z_bl_n.mp h103⟩ | exact absurd hB (z_bl_0.mp h115) | exact ⟨fun q => absurd q (z_bl_0.mp h120), fun q => absurd (z_bt1.mpr q) (by omega)⟩
                    · exact g j (by omega)
                  · refine aw_iload (pc := 118) dX9_isClique_118 rfl ?_
                    refine aw_if_eq (pc := 120) (tgt := 125) dX9_isClique_120 rfl (z_bl_r _) (fun h120 => ?_) (fun h120 => ?_)
                    · refine aw_iinc (pc := 125) (lv' := [_, _, _, _, _, _]) dX9_isClique_125 (Nat.le_of_ble_eq_true rfl) rfl rfl ?_
                      refine aw_goto (pc := 128) (tgt := 2) dX9_isClique_128 rfl ?_
                      refine ih (a + 1) _ _ _ (by omega) (fun j hj => ?_)
                      by_cases e : j = a
                      · rw [e]
                        refine ⟨hbin, fun hB => ?_⟩
                        first | (exfalso; omega) | exact ⟨fun _ => z_bt1.mp (by omega), fun _ => z_bl_n.mp h103⟩ | exact absurd hB (z_bl_0.mp h115) | exact ⟨fun q => absurd q (z_bl_0.mp h120), fun q => absurd (z_bt1.mpr q) (by omega)⟩
                      · exact g j (by omega)
                    · refine aw_iconst (pc := 123) dX9_isClique_123 ?_
                      refine aw_zreturn (pc := 124) dX9_isClique_124 rfl (by first | exact Or.inl rfl | exact Or.inr rfl | omega) ⟨Nat.zero_le _, Nat.zero_le _⟩ ?_
                      refine ⟨z_r0 (fun q => ?_), rfl, rfl, rfl, rfl⟩
                      have qa := q a (by omega)
                      first | exact absurd ((qa.2 (qa.1 (z_bt1.mp (by omega)))).mpr (z_bt1.mp (by omega))) (z_bl_0.mp h103) | exact absurd ((qa.2 (z_bl_n.mp h115)).mp (z_bl_n.mp h120)) (z_bt0.mp (by omega))
              · refine aw_iload (pc := 101) dX9_isClique_101 rfl ?_
                refine aw_if_eq (pc := 103) (tgt := 123) dX9_isClique_103 rfl (z_bl_r _) (fun h103 => ?_) (fun h103 => ?_)
                · refine aw_iconst (pc := 123) dX9_isClique_123 ?_
                  refine aw_zreturn (pc := 124) dX9_isClique_124 rfl (by first | exact Or.inl rfl | exact Or.inr rfl | omega) ⟨Nat.zero_le _, Nat.zero_le _⟩ ?_
                  refine ⟨z_r0 (fun q => ?_), rfl, rfl, rfl, rfl⟩
                  have qa := q a (by omega)
                  first | exact absurd ((qa.2 (qa.1 (z_bt1.mp (by omega)))).mpr (z_bt1.mp (by omega))) (z_bl_0.mp h103) | exact absurd ((qa.2 (z_bl_n.mp h115)).mp (z_bl_n.mp h120)) (z_bt0.mp (by omega))
                · refine aw_iload_n (pc := 106) dX9_isClique_106 rfl ?_
                  refine aw_if_ne (pc := 107) (tgt := 125) dX9_isClique_107 rfl (by omega) (fun h107 => ?_) (fun h107 => ?_)
                  · refine aw_iinc (pc := 125) (lv' := [_, _, _, _, _, _]) dX9_isClique_125 (Nat.le_of_ble_eq_true rfl) rfl rfl ?_
                    refine aw_goto (pc := 128) (tgt := 2) dX9_isClique_128 rfl ?_
                    refine ih (a + 1) _ _ _ (by omega) (fun j hj => ?_)
                    by_cases e : j = a
                    · rw [e]
                      refine ⟨hbin, fun hB => ?_⟩
                      first | (exfalso; omega) | exact ⟨fun _ => z_bt1.mp (by omega), fun _ => z_bl_n.mp h103⟩ | exact absurd hB (z_bl_0.mp h115) | exact ⟨fun q => absurd q (z_bl_0.mp h120), fun q => absurd (z_bt1.mpr q) (by omega)⟩
                    · exact g j (by omega)
                  · refine aw_aload_n (pc := 110) dX9_isClique_110 rfl ?_
                    refine aw_iload_n (pc := 111) dX9_isClique_111 rfl ?_
                    refine aw_qV (pc := 112) (d := m_X9_isBinary) (c_X9_isBinary hM1 (n := a) (by omega)) k_X9_isBinary dX9_isClique_112 k_ml_X9_130 rfl ⟨rfl, rfl⟩ (by omega) (by first | rfl | exact z_shr _ (by omega) | exact z_shc0 (by omega) | exact z_shc1 (by omega) | exact z_shc2 (by omega) | exact z_shc3 (by omega) | exact z_shc4 (by omega)) rfl ⟨Nat.le_of_ble_eq_true rfl, Nat.le_of_ble_eq_true rfl⟩ ⟨Nat.zero_le _, Nat.zero_le _⟩ rfl (Nat.le_of_ble_eq_true rfl) (z_Pk ?_)
                    rw [elo a (by omega), ehi a (by omega)]
                    refine aw_if_eq (pc := 115) (tgt := 125) dX9_isClique_115 rfl (z_bl_r _) (fun h115 => ?_) (fun h115 => ?_)
                    · refine aw_iinc (pc := 125) (lv' := [_, _, _, _, _, _]) dX9_isClique_125 (Nat.le_of_ble_eq_true rfl) rfl rfl ?_
                      refine aw_goto (pc := 128) (tgt := 2) dX9_isClique_128 rfl ?_
                      refine ih (a + 1) _ _ _ (by omega) (fun j hj => ?_)
                      by_cases e : j = a
                      · rw [e]
                        refine ⟨hbin, fun hB => ?_⟩
                        first | (exfalso; omega) | exact ⟨fun _ => z_bt1.mp (by omega), fun _ => z_bl_n.mp h103⟩ | exact absurd hB (z_bl_0.mp h115) | exact ⟨fun q => absurd q (z_bl_0.mp h120), fun q => absurd (z_bt1.mpr q) (by omega)⟩
                      · exact g j (by omega)
                    · refine aw_iload (pc := 118) dX9_isClique_118 rfl ?_
                      refine aw_if_eq (pc := 120) (tgt := 125) dX9_isClique_120 rfl (z_bl_r _) (fun h120 => ?_) (fun h120 => ?_)
                      · refine aw_iinc (pc := 125) (lv' := [_, _, _, _, _, _]) dX9_isClique_125 (Nat.le_of_ble_eq_true rfl) rfl rfl ?_
                        refine aw_goto (pc := 128) (tgt := 2) dX9_isClique_128 rfl ?_
                        refine ih (a + 1) _ _ _ (by omega) (fun j hj => ?_)
                        by_cases e : j = a
                        · rw [e]
                          refine ⟨hbin, fun hB => ?_⟩
                          first | (exfalso; omega) | exact ⟨fun _ => z_bt1.mp (by omega), fun _ => z_bl_n.mp h103⟩ | exact absurd hB (z_bl_0.mp h115) | exact ⟨fun q => absurd q (z_bl_0.mp h120), fun q => absurd (z_bt1.mpr q) (by omega)⟩
                        · exact g j (by omega)
                      · refine aw_iconst (pc := 123) dX9_isClique_123 ?_
                        refine aw_zreturn (pc := 124) dX9_isClique_124 rfl (by first | exact Or.inl rfl | exact Or.inr rfl | omega) ⟨Nat.zero_le _, Nat.zero_le _⟩ ?_
                        refine ⟨z_r0 (fun q => ?_), rfl, rfl, rfl, rfl⟩
                        have qa := q a (by omega)
                        first | exact absurd ((qa.2 (qa.1 (z_bt1.mp (by omega)))).mpr (z_bt1.mp (by omega))) (z_bl_0.mp h103) | exact absurd ((qa.2 (z_bl_n.mp h115)).mp (z_bl_n.mp h120)) (z_bt0.mp (by omega))
            | succ n2 ih2 =>
              intro x he2
              refine aw_iload (pc := 45) dX9_isClique_45 rfl ?_
              refine aw_aload_n (pc := 47) dX9_isClique_47 rfl ?_
              refine aw_getV (pc := 48) (v := (mN m : Int)) dX9_isClique_48 k_fl_X9_66 rfl (by omega) (by first | rfl | exact z_shr _ (by omega) | exact z_shc0 (by omega) | exact z_shc1 (by omega) | exact z_shc2 (by omega) | exact z_shc3 (by omega) | exact z_shc4 (by omega)) (e0) ?_
              refine aw_icmp_ge (pc := 51) (tgt := 97) dX9_isClique_51 rfl (by first | omega | exact z_bl_r _) (by first | omega | exact z_bl_r _) (fun h51 => absurd h51 (by omega)) (fun h51 => ?_)
              refine aw_iload (pc := 54) dX9_isClique_54 rfl ?_
              refine aw_if_eq (pc := 56) (tgt := 88) dX9_isClique_56 rfl (z_bl_r _) (fun h56 => ?_) (fun h56 => ?_)
              · refine aw_iconst (pc := 88) dX9_isClique_88 ?_
                refine aw_istore (pc := 89) (lv' := [_, _, _, _, _, _]) dX9_isClique_89 (Nat.le_of_ble_eq_true rfl) rfl ?_
                refine aw_iinc (pc := 91) (lv' := [_, _, _, _, _, _]) dX9_isClique_91 (Nat.le_of_ble_eq_true rfl) rfl rfl ?_
                refine aw_goto (pc := 94) (tgt := 45) dX9_isClique_94 rfl ?_
                have ex : z_bl (z_qx m s a (x + 1)) = 0 := z_bl_f (fun q => z_bl_0.mp h56 (fun d hd => q d (by omega)))
                have K := ih2 (x + 1) (by omega)
                rw [ex] at K
                exact K
              · refine aw_iload (pc := 59) dX9_isClique_59 rfl ?_
                refine aw_iload_n (pc := 61) dX9_isClique_61 rfl ?_
                refine aw_icmp_eq (pc := 62) (tgt := 84) dX9_isClique_62 rfl (by first | omega | exact z_bl_r _) (by first | omega | exact z_bl_r _) (fun h62 => ?_) (fun h62 => ?_)
                · refine aw_iconst (pc := 84) dX9_isClique_84 ?_
                  refine aw_goto (pc := 85) (tgt := 89) dX9_isClique_85 rfl ?_
                  refine aw_istore (pc := 89) (lv' := [_, _, _, _, _, _]) dX9_isClique_89 (Nat.le_of_ble_eq_true rfl) rfl ?_
                  refine aw_iinc (pc := 91) (lv' := [_, _, _, _, _, _]) dX9_isClique_91 (Nat.le_of_ble_eq_true rfl) rfl rfl ?_
                  refine aw_goto (pc := 94) (tgt := 45) dX9_isClique_94 rfl ?_
                  have ex : z_bl (z_qx m s a (x + 1)) = 1 := z_bl_t (fun d hd h1 h2 => by by_cases e : d = x; (exact absurd (e.trans (by omega)) h1); exact z_bl_n.mp h56 d (by omega) h1 h2)
                  have K := ih2 (x + 1) (by omega)
                  rw [ex] at K
                  exact K
                · have hbx := z_bt_b s x
                  refine aw_iload_n (pc := 65) dX9_isClique_65 rfl ?_
                  refine aw_iload (pc := 66) dX9_isClique_66 rfl ?_
                  refine aw_shr (pc := 68) dX9_isClique_68 (a := s) (w := x) rfl rfl (by omega) (by omega) ?_
                  refine aw_iconst (pc := 69) dX9_isClique_69 ?_
                  refine aw_iand (pc := 70) dX9_isClique_70 rfl (b := 1) rfl ?_
                  rw [z_btn]
                  refine aw_if_eq (pc := 71) (tgt := 84) dX9_isClique_71 rfl (by omega) (fun h71 => ?_) (fun h71 => ?_)
                  · refine aw_iconst (pc := 84) dX9_isClique_84 ?_
                    refine aw_goto (pc := 85) (tgt := 89) dX9_isClique_85 rfl ?_
                    refine aw_istore (pc := 89) (lv' := [_, _, _, _, _, _]) dX9_isClique_89 (Nat.le_of_ble_eq_true rfl) rfl ?_
                    refine aw_iinc (pc := 91) (lv' := [_, _, _, _, _, _]) dX9_isClique_91 (Nat.le_of_ble_eq_true rfl) rfl rfl ?_
                    refine aw_goto (pc := 94) (tgt := 45) dX9_isClique_94 rfl ?_
                    have ex : z_bl (z_qx m s a (x + 1)) = 1 := z_bl_t (fun d hd h1 h2 => by by_cases e : d = x; (rw [e] at h2; exact absurd h2 (z_bt0.mp (by omega))); exact z_bl_n.mp h56 d (by omega) h1 h2)
                    have K := ih2 (x + 1) (by omega)
                    rw [ex] at K
                    exact K
                  · refine aw_aload_n (pc := 74) dX9_isClique_74 rfl ?_
                    refine aw_iload_n (pc := 75) dX9_isClique_75 rfl ?_
                    refine aw_iload (pc := 76) dX9_isClique_76 rfl ?_
                    refine aw_qV (pc := 78) (d := m_X9_clash) (c_X9_clash hI (by omega) (by omega)) k_X9_clash dX9_isClique_78 k_ml_X9_156 rfl ⟨rfl, rfl⟩ (by omega) (by first | rfl | exact z_shr _ (by omega) | exact z_shc0 (by omega) | exact z_shc1 (by omega) | exact z_shc2 (by omega) | exact z_shc3 (by omega) | exact z_shc4 (by omega)) rfl ⟨Nat.le_of_ble_eq_true rfl, Nat.le_of_ble_eq_true rfl⟩ ⟨Nat.zero_le _, Nat.zero_le _⟩ rfl (Nat.le_of_ble_eq_true rfl) (z_Pk ?_)
                    refine aw_if_eq (pc := 81) (tgt := 88) dX9_isClique_81 rfl (z_bl_r _) (fun h81 => ?_) (fun h81 => ?_)
                    · refine aw_iconst (pc := 88) dX9_isClique_88 ?_
                      refine aw_istore (pc := 89) (lv' := [_, _, _, _, _, _]) dX9_isClique_89 (Nat.le_of_ble_eq_true rfl) rfl ?_
                      refine aw_iinc (pc := 91) (lv' := [_, _, _, _, _, _]) dX9_isClique_91 (Nat.le_of_ble_eq_true rfl) rfl rfl ?_
                      refine aw_goto (pc := 94) (tgt := 45) dX9_isClique_94 rfl ?_
                      have ex : z_bl (z_qx m s a (x + 1)) = 0 := z_bl_f (fun q => z_bl_0.mp h81 (q x (by omega) (by omega) (z_bt1.mp (by omega))))
                      have K := ih2 (x + 1) (by omega)
                      rw [ex] at K
                      exact K
                    · refine aw_iconst (pc := 84) dX9_isClique_84 ?_
                      refine aw_goto (pc := 85) (tgt := 89) dX9_isClique_85 rfl ?_
                      refine aw_istore (pc := 89) (lv' := [_, _, _, _, _, _]) dX9_isClique_89 (Nat.le_of_ble_eq_true rfl) rfl ?_
                      refine aw_iinc (pc := 91) (lv' := [_, _, _, _, _, _]) dX9_isClique_91 (Nat.le_of_ble_eq_true rfl) rfl rfl ?_
                      refine aw_goto (pc := 94) (tgt := 45) dX9_isClique_94 rfl ?_
                      have ex : z_bl (z_qx m s a (x + 1)) = 1 := z_bl_t (fun d hd h1 h2 => by by_cases e : d = x; (rw [e]; exact z_bl_n.mp h81); exact z_bl_n.mp h56 d (by omega) h1 h2)
                      have K := ih2 (x + 1) (by omega)
                      rw [ex] at K
                      exact K
          have K := il (mN m) 0 (by omega)
          rw [show z_bt s a = 0 by omega, show z_bl (z_qx m s a 0) = 1 from z_bl_t (fun d hd => absurd hd (by omega))] at K
          exact K
        · refine aw_aload_n (pc := 29) dX9_isClique_29 rfl ?_
          refine aw_iload_n (pc := 30) dX9_isClique_30 rfl ?_
          refine aw_qV (pc := 31) (d := m_X9_isBinary) (c_X9_isBinary hM1 (n := a) (by omega)) k_X9_isBinary dX9_isClique_31 k_ml_X9_130 rfl ⟨rfl, rfl⟩ (by omega) (by first | rfl | exact z_shr _ (by omega) | exact z_shc0 (by omega) | exact z_shc1 (by omega) | exact z_shc2 (by omega) | exact z_shc3 (by omega) | exact z_shc4 (by omega)) rfl ⟨Nat.le_of_ble_eq_true rfl, Nat.le_of_ble_eq_true rfl⟩ ⟨Nat.zero_le _, Nat.zero_le _⟩ rfl (Nat.le_of_ble_eq_true rfl) (z_Pk ?_)
          rw [elo a (by omega), ehi a (by omega)]
          refine aw_if_ne (pc := 34) (tgt := 39) dX9_isClique_34 rfl (z_bl_r _) (fun h34 => ?_) (fun h34 => ?_)
          · refine aw_iconst (pc := 39) dX9_isClique_39 ?_
            refine aw_istore (pc := 40) (lv' := [_, _, _, _, _, _]) dX9_isClique_40 (Nat.le_of_ble_eq_true rfl) rfl ?_
            refine aw_iconst (pc := 42) dX9_isClique_42 ?_
            refine aw_istore (pc := 43) (lv' := [_, _, _, _, _, _]) dX9_isClique_43 (Nat.le_of_ble_eq_true rfl) rfl ?_
            exfalso; omega
          · refine aw_iconst (pc := 37) dX9_isClique_37 ?_
            exact aw_zreturn (pc := 38) dX9_isClique_38 rfl (by first | exact Or.inl rfl | exact Or.inr rfl | omega) ⟨Nat.zero_le _, Nat.zero_le _⟩ (⟨z_r0 (fun q => absurd ((q a (by omega)).1 (z_bt1.mp (by omega))) (z_bl_0.mp h34)), rfl, rfl, rfl, rfl⟩)
      · refine aw_iconst (pc := 19) dX9_isClique_19 ?_
        refine aw_goto (pc := 20) (tgt := 24) dX9_isClique_20 rfl ?_
        refine aw_istore_n (pc := 24) (lv' := [_, _, _, _, _, _]) dX9_isClique_24 (Nat.le_of_ble_eq_true rfl) rfl ?_
        refine aw_iload_n (pc := 25) dX9_isClique_25 rfl ?_
        refine aw_if_eq (pc := 26) (tgt := 39) dX9_isClique_26 rfl (by first | omega | exact z_bl_r _) (fun h26 => ?_) (fun h26 => ?_)
        · refine aw_iconst (pc := 39) dX9_isClique_39 ?_
          refine aw_istore (pc := 40) (lv' := [_, _, _, _, _, _]) dX9_isClique_40 (Nat.le_of_ble_eq_true rfl) rfl ?_
          refine aw_iconst (pc := 42) dX9_isClique_42 ?_
          refine aw_istore (pc := 43) (lv' := [_, _, _, _, _, _]) dX9_isClique_43 (Nat.le_of_ble_eq_true rfl) rfl ?_
          exfalso; omega
        · refine aw_aload_n (pc := 29) dX9_isClique_29 rfl ?_
          refine aw_iload_n (pc := 30) dX9_isClique_30 rfl ?_
          refine aw_qV (pc := 31) (d := m_X9_isBinary) (c_X9_isBinary hM1 (n := a) (by omega)) k_X9_isBinary dX9_isClique_31 k_ml_X9_130 rfl ⟨rfl, rfl⟩ (by omega) (by first | rfl | exact z_shr _ (by omega) | exact z_shc0 (by omega) | exact z_shc1 (by omega) | exact z_shc2 (by omega) | exact z_shc3 (by omega) | exact z_shc4 (by omega)) rfl ⟨Nat.le_of_ble_eq_true rfl, Nat.le_of_ble_eq_true rfl⟩ ⟨Nat.zero_le _, Nat.zero_le _⟩ rfl (Nat.le_of_ble_eq_true rfl) (z_Pk ?_)
          rw [elo a (by omega), ehi a (by omega)]
          refine aw_if_ne (pc := 34) (tgt := 39) dX9_isClique_34 rfl (z_bl_r _) (fun h34 => ?_) (fun h34 => ?_)
          · refine aw_iconst (pc := 39) dX9_isClique_39 ?_
            refine aw_istore (pc := 40) (lv' := [_, _, _, _, _, _]) dX9_isClique_40 (Nat.le_of_ble_eq_true rfl) rfl ?_
            refine aw_iconst (pc := 42) dX9_isClique_42 ?_
            refine aw_istore (pc := 43) (lv' := [_, _, _, _, _, _]) dX9_isClique_43 (Nat.le_of_ble_eq_true rfl) rfl ?_
            have hbin : s.testBit a = true → z_bin m a := fun _ => z_bl_n.mp h34
            have il : ∀ (n2 : Nat) (x : Nat), x + n2 = mN m → AW (FM m_X9_isClique (z_P (some (zi (z_bl (∀ a, a < mN m → z_qa m s a)))) 255 I J (z_R π))) 0 0 255 45 [some (zr 237), some (zi (s : Int)), some (zi (a : Int)), some (zi (z_bt s a)), some (zi (z_bl (z_qx m s a x))), some (zi (x : Int))] [] I J (z_R π) := by
              intro n2
              induction n2 with
              | zero =>
                intro x he2
                refine aw_iload (pc := 45) dX9_isClique_45 rfl ?_
                refine aw_aload_n (pc := 47) dX9_isClique_47 rfl ?_
                refine aw_getV (pc := 48) (v := (mN m : Int)) dX9_isClique_48 k_fl_X9_66 rfl (by omega) (by first | rfl | exact z_shr _ (by omega) | exact z_shc0 (by omega) | exact z_shc1 (by omega) | exact z_shc2 (by omega) | exact z_shc3 (by omega) | exact z_shc4 (by omega)) (e0) ?_
                refine aw_icmp_ge (pc := 51) (tgt := 97) dX9_isClique_51 rfl (by first | omega | exact z_bl_r _) (by first | omega | exact z_bl_r _) (fun h51 => ?_) (fun h51 => absurd h51 (by omega))
                rw [show x = mN m by omega]
                refine aw_iload_n (pc := 97) dX9_isClique_97 rfl ?_
                refine aw_if_eq (pc := 98) (tgt := 106) dX9_isClique_98 rfl (by omega) (fun h98 => ?_) (fun h98 => ?_)
                · refine aw_iload_n (pc := 106) dX9_isClique_106 rfl ?_
                  refine aw_if_ne (pc := 107) (tgt := 125) dX9_isClique_107 rfl (by omega) (fun h107 => ?_) (fun h107 => ?_)
                  · refine aw_iinc (pc := 125) (lv' := [_, _, _, _, _, _]) dX9_isClique_125 (Nat.le_of_ble_eq_true rfl) rfl rfl ?_
                    refine aw_goto (pc := 128) (tgt := 2) dX9_isClique_128 rfl ?_
                    refine ih (a + 1) _ _ _ (by omega) (fun j hj => ?_)
                    by_cases e : j = a
                    · rw [e]
                      refine ⟨hbin, fun hB => ?_⟩
                      first | (exfalso; omega) | exact ⟨fun _ => z_bt1.mp (by omega), fun _ => z_bl_n.mp h103⟩ | exact absurd hB (z_bl_0.mp h115) | exact ⟨fun q => absurd q (z_bl_0.mp h120), fun q => absurd (z_bt1.mpr q) (by omega)⟩
                    · exact g j (by omega)
                  · refine aw_aload_n (pc := 110) dX9_isClique_110 rfl ?_
                    refine aw_iload_n (pc := 111) dX9_isClique_111 rfl ?_
                    refine aw_qV (pc := 112) (d := m_X9_isBinary) (c_X9_isBinary hM1 (n := a) (by omega)) k_X9_isBinary dX9_isClique_112 k_ml_X9_130 rfl ⟨rfl, rfl⟩ (by omega) (by first | rfl | exact z_shr _ (by omega) | exact z_shc0 (by omega) | exact z_shc1 (by omega) | exact z_shc2 (by omega) | exact z_shc3 (by omega) | exact z_shc4 (by omega)) rfl ⟨Nat.le_of_ble_eq_true rfl, Nat.le_of_ble_eq_true rfl⟩ ⟨Nat.zero_le _, Nat.zero_le _⟩ rfl (Nat.le_of_ble_eq_true rfl) (z_Pk ?_)
                    rw [elo a (by omega), ehi a (by omega)]
                    refine aw_if_eq (pc := 115) (tgt := 125) dX9_isClique_115 rfl (z_bl_r _) (fun h115 => ?_) (fun h115 => ?_)
                    · refine aw_iinc (pc := 125) (lv' := [_, _, _, _, _, _]) dX9_isClique_125 (Nat.le_of_ble_eq_true rfl) rfl rfl ?_
                      refine aw_goto (pc := 128) (tgt := 2) dX9_isClique_128 rfl ?_
                      refine ih (a + 1) _ _ _ (by omega) (fun j hj => ?_)
                      by_cases e : j = a
                      · rw [e]
                        refine ⟨hbin, fun hB => ?_⟩
                        first | (exfalso; omega) | exact ⟨fun _ => z_bt1.mp (by omega), fun _ => z_bl_n.mp h103⟩ | exact absurd hB (z_bl_0.mp h115) | exact ⟨fun q => absurd q (z_bl_0.mp h120), fun q => absurd (z_bt1.mpr q) (by omega)⟩
                      · exact g j (by omega)
                    · refine aw_iload (pc := 118) dX9_isClique_118 rfl ?_
                      refine aw_if_eq (pc := 120) (tgt := 125) dX9_isClique_120 rfl (z_bl_r _) (fun h120 => ?_) (fun h120 => ?_)
                      · refine aw_iinc (pc := 125) (lv' := [_, _, _, _, _, _]) dX9_isClique_125 (Nat.le_of_ble_eq_true rfl) rfl rfl ?_
                        refine aw_goto (pc := 128) (tgt := 2) dX9_isClique_128 rfl ?_
                        refine ih (a + 1) _ _ _ (by omega) (fun j hj => ?_)
                        by_cases e : j = a
                        · rw [e]
                          refine ⟨hbin, fun hB => ?_⟩
                          first | (exfalso; omega) | exact ⟨fun _ => z_bt1.mp (by omega), fun _ => z_bl_n.mp h103⟩ | exact absurd hB (z_bl_0.mp h115) | exact ⟨fun q => absurd q (z_bl_0.mp h120), fun q => absurd (z_bt1.mpr q) (by omega)⟩
                        · exact g j (by omega)
                      · refine aw_iconst (pc := 123) dX9_isClique_123 ?_
                        refine aw_zreturn (pc := 124) dX9_isClique_124 rfl (by first | exact Or.inl rfl | exact Or.inr rfl | omega) ⟨Nat.zero_le _, Nat.zero_le _⟩ ?_
                        refine ⟨z_r0 (fun q => ?_), rfl, rfl, rfl, rfl⟩
                        have qa := q a (by omega)
                        first | exact absurd ((qa.2 (qa.1 (z_bt1.mp (by omega)))).mpr (z_bt1.mp (by omega))) (z_bl_0.mp h103) | exact absurd ((qa.2 (z_bl_n.mp h115)).mp (z_bl_n.mp h120)) (z_bt0.mp (by omega))
                · refine aw_iload (pc := 101) dX9_isClique_101 rfl ?_
                  refine aw_if_eq (pc := 103) (tgt := 123) dX9_isClique_103 rfl (z_bl_r _) (fun h103 => ?_) (fun h103 => ?_)
                  · refine aw_iconst (pc := 123) dX9_isClique_123 ?_
                    refine aw_zreturn (pc := 124) dX9_isClique_124 rfl (by first | exact Or.inl rfl | exact Or.inr rfl | omega) ⟨Nat.zero_le _, Nat.zero_le _⟩ ?_
                    refine ⟨z_r0 (fun q => ?_), rfl, rfl, rfl, rfl⟩
                    have qa := q a (by omega)
                    first | exact absurd ((qa.2 (qa.1 (z_bt1.mp (by omega)))).mpr (z_bt1.mp (by omega))) (z_bl_0.mp h103) | exact absurd ((qa.2 (z_bl_n.mp h115)).mp (z_bl_n.mp h120)) (z_bt0.mp (by omega))
                  · refine aw_iload_n (pc := 106) dX9_isClique_106 rfl ?_
                    refine aw_if_ne (pc := 107) (tgt := 125) dX9_isClique_107 rfl (by omega) (fun h107 => ?_) (fun h107 => ?_)
                    · refine aw_iinc (pc := 125) (lv' := [_, _, _, _, _, _]) dX9_isClique_125 (Nat.le_of_ble_eq_true rfl) rfl rfl ?_
                      refine aw_goto (pc := 128) (tgt := 2) dX9_isClique_128 rfl ?_
                      refine ih (a + 1) _ _ _ (by omega) (fun j hj => ?_)
                      by_cases e : j = a
                      · rw [e]
                        refine ⟨hbin, fun hB => ?_⟩
                        first | (exfalso; omega) | exact ⟨fun _ => z_bt1.mp (by omega), fun _ => z_bl_n.mp h103⟩ | exact absurd hB (z_bl_0.mp h115) | exact ⟨fun q => absurd q (z_bl_0.mp h120), fun q => absurd (z_bt1.mpr q) (by omega)⟩
                      · exact g j (by omega)
                    · refine aw_aload_n (pc := 110) dX9_isClique_110 rfl ?_
                      refine aw_iload_n (pc := 111) dX9_isClique_111 rfl ?_
                      refine aw_qV (pc := 112) (d := m_X9_isBinary) (c_X9_isBinary hM1 (n := a) (by omega)) k_X9_isBinary dX9_isClique_112 k_ml_X9_130 rfl ⟨rfl, rfl⟩ (by omega) (by first | rfl | exact z_shr _ (by omega) | exact z_shc0 (by omega) | exact z_shc1 (by omega) | exact z_shc2 (by omega) | exact z_shc3 (by omega) | exact z_shc4 (by omega)) rfl ⟨Nat.le_of_ble_eq_true rfl, Nat.le_of_ble_eq_true rfl⟩ ⟨Nat.zero_le _, Nat.zero_le _⟩ rfl (Nat.le_of_ble_eq_true rfl) (z_Pk ?_)
                      rw [elo a (by omega), ehi a (by omega)]
                      refine aw_if_eq (pc := 115) (tgt := 125) dX9_isClique_115 rfl (z_bl_r _) (fun h115 => ?_) (fun h115 => ?_)
                      · refine aw_iinc (pc := 125) (lv' := [_, _, _, _, _, _]) dX9_isClique_125 (Nat.le_of_ble_eq_true rfl) rfl rfl ?_
                        refine aw_goto (pc := 128) (tgt := 2) dX9_isClique_128 rfl ?_
                        refine ih (a + 1) _ _ _ (by omega) (fun j hj => ?_)
                        by_cases e : j = a
                        · rw [e]
                          refine ⟨hbin, fun hB => ?_⟩
                          first | (exfalso; omega) | exact ⟨fun _ => z_bt1.mp (by omega), fun _ => z_bl_n.mp h103⟩ | exact absurd hB (z_bl_0.mp h115) | exact ⟨fun q => absurd q (z_bl_0.mp h120), fun q => absurd (z_bt1.mpr q) (by omega)⟩
                        · exact g j (by omega)
                      · refine aw_iload (pc := 118) dX9_isClique_118 rfl ?_
                        refine aw_if_eq (pc := 120) (tgt := 125) dX9_isClique_120 rfl (z_bl_r _) (fun h120 => ?_) (fun h120 => ?_)
                        · refine aw_iinc (pc := 125) (lv' := [_, _, _, _, _, _]) dX9_isClique_125 (Nat.le_of_ble_eq_true rfl) rfl rfl ?_
                          refine aw_goto (pc := 128) (tgt := 2) dX9_isClique_128 rfl ?_
                          refine ih (a + 1) _ _ _ (by omega) (fun j hj => ?_)
                          by_cases e : j = a
                          · rw [e]
                            refine ⟨hbin, fun hB => ?_⟩
                            first | (exfalso; omega) | exact ⟨fun _ => z_bt1.mp (by omega), fun _ => z_bl_n.mp h103⟩ | exact absurd hB (z_bl_0.mp h115) | exact ⟨fun q => absurd q (z_bl_0.mp h120), fun q => absurd (z_bt1.mpr q) (by omega)⟩
                          · exact g j (by omega)
                        · refine aw_iconst (pc := 123) dX9_isClique_123 ?_
                          refine aw_zreturn (pc := 124) dX9_isClique_124 rfl (by first | exact Or.inl rfl | exact Or.inr rfl | omega) ⟨Nat.zero_le _, Nat.zero_le _⟩ ?_
                          refine ⟨z_r0 (fun q => ?_), rfl, rfl, rfl, rfl⟩
                          have qa := q a (by omega)
                          first | exact absurd ((qa.2 (qa.1 (z_bt1.mp (by omega)))).mpr (z_bt1.mp (by omega))) (z_bl_0.mp h103) | exact absurd ((qa.2 (z_bl_n.mp h115)).mp (z_bl_n.mp h120)) (z_bt0.mp (by omega))
              | succ n2 ih2 =>
                intro x he2
                refine aw_iload (pc := 45) dX9_isClique_45 rfl ?_
                refine aw_aload_n (pc := 47) dX9_isClique_47 rfl ?_
                refine aw_getV (pc := 48) (v := (mN m : Int)) dX9_isClique_48 k_fl_X9_66 rfl (by omega) (by first | rfl | exact z_shr _ (by omega) | exact z_shc0 (by omega) | exact z_shc1 (by omega) | exact z_shc2 (by omega) | exact z_shc3 (by omega) | exact z_shc4 (by omega)) (e0) ?_
                refine aw_icmp_ge (pc := 51) (tgt := 97) dX9_isClique_51 rfl (by first | omega | exact z_bl_r _) (by first | omega | exact z_bl_r _) (fun h51 => absurd h51 (by omega)) (fun h51 => ?_)
                refine aw_iload (pc := 54) dX9_isClique_54 rfl ?_
                refine aw_if_eq (pc := 56) (tgt := 88) dX9_isClique_56 rfl (z_bl_r _) (fun h56 => ?_) (fun h56 => ?_)
                · refine aw_iconst (pc := 88) dX9_isClique_88 ?_
                  refine aw_istore (pc := 89) (lv' := [_, _, _, _, _, _]) dX9_isClique_89 (Nat.le_of_ble_eq_true rfl) rfl ?_
                  refine aw_iinc (pc := 91) (lv' := [_, _, _, _, _, _]) dX9_isClique_91 (Nat.le_of_ble_eq_true rfl) rfl rfl ?_
                  refine aw_goto (pc := 94) (tgt := 45) dX9_isClique_94 rfl ?_
                  have ex : z_bl (z_qx m s a (x + 1)) = 0 := z_bl_f (fun q => z_bl_0.mp h56 (fun d hd => q d (by omega)))
                  have K := ih2 (x + 1) (by omega)
                  rw [ex] at K
                  exact K
                · refine aw_iload (pc := 59) dX9_isClique_59 rfl ?_
                  refine aw_iload_n (pc := 61) dX9_isClique_61 rfl ?_
                  refine aw_icmp_eq (pc := 62) (tgt := 84) dX9_isClique_62 rfl (by first | omega | exact z_bl_r _) (by first | omega | exact z_bl_r _) (fun h62 => ?_) (fun h62 => ?_)
                  · refine aw_iconst (pc := 84) dX9_isClique_84 ?_
                    refine aw_goto (pc := 85) (tgt := 89) dX9_isClique_85 rfl ?_
                    refine aw_istore (pc := 89) (lv' := [_, _, _, _, _, _]) dX9_isClique_89 (Nat.le_of_ble_eq_true rfl) rfl ?_
                    refine aw_iinc (pc := 91) (lv' := [_, _, _, _, _, _]) dX9_isClique_91 (Nat.le_of_ble_eq_true rfl) rfl rfl ?_
                    refine aw_goto (pc := 94) (tgt := 45) dX9_isClique_94 rfl ?_
                    have ex : z_bl (z_qx m s a (x + 1)) = 1 := z_bl_t (fun d hd h1 h2 => by by_cases e : d = x; (exact absurd (e.trans (by omega)) h1); exact z_bl_n.mp h56 d (by omega) h1 h2)
                    have K := ih2 (x + 1) (by omega)
                    rw [ex] at K
                    exact K
                  · have hbx := z_bt_b s x
                    refine aw_iload_n (pc := 65) dX9_isClique_65 rfl ?_
                    refine aw_iload (pc := 66) dX9_isClique_66 rfl ?_
                    refine aw_shr (pc := 68) dX9_isClique_68 (a := s) (w := x) rfl rfl (by omega) (by omega) ?_
                    refine aw_iconst (pc := 69) dX9_isClique_69 ?_
                    refine aw_iand (pc := 70) dX9_isClique_70 rfl (b := 1) rfl ?_
                    rw [z_btn]
                    refine aw_if_eq (pc := 71) (tgt := 84) dX9_isClique_71 rfl (by omega) (fun h71 => ?_) (fun h71 => ?_)
                    · refine aw_iconst (pc := 84) dX9_isClique_84 ?_
                      refine aw_goto (pc := 85) (tgt := 89) dX9_isClique_85 rfl ?_
                      refine aw_istore (pc := 89) (lv' := [_, _, _, _, _, _]) dX9_isClique_89 (Nat.le_of_ble_eq_true rfl) rfl ?_
                      refine aw_iinc (pc := 91) (lv' := [_, _, _, _, _, _]) dX9_isClique_91 (Nat.le_of_ble_eq_true rfl) rfl rfl ?_
                      refine aw_goto (pc := 94) (tgt := 45) dX9_isClique_94 rfl ?_
                      have ex : z_bl (z_qx m s a (x + 1)) = 1 := z_bl_t (fun d hd h1 h2 => by by_cases e : d = x; (rw [e] at h2; exact absurd h2 (z_bt0.mp (by omega))); exact z_bl_n.mp h56 d (by omega) h1 h2)
                      have K := ih2 (x + 1) (by omega)
                      rw [ex] at K
                      exact K
                    · refine aw_aload_n (pc := 74) dX9_isClique_74 rfl ?_
                      refine aw_iload_n (pc := 75) dX9_isClique_75 rfl ?_
                      refine aw_iload (pc := 76) dX9_isClique_76 rfl ?_
                      refine aw_qV (pc := 78) (d := m_X9_clash) (c_X9_clash hI (by omega) (by omega)) k_X9_clash dX9_isClique_78 k_ml_X9_156 rfl ⟨rfl, rfl⟩ (by omega) (by first | rfl | exact z_shr _ (by omega) | exact z_shc0 (by omega) | exact z_shc1 (by omega) | exact z_shc2 (by omega) | exact z_shc3 (by omega) | exact z_shc4 (by omega)) rfl ⟨Nat.le_of_ble_eq_true rfl, Nat.le_of_ble_eq_true rfl⟩ ⟨Nat.zero_le _, Nat.zero_le _⟩ rfl (Nat.le_of_ble_eq_true rfl) (z_Pk ?_)
                      refine aw_if_eq (pc := 81) (tgt := 88) dX9_isClique_81 rfl (z_bl_r _) (fun h81 => ?_) (fun h81 => ?_)
                      · refine aw_iconst (pc := 88) dX9_isClique_88 ?_
                        refine aw_istore (pc := 89) (lv' := [_, _, _, _, _, _]) dX9_isClique_89 (Nat.le_of_ble_eq_true rfl) rfl ?_
                        refine aw_iinc (pc := 91) (lv' := [_, _, _, _, _, _]) dX9_isClique_91 (Nat.le_of_ble_eq_true rfl) rfl rfl ?_
                        refine aw_goto (pc := 94) (tgt := 45) dX9_isClique_94 rfl ?_
                        have ex : z_bl (z_qx m s a (x + 1)) = 0 := z_bl_f (fun q => z_bl_0.mp h81 (q x (by omega) (by omega) (z_bt1.mp (by omega))))
                        have K := ih2 (x + 1) (by omega)
                        rw [ex] at K
                        exact K
                      · refine aw_iconst (pc := 84) dX9_isClique_84 ?_
                        refine aw_goto (pc := 85) (tgt := 89) dX9_isClique_85 rfl ?_
                        refine aw_istore (pc := 89) (lv' := [_, _, _, _, _, _]) dX9_isClique_89 (Nat.le_of_ble_eq_true rfl) rfl ?_
                        refine aw_iinc (pc := 91) (lv' := [_, _, _, _, _, _]) dX9_isClique_91 (Nat.le_of_ble_eq_true rfl) rfl rfl ?_
                        refine aw_goto (pc := 94) (tgt := 45) dX9_isClique_94 rfl ?_
                        have ex : z_bl (z_qx m s a (x + 1)) = 1 := z_bl_t (fun d hd h1 h2 => by by_cases e : d = x; (rw [e]; exact z_bl_n.mp h81); exact z_bl_n.mp h56 d (by omega) h1 h2)
                        have K := ih2 (x + 1) (by omega)
                        rw [ex] at K
                        exact K
            have K := il (mN m) 0 (by omega)
            rw [show z_bt s a = 1 by omega, show z_bl (z_qx m s a 0) = 1 from z_bl_t (fun d hd => absurd hd (by omega))] at K
            exact K
          · refine aw_iconst (pc := 37) dX9_isClique_37 ?_
            exact aw_zreturn (pc := 38) dX9_isClique_38 rfl (by first | exact Or.inl rfl | exact Or.inr rfl | omega) ⟨Nat.zero_le _, Nat.zero_le _⟩ (⟨z_r0 (fun q => absurd ((q a (by omega)).1 (z_bt1.mp (by omega))) (z_bl_0.mp h34)), rfl, rfl, rfl, rfl⟩)
  refine aw_iconst (pc := 0) dX9_isClique_0 ?_
  refine aw_istore_n (pc := 1) (lv' := [_, _, _, _, _, _]) dX9_isClique_1 (Nat.le_of_ble_eq_true rfl) rfl ?_
  exact loop (mN m) 0 _ _ _ (by omega) (fun j hj => absurd hj (by omega))
