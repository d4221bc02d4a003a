theorem z_two : ∀ s, s < 256 → ((s &&& (s - 1)) ≠ 0 ↔ 2 ≤ z_cnt s 10) := by decide +kernel
theorem z_fo_q2 {m : z_MM} {L : List z_CC} : ∀ n, n ≤ 2 → z_fo m (L, 1) (z_cdQ m) n = (L, 1) := by
  have h : ∀ s, s < 2 → z_cdQ m s = z_C0 := fun s hs => by
    unfold z_cdQ
    rw [z_if_f]
    intro q
    have := q.1
    rcases (show s = 0 ∨ s = 1 by omega) with rfl | rfl
    · exact absurd this (by decide)
    · exact absurd this (by decide)
  intro n hn
  rcases (show n = 0 ∨ n = 1 ∨ n = 2 by omega) with rfl | rfl | rfl
  · rfl
  · show z_of m (L, 1) (z_cdQ m 0) = _
    rw [h 0 (by omega), z_of_C0]
  · show z_of m (z_of m (L, 1) (z_cdQ m 0)) (z_cdQ m 1) = _
    rw [h 0 (by omega), h 1 (by omega), z_of_C0, z_of_C0]
theorem z_RI.setT {I J : AwI} {m : z_MM} {L : List z_CC} {t v : Int} (h : z_RI I J m L t) : z_RI (z_up I 237 13 v) J m L v := by
  obtain ⟨k1, k2, k3, k4, k5, k6⟩ := h
  have hz : ∀ a k, (a ≠ 237 ∨ k ≠ 13) → z_up I 237 13 v a k = I a k := fun a k q => by show (if a = 237 ∧ k = 13 then _ else _) = _; rw [if_neg (by omega)]
  exact ⟨k1.congr (fun a k q => hz a k (by omega)) (fun _ => rfl), (z_rfM.congr (fun a k q => hz a k (by omega)) (fun _ => rfl)).trans k2, k3, ⟨k4.f, k4.r, fun j => by rw [hz _ _ (by omega)]; exact k4.k j, fun j => by rw [hz _ _ (by omega)]; exact k4.a j, fun j => by rw [hz _ _ (by omega)]; exact k4.s j, by rw [hz _ _ (by omega)]; exact k4.n⟩, ⟨by rw [hz _ _ (by omega)]; exact k5.1, fun k D hD => (k5.2 k D hD).congr (fun a j q => hz a j (by omega)) (fun _ _ _ => rfl)⟩, z_up_s _ _ _ _⟩
set_option maxHeartbeats 4000000 in
theorem c_X9_cliques {π : Nat → Nat} {I J : AwI} {m : z_MM} {L : List z_CC} (hI : z_RI I J m L 1) (h140 : I 237 14 = 0) : CT m_X9_cliques [zr 237] 255 I J (z_R π) (fun q9 sz' I' J' R' => q9 = none ∧ sz' = 255 ∧ R' = z_R π ∧ z_SQ I J m L (z_fo m (L, 1) (z_cdQ m) (2 ^ mN m - 1)) I' J') := by
  refine CT.of (by decide) (Nat.le_of_ble_eq_true rfl) ?_
  show AW _ 0 0 _ 0 [some (zr 237), none, none] [] _ _ _
  have loop : ∀ (n : Nat) (set : Nat) (I1 J1 : AwI) (v : Option AwV), (set + n = 2 ^ mN m ∨ (set = 3 ∧ n = 0 ∧ 2 ^ mN m < 3)) → 3 ≤ set → z_RI I1 J1 m (z_fo m (L, 1) (z_cdQ m) (set - 1)).1 (z_fo m (L, 1) (z_cdQ m) (set - 1)).2 → z_FQ I J I1 J1 → I1 237 14 = ((z_fo m (L, 1) (z_cdQ m) (set - 1)).1.length : Int) - (L.length : Int) → AW (FM m_X9_cliques (fun q9 sz' I' J' R' => q9 = none ∧ sz' = 255 ∧ R' = z_R π ∧ z_SQ I J m L (z_fo m (L, 1) (z_cdQ m) (2 ^ mN m - 1)) I' J')) 0 0 255 2 [some (zr 237), some (zi (set : Int)), v] [] I1 J1 (z_R π) := by
    intro n
    induction n with
    | zero =>
      intro set I1 J1 v he hs1 h1 hf h14
      obtain ⟨hM1, hm1, e0, e4, elo, ehi, ept, eF, ert, hmb, hptb, hF0⟩ := h1.rds
      have hN8 := hmb.1
      have hR10 := hmb.2.1
      have hp8 : 2 ^ mN m ≤ 2 ^ 8 := Nat.pow_le_pow_right (by omega) hN8
      have hpp := Nat.one_le_two_pow (n := mN m)
      refine aw_iload_n (pc := 2) dX9_cliques_2 rfl ?_
      refine aw_iconst (pc := 3) dX9_cliques_3 ?_
      refine aw_aload_n (pc := 4) dX9_cliques_4 rfl ?_
      refine aw_getV (pc := 5) (v := (mN m : Int)) dX9_cliques_5 k_fl_X9_66 rfl (by omega) (by first | rfl | exact z_shr _ (by omega) | exact z_shc0 (by omega) | exact z_shc1 (by omega) | exact z_shc2 (by omega) | exact z_shc3 (by omega) | exact z_shc4 (by omega)) (e0) ?_
      refine aw_shl1 (pc := 8) dX9_cliques_8 (w := mN m) rfl (by omega) ?_
      refine aw_icmp_ge (pc := 9) (tgt := 76) dX9_cliques_9 rfl (by omega) (by omega) (fun h9 => ?_) (fun h9 => absurd h9 (by omega))
      refine aw_return (pc := 76) dX9_cliques_76 rfl ⟨Nat.zero_le _, Nat.zero_le _⟩ ?_
      have eE : (z_fo m (L, 1) (z_cdQ m) (2 ^ mN m - 1)) = (z_fo m (L, 1) (z_cdQ m) (set - 1)) := by
        rcases (show 2 ^ mN m = set ∨ (set = 3 ∧ 2 ^ mN m < 3) by omega) with q | ⟨q1, q2⟩
        · rw [q]
        · rw [z_fo_q2 _ (by omega), z_fo_q2 _ (by omega)]
      exact ⟨rfl, rfl, rfl, by rw [eE]; exact ⟨h1, hf, h14⟩⟩
    | succ n ih =>
      intro set I1 J1 v he hs1 h1 hf h14
      obtain ⟨hM1, hm1, e0, e4, elo, ehi, ept, eF, ert, hmb, hptb, hF0⟩ := h1.rds
      have hN8 := hmb.1
      have hR10 := hmb.2.1
      have hp8 : 2 ^ mN m ≤ 2 ^ 8 := Nat.pow_le_pow_right (by omega) hN8
      have hpp := Nat.one_le_two_pow (n := mN m)
      refine aw_iload_n (pc := 2) dX9_cliques_2 rfl ?_
      refine aw_iconst (pc := 3) dX9_cliques_3 ?_
      refine aw_aload_n (pc := 4) dX9_cliques_4 rfl ?_
      refine aw_getV (pc := 5) (v := (mN m : Int)) dX9_cliques_5 k_fl_X9_66 rfl (by omega) (by first | rfl | exact z_shr _ (by omega) | exact z_shc0 (by omega) | exact z_shc1 (by omega) | exact z_shc2 (by omega) | exact z_shc3 (by omega) | exact z_shc4 (by omega)) (e0) ?_
      refine aw_shl1 (pc := 8) dX9_cliques_8 (w := mN m) rfl (by omega) ?_
      refine aw_icmp_ge (pc := 9) (tgt := 76) dX9_cliques_9 rfl (by omega) (by omega) (fun h9 => absurd h9 (by omega)) (fun h9 => ?_)
      refine aw_iload_n (pc := 12) dX9_cliques_12 rfl ?_
      refine aw_iload_n (pc := 13) dX9_cliques_13 rfl ?_
      refine aw_iconst (pc := 14) dX9_cliques_14 ?_
      refine aw_isub (pc := 15) dX9_cliques_15 ?_
      refine aw_iand (pc := 16) dX9_cliques_16 (a := set) (b := set - 1) rfl (by omega) ?_
      refine aw_if_eq (pc := 17) (tgt := 70) dX9_cliques_17 rfl (by have := Nat.and_le_left (n := set) (m := set - 1); omega) (fun h17 => ?_) (fun h17 => ?_)
      · refine aw_iinc (pc := 70) (lv' := [_, _, _]) dX9_cliques_70 (Nat.le_of_ble_eq_true rfl) rfl rfl ?_
        refine aw_goto (pc := 73) (tgt := 2) dX9_cliques_73 rfl ?_
        have eS := z_fo_s (m := m) (s := (L, 1)) (cand := z_cdQ m) (k := set - 1) (j := set) (by omega)
        rw [show z_cdQ m (set - 1) = z_C0 by unfold z_cdQ; rw [show set - 1 + 1 = set by omega, z_if_f (fun q => absurd ((z_two set (by omega)).mpr q.1) (by omega))], z_of_C0] at eS
        have eS2 : (z_fo m (L, 1) (z_cdQ m) (set - 1)) = (z_fo m (L, 1) (z_cdQ m) (set)) := eS
        exact ih (set + 1) I1 J1 _ (by omega) (by omega) (by rw [show set + 1 - 1 = set by omega, ← eS2]; exact h1) hf (by rw [show set + 1 - 1 = set by omega, ← eS2]; exact h14)
      · refine aw_aload_n (pc := 20) dX9_cliques_20 rfl ?_
        refine aw_iload_n (pc := 21) dX9_cliques_21 rfl ?_
        refine aw_qV (pc := 22) (d := m_X9_isClique) (c_X9_isClique h1 (by omega)) k_X9_isClique dX9_cliques_22 k_ml_X9_160 rfl ⟨rfl, rfl⟩ (by omega) (by first | rfl | exact z_shr _ (by omega) | exact z_shc0 (by omega) | exact z_shc1 (by omega) | exact z_shc2 (by omega) | exact z_shc3 (by omega) | exact z_shc4 (by omega)) rfl ⟨Nat.le_of_ble_eq_true rfl, Nat.le_of_ble_eq_true rfl⟩ ⟨Nat.zero_le _, Nat.zero_le _⟩ rfl (Nat.le_of_ble_eq_true rfl) (z_Pk ?_)
        refine aw_if_eq (pc := 25) (tgt := 70) dX9_cliques_25 rfl (z_bl_r _) (fun h25 => ?_) (fun h25 => ?_)
        · refine aw_iinc (pc := 70) (lv' := [_, _, _]) dX9_cliques_70 (Nat.le_of_ble_eq_true rfl) rfl rfl ?_
          refine aw_goto (pc := 73) (tgt := 2) dX9_cliques_73 rfl ?_
          have eS := z_fo_s (m := m) (s := (L, 1)) (cand := z_cdQ m) (k := set - 1) (j := set) (by omega)
          rw [show z_cdQ m (set - 1) = z_C0 by unfold z_cdQ; rw [show set - 1 + 1 = set by omega, z_if_f (fun q => z_bl_0.mp h25 ((z_qa_wiq q.1 (by omega)).mpr q))], z_of_C0] at eS
          have eS2 : (z_fo m (L, 1) (z_cdQ m) (set - 1)) = (z_fo m (L, 1) (z_cdQ m) (set)) := eS
          exact ih (set + 1) I1 J1 _ (by omega) (by omega) (by rw [show set + 1 - 1 = set by omega, ← eS2]; exact h1) hf (by rw [show set + 1 - 1 = set by omega, ← eS2]; exact h14)
        · have hcn := (z_two set (by omega)).mp (by omega)
          have hW := (z_qa_wiq hcn (by omega)).mp (z_bl_n.mp h25)
          have il : ∀ (n2 : Nat) (x : Nat), x + n2 = mN m → AW (FM m_X9_cliques (fun q9 sz' I' J' R' => q9 = none ∧ sz' = 255 ∧ R' = z_R π ∧ z_SQ I J m L (z_fo m (L, 1) (z_cdQ m) (2 ^ mN m - 1)) I' J')) 0 0 255 34 [some (zr 237), some (zi (set : Int)), some (zi (x : Int))] [] (z_dI I1 (z_pf (fun _ => 0) (I1 249) 27)) (z_dJ J1 (z_pf (z_bt set) (z_pf (fun _ => 0) (J1 248) 8) x) 0) (z_R π) := by
            intro n2
            induction n2 with
            | zero =>
              intro x he2
              refine aw_iload_n (pc := 34) dX9_cliques_34 rfl ?_
              refine aw_aload_n (pc := 35) dX9_cliques_35 rfl ?_
              refine aw_getV (pc := 36) (v := (mN m : Int)) dX9_cliques_36 k_fl_X9_66 rfl (by omega) (by first | rfl | exact z_shr _ (by omega) | exact z_shc0 (by omega) | exact z_shc1 (by omega) | exact z_shc2 (by omega) | exact z_shc3 (by omega) | exact z_shc4 (by omega)) ((z_dI_o (by omega)).trans (e0)) ?_
              refine aw_icmp_ge (pc := 39) (tgt := 60) dX9_cliques_39 rfl (by first | omega | exact z_bl_r _) (by first | omega | exact z_bl_r _) (fun h39 => ?_) (fun h39 => absurd h39 (by omega))
              rw [show x = mN m by omega]
              refine aw_aload_n (pc := 60) dX9_cliques_60 rfl ?_
              refine aw_lconst (pc := 61) (v := 1) dX9_cliques_61 rfl ?_
              refine aw_putJ (pc := 62) dX9_cliques_62 k_fl_X9_84 rfl (by omega) (by first | rfl | exact z_shr _ (by omega) | exact z_shc0 (by omega) | exact z_shc1 (by omega) | exact z_shc2 (by omega) | exact z_shc3 (by omega) | exact z_shc4 (by omega)) ?_
              rw [z_dJ_ur]
              have hd : z_dC m (z_cQ m set) (z_pf (z_bt set) (z_pf (fun _ => 0) (J1 248) 8) (mN m)) 1 3 (z_pf (fun _ => 0) (I1 249) 27) := ⟨fun n hn => by rw [z_pf_lt hn]; exact (z_mk_in hn).symm, rfl, rfl, rfl, fun q => absurd q (by show ¬ ((3 : Int) = 0 ∨ (3 : Int) = 1); omega), fun q => absurd q (by show ¬ (3 : Int) = 2; omega)⟩
              have K3 := c_X9_offer (π := π) (I := I1) (J := J1) (L := (z_fo m (L, 1) (z_cdQ m) (set - 1)).1) (t := (z_fo m (L, 1) (z_cdQ m) (set - 1)).2) (C := z_cQ m set) (kd := 3) (f := (z_pf (z_bt set) (z_pf (fun _ => 0) (J1 248) 8) (mN m))) (r := 1) (s := (z_pf (fun _ => 0) (I1 249) 27)) (by rw [hm1]; exact h1) (by rw [hm1]; exact hd) (fun i hi => by have := z_bt_b set i; show -1000 ≤ (if i < mN m then z_bt set i else z_pf (fun _ => 0) (J1 248) 8 i) ∧ (if i < mN m then z_bt set i else z_pf (fun _ => 0) (J1 248) 8 i) ≤ 1000; rw [z_pf_lt hi]; split <;> omega) (by omega) (fun j hj => by rw [z_pf_lt hj]; omega) (by omega)
              rw [hm1] at K3
              refine aw_aload_n (pc := 65) dX9_cliques_65 rfl ?_
              refine aw_iconst (pc := 66) dX9_cliques_66 ?_
              refine aw_qV (pc := 67) (d := m_X9_offer) (K3) k_X9_offer dX9_cliques_67 k_ml_X9_118 rfl ⟨rfl, rfl⟩ (by omega) (by first | rfl | exact z_shr _ (by omega) | exact z_shc0 (by omega) | exact z_shc1 (by omega) | exact z_shc2 (by omega) | exact z_shc3 (by omega) | exact z_shc4 (by omega)) rfl ⟨Nat.le_of_ble_eq_true rfl, Nat.le_of_ble_eq_true rfl⟩ ⟨Nat.zero_le _, Nat.zero_le _⟩ rfl (Nat.le_of_ble_eq_true rfl) ?_
              rintro q9 sz2 I2 J2 R2 ⟨rfl, rfl, rfl, o1, o2, o3, o4⟩
              have eS := z_fo_s (m := m) (s := (L, 1)) (cand := z_cdQ m) (k := set - 1) (j := set) (by omega)
              rw [show z_cdQ m (set - 1) = z_cQ m set by unfold z_cdQ; rw [show set - 1 + 1 = set by omega, z_if_t hW]] at eS
              rw [eS] at o1 o2
              refine aw_iinc (pc := 70) (lv' := [_, _, _]) dX9_cliques_70 (Nat.le_of_ble_eq_true rfl) rfl rfl ?_
              refine aw_goto (pc := 73) (tgt := 2) dX9_cliques_73 rfl ?_
              exact ih (set + 1) I2 J2 _ (by omega) (by omega) (by rw [show set + 1 - 1 = set by omega]; exact o1) (hf.off o3 o4) (by rw [show set + 1 - 1 = set by omega, o2, h14]; omega)
            | succ n2 ih2 =>
              intro x he2
              refine aw_iload_n (pc := 34) dX9_cliques_34 rfl ?_
              refine aw_aload_n (pc := 35) dX9_cliques_35 rfl ?_
              refine aw_getV (pc := 36) (v := (mN m : Int)) dX9_cliques_36 k_fl_X9_66 rfl (by omega) (by first | rfl | exact z_shr _ (by omega) | exact z_shc0 (by omega) | exact z_shc1 (by omega) | exact z_shc2 (by omega) | exact z_shc3 (by omega) | exact z_shc4 (by omega)) ((z_dI_o (by omega)).trans (e0)) ?_
              refine aw_icmp_ge (pc := 39) (tgt := 60) dX9_cliques_39 rfl (by first | omega | exact z_bl_r _) (by first | omega | exact z_bl_r _) (fun h39 => absurd h39 (by omega)) (fun h39 => ?_)
              refine aw_aload_n (pc := 42) dX9_cliques_42 rfl ?_
              refine aw_getR (pc := 43) dX9_cliques_43 k_fl_X9_45 rfl (by omega) (by first | rfl | exact z_shr _ (by omega) | exact z_shc0 (by omega) | exact z_shc1 (by omega) | exact z_shc2 (by omega) | exact z_shc3 (by omega) | exact z_shc4 (by omega)) (by first | rfl | exact z_Rc0 _ (by omega) | exact z_Rc1 _ (by omega) | exact z_Rc2 _ (by omega) | exact z_Rc3 _ (by omega)) ?_
              refine aw_iload_n (pc := 46) dX9_cliques_46 rfl ?_
              refine aw_iload_n (pc := 47) dX9_cliques_47 rfl ?_
              refine aw_iload_n (pc := 48) dX9_cliques_48 rfl ?_
              refine aw_shr (pc := 49) dX9_cliques_49 (a := set) (w := x) rfl rfl (by omega) (by omega) ?_
              refine aw_iconst (pc := 50) dX9_cliques_50 ?_
              refine aw_iand (pc := 51) dX9_cliques_51 rfl (b := 1) rfl ?_
              rw [z_btn]
              refine aw_i2l (pc := 52) dX9_cliques_52 (by have := z_bt_b set x; omega) ?_
              refine aw_lastore (pc := 53) dX9_cliques_53 (by omega) (Nat.le_refl _) (by first | rfl | exact z_shr _ (by omega) | exact z_shc0 (by omega) | exact z_shc1 (by omega) | exact z_shc2 (by omega) | exact z_shc3 (by omega) | exact z_shc4 (by omega)) (by first | omega | exact z_bl_r _) ?_
              rw [z_dJ_uf, Int.toNat_natCast, z_pf_sn (g := z_bt set) rfl]
              refine aw_iinc (pc := 54) (lv' := [_, _, _]) dX9_cliques_54 (Nat.le_of_ble_eq_true rfl) rfl rfl ?_
              refine aw_goto (pc := 57) (tgt := 34) dX9_cliques_57 rfl ?_
              exact ih2 (x + 1) (by omega)
          have K1 := c_X9_emptied (π := π) (I := I1) (J := J1) (s := I1 249) (f := J1 248) (r := J1 237 17)
          rw [z_dI_id, z_dJ_id] at K1
          refine aw_aload_n (pc := 28) dX9_cliques_28 rfl ?_
          refine aw_qV (pc := 29) (d := m_X9_emptied) (K1) k_X9_emptied dX9_cliques_29 k_ml_X9_101 rfl ⟨rfl, rfl⟩ (by omega) (by first | rfl | exact z_shr _ (by omega) | exact z_shc0 (by omega) | exact z_shc1 (by omega) | exact z_shc2 (by omega) | exact z_shc3 (by omega) | exact z_shc4 (by omega)) rfl ⟨Nat.le_of_ble_eq_true rfl, Nat.le_of_ble_eq_true rfl⟩ ⟨Nat.zero_le _, Nat.zero_le _⟩ rfl (Nat.le_of_ble_eq_true rfl) (z_Pk ?_)
          refine aw_iconst (pc := 32) dX9_cliques_32 ?_
          refine aw_istore_n (pc := 33) (lv' := [_, _, _]) dX9_cliques_33 (Nat.le_of_ble_eq_true rfl) rfl ?_
          have K := il (mN m) 0 (by omega)
          rw [z_pf_0] at K
          exact K
  refine aw_iconst (pc := 0) dX9_cliques_0 ?_
  refine aw_istore_n (pc := 1) (lv' := [_, _, _]) dX9_cliques_1 (Nat.le_of_ble_eq_true rfl) rfl ?_
  exact loop (2 ^ mN m - 3) 3 I J _ (by omega) (by omega) (by rw [z_fo_q2 _ (by omega)]; exact hI) z_FQ.rf (by rw [z_fo_q2 _ (by omega), h140]; show _ = (L.length : Int) - L.length; omega)
set_option maxHeartbeats 4000000 in
theorem c_X9_find {π : Nat → Nat} {I J : AwI} {m : z_MM} {L : List z_CC} {t : Int} {kd : Int} (hI : z_RI I J m L t) (hkd : -2147483648 ≤ kd ∧ kd ≤ 2147483647) : CT m_X9_find [zr 237, zi kd] 255 I J (z_R π) (z_PR π (z_rFd m L t kd) I J) := by
  have hI0 := hI
  obtain ⟨h, hm, hlh, hC, hL, ht⟩ := hI0
  subst hm
  have hnm := h.nm
  have hrw := h.rw
  have hct := hC.n
  have eN : mN (z_rfM I J) = (I 237 0).toNat := rfl
  have eR : mR (z_rfM I J) = (I 237 4).toNat := rfl
  have eL := hL.1
  refine CT.of (by decide) (Nat.le_of_ble_eq_true rfl) ?_
  show AW _ 0 0 _ 0 [some (zr 237), some (zi kd)] [] _ _ _
  refine aw_aload_n (pc := 0) dX9_find_0 rfl ?_
  refine aw_iconst (pc := 1) dX9_find_1 ?_
  refine aw_putI (pc := 2) dX9_find_2 k_fl_X9_63 rfl (by omega) (by first | rfl | exact z_shr _ (by omega) | exact z_shc0 (by omega) | exact z_shc1 (by omega) | exact z_shc2 (by omega) | exact z_shc3 (by omega) | exact z_shc4 (by omega)) ?_
  refine aw_iload_n (pc := 5) dX9_find_5 rfl ?_
  refine aw_if_lt (pc := 6) (tgt := 14) dX9_find_6 rfl (by first | omega | exact z_bl_r _) (fun h6 => ?_) (fun h6 => ?_)
  · refine aw_bipush (pc := 14) dX9_find_14 rfl ?_
    refine aw_ireturn (pc := 16) dX9_find_16 rfl ⟨Nat.zero_le _, Nat.zero_le _⟩ ?_
    exact z_PRr (if_pos (by omega)) hI.code z_FQ.code
  · refine aw_iload_n (pc := 9) dX9_find_9 rfl ?_
    refine aw_iconst (pc := 10) dX9_find_10 ?_
    refine aw_icmp_le (pc := 11) (tgt := 17) dX9_find_11 rfl (by first | omega | exact z_bl_r _) (by first | omega | exact z_bl_r _) (fun h11 => ?_) (fun h11 => ?_)
    · refine aw_aload_n (pc := 17) dX9_find_17 rfl ?_
      refine aw_iconst (pc := 18) dX9_find_18 ?_
      refine aw_putI (pc := 19) dX9_find_19 k_fl_X9_41 rfl (by omega) (by first | rfl | exact z_shr _ (by omega) | exact z_shc0 (by omega) | exact z_shc1 (by omega) | exact z_shc2 (by omega) | exact z_shc3 (by omega) | exact z_shc4 (by omega)) ?_
      refine aw_aload_n (pc := 22) dX9_find_22 rfl ?_
      refine aw_iconst (pc := 23) dX9_find_23 ?_
      refine aw_putI (pc := 24) dX9_find_24 k_fl_X9_92 rfl (by omega) (by first | rfl | exact z_shr _ (by omega) | exact z_shc0 (by omega) | exact z_shc1 (by omega) | exact z_shc2 (by omega) | exact z_shc3 (by omega) | exact z_shc4 (by omega)) ?_
      have h1 : z_RI (z_up (z_up (z_up I 237 15 0) 237 13 1) 237 14 0) J (z_rfM I J) L 1 := (hI.code.setT).frame (z_Fs.up (by omega))
      have hf1 : z_FQ I J (z_up (z_up (z_up I 237 15 0) 237 13 1) 237 14 0) J := ((z_FQ.rf.upI (by omega)).upI (by omega)).upI (by omega)
      have h14 : (z_up (z_up (z_up I 237 15 0) 237 13 1) 237 14 0) 237 14 = 0 := z_up_s _ _ _ _
      have K0 := c_X9_halves (π := π) h1 h14
      have K1 := c_X9_rounded (π := π) h1 h14
      have K2 := c_X9_covers (π := π) h1 h14
      have K3 := c_X9_cliques (π := π) h1 h14
      refine aw_iload_n (pc := 27) dX9_find_27 rfl ?_
      rcases (show (kd < 0 ∨ 2 < kd) ∨ kd = 0 ∨ kd = 1 ∨ kd = 2 by omega) with h28 | h28 | h28 | h28
      · refine aw_tbl_out (pc := 28) (tgt := 77) dX9_find_28 (by omega) h28 rfl ?_
        refine aw_aload_n (pc := 77) dX9_find_77 rfl ?_
        refine aw_qV (pc := 78) (d := m_X9_cliques) (K3) k_X9_cliques dX9_find_78 k_ml_X9_172 rfl ⟨rfl, rfl⟩ (by omega) (by first | rfl | exact z_shr _ (by omega) | exact z_shc0 (by omega) | exact z_shc1 (by omega) | exact z_shc2 (by omega) | exact z_shc3 (by omega) | exact z_shc4 (by omega)) rfl ⟨Nat.le_of_ble_eq_true rfl, Nat.le_of_ble_eq_true rfl⟩ ⟨Nat.zero_le _, Nat.zero_le _⟩ rfl (Nat.le_of_ble_eq_true rfl) ?_
        rintro q9 sz2 I2 J2 R2 ⟨rfl, rfl, rfl, s1, s2, s3⟩
        have ez := (show z_fd (z_rfM I J) L kd = z_fo (z_rfM I J) (L, 1) (z_cdQ (z_rfM I J)) (2 ^ mN (z_rfM I J) - 1) by unfold z_fd; rw [if_neg (by omega), if_neg (by omega), if_neg (by omega)])
        refine aw_aload_n (pc := 81) dX9_find_81 rfl ?_
        refine aw_getI (pc := 82) dX9_find_82 k_fl_X9_92 rfl (by omega) (by first | rfl | exact z_shr _ (by omega) | exact z_shc0 (by omega) | exact z_shc1 (by omega) | exact z_shc2 (by omega) | exact z_shc3 (by omega) | exact z_shc4 (by omega)) ?_
        refine aw_ireturn (pc := 85) dX9_find_85 rfl ⟨Nat.zero_le _, Nat.zero_le _⟩ ?_
        rw [← ez] at s1 s3
        rw [s3]
        exact z_PRr (if_neg (by omega)) s1 (hf1.tr s2)
      · subst h28
        refine aw_tbl_in (pc := 28) (tgt := 56) (off := 28) dX9_find_28 (by omega) (by omega) rfl rfl ?_
        refine aw_aload_n (pc := 56) dX9_find_56 rfl ?_
        refine aw_qV (pc := 57) (d := m_X9_halves) (K0) k_X9_halves dX9_find_57 k_ml_X9_163 rfl ⟨rfl, rfl⟩ (by omega) (by first | rfl | exact z_shr _ (by omega) | exact z_shc0 (by omega) | exact z_shc1 (by omega) | exact z_shc2 (by omega) | exact z_shc3 (by omega) | exact z_shc4 (by omega)) rfl ⟨Nat.le_of_ble_eq_true rfl, Nat.le_of_ble_eq_true rfl⟩ ⟨Nat.zero_le _, Nat.zero_le _⟩ rfl (Nat.le_of_ble_eq_true rfl) ?_
        rintro q9 sz2 I2 J2 R2 ⟨rfl, rfl, rfl, s1, s2, s3⟩
        have ez := (show z_fd (z_rfM I J) L 0 = z_fo (z_rfM I J) (L, 1) (fun j => z_cH (z_rfM I J) (j + 1)) (2 ^ mR (z_rfM I J) - 1) from rfl)
        refine aw_goto (pc := 60) (tgt := 81) dX9_find_60 rfl ?_
        refine aw_aload_n (pc := 81) dX9_find_81 rfl ?_
        refine aw_getI (pc := 82) dX9_find_82 k_fl_X9_92 rfl (by omega) (by first | rfl | exact z_shr _ (by omega) | exact z_shc0 (by omega) | exact z_shc1 (by omega) | exact z_shc2 (by omega) | exact z_shc3 (by omega) | exact z_shc4 (by omega)) ?_
        refine aw_ireturn (pc := 85) dX9_find_85 rfl ⟨Nat.zero_le _, Nat.zero_le _⟩ ?_
        rw [← ez] at s1 s3
        rw [s3]
        exact z_PRr (if_neg (by omega)) s1 (hf1.tr s2)
      · subst h28
        refine aw_tbl_in (pc := 28) (tgt := 63) (off := 35) dX9_find_28 (by omega) (by omega) rfl rfl ?_
        refine aw_aload_n (pc := 63) dX9_find_63 rfl ?_
        refine aw_qV (pc := 64) (d := m_X9_rounded) (K1) k_X9_rounded dX9_find_64 k_ml_X9_166 rfl ⟨rfl, rfl⟩ (by omega) (by first | rfl | exact z_shr _ (by omega) | exact z_shc0 (by omega) | exact z_shc1 (by omega) | exact z_shc2 (by omega) | exact z_shc3 (by omega) | exact z_shc4 (by omega)) rfl ⟨Nat.le_of_ble_eq_true rfl, Nat.le_of_ble_eq_true rfl⟩ ⟨Nat.zero_le _, Nat.zero_le _⟩ rfl (Nat.le_of_ble_eq_true rfl) ?_
        rintro q9 sz2 I2 J2 R2 ⟨rfl, rfl, rfl, s1, s2, s3⟩
        have ez := (show z_fd (z_rfM I J) L 1 = z_fo (z_rfM I J) (L, 1) (fun j => z_cR (z_rfM I J) (j / 8) ((j % 8 : Nat) + 2)) (8 * mR (z_rfM I J)) from rfl)
        refine aw_goto (pc := 67) (tgt := 81) dX9_find_67 rfl ?_
        refine aw_aload_n (pc := 81) dX9_find_81 rfl ?_
        refine aw_getI (pc := 82) dX9_find_82 k_fl_X9_92 rfl (by omega) (by first | rfl | exact z_shr _ (by omega) | exact z_shc0 (by omega) | exact z_shc1 (by omega) | exact z_shc2 (by omega) | exact z_shc3 (by omega) | exact z_shc4 (by omega)) ?_
        refine aw_ireturn (pc := 85) dX9_find_85 rfl ⟨Nat.zero_le _, Nat.zero_le _⟩ ?_
        rw [← ez] at s1 s3
        rw [s3]
        exact z_PRr (if_neg (by omega)) s1 (hf1.tr s2)
      · subst h28
        refine aw_tbl_in (pc := 28) (tgt := 70) (off := 42) dX9_find_28 (by omega) (by omega) rfl rfl ?_
        refine aw_aload_n (pc := 70) dX9_find_70 rfl ?_
        refine aw_qV (pc := 71) (d := m_X9_covers) (K2) k_X9_covers dX9_find_71 k_ml_X9_169 rfl ⟨rfl, rfl⟩ (by omega) (by first | rfl | exact z_shr _ (by omega) | exact z_shc0 (by omega) | exact z_shc1 (by omega) | exact z_shc2 (by omega) | exact z_shc3 (by omega) | exact z_shc4 (by omega)) rfl ⟨Nat.le_of_ble_eq_true rfl, Nat.le_of_ble_eq_true rfl⟩ ⟨Nat.zero_le _, Nat.zero_le _⟩ rfl (Nat.le_of_ble_eq_true rfl) ?_
        rintro q9 sz2 I2 J2 R2 ⟨rfl, rfl, rfl, s1, s2, s3⟩
        have ez := (show z_fd (z_rfM I J) L 2 = z_cvO (z_rfM I J) (L, 1) (mR (z_rfM I J)) from rfl)
        refine aw_goto (pc := 74) (tgt := 81) dX9_find_74 rfl ?_
        refine aw_aload_n (pc := 81) dX9_find_81 rfl ?_
        refine aw_getI (pc := 82) dX9_find_82 k_fl_X9_92 rfl (by omega) (by first | rfl | exact z_shr _ (by omega) | exact z_shc0 (by omega) | exact z_shc1 (by omega) | exact z_shc2 (by omega) | exact z_shc3 (by omega) | exact z_shc4 (by omega)) ?_
        refine aw_ireturn (pc := 85) dX9_find_85 rfl ⟨Nat.zero_le _, Nat.zero_le _⟩ ?_
        rw [← ez] at s1 s3
        rw [s3]
        exact z_PRr (if_neg (by omega)) s1 (hf1.tr s2)
    · refine aw_bipush (pc := 14) dX9_find_14 rfl ?_
      refine aw_ireturn (pc := 16) dX9_find_16 rfl ⟨Nat.zero_le _, Nat.zero_le _⟩ ?_
      exact z_PRr (if_pos (by omega)) hI.code z_FQ.code
