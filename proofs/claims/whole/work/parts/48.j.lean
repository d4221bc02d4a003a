theorem z_RI.at {I J : AwI} {m : z_MM} {L : List z_CC} {t : Int} {k : Nat} (h : z_RI I J m L t) (hk : k < L.length) : z_rfC I J k m (z_g L k) := h.2.2.2.2.1.2 k _ (z_g_in hk)
theorem z_RI.kd {I J : AwI} {m : z_MM} {L : List z_CC} {t : Int} {k : Nat} (h : z_RI I J m L t) (hk : k < L.length) : 0 ≤ cK (z_g L k) ∧ cK (z_g L k) ≤ 3 := by
  have h1 := (h.at hk).2.2.1
  have h2 := h.2.2.2.1.k k
  omega
def z_plv (m : z_MM) (kd w i : Int) : Int := if z_rfS m kd w i = 0 then (z_pos kd w i : Int) else z_rfS m kd w i
theorem z_pos_b {m : z_MM} {kd w i : Int} (hN : mN m ≤ 8) (hR : mR m ≤ 10) (h : z_rfS m kd w i = 0) : z_pos kd w i ≤ 26 := by
  obtain ⟨g1, g2, g3, g4⟩ := z_rfS_0 h
  unfold z_pos
  repeat' split
  all_goals omega
theorem z_rf_shw {I J : AwI} {k : Nat} {m : z_MM} {C : z_CC} {w i : Int} (h : z_rfC I J k m C) (hk : 0 ≤ cK C ∧ cK C ≤ 3) (h0 : z_rfS m (cK C) w i = 0) : I 247 (27 * k + z_pos (cK C) w i) = cS C (z_pos (cK C) w i) := by
  obtain ⟨g1, g2, g3, g4⟩ := z_rfS_0 h0
  obtain ⟨h1, h2, h3, h4, h5, h6⟩ := h
  unfold z_pos
  by_cases q2 : cK C = 2
  · have := g3 q2
    rw [if_pos this.1, if_pos q2]
    exact h6 q2
  · obtain ⟨a1, a2, a3, a4⟩ := h5 (by omega)
    obtain ⟨b1, b2, b3⟩ := g4 q2
    rcases (show w = 0 ∨ w = 1 ∨ w = 2 ∨ w = 3 by omega) with e | e | e | e
    · rw [if_pos e, if_neg q2]
      exact a1 _ (by have := b2 e; omega)
    · rw [if_neg (by omega), if_pos e]
      exact a2 _ (by have := b3 (Or.inl e); omega)
    · rw [if_neg (by omega), if_neg (by omega), if_pos e]
      exact a3 _ (by have := b3 (Or.inr e); omega)
    · rw [if_neg (by omega), if_neg (by omega), if_neg (by omega)]
      exact a4
/-- one cut changed -/
theorem z_RI.put {I J I' J' : AwI} {m : z_MM} {L : List z_CC} {t : Int} {k : Nat} {C : z_CC} (h : z_RI I J m L t) (hk : k < L.length) (hI : ∀ a j, (a ≠ 247 ∨ j < 27 * k ∨ 27 * k + 27 ≤ j) → I' a j = I a j) (hJ : ∀ a j, (a ≠ 243 ∨ j < 8 * k ∨ 8 * k + 8 ≤ j) → (a ≠ 244 ∨ j ≠ k) → J' a j = J a j) (b1 : ∀ j, -1000 ≤ J' 243 j ∧ J' 243 j ≤ 1000) (b2 : ∀ j, -200000 ≤ J' 244 j ∧ J' 244 j ≤ 200000) (b3 : ∀ j, -1000 ≤ I' 247 j ∧ I' 247 j ≤ 1000) (hC : z_rfC I' J' k m C) : z_RI I' J' m (L.set k C) t := by
  have hmb := h.rds.2.2.2.2.2.2.2.2.2.1
  have hN8 := hmb.1
  have hR10 := hmb.2.1
  obtain ⟨h1, h2, h3, h4, h5, h6⟩ := h
  refine ⟨h1.congr (fun a j q => hI a j (by omega)) (fun j => hJ _ _ (by omega) (by omega)), ?_, h3, ⟨b1, b2, fun j => ?_, fun j => ?_, b3, ?_⟩, ⟨?_, fun j D hj => ?_⟩, ?_⟩
  · rw [z_rfM.congr (I := I) (J := J) (fun a j q => hI a j (by omega)) (fun j => hJ _ _ (by omega) (by omega))]; exact h2
  · rw [hI _ _ (by omega)]; exact h4.k j
  · rw [hI _ _ (by omega)]; exact h4.a j
  · rw [hI _ _ (by omega)]; exact h4.n
  · rw [hI _ _ (by omega), List.length_set]; exact h5.1
  · by_cases e : j = k
    · subst e
      rw [List.getElem?_set_self hk] at hj
      cases hj
      exact hC
    · rw [List.getElem?_set_ne (fun q => e q.symm)] at hj
      obtain ⟨g1, g2, g3, g4, g5, g6⟩ := h5.2 j D hj
      refine ⟨fun n hn => by rw [hJ _ _ (by omega) (by omega)]; exact g1 n hn, by rw [hJ _ _ (by omega) (by omega)]; exact g2, by rw [hI _ _ (by omega)]; exact g3, by rw [hI _ _ (by omega)]; exact g4, fun q => ?_, fun q => by rw [hI _ _ (by omega)]; exact g6 q⟩
      obtain ⟨a1, a2, a3, a4⟩ := g5 q
      exact ⟨fun n hn => by rw [hI _ _ (by omega)]; exact a1 n hn, fun n hn => by rw [hI _ _ (by omega)]; exact a2 n hn, fun n hn => by rw [hI _ _ (by omega)]; exact a3 n hn, by rw [hI _ _ (by omega)]; exact a4⟩
  · rw [hI _ _ (by omega)]; exact h6
theorem z_rf_str2 {I J : AwI} {m : z_MM} {k : Nat} {C : z_CC} (hm : z_rfM I J = m) (h : z_rfC I J k m C) : -(J 244 k) * 27720 + z_sum (fun i => J 243 (8 * k + i) * J 240 i) (mN m) = z_str2 m C := by
  subst hm
  unfold z_str2
  rw [← h.2.1, show z_sum (fun n => cF C n * mpt (z_rfM I J) n) (mN (z_rfM I J)) = z_sum (fun i => J 243 (8 * k + i) * J 240 i) (mN (z_rfM I J)) from z_sum_c _ (fun n hn => by rw [h.1 n hn, z_rfM_pt hn])]
  rw [Int.neg_mul]
  omega
theorem z_RI.strb {I J : AwI} {m : z_MM} {L : List z_CC} {t : Int} {k : Nat} (h : z_RI I J m L t) (hk : k < L.length) : -100000000000 ≤ z_str2 m (z_g L k) ∧ z_str2 m (z_g L k) ≤ 100000000000 := by
  have hmb := h.rds.2.2.2.2.2.2.2.2.2.1
  rw [← z_rf_str2 h.2.1 (h.at hk)]
  have hN := hmb.1
  have a := z_sum_b (f := fun i => J 243 (8 * k + i) * J 240 i) 11088000000 (mN m) (fun i hi => by
    have := z_mulb (h.2.2.2.1.f (8 * k + i)) (h.1.pt i)
    omega)
  have b := h.2.2.2.1.r k
  have c : (mN m : Int) * 11088000000 ≤ 8 * 11088000000 := Int.mul_le_mul_of_nonneg_right (by omega) (by omega)
  omega
set_option maxHeartbeats 4000000 in
theorem c_X9_placeOf {π : Nat → Nat} {I J : AwI} {m : z_MM} {L : List z_CC} {t : Int} {k w i : Int} (hI : z_RI I J m L t) (hk : -2147483648 ≤ k ∧ k ≤ 2147483647) (hw : -2147483648 ≤ w ∧ w ≤ 2147483647) (hi : -2147483648 ≤ i ∧ i ≤ 2147483647) : CT m_X9_placeOf [zr 237, zi k, zi w, zi i] 255 I J (z_R π) (z_P (some (zi (if ¬ (0 ≤ k ∧ k < (L.length : Int)) then -1 else z_plv m (cK (z_g L k.toNat)) w i))) 255 I J (z_R π)) := by
  obtain ⟨hM1, hm1, e0, e4, elo, ehi, ept, eF, ert, hmb, hptb, hF0⟩ := hI.rds
  have hN8 := hmb.1
  have hR10 := hmb.2.1
  have hC := hI.2.2.2.1
  have hct := hC.n
  have eL := hI.2.2.2.2.1.1
  refine CT.of (by decide) (Nat.le_of_ble_eq_true rfl) ?_
  show AW _ 0 0 _ 0 [some (zr 237), some (zi k), some (zi w), some (zi i), none] [] _ _ _
  refine aw_aload_n (pc := 0) dX9_placeOf_0 rfl ?_
  refine aw_iload_n (pc := 1) dX9_placeOf_1 rfl ?_
  refine aw_qV (pc := 2) (d := m_X9_isCut) (c_X9_isCut hct hk) k_X9_isCut dX9_placeOf_2 k_ml_X9_175 rfl ⟨rfl, rfl⟩ (by omega) (by first | rfl | exact z_shr _ (by omega) | exact z_shc0 (by omega) | exact z_shc1 (by omega) | exact z_shc2 (by omega) | exact z_shc3 (by omega) | exact z_shc4 (by omega)) rfl ⟨Nat.le_of_ble_eq_true rfl, Nat.le_of_ble_eq_true rfl⟩ ⟨Nat.zero_le _, Nat.zero_le _⟩ rfl (Nat.le_of_ble_eq_true rfl) (z_Pk ?_)
  refine aw_if_ne (pc := 5) (tgt := 10) dX9_placeOf_5 rfl (by first | omega | exact z_bl_r _) (fun h5 => ?_) (fun h5 => ?_)
  · first | rw [z_bl_n] at h5 | rw [z_bl_0] at h5 | skip
    have hkd := hI.kd (k := k.toNat) (by omega)
    refine aw_iload_n (pc := 10) dX9_placeOf_10 rfl ?_
    refine aw_if_lt (pc := 11) (tgt := 19) dX9_placeOf_11 rfl (by first | omega | exact z_bl_r _) (fun h11 => ?_) (fun h11 => ?_)
    · refine aw_bipush (pc := 19) dX9_placeOf_19 rfl ?_
      refine aw_ireturn (pc := 21) dX9_placeOf_21 rfl ⟨Nat.zero_le _, Nat.zero_le _⟩ ?_
      first | rw [z_bl_n] at h89 | rw [z_bl_0] at h89 | skip
      first | rw [z_bl_n] at h103 | rw [z_bl_0] at h103 | skip
      refine ⟨congrArg (fun x => some (zi x)) ?_, rfl, rfl, rfl, rfl⟩
      rw [if_neg (by omega)]
      unfold z_plv z_rfS z_pos
      repeat' split
      all_goals (first | rfl | omega | (exfalso; omega))
    · refine aw_iload_n (pc := 14) dX9_placeOf_14 rfl ?_
      refine aw_iconst (pc := 15) dX9_placeOf_15 ?_
      refine aw_icmp_le (pc := 16) (tgt := 22) dX9_placeOf_16 rfl (by first | omega | exact z_bl_r _) (by first | omega | exact z_bl_r _) (fun h16 => ?_) (fun h16 => ?_)
      · refine aw_aload_n (pc := 22) dX9_placeOf_22 rfl ?_
        refine aw_getR (pc := 23) dX9_placeOf_23 k_fl_X9_32 rfl (by omega) (by first | rfl | exact z_shr _ (by omega) | exact z_shc0 (by omega) | exact z_shc1 (by omega) | exact z_shc2 (by omega) | exact z_shc3 (by omega) | exact z_shc4 (by omega)) (by first | rfl | exact z_Rc0 _ (by omega) | exact z_Rc1 _ (by omega) | exact z_Rc2 _ (by omega) | exact z_Rc3 _ (by omega)) ?_
        refine aw_iload_n (pc := 26) dX9_placeOf_26 rfl ?_
        refine aw_ialoadV (pc := 27) (v := cK (z_g L k.toNat)) dX9_placeOf_27 (by omega) (Nat.le_refl _) (by first | rfl | exact z_shr _ (by omega) | exact z_shc0 (by omega) | exact z_shc1 (by omega) | exact z_shc2 (by omega) | exact z_shc3 (by omega) | exact z_shc4 (by omega)) (by first | omega | exact z_bl_r _) ((hI.at (by omega)).2.2.1) ?_
        refine aw_istore (pc := 28) (lv' := [_, _, _, _, _]) dX9_placeOf_28 (Nat.le_of_ble_eq_true rfl) rfl ?_
        refine aw_iload (pc := 30) dX9_placeOf_30 rfl ?_
        refine aw_iconst (pc := 32) dX9_placeOf_32 ?_
        refine aw_icmp_eq (pc := 33) (tgt := 46) dX9_placeOf_33 rfl (by first | omega | exact z_bl_r _) (by first | omega | exact z_bl_r _) (fun h33 => ?_) (fun h33 => ?_)
        · refine aw_iconst (pc := 46) dX9_placeOf_46 ?_
          refine aw_ireturn (pc := 47) dX9_placeOf_47 rfl ⟨Nat.zero_le _, Nat.zero_le _⟩ ?_
          first | rw [z_bl_n] at h89 | rw [z_bl_0] at h89 | skip
          first | rw [z_bl_n] at h103 | rw [z_bl_0] at h103 | skip
          refine ⟨congrArg (fun x => some (zi x)) ?_, rfl, rfl, rfl, rfl⟩
          rw [if_neg (by omega)]
          unfold z_plv z_rfS z_pos
          repeat' split
          all_goals (first | rfl | omega | (exfalso; omega))
        · refine aw_iload (pc := 36) dX9_placeOf_36 rfl ?_
          refine aw_iconst (pc := 38) dX9_placeOf_38 ?_
          refine aw_icmp_ne (pc := 39) (tgt := 48) dX9_placeOf_39 rfl (by first | omega | exact z_bl_r _) (by first | omega | exact z_bl_r _) (fun h39 => ?_) (fun h39 => ?_)
          · refine aw_iload (pc := 48) dX9_placeOf_48 rfl ?_
            refine aw_iconst (pc := 50) dX9_placeOf_50 ?_
            refine aw_icmp_eq (pc := 51) (tgt := 59) dX9_placeOf_51 rfl (by first | omega | exact z_bl_r _) (by first | omega | exact z_bl_r _) (fun h51 => ?_) (fun h51 => ?_)
            · refine aw_iload_n (pc := 59) dX9_placeOf_59 rfl ?_
              refine aw_if_eq (pc := 60) (tgt := 68) dX9_placeOf_60 rfl (by first | omega | exact z_bl_r _) (fun h60 => ?_) (fun h60 => ?_)
              · refine aw_iload_n (pc := 68) dX9_placeOf_68 rfl ?_
                refine aw_iconst (pc := 69) dX9_placeOf_69 ?_
                refine aw_icmp_ne (pc := 70) (tgt := 78) dX9_placeOf_70 rfl (by first | omega | exact z_bl_r _) (by first | omega | exact z_bl_r _) (fun h70 => ?_) (fun h70 => ?_)
                · refine aw_iconst (pc := 78) dX9_placeOf_78 ?_
                  refine aw_ireturn (pc := 79) dX9_placeOf_79 rfl ⟨Nat.zero_le _, Nat.zero_le _⟩ ?_
                  first | rw [z_bl_n] at h89 | rw [z_bl_0] at h89 | skip
                  first | rw [z_bl_n] at h103 | rw [z_bl_0] at h103 | skip
                  refine ⟨congrArg (fun x => some (zi x)) ?_, rfl, rfl, rfl, rfl⟩
                  rw [if_neg (by omega)]
                  unfold z_plv z_rfS z_pos
                  repeat' split
                  all_goals (first | rfl | omega | (exfalso; omega))
                · refine aw_bipush (pc := 73) dX9_placeOf_73 rfl ?_
                  refine aw_goto (pc := 75) (tgt := 79) dX9_placeOf_75 rfl ?_
                  refine aw_ireturn (pc := 79) dX9_placeOf_79 rfl ⟨Nat.zero_le _, Nat.zero_le _⟩ ?_
                  first | rw [z_bl_n] at h89 | rw [z_bl_0] at h89 | skip
                  first | rw [z_bl_n] at h103 | rw [z_bl_0] at h103 | skip
                  refine ⟨congrArg (fun x => some (zi x)) ?_, rfl, rfl, rfl, rfl⟩
                  rw [if_neg (by omega)]
                  unfold z_plv z_rfS z_pos
                  repeat' split
                  all_goals (first | rfl | omega | (exfalso; omega))
              · refine aw_bipush (pc := 63) dX9_placeOf_63 rfl ?_
                refine aw_goto (pc := 65) (tgt := 79) dX9_placeOf_65 rfl ?_
                refine aw_ireturn (pc := 79) dX9_placeOf_79 rfl ⟨Nat.zero_le _, Nat.zero_le _⟩ ?_
                first | rw [z_bl_n] at h89 | rw [z_bl_0] at h89 | skip
                first | rw [z_bl_n] at h103 | rw [z_bl_0] at h103 | skip
                refine ⟨congrArg (fun x => some (zi x)) ?_, rfl, rfl, rfl, rfl⟩
                rw [if_neg (by omega)]
                unfold z_plv z_rfS z_pos
                repeat' split
                all_goals (first | rfl | omega | (exfalso; omega))
            · refine aw_iload_n (pc := 54) dX9_placeOf_54 rfl ?_
              refine aw_iconst (pc := 55) dX9_placeOf_55 ?_
              refine aw_icmp_ne (pc := 56) (tgt := 80) dX9_placeOf_56 rfl (by first | omega | exact z_bl_r _) (by first | omega | exact z_bl_r _) (fun h56 => ?_) (fun h56 => ?_)
              · refine aw_iload_n (pc := 80) dX9_placeOf_80 rfl ?_
                refine aw_if_ne (pc := 81) (tgt := 98) dX9_placeOf_81 rfl (by first | omega | exact z_bl_r _) (fun h81 => ?_) (fun h81 => ?_)
                · refine aw_aload_n (pc := 98) dX9_placeOf_98 rfl ?_
                  refine aw_iload_n (pc := 99) dX9_placeOf_99 rfl ?_
                  refine aw_qV (pc := 100) (d := m_X9_isName) (c_X9_isName (by omega) hi) k_X9_isName dX9_placeOf_100 k_ml_X9_79 rfl ⟨rfl, rfl⟩ (by omega) (by first | rfl | exact z_shr _ (by omega) | exact z_shc0 (by omega) | exact z_shc1 (by omega) | exact z_shc2 (by omega) | exact z_shc3 (by omega) | exact z_shc4 (by omega)) rfl ⟨Nat.le_of_ble_eq_true rfl, Nat.le_of_ble_eq_true rfl⟩ ⟨Nat.zero_le _, Nat.zero_le _⟩ rfl (Nat.le_of_ble_eq_true rfl) (z_Pk ?_)
                  refine aw_if_ne (pc := 103) (tgt := 110) dX9_placeOf_103 rfl (by first | omega | exact z_bl_r _) (fun h103 => ?_) (fun h103 => ?_)
                  · refine aw_iload_n (pc := 110) dX9_placeOf_110 rfl ?_
                    refine aw_iconst (pc := 111) dX9_placeOf_111 ?_
                    refine aw_icmp_ne (pc := 112) (tgt := 122) dX9_placeOf_112 rfl (by first | omega | exact z_bl_r _) (by first | omega | exact z_bl_r _) (fun h112 => ?_) (fun h112 => ?_)
                    · refine aw_bipush (pc := 122) dX9_placeOf_122 rfl ?_
                      refine aw_iload_n (pc := 124) dX9_placeOf_124 rfl ?_
                      refine aw_iadd (pc := 125) dX9_placeOf_125 ?_
                      refine aw_ireturn (pc := 126) dX9_placeOf_126 rfl ⟨Nat.zero_le _, Nat.zero_le _⟩ ?_
                      first | rw [z_bl_n] at h89 | rw [z_bl_0] at h89 | skip
                      first | rw [z_bl_n] at h103 | rw [z_bl_0] at h103 | skip
                      refine ⟨congrArg (fun x => some (zi x)) ?_, rfl, rfl, rfl, rfl⟩
                      rw [if_neg (by omega)]
                      unfold z_plv z_rfS z_pos
                      repeat' split
                      all_goals (first | rfl | omega | (exfalso; omega))
                    · refine aw_bipush (pc := 115) dX9_placeOf_115 rfl ?_
                      refine aw_iload_n (pc := 117) dX9_placeOf_117 rfl ?_
                      refine aw_iadd (pc := 118) dX9_placeOf_118 ?_
                      refine aw_goto (pc := 119) (tgt := 126) dX9_placeOf_119 rfl ?_
                      refine aw_ireturn (pc := 126) dX9_placeOf_126 rfl ⟨Nat.zero_le _, Nat.zero_le _⟩ ?_
                      first | rw [z_bl_n] at h89 | rw [z_bl_0] at h89 | skip
                      first | rw [z_bl_n] at h103 | rw [z_bl_0] at h103 | skip
                      refine ⟨congrArg (fun x => some (zi x)) ?_, rfl, rfl, rfl, rfl⟩
                      rw [if_neg (by omega)]
                      unfold z_plv z_rfS z_pos
                      repeat' split
                      all_goals (first | rfl | omega | (exfalso; omega))
                  · refine aw_iconst (pc := 106) dX9_placeOf_106 ?_
                    refine aw_goto (pc := 107) (tgt := 126) dX9_placeOf_107 rfl ?_
                    refine aw_ireturn (pc := 126) dX9_placeOf_126 rfl ⟨Nat.zero_le _, Nat.zero_le _⟩ ?_
                    first | rw [z_bl_n] at h89 | rw [z_bl_0] at h89 | skip
                    first | rw [z_bl_n] at h103 | rw [z_bl_0] at h103 | skip
                    refine ⟨congrArg (fun x => some (zi x)) ?_, rfl, rfl, rfl, rfl⟩
                    rw [if_neg (by omega)]
                    unfold z_plv z_rfS z_pos
                    repeat' split
                    all_goals (first | rfl | omega | (exfalso; omega))
                · refine aw_aload_n (pc := 84) dX9_placeOf_84 rfl ?_
                  refine aw_iload_n (pc := 85) dX9_placeOf_85 rfl ?_
                  refine aw_qV (pc := 86) (d := m_X9_isRow) (c_X9_isRow (by omega) hi) k_X9_isRow dX9_placeOf_86 k_ml_X9_75 rfl ⟨rfl, rfl⟩ (by omega) (by first | rfl | exact z_shr _ (by omega) | exact z_shc0 (by omega) | exact z_shc1 (by omega) | exact z_shc2 (by omega) | exact z_shc3 (by omega) | exact z_shc4 (by omega)) rfl ⟨Nat.le_of_ble_eq_true rfl, Nat.le_of_ble_eq_true rfl⟩ ⟨Nat.zero_le _, Nat.zero_le _⟩ rfl (Nat.le_of_ble_eq_true rfl) (z_Pk ?_)
                  refine aw_if_eq (pc := 89) (tgt := 96) dX9_placeOf_89 rfl (by first | omega | exact z_bl_r _) (fun h89 => ?_) (fun h89 => ?_)
                  · refine aw_iconst (pc := 96) dX9_placeOf_96 ?_
                    refine aw_ireturn (pc := 97) dX9_placeOf_97 rfl ⟨Nat.zero_le _, Nat.zero_le _⟩ ?_
                    first | rw [z_bl_n] at h89 | rw [z_bl_0] at h89 | skip
                    first | rw [z_bl_n] at h103 | rw [z_bl_0] at h103 | skip
                    refine ⟨congrArg (fun x => some (zi x)) ?_, rfl, rfl, rfl, rfl⟩
                    rw [if_neg (by omega)]
                    unfold z_plv z_rfS z_pos
                    repeat' split
                    all_goals (first | rfl | omega | (exfalso; omega))
                  · refine aw_iload_n (pc := 92) dX9_placeOf_92 rfl ?_
                    refine aw_goto (pc := 93) (tgt := 97) dX9_placeOf_93 rfl ?_
                    refine aw_ireturn (pc := 97) dX9_placeOf_97 rfl ⟨Nat.zero_le _, Nat.zero_le _⟩ ?_
                    first | rw [z_bl_n] at h89 | rw [z_bl_0] at h89 | skip
                    first | rw [z_bl_n] at h103 | rw [z_bl_0] at h103 | skip
                    refine ⟨congrArg (fun x => some (zi x)) ?_, rfl, rfl, rfl, rfl⟩
                    rw [if_neg (by omega)]
                    unfold z_plv z_rfS z_pos
                    repeat' split
                    all_goals (first | rfl | omega | (exfalso; omega))
              · refine aw_iload_n (pc := 59) dX9_placeOf_59 rfl ?_
                refine aw_if_eq (pc := 60) (tgt := 68) dX9_placeOf_60 rfl (by first | omega | exact z_bl_r _) (fun h60 => ?_) (fun h60 => ?_)
                · refine aw_iload_n (pc := 68) dX9_placeOf_68 rfl ?_
                  refine aw_iconst (pc := 69) dX9_placeOf_69 ?_
                  refine aw_icmp_ne (pc := 70) (tgt := 78) dX9_placeOf_70 rfl (by first | omega | exact z_bl_r _) (by first | omega | exact z_bl_r _) (fun h70 => ?_) (fun h70 => ?_)
                  · refine aw_iconst (pc := 78) dX9_placeOf_78 ?_
                    refine aw_ireturn (pc := 79) dX9_placeOf_79 rfl ⟨Nat.zero_le _, Nat.zero_le _⟩ ?_
                    first | rw [z_bl_n] at h89 | rw [z_bl_0] at h89 | skip
                    first | rw [z_bl_n] at h103 | rw [z_bl_0] at h103 | skip
                    refine ⟨congrArg (fun x => some (zi x)) ?_, rfl, rfl, rfl, rfl⟩
                    rw [if_neg (by omega)]
                    unfold z_plv z_rfS z_pos
                    repeat' split
                    all_goals (first | rfl | omega | (exfalso; omega))
                  · refine aw_bipush (pc := 73) dX9_placeOf_73 rfl ?_
                    refine aw_goto (pc := 75) (tgt := 79) dX9_placeOf_75 rfl ?_
                    refine aw_ireturn (pc := 79) dX9_placeOf_79 rfl ⟨Nat.zero_le _, Nat.zero_le _⟩ ?_
                    first | rw [z_bl_n] at h89 | rw [z_bl_0] at h89 | skip
                    first | rw [z_bl_n] at h103 | rw [z_bl_0] at h103 | skip
                    refine ⟨congrArg (fun x => some (zi x)) ?_, rfl, rfl, rfl, rfl⟩
                    rw [if_neg (by omega)]
                    unfold z_plv z_rfS z_pos
                    repeat' split
                    all_goals (first | rfl | omega | (exfalso; omega))
                · refine aw_bipush (pc := 63) dX9_placeOf_63 rfl ?_
                  refine aw_goto (pc := 65) (tgt := 79) dX9_placeOf_65 rfl ?_
                  refine aw_ireturn (pc := 79) dX9_placeOf_79 rfl ⟨Nat.zero_le _, Nat.zero_le _⟩ ?_
                  first | rw [z_bl_n] at h89 | rw [z_bl_0] at h89 | skip
                  first | rw [z_bl_n] at h103 | rw [z_bl_0] at h103 | skip
                  refine ⟨congrArg (fun x => some (zi x)) ?_, rfl, rfl, rfl, rfl⟩
                  rw [if_neg (by omega)]
                  unfold z_plv z_rfS z_pos
                  repeat' split
                  all_goals (first | rfl | omega | (exfalso; omega))
          · refine aw_iload_n (pc := 42) dX9_placeOf_42 rfl ?_
            refine aw_if_eq (pc := 43) (tgt := 48) dX9_placeOf_43 rfl (by first | omega | exact z_bl_r _) (fun h43 => ?_) (fun h43 => ?_)
            · refine aw_iload (pc := 48) dX9_placeOf_48 rfl ?_
              refine aw_iconst (pc := 50) dX9_placeOf_50 ?_
              refine aw_icmp_eq (pc := 51) (tgt := 59) dX9_placeOf_51 rfl (by first | omega | exact z_bl_r _) (by first | omega | exact z_bl_r _) (fun h51 => ?_) (fun h51 => ?_)
              · refine aw_iload_n (pc := 59) dX9_placeOf_59 rfl ?_
                refine aw_if_eq (pc := 60) (tgt := 68) dX9_placeOf_60 rfl (by first | omega | exact z_bl_r _) (fun h60 => ?_) (fun h60 => ?_)
                · refine aw_iload_n (pc := 68) dX9_placeOf_68 rfl ?_
                  refine aw_iconst (pc := 69) dX9_placeOf_69 ?_
                  refine aw_icmp_ne (pc := 70) (tgt := 78) dX9_placeOf_70 rfl (by first | omega | exact z_bl_r _) (by first | omega | exact z_bl_r _) (fun h70 => ?_) (fun h70 => ?_)
                  · refine aw_iconst (pc := 78) dX9_placeOf_78 ?_
                    refine aw_ireturn (pc := 79) dX9_placeOf_79 rfl ⟨Nat.zero_le _, Nat.zero_le _⟩ ?_
                    first | rw [z_bl_n] at h89 | rw [z_bl_0] at h89 | skip
                    first | rw [z_bl_n] at h103 | rw [z_bl_0] at h103 | skip
                    refine ⟨congrArg (fun x => some (zi x)) ?_, rfl, rfl, rfl, rfl⟩
                    rw [if_neg (by omega)]
                    unfold z_plv z_rfS z_pos
                    repeat' split
                    all_goals (first | rfl | omega | (exfalso; omega))
                  · refine aw_bipush (pc := 73) dX9_placeOf_73 rfl ?_
                    refine aw_goto (pc := 75) (tgt := 79) dX9_placeOf_75 rfl ?_
                    refine aw_ireturn (pc := 79) dX9_placeOf_79 rfl ⟨Nat.zero_le _, Nat.zero_le _⟩ ?_
                    first | rw [z_bl_n] at h89 | rw [z_bl_0] at h89 | skip
                    first | rw [z_bl_n] at h103 | rw [z_bl_0] at h103 | skip
                    refine ⟨congrArg (fun x => some (zi x)) ?_, rfl, rfl, rfl, rfl⟩
                    rw [if_neg (by omega)]
                    unfold z_plv z_rfS z_pos
                    repeat' split
                    all_goals (first | rfl | omega | (exfalso; omega))
                · refine aw_bipush (pc := 63) dX9_placeOf_63 rfl ?_
                  refine aw_goto (pc := 65) (tgt := 79) dX9_placeOf_65 rfl ?_
                  refine aw_ireturn (pc := 79) dX9_placeOf_79 rfl ⟨Nat.zero_le _, Nat.zero_le _⟩ ?_
                  first | rw [z_bl_n] at h89 | rw [z_bl_0] at h89 | skip
                  first | rw [z_bl_n] at h103 | rw [z_bl_0] at h103 | skip
                  refine ⟨congrArg (fun x => some (zi x)) ?_, rfl, rfl, rfl, rfl⟩
                  rw [if_neg (by omega)]
                  unfold z_plv z_rfS z_pos
                  repeat' split
                  all_goals (first | rfl | omega | (exfalso; omega))
              · refine aw_iload_n (pc := 54) dX9_placeOf_54 rfl ?_
                refine aw_iconst (pc := 55) dX9_placeOf_55 ?_
                refine aw_icmp_ne (pc := 56) (tgt := 80) dX9_placeOf_56 rfl (by first | omega | exact z_bl_r _) (by first | omega | exact z_bl_r _) (fun h56 => ?_) (fun h56 => ?_)
                · refine aw_iload_n (pc := 80) dX9_placeOf_80 rfl ?_
                  refine aw_if_ne (pc := 81) (tgt := 98) dX9_placeOf_81 rfl (by first | omega | exact z_bl_r _) (fun h81 => ?_) (fun h81 => ?_)
                  · refine aw_aload_n (pc := 98) dX9_placeOf_98 rfl ?_
                    refine aw_iload_n (pc := 99) dX9_placeOf_99 rfl ?_
                    refine aw_qV (pc := 100) (d := m_X9_isName) (c_X9_isName (by omega) hi) k_X9_isName dX9_placeOf_100 k_ml_X9_79 rfl ⟨rfl, rfl⟩ (by omega) (by first | rfl | exact z_shr _ (by omega) | exact z_shc0 (by omega) | exact z_shc1 (by omega) | exact z_shc2 (by omega) | exact z_shc3 (by omega) | exact z_shc4 (by omega)) rfl ⟨Nat.le_of_ble_eq_true rfl, Nat.le_of_ble_eq_true rfl⟩ ⟨Nat.zero_le _, Nat.zero_le _⟩ rfl (Nat.le_of_ble_eq_true rfl) (z_Pk ?_)
                    refine aw_if_ne (pc := 103) (tgt := 110) dX9_placeOf_103 rfl (by first | omega | exact z_bl_r _) (fun h103 => ?_) (fun h103 => ?_)
                    · refine aw_iload_n (pc := 110) dX9_placeOf_110 rfl ?_
                      refine aw_iconst (pc := 111) dX9_placeOf_111 ?_
                      refine aw_icmp_ne (pc := 112) (tgt := 122) dX9_placeOf_112 rfl (by first | omega | exact z_bl_r _) (by first | omega | exact z_bl_r _) (fun h112 => ?_) (fun h112 => ?_)
                      · refine aw_bipush (pc := 122) dX9_placeOf_122 rfl ?_
                        refine aw_iload_n (pc := 124) dX9_placeOf_124 rfl ?_
                        refine aw_iadd (pc := 125) dX9_placeOf_125 ?_
                        refine aw_ireturn (pc := 126) dX9_placeOf_126 rfl ⟨Nat.zero_le _, Nat.zero_le _⟩ ?_
                        first | rw [z_bl_n] at h89 | rw [z_bl_0] at h89 | skip
                        first | rw [z_bl_n] at h103 | rw [z_bl_0] at h103 | skip
                        refine ⟨congrArg (fun x => some (zi x)) ?_, rfl, rfl, rfl, rfl⟩
                        rw [if_neg (by omega)]
                        unfold z_plv z_rfS z_pos
                        repeat' split
                        all_goals (first | rfl | omega | (exfalso; omega))
                      · refine aw_bipush (pc := 115) dX9_placeOf_115 rfl ?_
                        refine aw_iload_n (pc := 117) dX9_placeOf_117 rfl ?_
                        refine aw_iadd (pc := 118) dX9_placeOf_118 ?_
                        refine aw_goto (pc := 119) (tgt := 126) dX9_placeOf_119 rfl ?_
                        refine aw_ireturn (pc := 126) dX9_placeOf_126 rfl ⟨Nat.zero_le _, Nat.zero_le _⟩ ?_
                        first | rw [z_bl_n] at h89 | rw [z_bl_0] at h89 | skip
                        first | rw [z_bl_n] at h103 | rw [z_bl_0] at h103 | skip
                        refine ⟨congrArg (fun x => some (zi x)) ?_, rfl, rfl, rfl, rfl⟩
                        rw [if_neg (by omega)]
                        unfold z_plv z_rfS z_pos
                        repeat' split
                        all_goals (first | rfl | omega | (exfalso; omega))
                    · refine aw_iconst (pc := 106) dX9_placeOf_106 ?_
                      refine aw_goto (pc := 107) (tgt := 126) dX9_placeOf_107 rfl ?_
                      refine aw_ireturn (pc := 126) dX9_placeOf_126 rfl ⟨Nat.zero_le _, Nat.zero_le _⟩ ?_
                      first | rw [z_bl_n] at h89 | rw [z_bl_0] at h89 | skip
                      first | rw [z_bl_n] at h103 | rw [z_bl_0] at h103 | skip
                      refine ⟨congrArg (fun x => some (zi x)) ?_, rfl, rfl, rfl, rfl⟩
                      rw [if_neg (by omega)]
                      unfold z_plv z_rfS z_pos
                      repeat' split
                      all_goals (first | rfl | omega | (exfalso; omega))
                  · refine aw_aload_n (pc := 84) dX9_placeOf_84 rfl ?_
                    refine aw_iload_n (pc := 85) dX9_placeOf_85 rfl ?_
                    refine aw_qV (pc := 86) (d := m_X9_isRow) (c_X9_isRow (by omega) hi) k_X9_isRow dX9_placeOf_86 k_ml_X9_75 rfl ⟨rfl, rfl⟩ (by omega) (by first | rfl | exact z_shr _ (by omega) | exact z_shc0 (by omega) | exact z_shc1 (by omega) | exact z_shc2 (by omega) | exact z_shc3 (by omega) | exact z_shc4 (by omega)) rfl ⟨Nat.le_of_ble_eq_true rfl, Nat.le_of_ble_eq_true rfl⟩ ⟨Nat.zero_le _, Nat.zero_le _⟩ rfl (Nat.le_of_ble_eq_true rfl) (z_Pk ?_)
                    refine aw_if_eq (pc := 89) (tgt := 96) dX9_placeOf_89 rfl (by first | omega | exact z_bl_r _) (fun h89 => ?_) (fun h89 => ?_)
                    · refine aw_iconst (pc := 96) dX9_placeOf_96 ?_
                      refine aw_ireturn (pc := 97) dX9_placeOf_97 rfl ⟨Nat.zero_le _, Nat.zero_le _⟩ ?_
                      first | rw [z_bl_n] at h89 | rw [z_bl_0] at h89 | skip
                      first | rw [z_bl_n] at h103 | rw [z_bl_0] at h103 | skip
                      refine ⟨congrArg (fun x => some (zi x)) ?_, rfl, rfl, rfl, rfl⟩
                      rw [if_neg (by omega)]
                      unfold z_plv z_rfS z_pos
                      repeat' split
                      all_goals (first | rfl | omega | (exfalso; omega))
                    · refine aw_iload_n (pc := 92) dX9_placeOf_92 rfl ?_
                      refine aw_goto (pc := 93) (tgt := 97) dX9_placeOf_93 rfl ?_
                      refine aw_ireturn (pc := 97) dX9_placeOf_97 rfl ⟨Nat.zero_le _, Nat.zero_le _⟩ ?_
                      first | rw [z_bl_n] at h89 | rw [z_bl_0] at h89 | skip
                      first | rw [z_bl_n] at h103 | rw [z_bl_0] at h103 | skip
                      refine ⟨congrArg (fun x => some (zi x)) ?_, rfl, rfl, rfl, rfl⟩
                      rw [if_neg (by omega)]
                      unfold z_plv z_rfS z_pos
                      repeat' split
                      all_goals (first | rfl | omega | (exfalso; omega))
                · refine aw_iload_n (pc := 59) dX9_placeOf_59 rfl ?_
                  refine aw_if_eq (pc := 60) (tgt := 68) dX9_placeOf_60 rfl (by first | omega | exact z_bl_r _) (fun h60 => ?_) (fun h60 => ?_)
                  · refine aw_iload_n (pc := 68) dX9_placeOf_68 rfl ?_
                    refine aw_iconst (pc := 69) dX9_placeOf_69 ?_
                    refine aw_icmp_ne (pc := 70) (tgt := 78) dX9_placeOf_70 rfl (by first | omega | exact z_bl_r _) (by first | omega | exact z_bl_r _) (fun h70 => ?_) (fun h70 => ?_)
                    · refine aw_iconst (pc := 78) dX9_placeOf_78 ?_
                      refine aw_ireturn (pc := 79) dX9_placeOf_79 rfl ⟨Nat.zero_le _, Nat.zero_le _⟩ ?_
                      first | rw [z_bl_n] at h89 | rw [z_bl_0] at h89 | skip
                      first | rw [z_bl_n] at h103 | rw [z_bl_0] at h103 | skip
                      refine ⟨congrArg (fun x => some (zi x)) ?_, rfl, rfl, rfl, rfl⟩
                      rw [if_neg (by omega)]
                      unfold z_plv z_rfS z_pos
                      repeat' split
                      all_goals (first | rfl | omega | (exfalso; omega))
                    · refine aw_bipush (pc := 73) dX9_placeOf_73 rfl ?_
                      refine aw_goto (pc := 75) (tgt := 79) dX9_placeOf_75 rfl ?_
                      refine aw_ireturn (pc := 79) dX9_placeOf_79 rfl ⟨Nat.zero_le _, Nat.zero_le _⟩ ?_
                      first | rw [z_bl_n] at h89 | rw [z_bl_0] at h89 | skip
                      first | rw [z_bl_n] at h103 | rw [z_bl_0] at h103 | skip
                      refine ⟨congrArg (fun x => some (zi x)) ?_, rfl, rfl, rfl, rfl⟩
                      rw [if_neg (by omega)]
                      unfold z_plv z_rfS z_pos
                      repeat' split
                      all_goals (first | rfl | omega | (exfalso; omega))
                  · refine aw_bipush (pc := 63) dX9_placeOf_63 rfl ?_
                    refine aw_goto (pc := 65) (tgt := 79) dX9_placeOf_65 rfl ?_
                    refine aw_ireturn (pc := 79) dX9_placeOf_79 rfl ⟨Nat.zero_le _, Nat.zero_le _⟩ ?_
                    first | rw [z_bl_n] at h89 | rw [z_bl_0] at h89 | skip
                    first | rw [z_bl_n] at h103 | rw [z_bl_0] at h103 | skip
                    refine ⟨congrArg (fun x => some (zi x)) ?_, rfl, rfl, rfl, rfl⟩
                    rw [if_neg (by omega)]
                    unfold z_plv z_rfS z_pos
                    repeat' split
                    all_goals (first | rfl | omega | (exfalso; omega))
            · refine aw_iconst (pc := 46) dX9_placeOf_46 ?_
              refine aw_ireturn (pc := 47) dX9_placeOf_47 rfl ⟨Nat.zero_le _, Nat.zero_le _⟩ ?_
              first | rw [z_bl_n] at h89 | rw [z_bl_0] at h89 | skip
              first | rw [z_bl_n] at h103 | rw [z_bl_0] at h103 | skip
              refine ⟨congrArg (fun x => some (zi x)) ?_, rfl, rfl, rfl, rfl⟩
              rw [if_neg (by omega)]
              unfold z_plv z_rfS z_pos
              repeat' split
              all_goals (first | rfl | omega | (exfalso; omega))
      · refine aw_bipush (pc := 19) dX9_placeOf_19 rfl ?_
        refine aw_ireturn (pc := 21) dX9_placeOf_21 rfl ⟨Nat.zero_le _, Nat.zero_le _⟩ ?_
        first | rw [z_bl_n] at h89 | rw [z_bl_0] at h89 | skip
        first | rw [z_bl_n] at h103 | rw [z_bl_0] at h103 | skip
        refine ⟨congrArg (fun x => some (zi x)) ?_, rfl, rfl, rfl, rfl⟩
        rw [if_neg (by omega)]
        unfold z_plv z_rfS z_pos
        repeat' split
        all_goals (first | rfl | omega | (exfalso; omega))
  · refine aw_iconst (pc := 8) dX9_placeOf_8 ?_
    refine aw_ireturn (pc := 9) dX9_placeOf_9 rfl ⟨Nat.zero_le _, Nat.zero_le _⟩ ?_
    first | rw [z_bl_n] at h5 | rw [z_bl_0] at h5 | skip
    exact ⟨by rw [if_pos (by omega)], rfl, rfl, rfl, rfl⟩
set_option maxHeartbeats 4000000 in
theorem c_X9_proof {π : Nat → Nat} {I J : AwI} {m : z_MM} {L : List z_CC} {t : Int} {k w i : Int} (hI : z_RI I J m L t) (hk : -2147483648 ≤ k ∧ k ≤ 2147483647) (hw : -2147483648 ≤ w ∧ w ≤ 2147483647) (hi : -2147483648 ≤ i ∧ i ≤ 2147483647) : CT m_X9_proof [zr 237, zi k, zi w, zi i] 255 I J (z_R π) (z_PR π (z_rPf m L t k w i) I J) := by
  refine CT.of (by decide) (Nat.le_of_ble_eq_true rfl) ?_
  show AW _ 0 0 _ 0 [some (zr 237), some (zi k), some (zi w), some (zi i), none] [] _ _ _
  refine aw_aload_n (pc := 0) dX9_proof_0 rfl ?_
  refine aw_iconst (pc := 1) dX9_proof_1 ?_
  refine aw_putI (pc := 2) dX9_proof_2 k_fl_X9_63 rfl (by omega) (by first | rfl | exact z_shr _ (by omega) | exact z_shc0 (by omega) | exact z_shc1 (by omega) | exact z_shc2 (by omega) | exact z_shc3 (by omega) | exact z_shc4 (by omega)) ?_
  have hIc := hI.code (v := 0)
  have hfc : z_FQ I J (z_up I 237 15 0) J := z_FQ.code
  have c15 : z_up I 237 15 0 237 15 = 0 := z_up_s _ _ _ _
  generalize z_up I 237 15 0 = Ic at hIc hfc c15 ⊢
  obtain ⟨hM1, hm1, e0, e4, elo, ehi, ept, eF, ert, hmb, hptb, hF0⟩ := hIc.rds
  have hN8 := hmb.1
  have hR10 := hmb.2.1
  have hC := hIc.2.2.2.1
  have hct := hC.n
  have eL := hIc.2.2.2.2.1.1
  refine aw_aload_n (pc := 5) dX9_proof_5 rfl ?_
  refine aw_iload_n (pc := 6) dX9_proof_6 rfl ?_
  refine aw_iload_n (pc := 7) dX9_proof_7 rfl ?_
  refine aw_iload_n (pc := 8) dX9_proof_8 rfl ?_
  refine aw_qV (pc := 9) (d := m_X9_placeOf) (c_X9_placeOf hIc hk hw hi) k_X9_placeOf dX9_proof_9 k_ml_X9_178 rfl ⟨rfl, rfl⟩ (by omega) (by first | rfl | exact z_shr _ (by omega) | exact z_shc0 (by omega) | exact z_shc1 (by omega) | exact z_shc2 (by omega) | exact z_shc3 (by omega) | exact z_shc4 (by omega)) rfl ⟨Nat.le_of_ble_eq_true rfl, Nat.le_of_ble_eq_true rfl⟩ ⟨Nat.zero_le _, Nat.zero_le _⟩ rfl (Nat.le_of_ble_eq_true rfl) (z_Pk ?_)
  have hvb : -2 ≤ (if ¬ (0 ≤ k ∧ k < (L.length : Int)) then -1 else z_plv m (cK (z_g L k.toNat)) w i) ∧ (if ¬ (0 ≤ k ∧ k < (L.length : Int)) then -1 else z_plv m (cK (z_g L k.toNat)) w i) ≤ 26 := by
    have b1 := z_rfS_b m (cK (z_g L k.toNat)) w i
    by_cases q1 : ¬ (0 ≤ k ∧ k < (L.length : Int))
    · rw [if_pos q1]; omega
    · rw [if_neg q1]
      unfold z_plv
      by_cases q2 : z_rfS m (cK (z_g L k.toNat)) w i = 0
      · rw [if_pos q2]; have := z_pos_b hN8 hR10 q2; omega
      · rw [if_neg q2]; omega
  refine aw_istore (pc := 12) (lv' := [_, _, _, _, _]) dX9_proof_12 (Nat.le_of_ble_eq_true rfl) rfl ?_
  refine aw_iload (pc := 14) dX9_proof_14 rfl ?_
  refine aw_if_ge (pc := 16) (tgt := 24) dX9_proof_16 rfl (by first | omega | exact z_bl_r _) (fun h16 => ?_) (fun h16 => ?_)
  · have hin : 0 ≤ k ∧ k < (L.length : Int) := by by_cases q1 : 0 ≤ k ∧ k < (L.length : Int); (exact q1); (rw [if_pos q1] at h16; omega)
    rw [if_neg (fun q => q hin)] at h16 hvb ⊢
    have b1 := z_rfS_b m (cK (z_g L k.toNat)) w i
    have q2 : z_rfS m (cK (z_g L k.toNat)) w i = 0 := by unfold z_plv at h16; by_cases q3 : z_rfS m (cK (z_g L k.toNat)) w i = 0; (exact q3); (rw [if_neg q3] at h16; omega)
    rw [show z_plv m (cK (z_g L k.toNat)) w i = ((z_pos (cK (z_g L k.toNat)) w i : Nat) : Int) from if_pos q2] at hvb ⊢
    have hkL : k.toNat < L.length := by omega
    refine aw_aload_n (pc := 24) dX9_proof_24 rfl ?_
    refine aw_getR (pc := 25) dX9_proof_25 k_fl_X9_38 rfl (by omega) (by first | rfl | exact z_shr _ (by omega) | exact z_shc0 (by omega) | exact z_shc1 (by omega) | exact z_shc2 (by omega) | exact z_shc3 (by omega) | exact z_shc4 (by omega)) (by first | rfl | exact z_Rc0 _ (by omega) | exact z_Rc1 _ (by omega) | exact z_Rc2 _ (by omega) | exact z_Rc3 _ (by omega)) ?_
    refine aw_bipush (pc := 28) dX9_proof_28 rfl ?_
    refine aw_iload_n (pc := 30) dX9_proof_30 rfl ?_
    refine aw_imul (pc := 31) dX9_proof_31 ?_
    refine aw_iload (pc := 32) dX9_proof_32 rfl ?_
    refine aw_iadd (pc := 34) dX9_proof_34 ?_
    refine aw_ialoadV (pc := 35) (v := cS (z_g L k.toNat) (z_pos (cK (z_g L k.toNat)) w i)) dX9_proof_35 (by omega) (Nat.le_refl _) (by first | rfl | exact z_shr _ (by omega) | exact z_shc0 (by omega) | exact z_shc1 (by omega) | exact z_shc2 (by omega) | exact z_shc3 (by omega) | exact z_shc4 (by omega)) (by omega) (by rw [show ((27 : Int) * k + ((z_pos (cK (z_g L k.toNat)) w i : Nat) : Int)).toNat = 27 * k.toNat + z_pos (cK (z_g L k.toNat)) w i by omega]; exact z_rf_shw (hIc.at hkL) (hIc.kd hkL) q2) ?_
    exact aw_ireturn (pc := 36) dX9_proof_36 rfl ⟨Nat.zero_le _, Nat.zero_le _⟩ (z_PRr ((if_neg (fun q => q hin)).trans (by rw [if_pos q2])) hIc hfc)
  · refine aw_iload (pc := 19) dX9_proof_19 rfl ?_
    refine aw_goto (pc := 21) (tgt := 36) dX9_proof_21 rfl ?_
    by_cases q1 : ¬ (0 ≤ k ∧ k < (L.length : Int))
    · rw [if_pos q1]
      exact aw_ireturn (pc := 36) dX9_proof_36 rfl ⟨Nat.zero_le _, Nat.zero_le _⟩ (z_PRr (if_pos q1) hIc hfc)
    · rw [if_neg q1] at h16 ⊢
      have q2 : ¬ z_rfS m (cK (z_g L k.toNat)) w i = 0 := fun q => by unfold z_plv at h16; rw [if_pos q] at h16; omega
      rw [show z_plv m (cK (z_g L k.toNat)) w i = z_rfS m (cK (z_g L k.toNat)) w i from if_neg q2]
      exact aw_ireturn (pc := 36) dX9_proof_36 rfl ⟨Nat.zero_le _, Nat.zero_le _⟩ (z_PRr ((if_neg q1).trans (by rw [if_neg q2])) hIc hfc)
set_option maxHeartbeats 4000000 in
theorem c_X9_plant {π : Nat → Nat} {I J : AwI} {m : z_MM} {L : List z_CC} {t : Int} {k w i v : Int} (hI : z_RI I J m L t) (hk : -2147483648 ≤ k ∧ k ≤ 2147483647) (hw : -2147483648 ≤ w ∧ w ≤ 2147483647) (hi : -2147483648 ≤ i ∧ i ≤ 2147483647) (hv : -2147483648 ≤ v ∧ v ≤ 2147483647) : CT m_X9_plant [zr 237, zi k, zi w, zi i, zi v] 255 I J (z_R π) (z_PR π (z_rPl m L t k w i v) I J) := by
  refine CT.of (by decide) (Nat.le_of_ble_eq_true rfl) ?_
  show AW _ 0 0 _ 0 [some (zr 237), some (zi k), some (zi w), some (zi i), some (zi v), none] [] _ _ _
  refine aw_aload_n (pc := 0) dX9_plant_0 rfl ?_
  refine aw_iconst (pc := 1) dX9_plant_1 ?_
  refine aw_putI (pc := 2) dX9_plant_2 k_fl_X9_63 rfl (by omega) (by first | rfl | exact z_shr _ (by omega) | exact z_shc0 (by omega) | exact z_shc1 (by omega) | exact z_shc2 (by omega) | exact z_shc3 (by omega) | exact z_shc4 (by omega)) ?_
  have hIc := hI.code (v := 0)
  have hfc : z_FQ I J (z_up I 237 15 0) J := z_FQ.code
  have c15 : z_up I 237 15 0 237 15 = 0 := z_up_s _ _ _ _
  generalize z_up I 237 15 0 = Ic at hIc hfc c15 ⊢
  obtain ⟨hM1, hm1, e0, e4, elo, ehi, ept, eF, ert, hmb, hptb, hF0⟩ := hIc.rds
  have hN8 := hmb.1
  have hR10 := hmb.2.1
  have hC := hIc.2.2.2.1
  have hct := hC.n
  have eL := hIc.2.2.2.2.1.1
  refine aw_aload_n (pc := 5) dX9_plant_5 rfl ?_
  refine aw_iload_n (pc := 6) dX9_plant_6 rfl ?_
  refine aw_qV (pc := 7) (d := m_X9_isCut) (c_X9_isCut hct hk) k_X9_isCut dX9_plant_7 k_ml_X9_175 rfl ⟨rfl, rfl⟩ (by omega) (by first | rfl | exact z_shr _ (by omega) | exact z_shc0 (by omega) | exact z_shc1 (by omega) | exact z_shc2 (by omega) | exact z_shc3 (by omega) | exact z_shc4 (by omega)) rfl ⟨Nat.le_of_ble_eq_true rfl, Nat.le_of_ble_eq_true rfl⟩ ⟨Nat.zero_le _, Nat.zero_le _⟩ rfl (Nat.le_of_ble_eq_true rfl) (z_Pk ?_)
  refine aw_if_eq (pc := 10) (tgt := 25) dX9_plant_10 rfl (by first | omega | exact z_bl_r _) (fun h10 => ?_) (fun h10 => ?_)
  · refine aw_iconst (pc := 25) dX9_plant_25 ?_
    refine aw_ireturn (pc := 26) dX9_plant_26 rfl ⟨Nat.zero_le _, Nat.zero_le _⟩ ?_
    first | rw [z_bl_n] at h10 | rw [z_bl_0] at h10 | skip
    first | rw [z_bl_n] at h22 | rw [z_bl_0] at h22 | skip
    by_cases q1 : ¬ (0 ≤ k ∧ k < (L.length : Int))
    · exact z_PRr (if_pos q1) hIc hfc
    · have er : z_rfP m (cK (z_g L k.toNat)) w i = -1 := by unfold z_rfP; rw [if_pos (by omega), if_neg (by omega)]
      exact z_PRr ((if_neg q1).trans (by rw [if_pos (by omega), er])) hIc hfc
  · refine aw_iload_n (pc := 13) dX9_plant_13 rfl ?_
    refine aw_if_ne (pc := 14) (tgt := 27) dX9_plant_14 rfl (by first | omega | exact z_bl_r _) (fun h14 => ?_) (fun h14 => ?_)
    · first | rw [z_bl_n] at h10 | rw [z_bl_0] at h10 | skip
      first | rw [z_bl_n] at h22 | rw [z_bl_0] at h22 | skip
      have hin : 0 ≤ k ∧ k < (L.length : Int) := by omega
      have hkL : k.toNat < L.length := by omega
      have b1 := z_rfS_b m (cK (z_g L k.toNat)) (w - 2) i
      have main : ∀ pp : Int, (-2 ≤ pp ∧ pp ≤ 26) → (pp < 0 → z_rfP m (cK (z_g L k.toNat)) w i = pp) → (0 ≤ pp → z_rfP m (cK (z_g L k.toNat)) w i = 0 ∧ (2 ≤ w → pp = ((z_pos (cK (z_g L k.toNat)) (w - 2) i : Nat) : Int)) ∧ (w = 0 → 0 ≤ i ∧ i < (mN m : Int)) ∧ 0 ≤ w) → AW (FM m_X9_plant (z_PR π (z_rPl m L t k w i v) I J)) 0 0 255 71 [some (zr 237), some (zi k), some (zi w), some (zi i), some (zi v), none] [zi pp] Ic J (z_R π) := by
        intro pp hpb hp1 hp2
        refine aw_istore (pc := 71) (lv' := [_, _, _, _, _, _]) dX9_plant_71 (Nat.le_of_ble_eq_true rfl) rfl ?_
        refine aw_iload (pc := 73) dX9_plant_73 rfl ?_
        refine aw_iconst (pc := 75) dX9_plant_75 ?_
        refine aw_icmp_ne (pc := 76) (tgt := 81) dX9_plant_76 rfl (by first | omega | exact z_bl_r _) (by first | omega | exact z_bl_r _) (fun h76 => ?_) (fun h76 => ?_)
        · refine aw_iload (pc := 81) dX9_plant_81 rfl ?_
          refine aw_bipush (pc := 83) dX9_plant_83 rfl ?_
          refine aw_icmp_eq (pc := 85) (tgt := 104) dX9_plant_85 rfl (by first | omega | exact z_bl_r _) (by first | omega | exact z_bl_r _) (fun h85 => ?_) (fun h85 => ?_)
          · refine aw_bipush (pc := 104) dX9_plant_104 rfl ?_
            refine aw_ireturn (pc := 106) dX9_plant_106 rfl ⟨Nat.zero_le _, Nat.zero_le _⟩ ?_
            by_cases q0 : pp < 0
            · have := hp1 q0
              exact z_PRr ((if_neg (fun q => q hin)).trans (by rw [if_pos (by omega), this, show pp = -2 by omega])) hIc hfc
            · have := hp2 (by omega)
              exact z_PRr ((if_neg (fun q => q hin)).trans (by rw [if_neg (by omega), if_pos (by omega)])) hIc hfc
          · refine aw_iload (pc := 88) dX9_plant_88 rfl ?_
            refine aw_sipush (pc := 90) dX9_plant_90 rfl ?_
            refine aw_icmp_lt (pc := 93) (tgt := 104) dX9_plant_93 rfl (by first | omega | exact z_bl_r _) (by first | omega | exact z_bl_r _) (fun h93 => ?_) (fun h93 => ?_)
            · refine aw_bipush (pc := 104) dX9_plant_104 rfl ?_
              refine aw_ireturn (pc := 106) dX9_plant_106 rfl ⟨Nat.zero_le _, Nat.zero_le _⟩ ?_
              by_cases q0 : pp < 0
              · have := hp1 q0
                exact z_PRr ((if_neg (fun q => q hin)).trans (by rw [if_pos (by omega), this, show pp = -2 by omega])) hIc hfc
              · have := hp2 (by omega)
                exact z_PRr ((if_neg (fun q => q hin)).trans (by rw [if_neg (by omega), if_pos (by omega)])) hIc hfc
            · refine aw_iload (pc := 96) dX9_plant_96 rfl ?_
              refine aw_sipush (pc := 98) dX9_plant_98 rfl ?_
              refine aw_icmp_le (pc := 101) (tgt := 107) dX9_plant_101 rfl (by first | omega | exact z_bl_r _) (by first | omega | exact z_bl_r _) (fun h101 => ?_) (fun h101 => ?_)
              · obtain ⟨p1, p2, p3, p4⟩ := hp2 (by omega)
                have hrz : z_rPl m L t k w i v = (1, m, L.set k.toNat (z_pl (z_g L k.toNat) w i v), t) := (if_neg (fun q => q hin)).trans (by rw [if_neg (by omega), if_neg (by omega)])
                have hD := hIc.at hkL
                refine aw_iload_n (pc := 107) dX9_plant_107 rfl ?_
                refine aw_if_ne (pc := 108) (tgt := 128) dX9_plant_108 rfl (by first | omega | exact z_bl_r _) (fun h108 => ?_) (fun h108 => ?_)
                · refine aw_iload_n (pc := 128) dX9_plant_128 rfl ?_
                  refine aw_iconst (pc := 129) dX9_plant_129 ?_
                  refine aw_icmp_ne (pc := 130) (tgt := 145) dX9_plant_130 rfl (by first | omega | exact z_bl_r _) (by first | omega | exact z_bl_r _) (fun h130 => ?_) (fun h130 => ?_)
                  · refine aw_aload_n (pc := 145) dX9_plant_145 rfl ?_
                    refine aw_getR (pc := 146) dX9_plant_146 k_fl_X9_38 rfl (by omega) (by first | rfl | exact z_shr _ (by omega) | exact z_shc0 (by omega) | exact z_shc1 (by omega) | exact z_shc2 (by omega) | exact z_shc3 (by omega) | exact z_shc4 (by omega)) (by first | rfl | exact z_Rc0 _ (by omega) | exact z_Rc1 _ (by omega) | exact z_Rc2 _ (by omega) | exact z_Rc3 _ (by omega)) ?_
                    refine aw_bipush (pc := 149) dX9_plant_149 rfl ?_
                    refine aw_iload_n (pc := 151) dX9_plant_151 rfl ?_
                    refine aw_imul (pc := 152) dX9_plant_152 ?_
                    refine aw_iload (pc := 153) dX9_plant_153 rfl ?_
                    refine aw_iadd (pc := 155) dX9_plant_155 ?_
                    refine aw_iload (pc := 156) dX9_plant_156 rfl ?_
                    refine aw_iastore (pc := 158) dX9_plant_158 (by omega) (Nat.le_refl _) (by first | rfl | exact z_shr _ (by omega) | exact z_shc0 (by omega) | exact z_shc1 (by omega) | exact z_shc2 (by omega) | exact z_shc3 (by omega) | exact z_shc4 (by omega)) (by omega) ?_
                    have ep := p2 (by omega)
                    have h2S : z_rfS m (cK (z_g L k.toNat)) (w - 2) i = 0 := by unfold z_rfP at p1; by_cases q5 : 2 ≤ w ∧ w ≤ 5; (rw [if_neg (by omega), if_neg (by omega), if_pos q5] at p1; exact p1); (rw [if_neg (by omega), if_neg (by omega), if_neg q5] at p1; omega)
                    obtain ⟨g1, g2, g3, g4⟩ := z_rfS_0 h2S
                    have hpb2 := z_pos_b hN8 hR10 h2S
                    rw [ep, show ((27 : Int) * k + ((z_pos (cK (z_g L k.toNat)) (w - 2) i : Nat) : Int)).toNat = 27 * k.toNat + z_pos (cK (z_g L k.toNat)) (w - 2) i by omega]
                    refine aw_iconst (pc := 159) dX9_plant_159 ?_
                    refine aw_ireturn (pc := 160) dX9_plant_160 rfl ⟨Nat.zero_le _, Nat.zero_le _⟩ ?_
                    refine z_PRr hrz (hIc.put hkL (fun a j q => by show (if a = 247 ∧ j = _ then _ else _) = _; rw [if_neg (by omega)]) (fun _ _ _ _ => rfl) hC.f hC.r (fun j => by have := hC.s j; unfold z_up; split <;> omega) ?_) (hfc.upI (by omega))
                    unfold z_pl
                    rw [if_neg (by omega), if_neg (by omega)]
                    obtain ⟨d1, d2, d3, d4, d5, d6⟩ := hD
                    have key : ∀ j, z_up Ic 247 (27 * k.toNat + z_pos (cK (z_g L k.toNat)) (w - 2) i) v 247 (27 * k.toNat + j) = if j = z_pos (cK (z_g L k.toNat)) (w - 2) i then v else Ic 247 (27 * k.toNat + j) := fun j => by
                      unfold z_up
                      by_cases e : j = z_pos (cK (z_g L k.toNat)) (w - 2) i
                      · rw [if_pos ⟨rfl, by omega⟩, if_pos e]
                      · rw [if_neg (by omega), if_neg e]
                    have kz : z_up Ic 247 (27 * k.toNat + z_pos (cK (z_g L k.toNat)) (w - 2) i) v 247 (27 * k.toNat) = if 0 = z_pos (cK (z_g L k.toNat)) (w - 2) i then v else Ic 247 (27 * k.toNat) := key 0
                    refine ⟨d1, d2, by rw [z_up_a _ _ (by omega)]; exact d3, by rw [z_up_a _ _ (by omega)]; exact d4, fun q => ?_, fun q => ?_⟩
                    · obtain ⟨a1, a2, a3, a4⟩ := d5 q
                      refine ⟨fun r hr => ?_, fun n hn => ?_, fun n hn => ?_, ?_⟩
                      · rw [key, a1 r hr]; rfl
                      · rw [key, a2 n hn]; rfl
                      · rw [key, a3 n hn]; rfl
                      · rw [key, a4]; rfl
                    · rw [kz, d6 q]; rfl
                  · refine aw_aload_n (pc := 133) dX9_plant_133 rfl ?_
                    refine aw_getR (pc := 134) dX9_plant_134 k_fl_X9_29 rfl (by omega) (by first | rfl | exact z_shr _ (by omega) | exact z_shc0 (by omega) | exact z_shc1 (by omega) | exact z_shc2 (by omega) | exact z_shc3 (by omega) | exact z_shc4 (by omega)) (by first | rfl | exact z_Rc0 _ (by omega) | exact z_Rc1 _ (by omega) | exact z_Rc2 _ (by omega) | exact z_Rc3 _ (by omega)) ?_
                    refine aw_iload_n (pc := 137) dX9_plant_137 rfl ?_
                    refine aw_iload (pc := 138) dX9_plant_138 rfl ?_
                    refine aw_i2l (pc := 140) dX9_plant_140 (by omega) ?_
                    refine aw_lastore (pc := 141) dX9_plant_141 (by omega) (Nat.le_refl _) (by first | rfl | exact z_shr _ (by omega) | exact z_shc0 (by omega) | exact z_shc1 (by omega) | exact z_shc2 (by omega) | exact z_shc3 (by omega) | exact z_shc4 (by omega)) (by first | omega | exact z_bl_r _) ?_
                    refine aw_goto (pc := 142) (tgt := 159) dX9_plant_142 rfl ?_
                    refine aw_iconst (pc := 159) dX9_plant_159 ?_
                    refine aw_ireturn (pc := 160) dX9_plant_160 rfl ⟨Nat.zero_le _, Nat.zero_le _⟩ ?_
                    refine z_PRr hrz (hIc.put hkL (fun _ _ _ => rfl) (fun a j q1 q2 => by show (if a = 244 ∧ j = _ then _ else _) = _; rw [if_neg (by omega)]) (fun j => by rw [z_up_a _ _ (by omega)]; exact hC.f j) (fun j => by have := hC.r j; unfold z_up; split <;> omega) hC.s ?_) (hfc.upJ (by omega))
                    unfold z_pl
                    rw [if_neg (by omega), if_pos (by omega)]
                    obtain ⟨d1, d2, d3, d4, d5, d6⟩ := hD
                    exact ⟨fun n hn => by rw [z_up_a _ _ (by omega)]; exact d1 n hn, by rw [z_up_s]; rfl, d3, d4, d5, d6⟩
                · refine aw_aload_n (pc := 111) dX9_plant_111 rfl ?_
                  refine aw_getR (pc := 112) dX9_plant_112 k_fl_X9_26 rfl (by omega) (by first | rfl | exact z_shr _ (by omega) | exact z_shc0 (by omega) | exact z_shc1 (by omega) | exact z_shc2 (by omega) | exact z_shc3 (by omega) | exact z_shc4 (by omega)) (by first | rfl | exact z_Rc0 _ (by omega) | exact z_Rc1 _ (by omega) | exact z_Rc2 _ (by omega) | exact z_Rc3 _ (by omega)) ?_
                  refine aw_bipush (pc := 115) dX9_plant_115 rfl ?_
                  refine aw_iload_n (pc := 117) dX9_plant_117 rfl ?_
                  refine aw_imul (pc := 118) dX9_plant_118 ?_
                  refine aw_iload_n (pc := 119) dX9_plant_119 rfl ?_
                  refine aw_iadd (pc := 120) dX9_plant_120 ?_
                  refine aw_iload (pc := 121) dX9_plant_121 rfl ?_
                  refine aw_i2l (pc := 123) dX9_plant_123 (by omega) ?_
                  refine aw_lastore (pc := 124) dX9_plant_124 (by omega) (Nat.le_refl _) (by first | rfl | exact z_shr _ (by omega) | exact z_shc0 (by omega) | exact z_shc1 (by omega) | exact z_shc2 (by omega) | exact z_shc3 (by omega) | exact z_shc4 (by omega)) (by have := p3 (by omega); omega) ?_
                  refine aw_goto (pc := 125) (tgt := 159) dX9_plant_125 rfl ?_
                  rw [show ((8 : Int) * k + i).toNat = 8 * k.toNat + i.toNat by omega]
                  refine aw_iconst (pc := 159) dX9_plant_159 ?_
                  refine aw_ireturn (pc := 160) dX9_plant_160 rfl ⟨Nat.zero_le _, Nat.zero_le _⟩ ?_
                  have hi8 := p3 (by omega)
                  refine z_PRr hrz (hIc.put hkL (fun _ _ _ => rfl) (fun a j q1 q2 => by show (if a = 243 ∧ j = _ then _ else _) = _; rw [if_neg (by omega)]) (fun j => by have := hC.f j; unfold z_up; split <;> omega) (fun j => by rw [z_up_a _ _ (by omega)]; exact hC.r j) hC.s ?_) (hfc.upJ (by omega))
                  unfold z_pl
                  rw [if_pos (by omega)]
                  obtain ⟨d1, d2, d3, d4, d5, d6⟩ := hD
                  refine ⟨fun n hn => ?_, by rw [z_up_a _ _ (by omega)]; exact d2, d3, d4, d5, d6⟩
                  show (if _ ∧ 8 * k.toNat + n = _ then v else _) = (if n = i.toNat then v else _)
                  by_cases e : n = i.toNat
                  · rw [if_pos ⟨rfl, by omega⟩, if_pos e]
                  · rw [if_neg (by omega), if_neg e]; exact d1 n hn
              · refine aw_bipush (pc := 104) dX9_plant_104 rfl ?_
                refine aw_ireturn (pc := 106) dX9_plant_106 rfl ⟨Nat.zero_le _, Nat.zero_le _⟩ ?_
                by_cases q0 : pp < 0
                · have := hp1 q0
                  exact z_PRr ((if_neg (fun q => q hin)).trans (by rw [if_pos (by omega), this, show pp = -2 by omega])) hIc hfc
                · have := hp2 (by omega)
                  exact z_PRr ((if_neg (fun q => q hin)).trans (by rw [if_neg (by omega), if_pos (by omega)])) hIc hfc
        · refine aw_iconst (pc := 79) dX9_plant_79 ?_
          refine aw_ireturn (pc := 80) dX9_plant_80 rfl ⟨Nat.zero_le _, Nat.zero_le _⟩ ?_
          have := hp1 (by omega)
          exact z_PRr ((if_neg (fun q => q hin)).trans (by rw [if_pos (by omega), this, h76])) hIc hfc
      refine aw_iload_n (pc := 27) dX9_plant_27 rfl ?_
      refine aw_if_ge (pc := 28) (tgt := 36) dX9_plant_28 rfl (by first | omega | exact z_bl_r _) (fun h28 => ?_) (fun h28 => ?_)
      · refine aw_iload_n (pc := 36) dX9_plant_36 rfl ?_
        refine aw_if_ne (pc := 37) (tgt := 44) dX9_plant_37 rfl (by first | omega | exact z_bl_r _) (fun h37 => ?_) (fun h37 => ?_)
        · refine aw_iload_n (pc := 44) dX9_plant_44 rfl ?_
          refine aw_iconst (pc := 45) dX9_plant_45 ?_
          refine aw_icmp_ne (pc := 46) (tgt := 62) dX9_plant_46 rfl (by first | omega | exact z_bl_r _) (by first | omega | exact z_bl_r _) (fun h46 => ?_) (fun h46 => ?_)
          · refine aw_aload_n (pc := 62) dX9_plant_62 rfl ?_
            refine aw_iload_n (pc := 63) dX9_plant_63 rfl ?_
            refine aw_iload_n (pc := 64) dX9_plant_64 rfl ?_
            refine aw_iconst (pc := 65) dX9_plant_65 ?_
            refine aw_isub (pc := 66) dX9_plant_66 ?_
            refine aw_iload_n (pc := 67) dX9_plant_67 rfl ?_
            refine aw_qV (pc := 68) (d := m_X9_placeOf) (c_X9_placeOf hIc hk (by omega) hi) k_X9_placeOf dX9_plant_68 k_ml_X9_178 rfl ⟨rfl, rfl⟩ (by omega) (by first | rfl | exact z_shr _ (by omega) | exact z_shc0 (by omega) | exact z_shc1 (by omega) | exact z_shc2 (by omega) | exact z_shc3 (by omega) | exact z_shc4 (by omega)) rfl ⟨Nat.le_of_ble_eq_true rfl, Nat.le_of_ble_eq_true rfl⟩ ⟨Nat.zero_le _, Nat.zero_le _⟩ rfl (Nat.le_of_ble_eq_true rfl) (z_Pk ?_)
            rw [if_neg (fun q => q hin)]
            by_cases q2 : z_rfS m (cK (z_g L k.toNat)) (w - 2) i = 0
            · rw [show z_plv m (cK (z_g L k.toNat)) (w - 2) i = ((z_pos (cK (z_g L k.toNat)) (w - 2) i : Nat) : Int) from if_pos q2]
              have := z_pos_b hN8 hR10 q2
              obtain ⟨g1, g2, g3, g4⟩ := z_rfS_0 q2
              exact main _ (by omega) (fun q => by omega) (fun _ => ⟨by unfold z_rfP; rw [if_neg (by omega), if_neg (by omega), if_pos (by omega)]; exact q2, fun _ => rfl, fun q => by omega, by omega⟩)
            · rw [show z_plv m (cK (z_g L k.toNat)) (w - 2) i = z_rfS m (cK (z_g L k.toNat)) (w - 2) i from if_neg q2]
              refine main _ (by omega) (fun q => ?_) (fun q => by omega)
              unfold z_rfP
              by_cases q5 : 2 ≤ w ∧ w ≤ 5
              · rw [if_neg (by omega), if_neg (by omega), if_pos q5]
              · rw [if_neg (by omega), if_neg (by omega), if_neg q5]; unfold z_rfS; rw [if_pos (by omega)]
          · refine aw_iload_n (pc := 49) dX9_plant_49 rfl ?_
            refine aw_if_ne (pc := 50) (tgt := 57) dX9_plant_50 rfl (by first | omega | exact z_bl_r _) (fun h50 => ?_) (fun h50 => ?_)
            · refine aw_bipush (pc := 57) dX9_plant_57 rfl ?_
              refine aw_goto (pc := 59) (tgt := 71) dX9_plant_59 rfl ?_
              have er : z_rfP m (cK (z_g L k.toNat)) w i = -2 := by
                unfold z_rfP
                repeat' split
                all_goals (first | rfl | omega | (exfalso; omega))
              exact main (-2) (by omega) (fun _ => er) (fun q => by omega)
            · refine aw_iconst (pc := 53) dX9_plant_53 ?_
              refine aw_goto (pc := 54) (tgt := 71) dX9_plant_54 rfl ?_
              have er : z_rfP m (cK (z_g L k.toNat)) w i = 0 := by
                unfold z_rfP
                repeat' split
                all_goals (first | rfl | omega | (exfalso; omega))
              exact main 0 (by omega) (fun q => by omega) (fun _ => ⟨er, fun q => by omega, fun q => by omega, by omega⟩)
        · refine aw_iconst (pc := 40) dX9_plant_40 ?_
          refine aw_goto (pc := 41) (tgt := 71) dX9_plant_41 rfl ?_
          have er : z_rfP m (cK (z_g L k.toNat)) w i = 0 := by
            unfold z_rfP
            repeat' split
            all_goals (first | rfl | omega | (exfalso; omega))
          exact main 0 (by omega) (fun q => by omega) (fun _ => ⟨er, fun q => by omega, fun q => by omega, by omega⟩)
      · refine aw_bipush (pc := 31) dX9_plant_31 rfl ?_
        refine aw_goto (pc := 33) (tgt := 71) dX9_plant_33 rfl ?_
        have er : z_rfP m (cK (z_g L k.toNat)) w i = -2 := by
          unfold z_rfP
          repeat' split
          all_goals (first | rfl | omega | (exfalso; omega))
        exact main (-2) (by omega) (fun _ => er) (fun q => by omega)
    · refine aw_aload_n (pc := 17) dX9_plant_17 rfl ?_
      refine aw_iload_n (pc := 18) dX9_plant_18 rfl ?_
      refine aw_qV (pc := 19) (d := m_X9_isName) (c_X9_isName (by omega) hi) k_X9_isName dX9_plant_19 k_ml_X9_79 rfl ⟨rfl, rfl⟩ (by omega) (by first | rfl | exact z_shr _ (by omega) | exact z_shc0 (by omega) | exact z_shc1 (by omega) | exact z_shc2 (by omega) | exact z_shc3 (by omega) | exact z_shc4 (by omega)) rfl ⟨Nat.le_of_ble_eq_true rfl, Nat.le_of_ble_eq_true rfl⟩ ⟨Nat.zero_le _, Nat.zero_le _⟩ rfl (Nat.le_of_ble_eq_true rfl) (z_Pk ?_)
      refine aw_if_ne (pc := 22) (tgt := 27) dX9_plant_22 rfl (by first | omega | exact z_bl_r _) (fun h22 => ?_) (fun h22 => ?_)
      · first | rw [z_bl_n] at h10 | rw [z_bl_0] at h10 | skip
        first | rw [z_bl_n] at h22 | rw [z_bl_0] at h22 | skip
        have hin : 0 ≤ k ∧ k < (L.length : Int) := by omega
        have hkL : k.toNat < L.length := by omega
        have b1 := z_rfS_b m (cK (z_g L k.toNat)) (w - 2) i
        have main : ∀ pp : Int, (-2 ≤ pp ∧ pp ≤ 26) → (pp < 0 → z_rfP m (cK (z_g L k.toNat)) w i = pp) → (0 ≤ pp → z_rfP m (cK (z_g L k.toNat)) w i = 0 ∧ (2 ≤ w → pp = ((z_pos (cK (z_g L k.toNat)) (w - 2) i : Nat) : Int)) ∧ (w = 0 → 0 ≤ i ∧ i < (mN m : Int)) ∧ 0 ≤ w) → AW (FM m_X9_plant (z_PR π (z_rPl m L t k w i v) I J)) 0 0 255 71 [some (zr 237), some (zi k), some (zi w), some (zi i), some (zi v), none] [zi pp] Ic J (z_R π) := by
          intro pp hpb hp1 hp2
          refine aw_istore (pc := 71) (lv' := [_, _, _, _, _, _]) dX9_plant_71 (Nat.le_of_ble_eq_true rfl) rfl ?_
          refine aw_iload (pc := 73) dX9_plant_73 rfl ?_
          refine aw_iconst (pc := 75) dX9_plant_75 ?_
          refine aw_icmp_ne (pc := 76) (tgt := 81) dX9_plant_76 rfl (by first | omega | exact z_bl_r _) (by first | omega | exact z_bl_r _) (fun h76 => ?_) (fun h76 => ?_)
          · refine aw_iload (pc := 81) dX9_plant_81 rfl ?_
            refine aw_bipush (pc := 83) dX9_plant_83 rfl ?_
            refine aw_icmp_eq (pc := 85) (tgt := 104) dX9_plant_85 rfl (by first | omega | exact z_bl_r _) (by first | omega | exact z_bl_r _) (fun h85 => ?_) (fun h85 => ?_)
            · refine aw_bipush (pc := 104) dX9_plant_104 rfl ?_
              refine aw_ireturn (pc := 106) dX9_plant_106 rfl ⟨Nat.zero_le _, Nat.zero_le _⟩ ?_
              by_cases q0 : pp < 0
              · have := hp1 q0
                exact z_PRr ((if_neg (fun q => q hin)).trans (by rw [if_pos (by omega), this, show pp = -2 by omega])) hIc hfc
              · have := hp2 (by omega)
                exact z_PRr ((if_neg (fun q => q hin)).trans (by rw [if_neg (by omega), if_pos (by omega)])) hIc hfc
            · refine aw_iload (pc := 88) dX9_plant_88 rfl ?_
              refine aw_sipush (pc := 90) dX9_plant_90 rfl ?_
              refine aw_icmp_lt (pc := 93) (tgt := 104) dX9_plant_93 rfl (by first | omega | exact z_bl_r _) (by first | omega | exact z_bl_r _) (fun h93 => ?_) (fun h93 => ?_)
              · refine aw_bipush (pc := 104) dX9_plant_104 rfl ?_
                refine aw_ireturn (pc := 106) dX9_plant_106 rfl ⟨Nat.zero_le _, Nat.zero_le _⟩ ?_
                by_cases q0 : pp < 0
                · have := hp1 q0
                  exact z_PRr ((if_neg (fun q => q hin)).trans (by rw [if_pos (by omega), this, show pp = -2 by omega])) hIc hfc
                · have := hp2 (by omega)
                  exact z_PRr ((if_neg (fun q => q hin)).trans (by rw [if_neg (by omega), if_pos (by omega)])) hIc hfc
              · refine aw_iload (pc := 96) dX9_plant_96 rfl ?_
                refine aw_sipush (pc := 98) dX9_plant_98 rfl ?_
                refine aw_icmp_le (pc := 101) (tgt := 107) dX9_plant_101 rfl (by first | omega | exact z_bl_r _) (by first | omega | exact z_bl_r _) (fun h101 => ?_) (fun h101 => ?_)
                · obtain ⟨p1, p2, p3, p4⟩ := hp2 (by omega)
                  have hrz : z_rPl m L t k w i v = (1, m, L.set k.toNat (z_pl (z_g L k.toNat) w i v), t) := (if_neg (fun q => q hin)).trans (by rw [if_neg (by omega), if_neg (by omega)])
                  have hD := hIc.at hkL
                  refine aw_iload_n (pc := 107) dX9_plant_107 rfl ?_
                  refine aw_if_ne (pc := 108) (tgt := 128) dX9_plant_108 rfl (by first | omega | exact z_bl_r _) (fun h108 => ?_) (fun h108 => ?_)
                  · refine aw_iload_n (pc := 128) dX9_plant_128 rfl ?_
                    refine aw_iconst (pc := 129) dX9_plant_129 ?_
                    refine aw_icmp_ne (pc := 130) (tgt := 145) dX9_plant_130 rfl (by first | omega | exact z_bl_r _) (by first | omega | exact z_bl_r _) (fun h130 => ?_) (fun h130 => ?_)
                    · refine aw_aload_n (pc := 145) dX9_plant_145 rfl ?_
                      refine aw_getR (pc := 146) dX9_plant_146 k_fl_X9_38 rfl (by omega) (by first | rfl | exact z_shr _ (by omega) | exact z_shc0 (by omega) | exact z_shc1 (by omega) | exact z_shc2 (by omega) | exact z_shc3 (by omega) | exact z_shc4 (by omega)) (by first | rfl | exact z_Rc0 _ (by omega) | exact z_Rc1 _ (by omega) | exact z_Rc2 _ (by omega) | exact z_Rc3 _ (by omega)) ?_
                      refine aw_bipush (pc := 149) dX9_plant_149 rfl ?_
                      refine aw_iload_n (pc := 151) dX9_plant_151 rfl ?_
                      refine aw_imul (pc := 152) dX9_plant_152 ?_
                      refine aw_iload (pc := 153) dX9_plant_153 rfl ?_
                      refine aw_iadd (pc := 155) dX9_plant_155 ?_
                      refine aw_iload (pc := 156) dX9_plant_156 rfl ?_
                      refine aw_iastore (pc := 158) dX9_plant_158 (by omega) (Nat.le_refl _) (by first | rfl | exact z_shr _ (by omega) | exact z_shc0 (by omega) | exact z_shc1 (by omega) | exact z_shc2 (by omega) | exact z_shc3 (by omega) | exact z_shc4 (by omega)) (by omega) ?_
                      have ep := p2 (by omega)
                      have h2S : z_rfS m (cK (z_g L k.toNat)) (w - 2) i = 0 := by unfold z_rfP at p1; by_cases q5 : 2 ≤ w ∧ w ≤ 5; (rw [if_neg (by omega), if_neg (by omega), if_pos q5] at p1; exact p1); (rw [if_neg (by omega), if_neg (by omega), if_neg q5] at p1; omega)
                      obtain ⟨g1, g2, g3, g4⟩ := z_rfS_0 h2S
                      have hpb2 := z_pos_b hN8 hR10 h2S
                      rw [ep, show ((27 : Int) * k + ((z_pos (cK (z_g L k.toNat)) (w - 2) i : Nat) : Int)).toNat = 27 * k.toNat + z_pos (cK (z_g L k.toNat)) (w - 2) i by omega]
                      refine aw_iconst (pc := 159) dX9_plant_159 ?_
                      refine aw_ireturn (pc := 160) dX9_plant_160 rfl ⟨Nat.zero_le _, Nat.zero_le _⟩ ?_
                      refine z_PRr hrz (hIc.put hkL (fun a j q => by show (if a = 247 ∧ j = _ then _ else _) = _; rw [if_neg (by omega)]) (fun _ _ _ _ => rfl) hC.f hC.r (fun j => by have := hC.s j; unfold z_up; split <;> omega) ?_) (hfc.upI (by omega))
                      unfold z_pl
                      rw [if_neg (by omega), if_neg (by omega)]
                      obtain ⟨d1, d2, d3, d4, d5, d6⟩ := hD
                      have key : ∀ j, z_up Ic 247 (27 * k.toNat + z_pos (cK (z_g L k.toNat)) (w - 2) i) v 247 (27 * k.toNat + j) = if j = z_pos (cK (z_g L k.toNat)) (w - 2) i then v else Ic 247 (27 * k.toNat + j) := fun j => by
                        unfold z_up
                        by_cases e : j = z_pos (cK (z_g L k.toNat)) (w - 2) i
                        · rw [if_pos ⟨rfl, by omega⟩, if_pos e]
                        · rw [if_neg (by omega), if_neg e]
                      have kz : z_up Ic 247 (27 * k.toNat + z_pos (cK (z_g L k.toNat)) (w - 2) i) v 247 (27 * k.toNat) = if 0 = z_pos (cK (z_g L k.toNat)) (w - 2) i then v else Ic 247 (27 * k.toNat) := key 0
                      refine ⟨d1, d2, by rw [z_up_a _ _ (by omega)]; exact d3, by rw [z_up_a _ _ (by omega)]; exact d4, fun q => ?_, fun q => ?_⟩
                      · obtain ⟨a1, a2, a3, a4⟩ := d5 q
                        refine ⟨fun r hr => ?_, fun n hn => ?_, fun n hn => ?_, ?_⟩
                        · rw [key, a1 r hr]; rfl
                        · rw [key, a2 n hn]; rfl
                        · rw [key, a3 n hn]; rfl
                        · rw [key, a4]; rfl
                      · rw [kz, d6 q]; rfl
                    · refine aw_aload_n (pc := 133) dX9_plant_133 rfl ?_
                      refine aw_getR (pc := 134) dX9_plant_134 k_fl_X9_29 rfl (by omega) (by first | rfl | exact z_shr _ (by omega) | exact z_shc0 (by omega) | exact z_shc1 (by omega) | exact z_shc2 (by omega) | exact z_shc3 (by omega) | exact z_shc4 (by omega)) (by first | rfl | exact z_Rc0 _ (by omega) | exact z_Rc1 _ (by omega) | exact z_Rc2 _ (by omega) | exact z_Rc3 _ (by omega)) ?_
                      refine aw_iload_n (pc := 137) dX9_plant_137 rfl ?_
                      refine aw_iload (pc := 138) dX9_plant_138 rfl ?_
                      refine aw_i2l (pc := 140) dX9_plant_140 (by omega) ?_
                      refine aw_lastore (pc := 141) dX9_plant_141 (by omega) (Nat.le_refl _) (by first | rfl | exact z_shr _ (by omega) | exact z_shc0 (by omega) | exact z_shc1 (by omega) | exact z_shc2 (by omega) | exact z_shc3 (by omega) | exact z_shc4 (by omega)) (by first | omega | exact z_bl_r _) ?_
                      refine aw_goto (pc := 142) (tgt := 159) dX9_plant_142 rfl ?_
                      refine aw_iconst (pc := 159) dX9_plant_159 ?_
                      refine aw_ireturn (pc := 160) dX9_plant_160 rfl ⟨Nat.zero_le _, Nat.zero_le _⟩ ?_
                      refine z_PRr hrz (hIc.put hkL (fun _ _ _ => rfl) (fun a j q1 q2 => by show (if a = 244 ∧ j = _ then _ else _) = _; rw [if_neg (by omega)]) (fun j => by rw [z_up_a _ _ (by omega)]; exact hC.f j) (fun j => by have := hC.r j; unfold z_up; split <;> omega) hC.s ?_) (hfc.upJ (by omega))
                      unfold z_pl
                      rw [if_neg (by omega), if_pos (by omega)]
                      obtain ⟨d1, d2, d3, d4, d5, d6⟩ := hD
                      exact ⟨fun n hn => by rw [z_up_a _ _ (by omega)]; exact d1 n hn, by rw [z_up_s]; rfl, d3, d4, d5, d6⟩
                  · refine aw_aload_n (pc := 111) dX9_plant_111 rfl ?_
                    refine aw_getR (pc := 112) dX9_plant_112 k_fl_X9_26 rfl (by omega) (by first | rfl | exact z_shr _ (by omega) | exact z_shc0 (by omega) | exact z_shc1 (by omega) | exact z_shc2 (by omega) | exact z_shc3 (by omega) | exact z_shc4 (by omega)) (by first | rfl | exact z_Rc0 _ (by omega) | exact z_Rc1 _ (by omega) | exact z_Rc2 _ (by omega) | exact z_Rc3 _ (by omega)) ?_
                    refine aw_bipush (pc := 115) dX9_plant_115 rfl ?_
                    refine aw_iload_n (pc := 117) dX9_plant_117 rfl ?_
                    refine aw_imul (pc := 118) dX9_plant_118 ?_
                    refine aw_iload_n (pc := 119) dX9_plant_119 rfl ?_
                    refine aw_iadd (pc := 120) dX9_plant_120 ?_
                    refine aw_iload (pc := 121) dX9_plant_121 rfl ?_
                    refine aw_i2l (pc := 123) dX9_plant_123 (by omega) ?_
                    refine aw_lastore (pc := 124) dX9_plant_124 (by omega) (Nat.le_refl _) (by first | rfl | exact z_shr _ (by omega) | exact z_shc0 (by omega) | exact z_shc1 (by omega) | exact z_shc2 (by omega) | exact z_shc3 (by omega) | exact z_shc4 (by omega)) (by have := p3 (by omega); omega) ?_
                    refine aw_goto (pc := 125) (tgt := 159) dX9_plant_125 rfl ?_
                    rw [show ((8 : Int) * k + i).toNat = 8 * k.toNat + i.toNat by omega]
                    refine aw_iconst (pc := 159) dX9_plant_159 ?_
                    refine aw_ireturn (pc := 160) dX9_plant_160 rfl ⟨Nat.zero_le _, Nat.zero_le _⟩ ?_
                    have hi8 := p3 (by omega)
                    refine z_PRr hrz (hIc.put hkL (fun _ _ _ => rfl) (fun a j q1 q2 => by show (if a = 243 ∧ j = _ then _ else _) = _; rw [if_neg (by omega)]) (fun j => by have := hC.f j; unfold z_up; split <;> omega) (fun j => by rw [z_up_a _ _ (by omega)]; exact hC.r j) hC.s ?_) (hfc.upJ (by omega))
                    unfold z_pl
                    rw [if_pos (by omega)]
                    obtain ⟨d1, d2, d3, d4, d5, d6⟩ := hD
                    refine ⟨fun n hn => ?_, by rw [z_up_a _ _ (by omega)]; exact d2, d3, d4, d5, d6⟩
                    show (if _ ∧ 8 * k.toNat + n = _ then v else _) = (if n = i.toNat then v else _)
                    by_cases e : n = i.toNat
                    · rw [if_pos ⟨rfl, by omega⟩, if_pos e]
                    · rw [if_neg (by omega), if_neg e]; exact d1 n hn
                · refine aw_bipush (pc := 104) dX9_plant_104 rfl ?_
                  refine aw_ireturn (pc := 106) dX9_plant_106 rfl ⟨Nat.zero_le _, Nat.zero_le _⟩ ?_
                  by_cases q0 : pp < 0
                  · have := hp1 q0
                    exact z_PRr ((if_neg (fun q => q hin)).trans (by rw [if_pos (by omega), this, show pp = -2 by omega])) hIc hfc
                  · have := hp2 (by omega)
                    exact z_PRr ((if_neg (fun q => q hin)).trans (by rw [if_neg (by omega), if_pos (by omega)])) hIc hfc
          · refine aw_iconst (pc := 79) dX9_plant_79 ?_
            refine aw_ireturn (pc := 80) dX9_plant_80 rfl ⟨Nat.zero_le _, Nat.zero_le _⟩ ?_
            have := hp1 (by omega)
            exact z_PRr ((if_neg (fun q => q hin)).trans (by rw [if_pos (by omega), this, h76])) hIc hfc
        refine aw_iload_n (pc := 27) dX9_plant_27 rfl ?_
        refine aw_if_ge (pc := 28) (tgt := 36) dX9_plant_28 rfl (by first | omega | exact z_bl_r _) (fun h28 => ?_) (fun h28 => ?_)
        · refine aw_iload_n (pc := 36) dX9_plant_36 rfl ?_
          refine aw_if_ne (pc := 37) (tgt := 44) dX9_plant_37 rfl (by first | omega | exact z_bl_r _) (fun h37 => ?_) (fun h37 => ?_)
          · refine aw_iload_n (pc := 44) dX9_plant_44 rfl ?_
            refine aw_iconst (pc := 45) dX9_plant_45 ?_
            refine aw_icmp_ne (pc := 46) (tgt := 62) dX9_plant_46 rfl (by first | omega | exact z_bl_r _) (by first | omega | exact z_bl_r _) (fun h46 => ?_) (fun h46 => ?_)
            · refine aw_aload_n (pc := 62) dX9_plant_62 rfl ?_
              refine aw_iload_n (pc := 63) dX9_plant_63 rfl ?_
              refine aw_iload_n (pc := 64) dX9_plant_64 rfl ?_
              refine aw_iconst (pc := 65) dX9_plant_65 ?_
              refine aw_isub (pc := 66) dX9_plant_66 ?_
              refine aw_iload_n (pc := 67) dX9_plant_67 rfl ?_
              refine aw_qV (pc := 68) (d := m_X9_placeOf) (c_X9_placeOf hIc hk (by omega) hi) k_X9_placeOf dX9_plant_68 k_ml_X9_178 rfl ⟨rfl, rfl⟩ (by omega) (by first | rfl | exact z_shr _ (by omega) | exact z_shc0 (by omega) | exact z_shc1 (by omega) | exact z_shc2 (by omega) | exact z_shc3 (by omega) | exact z_shc4 (by omega)) rfl ⟨Nat.le_of_ble_eq_true rfl, Nat.le_of_ble_eq_true rfl⟩ ⟨Nat.zero_le _, Nat.zero_le _⟩ rfl (Nat.le_of_ble_eq_true rfl) (z_Pk ?_)
              rw [if_neg (fun q => q hin)]
              by_cases q2 : z_rfS m (cK (z_g L k.toNat)) (w - 2) i = 0
              · rw [show z_plv m (cK (z_g L k.toNat)) (w - 2) i = ((z_pos (cK (z_g L k.toNat)) (w - 2) i : Nat) : Int) from if_pos q2]
                have := z_pos_b hN8 hR10 q2
                obtain ⟨g1, g2, g3, g4⟩ := z_rfS_0 q2
                exact main _ (by omega) (fun q => by omega) (fun _ => ⟨by unfold z_rfP; rw [if_neg (by omega), if_neg (by omega), if_pos (by omega)]; exact q2, fun _ => rfl, fun q => by omega, by omega⟩)
              · rw [show z_plv m (cK (z_g L k.toNat)) (w - 2) i = z_rfS m (cK (z_g L k.toNat)) (w - 2) i from if_neg q2]
                refine main _ (by omega) (fun q => ?_) (fun q => by omega)
                unfold z_rfP
                by_cases q5 : 2 ≤ w ∧ w ≤ 5
                · rw [if_neg (by omega), if_neg (by omega), if_pos q5]
                · rw [if_neg (by omega), if_neg (by omega), if_neg q5]; unfold z_rfS; rw [if_pos (by omega)]
            · refine aw_iload_n (pc := 49) dX9_plant_49 rfl ?_
              refine aw_if_ne (pc := 50) (tgt := 57) dX9_plant_50 rfl (by first | omega | exact z_bl_r _) (fun h50 => ?_) (fun h50 => ?_)
              · refine aw_bipush (pc := 57) dX9_plant_57 rfl ?_
                refine aw_goto (pc := 59) (tgt := 71) dX9_plant_59 rfl ?_
                have er : z_rfP m (cK (z_g L k.toNat)) w i = -2 := by
                  unfold z_rfP
                  repeat' split
                  all_goals (first | rfl | omega | (exfalso; omega))
                exact main (-2) (by omega) (fun _ => er) (fun q => by omega)
              · refine aw_iconst (pc := 53) dX9_plant_53 ?_
                refine aw_goto (pc := 54) (tgt := 71) dX9_plant_54 rfl ?_
                have er : z_rfP m (cK (z_g L k.toNat)) w i = 0 := by
                  unfold z_rfP
                  repeat' split
                  all_goals (first | rfl | omega | (exfalso; omega))
                exact main 0 (by omega) (fun q => by omega) (fun _ => ⟨er, fun q => by omega, fun q => by omega, by omega⟩)
          · refine aw_iconst (pc := 40) dX9_plant_40 ?_
            refine aw_goto (pc := 41) (tgt := 71) dX9_plant_41 rfl ?_
            have er : z_rfP m (cK (z_g L k.toNat)) w i = 0 := by
              unfold z_rfP
              repeat' split
              all_goals (first | rfl | omega | (exfalso; omega))
            exact main 0 (by omega) (fun q => by omega) (fun _ => ⟨er, fun q => by omega, fun q => by omega, by omega⟩)
        · refine aw_bipush (pc := 31) dX9_plant_31 rfl ?_
          refine aw_goto (pc := 33) (tgt := 71) dX9_plant_33 rfl ?_
          have er : z_rfP m (cK (z_g L k.toNat)) w i = -2 := by
            unfold z_rfP
            repeat' split
            all_goals (first | rfl | omega | (exfalso; omega))
          exact main (-2) (by omega) (fun _ => er) (fun q => by omega)
      · refine aw_iconst (pc := 25) dX9_plant_25 ?_
        refine aw_ireturn (pc := 26) dX9_plant_26 rfl ⟨Nat.zero_le _, Nat.zero_le _⟩ ?_
        first | rw [z_bl_n] at h10 | rw [z_bl_0] at h10 | skip
        first | rw [z_bl_n] at h22 | rw [z_bl_0] at h22 | skip
        by_cases q1 : ¬ (0 ≤ k ∧ k < (L.length : Int))
        · exact z_PRr (if_pos q1) hIc hfc
        · have er : z_rfP m (cK (z_g L k.toNat)) w i = -1 := by unfold z_rfP; rw [if_pos (by omega), if_neg (by omega)]
          exact z_PRr ((if_neg q1).trans (by rw [if_pos (by omega), er])) hIc hfc
