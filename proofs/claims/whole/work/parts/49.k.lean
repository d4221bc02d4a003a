set_option maxHeartbeats 4000000 in
theorem c_X9_over {π : Nat → Nat} {I J : AwI} {m : z_MM} {L : List z_CC} {t : Int} {c : Nat} (hI : z_RI I J m L t) (hcL : c < L.length) : CT m_X9_over [zr 237, zi (c : Int)] 255 I J (z_R π) (z_P (some (zl (z_str2 m (z_g L c)))) 255 I J (z_R π)) := by
  obtain ⟨hM1, hm1, e0, e4, elo, ehi, ept, eF, ert, hmb, hptb, hF0⟩ := hI.rds
  have hN8 := hmb.1
  have hR10 := hmb.2.1
  have hC := hI.2.2.2.1
  have hct := hC.n
  have eL := hI.2.2.2.2.1.1
  refine CT.of (by decide) (Nat.le_of_ble_eq_true rfl) ?_
  show AW _ 0 0 _ 0 [some (zr 237), some (zi (c : Int)), none, none, none] [] _ _ _
  have loop : ∀ (n : Nat) (x : Nat), x + n = mN m → AW (FM m_X9_over (z_P (some (zl (z_str2 m (z_g L c)))) 255 I J (z_R π))) 0 0 255 15 [some (zr 237), some (zi (c : Int)), some (zl (-(J 244 c) * 27720 + z_sum (fun i => J 243 (8 * c + i) * J 240 i) x)), none, some (zi (x : Int))] [] I J (z_R π) := by
    intro n
    induction n with
    | zero =>
      intro x he
      refine aw_iload (pc := 15) dX9_over_15 rfl ?_
      refine aw_aload_n (pc := 17) dX9_over_17 rfl ?_
      refine aw_getV (pc := 18) (v := (mN m : Int)) dX9_over_18 k_fl_X9_66 rfl (by omega) (by first | rfl | exact z_shr _ (by omega) | exact z_shc0 (by omega) | exact z_shc1 (by omega) | exact z_shc2 (by omega) | exact z_shc3 (by omega) | exact z_shc4 (by omega)) (e0) ?_
      refine aw_icmp_ge (pc := 21) (tgt := 53) dX9_over_21 rfl (by first | omega | exact z_bl_r _) (by first | omega | exact z_bl_r _) (fun h21 => ?_) (fun h21 => absurd h21 (by omega))
      refine aw_lload_n (pc := 53) dX9_over_53 rfl ?_
      exact aw_lreturn (pc := 54) dX9_over_54 rfl ⟨Nat.zero_le _, Nat.zero_le _⟩ (⟨by rw [show x = mN m by omega, z_rf_str2 hm1 (hI.at hcL)], rfl, rfl, rfl, rfl⟩)
    | succ n ih =>
      intro x he
      refine aw_iload (pc := 15) dX9_over_15 rfl ?_
      refine aw_aload_n (pc := 17) dX9_over_17 rfl ?_
      refine aw_getV (pc := 18) (v := (mN m : Int)) dX9_over_18 k_fl_X9_66 rfl (by omega) (by first | rfl | exact z_shr _ (by omega) | exact z_shc0 (by omega) | exact z_shc1 (by omega) | exact z_shc2 (by omega) | exact z_shc3 (by omega) | exact z_shc4 (by omega)) (e0) ?_
      refine aw_icmp_ge (pc := 21) (tgt := 53) dX9_over_21 rfl (by first | omega | exact z_bl_r _) (by first | omega | exact z_bl_r _) (fun h21 => absurd h21 (by omega)) (fun h21 => ?_)
      refine aw_lload_n (pc := 24) dX9_over_24 rfl ?_
      refine aw_aload_n (pc := 25) dX9_over_25 rfl ?_
      refine aw_getR (pc := 26) dX9_over_26 k_fl_X9_26 rfl (by omega) (by first | rfl | exact z_shr _ (by omega) | exact z_shc0 (by omega) | exact z_shc1 (by omega) | exact z_shc2 (by omega) | exact z_shc3 (by omega) | exact z_shc4 (by omega)) (by first | rfl | exact z_Rc0 _ (by omega) | exact z_Rc1 _ (by omega) | exact z_Rc2 _ (by omega) | exact z_Rc3 _ (by omega)) ?_
      refine aw_bipush (pc := 29) dX9_over_29 rfl ?_
      refine aw_iload_n (pc := 31) dX9_over_31 rfl ?_
      refine aw_imul (pc := 32) dX9_over_32 ?_
      refine aw_iload (pc := 33) dX9_over_33 rfl ?_
      refine aw_iadd (pc := 35) dX9_over_35 ?_
      refine aw_laloadV (pc := 36) (v := J 243 (8 * c + x)) dX9_over_36 (by omega) (Nat.le_refl _) (by first | rfl | exact z_shr _ (by omega) | exact z_shc0 (by omega) | exact z_shc1 (by omega) | exact z_shc2 (by omega) | exact z_shc3 (by omega) | exact z_shc4 (by omega)) (by omega) (by rw [show ((8 : Int) * (c : Int) + (x : Int)).toNat = 8 * c + x by omega]) ?_
      refine aw_aload_n (pc := 37) dX9_over_37 rfl ?_
      refine aw_getR (pc := 38) dX9_over_38 k_fl_X9_16 rfl (by omega) (by first | rfl | exact z_shr _ (by omega) | exact z_shc0 (by omega) | exact z_shc1 (by omega) | exact z_shc2 (by omega) | exact z_shc3 (by omega) | exact z_shc4 (by omega)) (by first | rfl | exact z_Rc0 _ (by omega) | exact z_Rc1 _ (by omega) | exact z_Rc2 _ (by omega) | exact z_Rc3 _ (by omega)) ?_
      refine aw_iload (pc := 41) dX9_over_41 rfl ?_
      refine aw_laloadV (pc := 43) (v := J 240 x) dX9_over_43 (by omega) (Nat.le_refl _) (by first | rfl | exact z_shr _ (by omega) | exact z_shc0 (by omega) | exact z_shc1 (by omega) | exact z_shc2 (by omega) | exact z_shc3 (by omega) | exact z_shc4 (by omega)) (by first | omega | exact z_bl_r _) (rfl) ?_
      refine aw_lmul (pc := 44) dX9_over_44 ?_
      refine aw_ladd (pc := 45) dX9_over_45 ?_
      refine aw_lstore_n (pc := 46) (lv' := [_, _, _, _, _]) dX9_over_46 (Nat.le_of_ble_eq_true rfl) rfl ?_
      refine aw_iinc (pc := 47) (lv' := [_, _, _, _, _]) dX9_over_47 (Nat.le_of_ble_eq_true rfl) rfl rfl ?_
      refine aw_goto (pc := 50) (tgt := 15) dX9_over_50 rfl ?_
      have K := ih (x + 1) (by omega)
      rw [show -(J 244 c) * 27720 + z_sum (fun i => J 243 (8 * c + i) * J 240 i) (x + 1) = (-(J 244 c) * 27720 + z_sum (fun i => J 243 (8 * c + i) * J 240 i) x) + J 243 (8 * c + x) * J 240 x from (Int.add_assoc _ _ _).symm] at K
      exact K
  refine aw_aload_n (pc := 0) dX9_over_0 rfl ?_
  refine aw_getR (pc := 1) dX9_over_1 k_fl_X9_29 rfl (by omega) (by first | rfl | exact z_shr _ (by omega) | exact z_shc0 (by omega) | exact z_shc1 (by omega) | exact z_shc2 (by omega) | exact z_shc3 (by omega) | exact z_shc4 (by omega)) (by first | rfl | exact z_Rc0 _ (by omega) | exact z_Rc1 _ (by omega) | exact z_Rc2 _ (by omega) | exact z_Rc3 _ (by omega)) ?_
  refine aw_iload_n (pc := 4) dX9_over_4 rfl ?_
  refine aw_laloadV (pc := 5) (v := J 244 c) dX9_over_5 (by omega) (Nat.le_refl _) (by first | rfl | exact z_shr _ (by omega) | exact z_shc0 (by omega) | exact z_shc1 (by omega) | exact z_shc2 (by omega) | exact z_shc3 (by omega) | exact z_shc4 (by omega)) (by first | omega | exact z_bl_r _) (rfl) ?_
  refine aw_lneg (pc := 6) dX9_over_6 ?_
  refine aw_ldc2 (pc := 7) (v := 27720) dX9_over_7 k_cst_X9_82 ?_
  refine aw_lmul (pc := 10) dX9_over_10 ?_
  refine aw_lstore_n (pc := 11) (lv' := [_, _, _, _, _]) dX9_over_11 (Nat.le_of_ble_eq_true rfl) rfl ?_
  refine aw_iconst (pc := 12) dX9_over_12 ?_
  refine aw_istore (pc := 13) (lv' := [_, _, _, _, _]) dX9_over_13 (Nat.le_of_ble_eq_true rfl) rfl ?_
  have K := loop (mN m) 0 (by omega)
  rw [show -(J 244 c) * 27720 + z_sum (fun i => J 243 (8 * c + i) * J 240 i) 0 = -(J 244 c) * 27720 from Int.add_zero _] at K
  exact K
set_option maxHeartbeats 4000000 in
theorem c_X9_best {π : Nat → Nat} {I J : AwI} {m : z_MM} {L : List z_CC} {t : Int} (hI : z_RI I J m L t)  : CT m_X9_best [zr 237] 255 I J (z_R π) (z_PR π (z_bs m L L.length, m, L, t) I J) := by
  refine CT.of (by decide) (Nat.le_of_ble_eq_true rfl) ?_
  show AW _ 0 0 _ 0 [some (zr 237), none, none] [] _ _ _
  refine aw_aload_n (pc := 0) dX9_best_0 rfl ?_
  refine aw_iconst (pc := 1) dX9_best_1 ?_
  refine aw_putI (pc := 2) dX9_best_2 k_fl_X9_63 rfl (by omega) (by first | rfl | exact z_shr _ (by omega) | exact z_shc0 (by omega) | exact z_shc1 (by omega) | exact z_shc2 (by omega) | exact z_shc3 (by omega) | exact z_shc4 (by omega)) ?_
  have hIc := hI.code (v := 0)
  have hfc : z_FQ I J (z_up I 237 15 0) J := z_FQ.code
  have c15 : z_up I 237 15 0 237 15 = 0 := z_up_s _ _ _ _
  generalize z_up I 237 15 0 = Ic at hIc hfc c15 ⊢
  obtain ⟨hM1, hm1, e0, e4, elo, ehi, ept, eF, ert, hmb, hptb, hF0⟩ := hIc.rds
  have hN8 := hmb.1
  have hR10 := hmb.2.1
  have hC := hIc.2.2.2.1
  have hct := hC.n
  have eL := hIc.2.2.2.2.1.1
  have loop : ∀ (n : Nat) (x : Nat), x + n = L.length → AW (FM m_X9_best (z_PR π (z_bs m L L.length, m, L, t) I J)) 0 0 255 9 [some (zr 237), some (zi (z_bs m L x)), some (zi (x : Int))] [] Ic J (z_R π) := by
    intro n
    induction n with
    | zero =>
      intro x he
      refine aw_iload_n (pc := 9) dX9_best_9 rfl ?_
      refine aw_aload_n (pc := 10) dX9_best_10 rfl ?_
      refine aw_getV (pc := 11) (v := (L.length : Int)) dX9_best_11 k_fl_X9_69 rfl (by omega) (by first | rfl | exact z_shr _ (by omega) | exact z_shc0 (by omega) | exact z_shc1 (by omega) | exact z_shc2 (by omega) | exact z_shc3 (by omega) | exact z_shc4 (by omega)) (eL) ?_
      refine aw_icmp_ge (pc := 14) (tgt := 48) dX9_best_14 rfl (by first | omega | exact z_bl_r _) (by first | omega | exact z_bl_r _) (fun h14 => ?_) (fun h14 => absurd h14 (by omega))
      refine aw_iload_n (pc := 48) dX9_best_48 rfl ?_
      exact aw_ireturn (pc := 49) dX9_best_49 rfl ⟨Nat.zero_le _, Nat.zero_le _⟩ (z_PRr (by rw [show x = L.length by omega]) hIc hfc)
    | succ n ih =>
      intro x he
      refine aw_iload_n (pc := 9) dX9_best_9 rfl ?_
      refine aw_aload_n (pc := 10) dX9_best_10 rfl ?_
      refine aw_getV (pc := 11) (v := (L.length : Int)) dX9_best_11 k_fl_X9_69 rfl (by omega) (by first | rfl | exact z_shr _ (by omega) | exact z_shc0 (by omega) | exact z_shc1 (by omega) | exact z_shc2 (by omega) | exact z_shc3 (by omega) | exact z_shc4 (by omega)) (eL) ?_
      refine aw_icmp_ge (pc := 14) (tgt := 48) dX9_best_14 rfl (by first | omega | exact z_bl_r _) (by first | omega | exact z_bl_r _) (fun h14 => absurd h14 (by omega)) (fun h14 => ?_)
      have hbb := z_bs_b m L x
      refine aw_iload_n (pc := 17) dX9_best_17 rfl ?_
      refine aw_iconst (pc := 18) dX9_best_18 ?_
      refine aw_icmp_eq (pc := 19) (tgt := 36) dX9_best_19 rfl (by omega) (by omega) (fun h19 => ?_) (fun h19 => ?_)
      · refine aw_iload_n (pc := 36) dX9_best_36 rfl ?_
        refine aw_goto (pc := 37) (tgt := 41) dX9_best_37 rfl ?_
        refine aw_istore_n (pc := 41) (lv' := [_, _, _]) dX9_best_41 (Nat.le_of_ble_eq_true rfl) rfl ?_
        refine aw_iinc (pc := 42) (lv' := [_, _, _]) dX9_best_42 (Nat.le_of_ble_eq_true rfl) rfl rfl ?_
        refine aw_goto (pc := 45) (tgt := 9) dX9_best_45 rfl ?_
        have ex : z_bs m L (x + 1) = (x : Int) := by show (if _ then _ else _) = _; rw [if_pos (by first | exact Or.inl h19 | exact Or.inr (by omega))]
        have K := ih (x + 1) (by omega)
        rw [ex] at K
        exact K
      · refine aw_aload_n (pc := 22) dX9_best_22 rfl ?_
        refine aw_iload_n (pc := 23) dX9_best_23 rfl ?_
        refine aw_qV (pc := 24) (d := m_X9_over) (c_X9_over hIc (by omega)) k_X9_over dX9_best_24 k_ml_X9_194 rfl ⟨rfl, rfl⟩ (by omega) (by first | rfl | exact z_shr _ (by omega) | exact z_shc0 (by omega) | exact z_shc1 (by omega) | exact z_shc2 (by omega) | exact z_shc3 (by omega) | exact z_shc4 (by omega)) rfl ⟨Nat.le_of_ble_eq_true rfl, Nat.le_of_ble_eq_true rfl⟩ ⟨Nat.zero_le _, Nat.zero_le _⟩ rfl (Nat.le_of_ble_eq_true rfl) (z_Pk ?_)
        have K2 := c_X9_over (π := π) hIc (c := (z_bs m L x).toNat) (by omega)
        rw [show (((z_bs m L x).toNat : Nat) : Int) = z_bs m L x by omega] at K2
        refine aw_aload_n (pc := 27) dX9_best_27 rfl ?_
        refine aw_iload_n (pc := 28) dX9_best_28 rfl ?_
        refine aw_qV (pc := 29) (d := m_X9_over) (K2) k_X9_over dX9_best_29 k_ml_X9_194 rfl ⟨rfl, rfl⟩ (by omega) (by first | rfl | exact z_shr _ (by omega) | exact z_shc0 (by omega) | exact z_shc1 (by omega) | exact z_shc2 (by omega) | exact z_shc3 (by omega) | exact z_shc4 (by omega)) rfl ⟨Nat.le_of_ble_eq_true rfl, Nat.le_of_ble_eq_true rfl⟩ ⟨Nat.zero_le _, Nat.zero_le _⟩ rfl (Nat.le_of_ble_eq_true rfl) (z_Pk ?_)
        refine aw_lcmp_le (pc := 32) (tgt := 40) dX9_best_32 dX9_best_33 rfl (by have := hIc.strb (k := x) (by omega); omega) (by have := hIc.strb (k := (z_bs m L x).toNat) (by omega); omega) (fun h32 => ?_) (fun h32 => ?_)
        · refine aw_iload_n (pc := 40) dX9_best_40 rfl ?_
          refine aw_istore_n (pc := 41) (lv' := [_, _, _]) dX9_best_41 (Nat.le_of_ble_eq_true rfl) rfl ?_
          refine aw_iinc (pc := 42) (lv' := [_, _, _]) dX9_best_42 (Nat.le_of_ble_eq_true rfl) rfl rfl ?_
          refine aw_goto (pc := 45) (tgt := 9) dX9_best_45 rfl ?_
          have ex : z_bs m L (x + 1) = z_bs m L x := by show (if _ then _ else _) = _; rw [if_neg (by omega)]
          have K := ih (x + 1) (by omega)
          rw [ex] at K
          exact K
        · refine aw_iload_n (pc := 36) dX9_best_36 rfl ?_
          refine aw_goto (pc := 37) (tgt := 41) dX9_best_37 rfl ?_
          refine aw_istore_n (pc := 41) (lv' := [_, _, _]) dX9_best_41 (Nat.le_of_ble_eq_true rfl) rfl ?_
          refine aw_iinc (pc := 42) (lv' := [_, _, _]) dX9_best_42 (Nat.le_of_ble_eq_true rfl) rfl rfl ?_
          refine aw_goto (pc := 45) (tgt := 9) dX9_best_45 rfl ?_
          have ex : z_bs m L (x + 1) = (x : Int) := by show (if _ then _ else _) = _; rw [if_pos (by first | exact Or.inl h19 | exact Or.inr (by omega))]
          have K := ih (x + 1) (by omega)
          rw [ex] at K
          exact K
  refine aw_iconst (pc := 5) dX9_best_5 ?_
  refine aw_istore_n (pc := 6) (lv' := [_, _, _]) dX9_best_6 (Nat.le_of_ble_eq_true rfl) rfl ?_
  refine aw_iconst (pc := 7) dX9_best_7 ?_
  refine aw_istore_n (pc := 8) (lv' := [_, _, _]) dX9_best_8 (Nat.le_of_ble_eq_true rfl) rfl ?_
  exact loop L.length 0 (by omega)
/-- what cut answers, and the code of what it throws -/
def z_rCu (m : z_MM) (L : List z_CC) (k w i : Int) : Int × Int := if ¬ (0 ≤ k ∧ k < (L.length : Int)) ∨ (w = 0 ∧ ¬ (0 ≤ i ∧ i < (mN m : Int))) then (0, 1) else if w < 0 ∨ 3 < w then (0, 2) else (z_cutv (z_g L k.toNat) w i, 0)
def z_rSt (m : z_MM) (L : List z_CC) (k p : Int) : Int × Int := if ¬ (0 ≤ k ∧ k < (L.length : Int)) then (0, 1) else if p < 0 ∨ 1 < p then (0, 2) else (z_stv m (z_g L k.toNat) p, 0)
set_option maxHeartbeats 4000000 in
theorem c_X9_cut {π : Nat → Nat} {I J : AwI} {m : z_MM} {L : List z_CC} {t : Int} {k w i : Int} (hI : z_RI I J m L t) (hk : -2147483648 ≤ k ∧ k ≤ 2147483647) (hw : -2147483648 ≤ w ∧ w ≤ 2147483647) (hi : -2147483648 ≤ i ∧ i ≤ 2147483647) : CT m_X9_cut [zr 237, zi k, zi w, zi i] 255 I J (z_R π) (fun q sz I' J' R' => q = some (zi (z_rCu m L k w i).1) ∧ sz = 255 ∧ R' = z_R π ∧ z_RI I' J' m L t ∧ z_FQ I J I' J' ∧ I' 237 15 = (z_rCu m L k w i).2) := by
  refine CT.of (by decide) (Nat.le_of_ble_eq_true rfl) ?_
  show AW _ 0 0 _ 0 [some (zr 237), some (zi k), some (zi w), some (zi i)] [] _ _ _
  refine aw_aload_n (pc := 0) dX9_cut_0 rfl ?_
  refine aw_iconst (pc := 1) dX9_cut_1 ?_
  refine aw_putI (pc := 2) dX9_cut_2 k_fl_X9_63 rfl (by omega) (by first | rfl | exact z_shr _ (by omega) | exact z_shc0 (by omega) | exact z_shc1 (by omega) | exact z_shc2 (by omega) | exact z_shc3 (by omega) | exact z_shc4 (by omega)) ?_
  have hIc := hI.code (v := 0)
  have hfc : z_FQ I J (z_up I 237 15 0) J := z_FQ.code
  have c15 : z_up I 237 15 0 237 15 = 0 := z_up_s _ _ _ _
  generalize z_up I 237 15 0 = Ic at hIc hfc c15 ⊢
  obtain ⟨hM1, hm1, e0, e4, elo, ehi, ept, eF, ert, hmb, hptb, hF0⟩ := hIc.rds
  have hN8 := hmb.1
  have hR10 := hmb.2.1
  have hC := hIc.2.2.2.1
  have hct := hC.n
  have eL := hIc.2.2.2.2.1.1
  refine aw_aload_n (pc := 5) dX9_cut_5 rfl ?_
  refine aw_iload_n (pc := 6) dX9_cut_6 rfl ?_
  refine aw_qV (pc := 7) (d := m_X9_isCut) (c_X9_isCut hct hk) k_X9_isCut dX9_cut_7 k_ml_X9_175 rfl ⟨rfl, rfl⟩ (by omega) (by first | rfl | exact z_shr _ (by omega) | exact z_shc0 (by omega) | exact z_shc1 (by omega) | exact z_shc2 (by omega) | exact z_shc3 (by omega) | exact z_shc4 (by omega)) rfl ⟨Nat.le_of_ble_eq_true rfl, Nat.le_of_ble_eq_true rfl⟩ ⟨Nat.zero_le _, Nat.zero_le _⟩ rfl (Nat.le_of_ble_eq_true rfl) (z_Pk ?_)
  refine aw_if_eq (pc := 10) (tgt := 25) dX9_cut_10 rfl (by first | omega | exact z_bl_r _) (fun h10 => ?_) (fun h10 => ?_)
  · refine aw_aload_n (pc := 25) dX9_cut_25 rfl ?_
    refine aw_iconst (pc := 26) dX9_cut_26 ?_
    refine aw_putI (pc := 27) dX9_cut_27 k_fl_X9_63 rfl (by omega) (by first | rfl | exact z_shr _ (by omega) | exact z_shc0 (by omega) | exact z_shc1 (by omega) | exact z_shc2 (by omega) | exact z_shc3 (by omega) | exact z_shc4 (by omega)) ?_
    refine aw_iconst (pc := 30) dX9_cut_30 ?_
    refine aw_ireturn (pc := 31) dX9_cut_31 rfl ⟨Nat.zero_le _, Nat.zero_le _⟩ ?_
    first | rw [z_bl_n] at h10 | rw [z_bl_0] at h10 | skip
    first | rw [z_bl_n] at h22 | rw [z_bl_0] at h22 | skip
    have er : (z_rCu m L k w i) = (0, 1) := if_pos (by omega)
    exact ⟨by rw [er], rfl, rfl, hIc.code, hfc.upI (by omega), by rw [er]; exact z_up_s _ _ _ _⟩
  · refine aw_iload_n (pc := 13) dX9_cut_13 rfl ?_
    refine aw_if_ne (pc := 14) (tgt := 32) dX9_cut_14 rfl (by first | omega | exact z_bl_r _) (fun h14 => ?_) (fun h14 => ?_)
    · first | rw [z_bl_n] at h10 | rw [z_bl_0] at h10 | skip
      first | rw [z_bl_n] at h22 | rw [z_bl_0] at h22 | skip
      have hkL : k.toNat < L.length := by omega
      have hD := hIc.at hkL
      refine aw_iload_n (pc := 32) dX9_cut_32 rfl ?_
      rcases (show (w < 0 ∨ 3 < w) ∨ w = 0 ∨ w = 1 ∨ w = 2 ∨ w = 3 by omega) with h33 | h33 | h33 | h33 | h33
      · refine aw_tbl_out (pc := 33) (tgt := 99) dX9_cut_33 (by omega) h33 rfl ?_
        refine aw_aload_n (pc := 99) dX9_cut_99 rfl ?_
        refine aw_iconst (pc := 100) dX9_cut_100 ?_
        refine aw_putI (pc := 101) dX9_cut_101 k_fl_X9_63 rfl (by omega) (by first | rfl | exact z_shr _ (by omega) | exact z_shc0 (by omega) | exact z_shc1 (by omega) | exact z_shc2 (by omega) | exact z_shc3 (by omega) | exact z_shc4 (by omega)) ?_
        refine aw_iconst (pc := 104) dX9_cut_104 ?_
        refine aw_ireturn (pc := 105) dX9_cut_105 rfl ⟨Nat.zero_le _, Nat.zero_le _⟩ ?_
        have er : (z_rCu m L k w i) = (0, 2) := (if_neg (by omega)).trans (if_pos (by omega))
        exact ⟨by rw [er], rfl, rfl, hIc.code, hfc.upI (by omega), by rw [er]; exact z_up_s _ _ _ _⟩
      · subst h33
        refine aw_tbl_in (pc := 33) (tgt := 64) (off := 31) dX9_cut_33 (by omega) (by omega) rfl rfl ?_
        refine aw_aload_n (pc := 64) dX9_cut_64 rfl ?_
        refine aw_getR (pc := 65) dX9_cut_65 k_fl_X9_26 rfl (by omega) (by first | rfl | exact z_shr _ (by omega) | exact z_shc0 (by omega) | exact z_shc1 (by omega) | exact z_shc2 (by omega) | exact z_shc3 (by omega) | exact z_shc4 (by omega)) (by first | rfl | exact z_Rc0 _ (by omega) | exact z_Rc1 _ (by omega) | exact z_Rc2 _ (by omega) | exact z_Rc3 _ (by omega)) ?_
        refine aw_bipush (pc := 68) dX9_cut_68 rfl ?_
        refine aw_iload_n (pc := 70) dX9_cut_70 rfl ?_
        refine aw_imul (pc := 71) dX9_cut_71 ?_
        refine aw_iload_n (pc := 72) dX9_cut_72 rfl ?_
        refine aw_iadd (pc := 73) dX9_cut_73 ?_
        refine aw_laloadV (pc := 74) (v := cF (z_g L k.toNat) i.toNat) dX9_cut_74 (by omega) (Nat.le_refl _) (by first | rfl | exact z_shr _ (by omega) | exact z_shc0 (by omega) | exact z_shc1 (by omega) | exact z_shc2 (by omega) | exact z_shc3 (by omega) | exact z_shc4 (by omega)) (by omega) (by rw [show ((8 : Int) * k + i).toNat = 8 * k.toNat + i.toNat by omega]; exact hD.1 _ (by omega)) ?_
        refine aw_l2i (pc := 75) dX9_cut_75 ?_
        refine aw_ireturn (pc := 76) dX9_cut_76 rfl ⟨Nat.zero_le _, Nat.zero_le _⟩ ?_
        have er : z_rCu m L k 0 i = (z_cutv (z_g L k.toNat) 0 i, 0) := (if_neg (by omega)).trans (if_neg (by omega))
        exact ⟨by rw [er]; rfl, rfl, rfl, hIc, hfc, by rw [er]; exact c15⟩
      · subst h33
        refine aw_tbl_in (pc := 33) (tgt := 77) (off := 44) dX9_cut_33 (by omega) (by omega) rfl rfl ?_
        refine aw_aload_n (pc := 77) dX9_cut_77 rfl ?_
        refine aw_getR (pc := 78) dX9_cut_78 k_fl_X9_29 rfl (by omega) (by first | rfl | exact z_shr _ (by omega) | exact z_shc0 (by omega) | exact z_shc1 (by omega) | exact z_shc2 (by omega) | exact z_shc3 (by omega) | exact z_shc4 (by omega)) (by first | rfl | exact z_Rc0 _ (by omega) | exact z_Rc1 _ (by omega) | exact z_Rc2 _ (by omega) | exact z_Rc3 _ (by omega)) ?_
        refine aw_iload_n (pc := 81) dX9_cut_81 rfl ?_
        refine aw_laloadV (pc := 82) (v := cR (z_g L k.toNat)) dX9_cut_82 (by omega) (Nat.le_refl _) (by first | rfl | exact z_shr _ (by omega) | exact z_shc0 (by omega) | exact z_shc1 (by omega) | exact z_shc2 (by omega) | exact z_shc3 (by omega) | exact z_shc4 (by omega)) (by first | omega | exact z_bl_r _) (hD.2.1) ?_
        refine aw_l2i (pc := 83) dX9_cut_83 ?_
        refine aw_ireturn (pc := 84) dX9_cut_84 rfl ⟨Nat.zero_le _, Nat.zero_le _⟩ ?_
        have er : z_rCu m L k 1 i = (z_cutv (z_g L k.toNat) 1 i, 0) := (if_neg (by omega)).trans (if_neg (by omega))
        exact ⟨by rw [er]; rfl, rfl, rfl, hIc, hfc, by rw [er]; exact c15⟩
      · subst h33
        refine aw_tbl_in (pc := 33) (tgt := 85) (off := 52) dX9_cut_33 (by omega) (by omega) rfl rfl ?_
        refine aw_aload_n (pc := 85) dX9_cut_85 rfl ?_
        refine aw_getR (pc := 86) dX9_cut_86 k_fl_X9_32 rfl (by omega) (by first | rfl | exact z_shr _ (by omega) | exact z_shc0 (by omega) | exact z_shc1 (by omega) | exact z_shc2 (by omega) | exact z_shc3 (by omega) | exact z_shc4 (by omega)) (by first | rfl | exact z_Rc0 _ (by omega) | exact z_Rc1 _ (by omega) | exact z_Rc2 _ (by omega) | exact z_Rc3 _ (by omega)) ?_
        refine aw_iload_n (pc := 89) dX9_cut_89 rfl ?_
        refine aw_ialoadV (pc := 90) (v := cK (z_g L k.toNat)) dX9_cut_90 (by omega) (Nat.le_refl _) (by first | rfl | exact z_shr _ (by omega) | exact z_shc0 (by omega) | exact z_shc1 (by omega) | exact z_shc2 (by omega) | exact z_shc3 (by omega) | exact z_shc4 (by omega)) (by first | omega | exact z_bl_r _) (hD.2.2.1) ?_
        refine aw_ireturn (pc := 91) dX9_cut_91 rfl ⟨Nat.zero_le _, Nat.zero_le _⟩ ?_
        have er : z_rCu m L k 2 i = (z_cutv (z_g L k.toNat) 2 i, 0) := (if_neg (by omega)).trans (if_neg (by omega))
        exact ⟨by rw [er]; rfl, rfl, rfl, hIc, hfc, by rw [er]; exact c15⟩
      · subst h33
        refine aw_tbl_in (pc := 33) (tgt := 92) (off := 59) dX9_cut_33 (by omega) (by omega) rfl rfl ?_
        refine aw_aload_n (pc := 92) dX9_cut_92 rfl ?_
        refine aw_getR (pc := 93) dX9_cut_93 k_fl_X9_35 rfl (by omega) (by first | rfl | exact z_shr _ (by omega) | exact z_shc0 (by omega) | exact z_shc1 (by omega) | exact z_shc2 (by omega) | exact z_shc3 (by omega) | exact z_shc4 (by omega)) (by first | rfl | exact z_Rc0 _ (by omega) | exact z_Rc1 _ (by omega) | exact z_Rc2 _ (by omega) | exact z_Rc3 _ (by omega)) ?_
        refine aw_iload_n (pc := 96) dX9_cut_96 rfl ?_
        refine aw_ialoadV (pc := 97) (v := cA (z_g L k.toNat)) dX9_cut_97 (by omega) (Nat.le_refl _) (by first | rfl | exact z_shr _ (by omega) | exact z_shc0 (by omega) | exact z_shc1 (by omega) | exact z_shc2 (by omega) | exact z_shc3 (by omega) | exact z_shc4 (by omega)) (by first | omega | exact z_bl_r _) (hD.2.2.2.1) ?_
        refine aw_ireturn (pc := 98) dX9_cut_98 rfl ⟨Nat.zero_le _, Nat.zero_le _⟩ ?_
        have er : z_rCu m L k 3 i = (z_cutv (z_g L k.toNat) 3 i, 0) := (if_neg (by omega)).trans (if_neg (by omega))
        exact ⟨by rw [er]; rfl, rfl, rfl, hIc, hfc, by rw [er]; exact c15⟩
    · refine aw_aload_n (pc := 17) dX9_cut_17 rfl ?_
      refine aw_iload_n (pc := 18) dX9_cut_18 rfl ?_
      refine aw_qV (pc := 19) (d := m_X9_isName) (c_X9_isName (by omega) hi) k_X9_isName dX9_cut_19 k_ml_X9_79 rfl ⟨rfl, rfl⟩ (by omega) (by first | rfl | exact z_shr _ (by omega) | exact z_shc0 (by omega) | exact z_shc1 (by omega) | exact z_shc2 (by omega) | exact z_shc3 (by omega) | exact z_shc4 (by omega)) rfl ⟨Nat.le_of_ble_eq_true rfl, Nat.le_of_ble_eq_true rfl⟩ ⟨Nat.zero_le _, Nat.zero_le _⟩ rfl (Nat.le_of_ble_eq_true rfl) (z_Pk ?_)
      refine aw_if_ne (pc := 22) (tgt := 32) dX9_cut_22 rfl (by first | omega | exact z_bl_r _) (fun h22 => ?_) (fun h22 => ?_)
      · first | rw [z_bl_n] at h10 | rw [z_bl_0] at h10 | skip
        first | rw [z_bl_n] at h22 | rw [z_bl_0] at h22 | skip
        have hkL : k.toNat < L.length := by omega
        have hD := hIc.at hkL
        refine aw_iload_n (pc := 32) dX9_cut_32 rfl ?_
        rcases (show (w < 0 ∨ 3 < w) ∨ w = 0 ∨ w = 1 ∨ w = 2 ∨ w = 3 by omega) with h33 | h33 | h33 | h33 | h33
        · refine aw_tbl_out (pc := 33) (tgt := 99) dX9_cut_33 (by omega) h33 rfl ?_
          refine aw_aload_n (pc := 99) dX9_cut_99 rfl ?_
          refine aw_iconst (pc := 100) dX9_cut_100 ?_
          refine aw_putI (pc := 101) dX9_cut_101 k_fl_X9_63 rfl (by omega) (by first | rfl | exact z_shr _ (by omega) | exact z_shc0 (by omega) | exact z_shc1 (by omega) | exact z_shc2 (by omega) | exact z_shc3 (by omega) | exact z_shc4 (by omega)) ?_
          refine aw_iconst (pc := 104) dX9_cut_104 ?_
          refine aw_ireturn (pc := 105) dX9_cut_105 rfl ⟨Nat.zero_le _, Nat.zero_le _⟩ ?_
          have er : (z_rCu m L k w i) = (0, 2) := (if_neg (by omega)).trans (if_pos (by omega))
          exact ⟨by rw [er], rfl, rfl, hIc.code, hfc.upI (by omega), by rw [er]; exact z_up_s _ _ _ _⟩
        · subst h33
          refine aw_tbl_in (pc := 33) (tgt := 64) (off := 31) dX9_cut_33 (by omega) (by omega) rfl rfl ?_
          refine aw_aload_n (pc := 64) dX9_cut_64 rfl ?_
          refine aw_getR (pc := 65) dX9_cut_65 k_fl_X9_26 rfl (by omega) (by first | rfl | exact z_shr _ (by omega) | exact z_shc0 (by omega) | exact z_shc1 (by omega) | exact z_shc2 (by omega) | exact z_shc3 (by omega) | exact z_shc4 (by omega)) (by first | rfl | exact z_Rc0 _ (by omega) | exact z_Rc1 _ (by omega) | exact z_Rc2 _ (by omega) | exact z_Rc3 _ (by omega)) ?_
          refine aw_bipush (pc := 68) dX9_cut_68 rfl ?_
          refine aw_iload_n (pc := 70) dX9_cut_70 rfl ?_
          refine aw_imul (pc := 71) dX9_cut_71 ?_
          refine aw_iload_n (pc := 72) dX9_cut_72 rfl ?_
          refine aw_iadd (pc := 73) dX9_cut_73 ?_
          refine aw_laloadV (pc := 74) (v := cF (z_g L k.toNat) i.toNat) dX9_cut_74 (by omega) (Nat.le_refl _) (by first | rfl | exact z_shr _ (by omega) | exact z_shc0 (by omega) | exact z_shc1 (by omega) | exact z_shc2 (by omega) | exact z_shc3 (by omega) | exact z_shc4 (by omega)) (by omega) (by rw [show ((8 : Int) * k + i).toNat = 8 * k.toNat + i.toNat by omega]; exact hD.1 _ (by omega)) ?_
          refine aw_l2i (pc := 75) dX9_cut_75 ?_
          refine aw_ireturn (pc := 76) dX9_cut_76 rfl ⟨Nat.zero_le _, Nat.zero_le _⟩ ?_
          have er : z_rCu m L k 0 i = (z_cutv (z_g L k.toNat) 0 i, 0) := (if_neg (by omega)).trans (if_neg (by omega))
          exact ⟨by rw [er]; rfl, rfl, rfl, hIc, hfc, by rw [er]; exact c15⟩
        · subst h33
          refine aw_tbl_in (pc := 33) (tgt := 77) (off := 44) dX9_cut_33 (by omega) (by omega) rfl rfl ?_
          refine aw_aload_n (pc := 77) dX9_cut_77 rfl ?_
          refine aw_getR (pc := 78) dX9_cut_78 k_fl_X9_29 rfl (by omega) (by first | rfl | exact z_shr _ (by omega) | exact z_shc0 (by omega) | exact z_shc1 (by omega) | exact z_shc2 (by omega) | exact z_shc3 (by omega) | exact z_shc4 (by omega)) (by first | rfl | exact z_Rc0 _ (by omega) | exact z_Rc1 _ (by omega) | exact z_Rc2 _ (by omega) | exact z_Rc3 _ (by omega)) ?_
          refine aw_iload_n (pc := 81) dX9_cut_81 rfl ?_
          refine aw_laloadV (pc := 82) (v := cR (z_g L k.toNat)) dX9_cut_82 (by omega) (Nat.le_refl _) (by first | rfl | exact z_shr _ (by omega) | exact z_shc0 (by omega) | exact z_shc1 (by omega) | exact z_shc2 (by omega) | exact z_shc3 (by omega) | exact z_shc4 (by omega)) (by first | omega | exact z_bl_r _) (hD.2.1) ?_
          refine aw_l2i (pc := 83) dX9_cut_83 ?_
          refine aw_ireturn (pc := 84) dX9_cut_84 rfl ⟨Nat.zero_le _, Nat.zero_le _⟩ ?_
          have er : z_rCu m L k 1 i = (z_cutv (z_g L k.toNat) 1 i, 0) := (if_neg (by omega)).trans (if_neg (by omega))
          exact ⟨by rw [er]; rfl, rfl, rfl, hIc, hfc, by rw [er]; exact c15⟩
        · subst h33
          refine aw_tbl_in (pc := 33) (tgt := 85) (off := 52) dX9_cut_33 (by omega) (by omega) rfl rfl ?_
          refine aw_aload_n (pc := 85) dX9_cut_85 rfl ?_
          refine aw_getR (pc := 86) dX9_cut_86 k_fl_X9_32 rfl (by omega) (by first | rfl | exact z_shr _ (by omega) | exact z_shc0 (by omega) | exact z_shc1 (by omega) | exact z_shc2 (by omega) | exact z_shc3 (by omega) | exact z_shc4 (by omega)) (by first | rfl | exact z_Rc0 _ (by omega) | exact z_Rc1 _ (by omega) | exact z_Rc2 _ (by omega) | exact z_Rc3 _ (by omega)) ?_
          refine aw_iload_n (pc := 89) dX9_cut_89 rfl ?_
          refine aw_ialoadV (pc := 90) (v := cK (z_g L k.toNat)) dX9_cut_90 (by omega) (Nat.le_refl _) (by first | rfl | exact z_shr _ (by omega) | exact z_shc0 (by omega) | exact z_shc1 (by omega) | exact z_shc2 (by omega) | exact z_shc3 (by omega) | exact z_shc4 (by omega)) (by first | omega | exact z_bl_r _) (hD.2.2.1) ?_
          refine aw_ireturn (pc := 91) dX9_cut_91 rfl ⟨Nat.zero_le _, Nat.zero_le _⟩ ?_
          have er : z_rCu m L k 2 i = (z_cutv (z_g L k.toNat) 2 i, 0) := (if_neg (by omega)).trans (if_neg (by omega))
          exact ⟨by rw [er]; rfl, rfl, rfl, hIc, hfc, by rw [er]; exact c15⟩
        · subst h33
          refine aw_tbl_in (pc := 33) (tgt := 92) (off := 59) dX9_cut_33 (by omega) (by omega) rfl rfl ?_
          refine aw_aload_n (pc := 92) dX9_cut_92 rfl ?_
          refine aw_getR (pc := 93) dX9_cut_93 k_fl_X9_35 rfl (by omega) (by first | rfl | exact z_shr _ (by omega) | exact z_shc0 (by omega) | exact z_shc1 (by omega) | exact z_shc2 (by omega) | exact z_shc3 (by omega) | exact z_shc4 (by omega)) (by first | rfl | exact z_Rc0 _ (by omega) | exact z_Rc1 _ (by omega) | exact z_Rc2 _ (by omega) | exact z_Rc3 _ (by omega)) ?_
          refine aw_iload_n (pc := 96) dX9_cut_96 rfl ?_
          refine aw_ialoadV (pc := 97) (v := cA (z_g L k.toNat)) dX9_cut_97 (by omega) (Nat.le_refl _) (by first | rfl | exact z_shr _ (by omega) | exact z_shc0 (by omega) | exact z_shc1 (by omega) | exact z_shc2 (by omega) | exact z_shc3 (by omega) | exact z_shc4 (by omega)) (by first | omega | exact z_bl_r _) (hD.2.2.2.1) ?_
          refine aw_ireturn (pc := 98) dX9_cut_98 rfl ⟨Nat.zero_le _, Nat.zero_le _⟩ ?_
          have er : z_rCu m L k 3 i = (z_cutv (z_g L k.toNat) 3 i, 0) := (if_neg (by omega)).trans (if_neg (by omega))
          exact ⟨by rw [er]; rfl, rfl, rfl, hIc, hfc, by rw [er]; exact c15⟩
      · refine aw_aload_n (pc := 25) dX9_cut_25 rfl ?_
        refine aw_iconst (pc := 26) dX9_cut_26 ?_
        refine aw_putI (pc := 27) dX9_cut_27 k_fl_X9_63 rfl (by omega) (by first | rfl | exact z_shr _ (by omega) | exact z_shc0 (by omega) | exact z_shc1 (by omega) | exact z_shc2 (by omega) | exact z_shc3 (by omega) | exact z_shc4 (by omega)) ?_
        refine aw_iconst (pc := 30) dX9_cut_30 ?_
        refine aw_ireturn (pc := 31) dX9_cut_31 rfl ⟨Nat.zero_le _, Nat.zero_le _⟩ ?_
        first | rw [z_bl_n] at h10 | rw [z_bl_0] at h10 | skip
        first | rw [z_bl_n] at h22 | rw [z_bl_0] at h22 | skip
        have er : (z_rCu m L k w i) = (0, 1) := if_pos (by omega)
        exact ⟨by rw [er], rfl, rfl, hIc.code, hfc.upI (by omega), by rw [er]; exact z_up_s _ _ _ _⟩
set_option maxHeartbeats 4000000 in
theorem c_X9_strength {π : Nat → Nat} {I J : AwI} {m : z_MM} {L : List z_CC} {t : Int} {k p : Int} (hI : z_RI I J m L t) (hk : -2147483648 ≤ k ∧ k ≤ 2147483647) (hp : -2147483648 ≤ p ∧ p ≤ 2147483647) : CT m_X9_strength [zr 237, zi k, zi p] 255 I J (z_R π) (fun q sz I' J' R' => q = some (zl (z_rSt m L k p).1) ∧ sz = 255 ∧ R' = z_R π ∧ z_RI I' J' m L t ∧ z_FQ I J I' J' ∧ I' 237 15 = (z_rSt m L k p).2) := by
  refine CT.of (by decide) (Nat.le_of_ble_eq_true rfl) ?_
  show AW _ 0 0 _ 0 [some (zr 237), some (zi k), some (zi p), none, none, none, none, none, none, none, none] [] _ _ _
  refine aw_aload_n (pc := 0) dX9_strength_0 rfl ?_
  refine aw_iconst (pc := 1) dX9_strength_1 ?_
  refine aw_putI (pc := 2) dX9_strength_2 k_fl_X9_63 rfl (by omega) (by first | rfl | exact z_shr _ (by omega) | exact z_shc0 (by omega) | exact z_shc1 (by omega) | exact z_shc2 (by omega) | exact z_shc3 (by omega) | exact z_shc4 (by omega)) ?_
  have hIc := hI.code (v := 0)
  have hfc : z_FQ I J (z_up I 237 15 0) J := z_FQ.code
  have c15 : z_up I 237 15 0 237 15 = 0 := z_up_s _ _ _ _
  generalize z_up I 237 15 0 = Ic at hIc hfc c15 ⊢
  obtain ⟨hM1, hm1, e0, e4, elo, ehi, ept, eF, ert, hmb, hptb, hF0⟩ := hIc.rds
  have hN8 := hmb.1
  have hR10 := hmb.2.1
  have hC := hIc.2.2.2.1
  have hct := hC.n
  have eL := hIc.2.2.2.2.1.1
  refine aw_aload_n (pc := 5) dX9_strength_5 rfl ?_
  refine aw_iload_n (pc := 6) dX9_strength_6 rfl ?_
  refine aw_qV (pc := 7) (d := m_X9_isCut) (c_X9_isCut hct hk) k_X9_isCut dX9_strength_7 k_ml_X9_175 rfl ⟨rfl, rfl⟩ (by omega) (by first | rfl | exact z_shr _ (by omega) | exact z_shc0 (by omega) | exact z_shc1 (by omega) | exact z_shc2 (by omega) | exact z_shc3 (by omega) | exact z_shc4 (by omega)) rfl ⟨Nat.le_of_ble_eq_true rfl, Nat.le_of_ble_eq_true rfl⟩ ⟨Nat.zero_le _, Nat.zero_le _⟩ rfl (Nat.le_of_ble_eq_true rfl) (z_Pk ?_)
  refine aw_if_ne (pc := 10) (tgt := 20) dX9_strength_10 rfl (by first | omega | exact z_bl_r _) (fun h10 => ?_) (fun h10 => ?_)
  · refine aw_iload_n (pc := 20) dX9_strength_20 rfl ?_
    refine aw_if_lt (pc := 21) (tgt := 29) dX9_strength_21 rfl (by first | omega | exact z_bl_r _) (fun h21 => ?_) (fun h21 => ?_)
    · refine aw_aload_n (pc := 29) dX9_strength_29 rfl ?_
      refine aw_iconst (pc := 30) dX9_strength_30 ?_
      refine aw_putI (pc := 31) dX9_strength_31 k_fl_X9_63 rfl (by omega) (by first | rfl | exact z_shr _ (by omega) | exact z_shc0 (by omega) | exact z_shc1 (by omega) | exact z_shc2 (by omega) | exact z_shc3 (by omega) | exact z_shc4 (by omega)) ?_
      refine aw_lconst (pc := 34) (v := 0) dX9_strength_34 rfl ?_
      refine aw_lreturn (pc := 35) dX9_strength_35 rfl ⟨Nat.zero_le _, Nat.zero_le _⟩ ?_
      first | rw [z_bl_n] at h10 | rw [z_bl_0] at h10 | skip
      have er : (z_rSt m L k p) = (0, 2) := (if_neg (by omega)).trans (if_pos (by omega))
      exact ⟨by rw [er], rfl, rfl, hIc.code, hfc.upI (by omega), by rw [er]; exact z_up_s _ _ _ _⟩
    · refine aw_iload_n (pc := 24) dX9_strength_24 rfl ?_
      refine aw_iconst (pc := 25) dX9_strength_25 ?_
      refine aw_icmp_le (pc := 26) (tgt := 36) dX9_strength_26 rfl (by first | omega | exact z_bl_r _) (by first | omega | exact z_bl_r _) (fun h26 => ?_) (fun h26 => ?_)
      · first | rw [z_bl_n] at h10 | rw [z_bl_0] at h10 | skip
        have hkL : k.toNat < L.length := by omega
        have hsb := hIc.strb hkL
        have K2 := c_X9_over (π := π) hIc hkL
        rw [show ((k.toNat : Nat) : Int) = k by omega] at K2
        have loop : ∀ (n : Nat) (a b : Nat) (u : Option AwV), a ≤ n → a ≤ 100000000000 → (1 ≤ b ∧ b ≤ 100000000000) → Nat.gcd b a = Nat.gcd 27720 (z_str2 m (z_g L k.toNat)).natAbs → AW (FM m_X9_strength (fun q sz I' J' R' => q = some (zl (z_rSt m L k p).1) ∧ sz = 255 ∧ R' = z_R π ∧ z_RI I' J' m L t ∧ z_FQ I J I' J' ∧ I' 237 15 = (z_rSt m L k p).2)) 0 0 255 61 [some (zr 237), some (zi k), some (zi p), some (zl (z_str2 m (z_g L k.toNat))), none, some (zl (a : Int)), none, some (zl (b : Int)), none, u, none] [] Ic J (z_R π) := by
          intro n
          induction n with
          | zero =>
            intro a b u hn ha hb hg
            refine aw_lload (pc := 61) dX9_strength_61 rfl ?_
            refine aw_lconst (pc := 63) (v := 0) dX9_strength_63 rfl ?_
            refine aw_lcmp_eq (pc := 64) (tgt := 86) dX9_strength_64 dX9_strength_65 rfl (by omega) (by omega) (fun h64 => ?_) (fun h64 => absurd h64 (by omega))
            have hb0 : a = 0 := by omega
            rw [hb0, Nat.gcd_zero_right] at hg
            have hgb := z_gc_b (z_str2 m (z_g L k.toNat))
            have eb : (b : Int) = z_gc (z_str2 m (z_g L k.toNat)) := by unfold z_gc; rw [← hg]
            rw [eb]
            refine aw_iload_n (pc := 86) dX9_strength_86 rfl ?_
            refine aw_if_ne (pc := 87) (tgt := 97) dX9_strength_87 rfl (by first | omega | exact z_bl_r _) (fun h87 => ?_) (fun h87 => ?_)
            · refine aw_ldc2 (pc := 97) (v := 27720) dX9_strength_97 k_cst_X9_82 ?_
              refine aw_lload (pc := 100) dX9_strength_100 rfl ?_
              refine aw_ldiv (pc := 102) dX9_strength_102 (by omega) (by omega) (by omega) ?_
              refine aw_lreturn (pc := 103) dX9_strength_103 rfl ⟨Nat.zero_le _, Nat.zero_le _⟩ ?_
              have er : (z_rSt m L k p) = (z_stv m (z_g L k.toNat) p, 0) := (if_neg (by omega)).trans (if_neg (by omega))
              refine ⟨?_, rfl, rfl, hIc, hfc, by rw [er]; exact c15⟩
              rw [er]
              unfold z_stv
              first | (exfalso; omega) | rw [if_pos (show p = 0 by omega)] | rw [if_neg (show ¬ p = 0 by omega)]
              all_goals rfl
            · refine aw_lload_n (pc := 90) dX9_strength_90 rfl ?_
              refine aw_lload (pc := 91) dX9_strength_91 rfl ?_
              refine aw_ldiv (pc := 93) dX9_strength_93 (by omega) (by omega) (by omega) ?_
              refine aw_goto (pc := 94) (tgt := 103) dX9_strength_94 rfl ?_
              refine aw_lreturn (pc := 103) dX9_strength_103 rfl ⟨Nat.zero_le _, Nat.zero_le _⟩ ?_
              have er : (z_rSt m L k p) = (z_stv m (z_g L k.toNat) p, 0) := (if_neg (by omega)).trans (if_neg (by omega))
              refine ⟨?_, rfl, rfl, hIc, hfc, by rw [er]; exact c15⟩
              rw [er]
              unfold z_stv
              first | (exfalso; omega) | rw [if_pos (show p = 0 by omega)] | rw [if_neg (show ¬ p = 0 by omega)]
              all_goals rfl
          | succ n ih =>
            intro a b u hn ha hb hg
            refine aw_lload (pc := 61) dX9_strength_61 rfl ?_
            refine aw_lconst (pc := 63) (v := 0) dX9_strength_63 rfl ?_
            refine aw_lcmp_eq (pc := 64) (tgt := 86) dX9_strength_64 dX9_strength_65 rfl (by omega) (by omega) (fun h64 => ?_) (fun h64 => ?_)
            · have hb0 : a = 0 := by omega
              rw [hb0, Nat.gcd_zero_right] at hg
              have hgb := z_gc_b (z_str2 m (z_g L k.toNat))
              have eb : (b : Int) = z_gc (z_str2 m (z_g L k.toNat)) := by unfold z_gc; rw [← hg]
              rw [eb]
              refine aw_iload_n (pc := 86) dX9_strength_86 rfl ?_
              refine aw_if_ne (pc := 87) (tgt := 97) dX9_strength_87 rfl (by first | omega | exact z_bl_r _) (fun h87 => ?_) (fun h87 => ?_)
              · refine aw_ldc2 (pc := 97) (v := 27720) dX9_strength_97 k_cst_X9_82 ?_
                refine aw_lload (pc := 100) dX9_strength_100 rfl ?_
                refine aw_ldiv (pc := 102) dX9_strength_102 (by omega) (by omega) (by omega) ?_
                refine aw_lreturn (pc := 103) dX9_strength_103 rfl ⟨Nat.zero_le _, Nat.zero_le _⟩ ?_
                have er : (z_rSt m L k p) = (z_stv m (z_g L k.toNat) p, 0) := (if_neg (by omega)).trans (if_neg (by omega))
                refine ⟨?_, rfl, rfl, hIc, hfc, by rw [er]; exact c15⟩
                rw [er]
                unfold z_stv
                first | (exfalso; omega) | rw [if_pos (show p = 0 by omega)] | rw [if_neg (show ¬ p = 0 by omega)]
                all_goals rfl
              · refine aw_lload_n (pc := 90) dX9_strength_90 rfl ?_
                refine aw_lload (pc := 91) dX9_strength_91 rfl ?_
                refine aw_ldiv (pc := 93) dX9_strength_93 (by omega) (by omega) (by omega) ?_
                refine aw_goto (pc := 94) (tgt := 103) dX9_strength_94 rfl ?_
                refine aw_lreturn (pc := 103) dX9_strength_103 rfl ⟨Nat.zero_le _, Nat.zero_le _⟩ ?_
                have er : (z_rSt m L k p) = (z_stv m (z_g L k.toNat) p, 0) := (if_neg (by omega)).trans (if_neg (by omega))
                refine ⟨?_, rfl, rfl, hIc, hfc, by rw [er]; exact c15⟩
                rw [er]
                unfold z_stv
                first | (exfalso; omega) | rw [if_pos (show p = 0 by omega)] | rw [if_neg (show ¬ p = 0 by omega)]
                all_goals rfl
            · have hap : 0 < a := by omega
              have em : (b : Int).tmod (a : Int) = ((b % a : Nat) : Int) := by rw [Int.tmod_eq_emod_of_nonneg (by omega)]; rfl
              have hml := Nat.mod_lt b hap
              refine aw_lload (pc := 68) dX9_strength_68 rfl ?_
              refine aw_lload (pc := 70) dX9_strength_70 rfl ?_
              refine aw_lrem (pc := 72) dX9_strength_72 (by omega) (by omega) (by omega) ?_
              rw [em]
              refine aw_lstore (pc := 73) (lv' := [_, _, _, _, _, _, _, _, _, _, _]) dX9_strength_73 (Nat.le_of_ble_eq_true rfl) rfl ?_
              refine aw_lload (pc := 75) dX9_strength_75 rfl ?_
              refine aw_lstore (pc := 77) (lv' := [_, _, _, _, _, _, _, _, _, _, _]) dX9_strength_77 (Nat.le_of_ble_eq_true rfl) rfl ?_
              refine aw_lload (pc := 79) dX9_strength_79 rfl ?_
              refine aw_lstore (pc := 81) (lv' := [_, _, _, _, _, _, _, _, _, _, _]) dX9_strength_81 (Nat.le_of_ble_eq_true rfl) rfl ?_
              refine aw_goto (pc := 83) (tgt := 61) dX9_strength_83 rfl ?_
              exact ih (b % a) a _ (by omega) (by omega) (by omega) (by rw [← hg, z_gcs (a := b) hap])
        refine aw_aload_n (pc := 36) dX9_strength_36 rfl ?_
        refine aw_iload_n (pc := 37) dX9_strength_37 rfl ?_
        refine aw_qV (pc := 38) (d := m_X9_over) (K2) k_X9_over dX9_strength_38 k_ml_X9_194 rfl ⟨rfl, rfl⟩ (by omega) (by first | rfl | exact z_shr _ (by omega) | exact z_shc0 (by omega) | exact z_shc1 (by omega) | exact z_shc2 (by omega) | exact z_shc3 (by omega) | exact z_shc4 (by omega)) rfl ⟨Nat.le_of_ble_eq_true rfl, Nat.le_of_ble_eq_true rfl⟩ ⟨Nat.zero_le _, Nat.zero_le _⟩ rfl (Nat.le_of_ble_eq_true rfl) (z_Pk ?_)
        refine aw_lstore_n (pc := 41) (lv' := [_, _, _, _, _, _, _, _, _, _, _]) dX9_strength_41 (Nat.le_of_ble_eq_true rfl) rfl ?_
        refine aw_lload_n (pc := 42) dX9_strength_42 rfl ?_
        refine aw_lconst (pc := 43) (v := 0) dX9_strength_43 rfl ?_
        refine aw_lcmp_ge (pc := 44) (tgt := 53) dX9_strength_44 dX9_strength_45 rfl (by omega) (by omega) (fun h44 => ?_) (fun h44 => ?_)
        · refine aw_lload_n (pc := 53) dX9_strength_53 rfl ?_
          refine aw_lstore (pc := 54) (lv' := [_, _, _, _, _, _, _, _, _, _, _]) dX9_strength_54 (Nat.le_of_ble_eq_true rfl) rfl ?_
          refine aw_ldc2 (pc := 56) (v := 27720) dX9_strength_56 k_cst_X9_82 ?_
          refine aw_lstore (pc := 59) (lv' := [_, _, _, _, _, _, _, _, _, _, _]) dX9_strength_59 (Nat.le_of_ble_eq_true rfl) rfl ?_
          have ea : (z_str2 m (z_g L k.toNat)) = (((z_str2 m (z_g L k.toNat)).natAbs : Nat) : Int) := by omega
          have K := loop (z_str2 m (z_g L k.toNat)).natAbs (z_str2 m (z_g L k.toNat)).natAbs 27720 none (by omega) (by omega) (by omega) rfl
          rw [← ea] at K
          exact K
        · refine aw_lload_n (pc := 48) dX9_strength_48 rfl ?_
          refine aw_lneg (pc := 49) dX9_strength_49 ?_
          refine aw_goto (pc := 50) (tgt := 54) dX9_strength_50 rfl ?_
          refine aw_lstore (pc := 54) (lv' := [_, _, _, _, _, _, _, _, _, _, _]) dX9_strength_54 (Nat.le_of_ble_eq_true rfl) rfl ?_
          refine aw_ldc2 (pc := 56) (v := 27720) dX9_strength_56 k_cst_X9_82 ?_
          refine aw_lstore (pc := 59) (lv' := [_, _, _, _, _, _, _, _, _, _, _]) dX9_strength_59 (Nat.le_of_ble_eq_true rfl) rfl ?_
          have ea : -(z_str2 m (z_g L k.toNat)) = (((z_str2 m (z_g L k.toNat)).natAbs : Nat) : Int) := by omega
          have K := loop (z_str2 m (z_g L k.toNat)).natAbs (z_str2 m (z_g L k.toNat)).natAbs 27720 none (by omega) (by omega) (by omega) rfl
          rw [← ea] at K
          exact K
      · refine aw_aload_n (pc := 29) dX9_strength_29 rfl ?_
        refine aw_iconst (pc := 30) dX9_strength_30 ?_
        refine aw_putI (pc := 31) dX9_strength_31 k_fl_X9_63 rfl (by omega) (by first | rfl | exact z_shr _ (by omega) | exact z_shc0 (by omega) | exact z_shc1 (by omega) | exact z_shc2 (by omega) | exact z_shc3 (by omega) | exact z_shc4 (by omega)) ?_
        refine aw_lconst (pc := 34) (v := 0) dX9_strength_34 rfl ?_
        refine aw_lreturn (pc := 35) dX9_strength_35 rfl ⟨Nat.zero_le _, Nat.zero_le _⟩ ?_
        first | rw [z_bl_n] at h10 | rw [z_bl_0] at h10 | skip
        have er : (z_rSt m L k p) = (0, 2) := (if_neg (by omega)).trans (if_pos (by omega))
        exact ⟨by rw [er], rfl, rfl, hIc.code, hfc.upI (by omega), by rw [er]; exact z_up_s _ _ _ _⟩
  · refine aw_aload_n (pc := 13) dX9_strength_13 rfl ?_
    refine aw_iconst (pc := 14) dX9_strength_14 ?_
    refine aw_putI (pc := 15) dX9_strength_15 k_fl_X9_63 rfl (by omega) (by first | rfl | exact z_shr _ (by omega) | exact z_shc0 (by omega) | exact z_shc1 (by omega) | exact z_shc2 (by omega) | exact z_shc3 (by omega) | exact z_shc4 (by omega)) ?_
    refine aw_lconst (pc := 18) (v := 0) dX9_strength_18 rfl ?_
    refine aw_lreturn (pc := 19) dX9_strength_19 rfl ⟨Nat.zero_le _, Nat.zero_le _⟩ ?_
    first | rw [z_bl_n] at h10 | rw [z_bl_0] at h10 | skip
    have er : (z_rSt m L k p) = (0, 1) := if_pos (by omega)
    exact ⟨by rw [er], rfl, rfl, hIc.code, hfc.upI (by omega), by rw [er]; exact z_up_s _ _ _ _⟩
