theorem z_gcs {a b : Nat} (_ : 0 < b) : Nat.gcd a b = Nat.gcd b (a % b) := by
  rw [Nat.gcd_comm a b, Nat.gcd_rec b a, Nat.gcd_comm]
set_option maxHeartbeats 4000000 in
theorem c_X8_commonWithScale {R : AwR} {I J : AwI} {v : Int} (hv : -100000000000 ≤ v ∧ v ≤ 100000000000) : CT m_X8_commonWithScale [zl v] 255 I J R (z_P (some (zl (z_gc v))) 255 I J R) := by
  refine CT.of (by decide) (Nat.le_of_ble_eq_true rfl) ?_
  show AW _ 0 0 _ 0 [some (zl v), none, none, none, none, none, none, none, none] [] _ _ _
  have loop : ∀ (k : Nat) (x a b : Nat) (u : Option AwV), (x : Int) + k = 100 → a * b < 2 ^ k → b < a → a ≤ 27720 → Nat.gcd a b = Nat.gcd 27720 v.natAbs → AW (FM m_X8_commonWithScale (z_P (some (zl (z_gc v))) 255 I J R)) 0 0 255 17 [some (zl v), none, some (zl (a : Int)), none, some (zl (b : Int)), none, some (zi (x : Int)), u, none] [] I J R := by
    intro k
    induction k with
    | zero =>
      intro x a b u he hp hab ha hg
      refine aw_iload (pc := 17) dX8_commonWithScale_17 rfl ?_
      refine aw_bipush (pc := 19) dX8_commonWithScale_19 rfl ?_
      refine aw_icmp_ge (pc := 21) (tgt := 50) dX8_commonWithScale_21 rfl (by omega) (by omega) (fun h21 => ?_) (fun h21 => absurd h21 (by omega))
      refine aw_lload_n (pc := 50) dX8_commonWithScale_50 rfl ?_
      refine aw_lconst (pc := 51) (v := 1) dX8_commonWithScale_51 rfl ?_
      refine aw_qS (pc := 52) (d := m_J9_max_f86c9) (c_maxL (by omega) (by omega)) k_J9_max_f86c9 dX8_commonWithScale_52 k_ml_X8_214 rfl ⟨rfl, rfl⟩ ⟨Nat.le_of_ble_eq_true rfl, Nat.le_of_ble_eq_true rfl⟩ ⟨Nat.zero_le _, Nat.zero_le _⟩ rfl (Nat.le_of_ble_eq_true rfl) (z_Pk ?_)
      refine aw_lreturn (pc := 55) dX8_commonWithScale_55 rfl ⟨Nat.zero_le _, Nat.zero_le _⟩ ?_
      refine ⟨?_, rfl, rfl, rfl, rfl⟩
      have hb0 : b = 0 := by first | omega | (have q := hp; rw [Nat.pow_zero] at q; rcases Nat.eq_zero_or_pos b with q2 | q2; (exact q2); (have := Nat.mul_pos (show 0 < a by omega) q2; omega))
      rw [hb0, Nat.gcd_zero_right] at hg
      unfold z_mx z_gc
      rw [← hg, if_neg (by omega)]
    | succ k ih =>
      intro x a b u he hp hab ha hg
      refine aw_iload (pc := 17) dX8_commonWithScale_17 rfl ?_
      refine aw_bipush (pc := 19) dX8_commonWithScale_19 rfl ?_
      refine aw_icmp_ge (pc := 21) (tgt := 50) dX8_commonWithScale_21 rfl (by omega) (by omega) (fun h21 => absurd h21 (by omega)) (fun h21 => ?_)
      refine aw_lload (pc := 24) dX8_commonWithScale_24 rfl ?_
      refine aw_lconst (pc := 26) (v := 0) dX8_commonWithScale_26 rfl ?_
      refine aw_lcmp_eq (pc := 27) (tgt := 50) dX8_commonWithScale_27 dX8_commonWithScale_28 rfl (by omega) (by omega) (fun h27 => ?_) (fun h27 => ?_)
      · refine aw_lload_n (pc := 50) dX8_commonWithScale_50 rfl ?_
        refine aw_lconst (pc := 51) (v := 1) dX8_commonWithScale_51 rfl ?_
        refine aw_qS (pc := 52) (d := m_J9_max_f86c9) (c_maxL (by omega) (by omega)) k_J9_max_f86c9 dX8_commonWithScale_52 k_ml_X8_214 rfl ⟨rfl, rfl⟩ ⟨Nat.le_of_ble_eq_true rfl, Nat.le_of_ble_eq_true rfl⟩ ⟨Nat.zero_le _, Nat.zero_le _⟩ rfl (Nat.le_of_ble_eq_true rfl) (z_Pk ?_)
        refine aw_lreturn (pc := 55) dX8_commonWithScale_55 rfl ⟨Nat.zero_le _, Nat.zero_le _⟩ ?_
        refine ⟨?_, rfl, rfl, rfl, rfl⟩
        have hb0 : b = 0 := by first | omega | (have q := hp; rw [Nat.pow_zero] at q; rcases Nat.eq_zero_or_pos b with q2 | q2; (exact q2); (have := Nat.mul_pos (show 0 < a by omega) q2; omega))
        rw [hb0, Nat.gcd_zero_right] at hg
        unfold z_mx z_gc
        rw [← hg, if_neg (by omega)]
      · have hbp : 0 < b := by omega
        have em : (a : Int).tmod (b : Int) = ((a % b : Nat) : Int) := by rw [Int.tmod_eq_emod_of_nonneg (by omega)]; rfl
        have hmb := Nat.mod_lt a hbp
        refine aw_lload_n (pc := 31) dX8_commonWithScale_31 rfl ?_
        refine aw_lload (pc := 32) dX8_commonWithScale_32 rfl ?_
        refine aw_lrem (pc := 34) dX8_commonWithScale_34 (by omega) (by omega) (by omega) ?_
        rw [em]
        refine aw_lstore (pc := 35) (lv' := [_, _, _, _, _, _, _, _, _]) dX8_commonWithScale_35 (Nat.le_of_ble_eq_true rfl) rfl ?_
        refine aw_lload (pc := 37) dX8_commonWithScale_37 rfl ?_
        refine aw_lstore_n (pc := 39) (lv' := [_, _, _, _, _, _, _, _, _]) dX8_commonWithScale_39 (Nat.le_of_ble_eq_true rfl) rfl ?_
        refine aw_lload (pc := 40) dX8_commonWithScale_40 rfl ?_
        refine aw_lstore (pc := 42) (lv' := [_, _, _, _, _, _, _, _, _]) dX8_commonWithScale_42 (Nat.le_of_ble_eq_true rfl) rfl ?_
        refine aw_iinc (pc := 44) (lv' := [_, _, _, _, _, _, _, _, _]) dX8_commonWithScale_44 (Nat.le_of_ble_eq_true rfl) rfl rfl ?_
        refine aw_goto (pc := 47) (tgt := 17) dX8_commonWithScale_47 rfl ?_
        exact ih (x + 1) b (a % b) _ (by omega) (z_eu hbp hab hp) hmb (by omega) (by rw [← z_gcs hbp]; exact hg)
  have eab : z_ab v = (v.natAbs : Int) := by unfold z_ab; split <;> omega
  have em0 : ((v.natAbs : Int)).tmod 27720 = ((v.natAbs % 27720 : Nat) : Int) := by rw [Int.tmod_eq_emod_of_nonneg (by omega)]; rfl
  have hml := Nat.mod_lt v.natAbs (show 27720 > 0 by omega)
  refine aw_ldc2 (pc := 0) (v := 27720) dX8_commonWithScale_0 k_cst_X8_178 ?_
  refine aw_lstore_n (pc := 3) (lv' := [_, _, _, _, _, _, _, _, _]) dX8_commonWithScale_3 (Nat.le_of_ble_eq_true rfl) rfl ?_
  refine aw_lload_n (pc := 4) dX8_commonWithScale_4 rfl ?_
  refine aw_qS (pc := 5) (d := m_J9_abs_067f4) (c_absL (by omega)) k_J9_abs_067f4 dX8_commonWithScale_5 k_ml_X8_209 rfl ⟨rfl, rfl⟩ ⟨Nat.le_of_ble_eq_true rfl, Nat.le_of_ble_eq_true rfl⟩ ⟨Nat.zero_le _, Nat.zero_le _⟩ rfl (Nat.le_of_ble_eq_true rfl) (z_Pk ?_)
  rw [eab]
  refine aw_ldc2 (pc := 8) (v := 27720) dX8_commonWithScale_8 k_cst_X8_178 ?_
  refine aw_lrem (pc := 11) dX8_commonWithScale_11 (by omega) (by omega) (by omega) ?_
  rw [em0]
  refine aw_lstore (pc := 12) (lv' := [_, _, _, _, _, _, _, _, _]) dX8_commonWithScale_12 (Nat.le_of_ble_eq_true rfl) rfl ?_
  refine aw_iconst (pc := 14) dX8_commonWithScale_14 ?_
  refine aw_istore (pc := 15) (lv' := [_, _, _, _, _, _, _, _, _]) dX8_commonWithScale_15 (Nat.le_of_ble_eq_true rfl) rfl ?_
  have K := loop 100 0 27720 (v.natAbs % 27720) none (by omega) ?_ hml (by omega) (by rw [Nat.gcd_comm, ← Nat.gcd_rec, Nat.gcd_comm])
  · exact K
  · have := Nat.mul_lt_mul_of_lt_of_le (Nat.lt_irrefl 0 |> fun _ => hml) (Nat.le_refl 27720) (by omega)
    rw [Nat.mul_comm] at this
    exact Nat.lt_trans this (by decide)
set_option maxHeartbeats 4000000 in
theorem c_X8_cut {π : Nat → Nat} {I J : AwI} {m : z_MM} {L : List z_CC} {t : Int} {k w i : Int} (hI : z_CI I J π m L t) (h0 : 0 ≤ k ∧ k < (L.length : Int)) (hw : 0 ≤ w ∧ w ≤ 3) (hi : -2147483648 ≤ i ∧ i ≤ 2147483647) (hn : w = 0 → 0 ≤ i ∧ i < (mN m : Int)) : CT m_X8_cut [zr 0, zi k, zi w, zi i] 255 I J (z_R π) (z_P (some (zi (z_cutv (z_g L k.toNat) w i))) 255 I J (z_R π)) := by
  have hI0 := hI
  obtain ⟨h, hm, hlh, hL, hc, ht, h01, h225, h232, hA⟩ := hI0
  subst hm
  have hnm := h.nm
  have hrw := h.rw
  have hn4 := hL.n
  have eN : mN (z_clM I J) = (I 1 5).toNat := rfl
  have eR : mR (z_clM I J) = (I 1 6).toNat := rfl
  have eL := hc.1
  have hkL : k.toNat < L.length := by omega
  obtain ⟨hD, hp41, hCC, hag⟩ := hI.at hkL
  refine CT.of (by decide) (Nat.le_of_ble_eq_true rfl) ?_
  show AW _ 0 0 _ 0 [some (zr 0), some (zi k), some (zi w), some (zi i), none] [] _ _ _
  refine aw_aload_n (pc := 0) dX8_cut_0 rfl ?_
  refine aw_getR (pc := 1) dX8_cut_1 k_fl_X8_21 rfl (by omega) (by first | rfl | exact z_shr _ (by omega) | exact z_shc0 (by omega) | exact z_shc1 (by omega) | exact z_shc2 (by omega) | exact z_shc3 (by omega) | exact z_shc4 (by omega)) (by first | rfl | exact z_Rc0 _ (by omega) | exact z_Rc1 _ (by omega) | exact z_Rc2 _ (by omega) | exact z_Rc3 _ (by omega)) ?_
  refine aw_iload_n (pc := 4) dX8_cut_4 rfl ?_
  refine aw_qV (pc := 5) (d := m_X5_has) (c_X5_has hL (by omega)) k_X5_has dX8_cut_5 k_ml_X8_115 rfl ⟨rfl, rfl⟩ (by omega) (by first | rfl | exact z_shr _ (by omega) | exact z_shc0 (by omega) | exact z_shc1 (by omega) | exact z_shc2 (by omega) | exact z_shc3 (by omega) | exact z_shc4 (by omega)) rfl ⟨Nat.le_of_ble_eq_true rfl, Nat.le_of_ble_eq_true rfl⟩ ⟨Nat.zero_le _, Nat.zero_le _⟩ rfl (Nat.le_of_ble_eq_true rfl) (z_Pk ?_)
  refine aw_if_ne (pc := 8) (tgt := 21) dX8_cut_8 rfl (by first | omega | exact z_bl_r _) (fun h8 => ?_) (fun h8 => absurd h8 (by rw [z_bl_t (by omega)]; omega))
  refine aw_aload_n (pc := 21) dX8_cut_21 rfl ?_
  refine aw_getR (pc := 22) dX8_cut_22 k_fl_X8_21 rfl (by omega) (by first | rfl | exact z_shr _ (by omega) | exact z_shc0 (by omega) | exact z_shc1 (by omega) | exact z_shc2 (by omega) | exact z_shc3 (by omega) | exact z_shc4 (by omega)) (by first | rfl | exact z_Rc0 _ (by omega) | exact z_Rc1 _ (by omega) | exact z_Rc2 _ (by omega) | exact z_Rc3 _ (by omega)) ?_
  refine aw_getR (pc := 25) dX8_cut_25 k_fl_X8_125 rfl (by omega) (by first | rfl | exact z_shr _ (by omega) | exact z_shc0 (by omega) | exact z_shc1 (by omega) | exact z_shc2 (by omega) | exact z_shc3 (by omega) | exact z_shc4 (by omega)) (by first | rfl | exact z_Rc0 _ (by omega) | exact z_Rc1 _ (by omega) | exact z_Rc2 _ (by omega) | exact z_Rc3 _ (by omega)) ?_
  refine aw_iload_n (pc := 28) dX8_cut_28 rfl ?_
  refine aw_aaloadQ (b := 19 + 5 * π k.toNat) (pc := 29) dX8_cut_29 (by omega) (Nat.le_refl _) rfl (by omega) (by rfl) ?_
  refine aw_astore (pc := 30) (lv' := [_, _, _, _, _]) dX8_cut_30 (Nat.le_of_ble_eq_true rfl) rfl ?_
  refine aw_iload_n (pc := 32) dX8_cut_32 rfl ?_
  rcases (show w = 0 ∨ w = 1 ∨ w = 2 ∨ w = 3 by omega) with h33 | h33 | h33 | h33
  · subst h33
    refine aw_tbl_in (pc := 33) (tgt := 64) (off := 31) dX8_cut_33 (by omega) (by omega) rfl rfl ?_
    refine aw_aload_n (pc := 64) dX8_cut_64 rfl ?_
    refine aw_getR (pc := 65) dX8_cut_65 k_fl_X8_10 rfl (by omega) (by first | rfl | exact z_shr _ (by omega) | exact z_shc0 (by omega) | exact z_shc1 (by omega) | exact z_shc2 (by omega) | exact z_shc3 (by omega) | exact z_shc4 (by omega)) (by first | rfl | exact z_Rc0 _ (by omega) | exact z_Rc1 _ (by omega) | exact z_Rc2 _ (by omega) | exact z_Rc3 _ (by omega)) ?_
    refine aw_iload_n (pc := 68) dX8_cut_68 rfl ?_
    refine aw_qV (pc := 69) (d := m_X6_hasName) (c_X6_hasName h hi) k_X6_hasName dX8_cut_69 k_ml_X8_88 rfl ⟨rfl, rfl⟩ (by omega) (by first | rfl | exact z_shr _ (by omega) | exact z_shc0 (by omega) | exact z_shc1 (by omega) | exact z_shc2 (by omega) | exact z_shc3 (by omega) | exact z_shc4 (by omega)) rfl ⟨Nat.le_of_ble_eq_true rfl, Nat.le_of_ble_eq_true rfl⟩ ⟨Nat.zero_le _, Nat.zero_le _⟩ rfl (Nat.le_of_ble_eq_true rfl) (z_Pk ?_)
    refine aw_if_ne (pc := 72) (tgt := 85) dX8_cut_72 rfl (by first | omega | exact z_bl_r _) (fun h72 => ?_) (fun h72 => absurd h72 (by have := hn rfl; rw [z_bl_t (by omega)]; omega))
    refine aw_aload (pc := 85) dX8_cut_85 rfl ?_
    refine aw_getR (pc := 87) dX8_cut_87 k_fl_X8_131 rfl (by omega) (by first | rfl | exact z_shr _ (by omega) | exact z_shc0 (by omega) | exact z_shc1 (by omega) | exact z_shc2 (by omega) | exact z_shc3 (by omega) | exact z_shc4 (by omega)) (by first | rfl | exact z_Rc0 _ (by omega) | exact z_Rc1 _ (by omega) | exact z_Rc2 _ (by omega) | exact z_Rc3 _ (by omega)) ?_
    refine aw_iload_n (pc := 90) dX8_cut_90 rfl ?_
    refine aw_iaload (pc := 91) dX8_cut_91 (by omega) (Nat.le_refl _) (by first | rfl | exact z_shr _ (by omega) | exact z_shc0 (by omega) | exact z_shc1 (by omega) | exact z_shc2 (by omega) | exact z_shc3 (by omega) | exact z_shc4 (by omega)) (by have := hn rfl; omega) ?_
    exact aw_ireturn (pc := 92) dX8_cut_92 rfl ⟨Nat.zero_le _, Nat.zero_le _⟩ (⟨by rw [hD.1 _ (by have := hn rfl; omega)]; rfl, rfl, rfl, rfl, rfl⟩)
  · subst h33
    refine aw_tbl_in (pc := 33) (tgt := 93) (off := 60) dX8_cut_33 (by omega) (by omega) rfl rfl ?_
    refine aw_aload (pc := 93) dX8_cut_93 rfl ?_
    refine aw_getI (pc := 95) dX8_cut_95 k_fl_X8_136 rfl (by omega) (by first | rfl | exact z_shr _ (by omega) | exact z_shc0 (by omega) | exact z_shc1 (by omega) | exact z_shc2 (by omega) | exact z_shc3 (by omega) | exact z_shc4 (by omega)) ?_
    exact aw_ireturn (pc := 98) dX8_cut_98 rfl ⟨Nat.zero_le _, Nat.zero_le _⟩ (⟨by rw [hD.2.1]; rfl, rfl, rfl, rfl, rfl⟩)
  · subst h33
    refine aw_tbl_in (pc := 33) (tgt := 99) (off := 66) dX8_cut_33 (by omega) (by omega) rfl rfl ?_
    refine aw_aload (pc := 99) dX8_cut_99 rfl ?_
    refine aw_getI (pc := 101) dX8_cut_101 k_fl_X8_139 rfl (by omega) (by first | rfl | exact z_shr _ (by omega) | exact z_shc0 (by omega) | exact z_shc1 (by omega) | exact z_shc2 (by omega) | exact z_shc3 (by omega) | exact z_shc4 (by omega)) ?_
    exact aw_ireturn (pc := 104) dX8_cut_104 rfl ⟨Nat.zero_le _, Nat.zero_le _⟩ (⟨by rw [hD.2.2.1]; rfl, rfl, rfl, rfl, rfl⟩)
  · subst h33
    refine aw_tbl_in (pc := 33) (tgt := 105) (off := 72) dX8_cut_33 (by omega) (by omega) rfl rfl ?_
    refine aw_aload (pc := 105) dX8_cut_105 rfl ?_
    refine aw_getI (pc := 107) dX8_cut_107 k_fl_X8_142 rfl (by omega) (by first | rfl | exact z_shr _ (by omega) | exact z_shc0 (by omega) | exact z_shc1 (by omega) | exact z_shc2 (by omega) | exact z_shc3 (by omega) | exact z_shc4 (by omega)) ?_
    exact aw_ireturn (pc := 110) dX8_cut_110 rfl ⟨Nat.zero_le _, Nat.zero_le _⟩ (⟨by rw [hD.2.2.2.1]; rfl, rfl, rfl, rfl, rfl⟩)
set_option maxHeartbeats 4000000 in
theorem c_X8_strength {π : Nat → Nat} {I J : AwI} {m : z_MM} {L : List z_CC} {t : Int} {k p : Int} (hI : z_CI I J π m L t) (h0 : 0 ≤ k ∧ k < (L.length : Int)) (hp : p = 0 ∨ p = 1) : CT m_X8_strength [zr 0, zi k, zi p] 255 I J (z_R π) (z_P (some (zl (z_stv m (z_g L k.toNat) p))) 255 I J (z_R π)) := by
  have hI0 := hI
  obtain ⟨h, hm, hlh, hL, hc, ht, h01, h225, h232, hA⟩ := hI0
  subst hm
  have hnm := h.nm
  have hrw := h.rw
  have hn4 := hL.n
  have eN : mN (z_clM I J) = (I 1 5).toNat := rfl
  have eR : mR (z_clM I J) = (I 1 6).toNat := rfl
  have eL := hc.1
  have hkL : k.toNat < L.length := by omega
  obtain ⟨hD, hp41, hCC, hag⟩ := hI.at hkL
  have hb := z_cst_b h hCC
  have es := z_clM_str h hD
  rw [es] at hb
  have hgb := z_gc_b (z_str2 (z_clM I J) (z_g L k.toNat))
  refine CT.of (by decide) (Nat.le_of_ble_eq_true rfl) ?_
  show AW _ 0 0 _ 0 [some (zr 0), some (zi k), some (zi p), none, none, none, none] [] _ _ _
  refine aw_aload_n (pc := 0) dX8_strength_0 rfl ?_
  refine aw_getR (pc := 1) dX8_strength_1 k_fl_X8_21 rfl (by omega) (by first | rfl | exact z_shr _ (by omega) | exact z_shc0 (by omega) | exact z_shc1 (by omega) | exact z_shc2 (by omega) | exact z_shc3 (by omega) | exact z_shc4 (by omega)) (by first | rfl | exact z_Rc0 _ (by omega) | exact z_Rc1 _ (by omega) | exact z_Rc2 _ (by omega) | exact z_Rc3 _ (by omega)) ?_
  refine aw_iload_n (pc := 4) dX8_strength_4 rfl ?_
  refine aw_qV (pc := 5) (d := m_X5_has) (c_X5_has hL (by omega)) k_X5_has dX8_strength_5 k_ml_X8_115 rfl ⟨rfl, rfl⟩ (by omega) (by first | rfl | exact z_shr _ (by omega) | exact z_shc0 (by omega) | exact z_shc1 (by omega) | exact z_shc2 (by omega) | exact z_shc3 (by omega) | exact z_shc4 (by omega)) rfl ⟨Nat.le_of_ble_eq_true rfl, Nat.le_of_ble_eq_true rfl⟩ ⟨Nat.zero_le _, Nat.zero_le _⟩ rfl (Nat.le_of_ble_eq_true rfl) (z_Pk ?_)
  refine aw_if_ne (pc := 8) (tgt := 21) dX8_strength_8 rfl (by first | omega | exact z_bl_r _) (fun h8 => ?_) (fun h8 => absurd h8 (by rw [z_bl_t (by omega)]; omega))
  refine aw_iload_n (pc := 21) dX8_strength_21 rfl ?_
  refine aw_if_eq (pc := 22) (tgt := 40) dX8_strength_22 rfl (by first | omega | exact z_bl_r _) (fun h22 => ?_) (fun h22 => ?_)
  · refine aw_aload_n (pc := 40) dX8_strength_40 rfl ?_
    refine aw_getR (pc := 41) dX8_strength_41 k_fl_X8_10 rfl (by omega) (by first | rfl | exact z_shr _ (by omega) | exact z_shc0 (by omega) | exact z_shc1 (by omega) | exact z_shc2 (by omega) | exact z_shc3 (by omega) | exact z_shc4 (by omega)) (by first | rfl | exact z_Rc0 _ (by omega) | exact z_Rc1 _ (by omega) | exact z_Rc2 _ (by omega) | exact z_Rc3 _ (by omega)) ?_
    refine aw_aload_n (pc := 44) dX8_strength_44 rfl ?_
    refine aw_getR (pc := 45) dX8_strength_45 k_fl_X8_21 rfl (by omega) (by first | rfl | exact z_shr _ (by omega) | exact z_shc0 (by omega) | exact z_shc1 (by omega) | exact z_shc2 (by omega) | exact z_shc3 (by omega) | exact z_shc4 (by omega)) (by first | rfl | exact z_Rc0 _ (by omega) | exact z_Rc1 _ (by omega) | exact z_Rc2 _ (by omega) | exact z_Rc3 _ (by omega)) ?_
    refine aw_getR (pc := 48) dX8_strength_48 k_fl_X8_125 rfl (by omega) (by first | rfl | exact z_shr _ (by omega) | exact z_shc0 (by omega) | exact z_shc1 (by omega) | exact z_shc2 (by omega) | exact z_shc3 (by omega) | exact z_shc4 (by omega)) (by first | rfl | exact z_Rc0 _ (by omega) | exact z_Rc1 _ (by omega) | exact z_Rc2 _ (by omega) | exact z_Rc3 _ (by omega)) ?_
    refine aw_iload_n (pc := 51) dX8_strength_51 rfl ?_
    refine aw_aaloadQ (b := 19 + 5 * π k.toNat) (pc := 52) dX8_strength_52 (by omega) (Nat.le_refl _) rfl (by omega) (by rfl) ?_
    refine aw_qV (pc := 53) (d := m_X6_scaledStrength) (c_X6_scaledStrength h hp41 hCC) k_X6_scaledStrength dX8_strength_53 k_ml_X8_170 rfl ⟨rfl, rfl⟩ (by omega) (by first | rfl | exact z_shr _ (by omega) | exact z_shc0 (by omega) | exact z_shc1 (by omega) | exact z_shc2 (by omega) | exact z_shc3 (by omega) | exact z_shc4 (by omega)) rfl ⟨Nat.le_of_ble_eq_true rfl, Nat.le_of_ble_eq_true rfl⟩ ⟨Nat.zero_le _, Nat.zero_le _⟩ rfl (Nat.le_of_ble_eq_true rfl) (z_Pk ?_)
    rw [es]
    refine aw_lstore_n (pc := 56) (lv' := [_, _, _, _, _, _, _]) dX8_strength_56 (Nat.le_of_ble_eq_true rfl) rfl ?_
    refine aw_lload_n (pc := 57) dX8_strength_57 rfl ?_
    refine aw_qS (pc := 58) (d := m_X8_commonWithScale) (c_X8_commonWithScale hb) k_X8_commonWithScale dX8_strength_58 k_ml_X8_174 rfl ⟨rfl, rfl⟩ ⟨Nat.le_of_ble_eq_true rfl, Nat.le_of_ble_eq_true rfl⟩ ⟨Nat.zero_le _, Nat.zero_le _⟩ rfl (Nat.le_of_ble_eq_true rfl) (z_Pk ?_)
    refine aw_lstore (pc := 61) (lv' := [_, _, _, _, _, _, _]) dX8_strength_61 (Nat.le_of_ble_eq_true rfl) rfl ?_
    refine aw_iload_n (pc := 63) dX8_strength_63 rfl ?_
    refine aw_if_ne (pc := 64) (tgt := 74) dX8_strength_64 rfl (by first | omega | exact z_bl_r _) (fun h64 => ?_) (fun h64 => ?_)
    · refine aw_ldc2 (pc := 74) (v := 27720) dX8_strength_74 k_cst_X8_178 ?_
      refine aw_lload (pc := 77) dX8_strength_77 rfl ?_
      refine aw_ldiv (pc := 79) dX8_strength_79 (by omega) (by omega) (by omega) ?_
      refine aw_lreturn (pc := 80) dX8_strength_80 rfl ⟨Nat.zero_le _, Nat.zero_le _⟩ ?_
      refine ⟨?_, rfl, rfl, rfl, rfl⟩
      unfold z_stv
      first | (exfalso; omega) | rw [if_pos (show p = 0 by omega)] | rw [if_neg (show ¬ p = 0 by omega)]
      all_goals rfl
    · refine aw_lload_n (pc := 67) dX8_strength_67 rfl ?_
      refine aw_lload (pc := 68) dX8_strength_68 rfl ?_
      refine aw_ldiv (pc := 70) dX8_strength_70 (by omega) (by omega) (by omega) ?_
      refine aw_goto (pc := 71) (tgt := 80) dX8_strength_71 rfl ?_
      refine aw_lreturn (pc := 80) dX8_strength_80 rfl ⟨Nat.zero_le _, Nat.zero_le _⟩ ?_
      refine ⟨?_, rfl, rfl, rfl, rfl⟩
      unfold z_stv
      first | (exfalso; omega) | rw [if_pos (show p = 0 by omega)] | rw [if_neg (show ¬ p = 0 by omega)]
      all_goals rfl
  · refine aw_iload_n (pc := 25) dX8_strength_25 rfl ?_
    refine aw_iconst (pc := 26) dX8_strength_26 ?_
    refine aw_icmp_eq (pc := 27) (tgt := 40) dX8_strength_27 rfl (by first | omega | exact z_bl_r _) (by first | omega | exact z_bl_r _) (fun h27 => ?_) (fun h27 => absurd h27 (by omega))
    refine aw_aload_n (pc := 40) dX8_strength_40 rfl ?_
    refine aw_getR (pc := 41) dX8_strength_41 k_fl_X8_10 rfl (by omega) (by first | rfl | exact z_shr _ (by omega) | exact z_shc0 (by omega) | exact z_shc1 (by omega) | exact z_shc2 (by omega) | exact z_shc3 (by omega) | exact z_shc4 (by omega)) (by first | rfl | exact z_Rc0 _ (by omega) | exact z_Rc1 _ (by omega) | exact z_Rc2 _ (by omega) | exact z_Rc3 _ (by omega)) ?_
    refine aw_aload_n (pc := 44) dX8_strength_44 rfl ?_
    refine aw_getR (pc := 45) dX8_strength_45 k_fl_X8_21 rfl (by omega) (by first | rfl | exact z_shr _ (by omega) | exact z_shc0 (by omega) | exact z_shc1 (by omega) | exact z_shc2 (by omega) | exact z_shc3 (by omega) | exact z_shc4 (by omega)) (by first | rfl | exact z_Rc0 _ (by omega) | exact z_Rc1 _ (by omega) | exact z_Rc2 _ (by omega) | exact z_Rc3 _ (by omega)) ?_
    refine aw_getR (pc := 48) dX8_strength_48 k_fl_X8_125 rfl (by omega) (by first | rfl | exact z_shr _ (by omega) | exact z_shc0 (by omega) | exact z_shc1 (by omega) | exact z_shc2 (by omega) | exact z_shc3 (by omega) | exact z_shc4 (by omega)) (by first | rfl | exact z_Rc0 _ (by omega) | exact z_Rc1 _ (by omega) | exact z_Rc2 _ (by omega) | exact z_Rc3 _ (by omega)) ?_
    refine aw_iload_n (pc := 51) dX8_strength_51 rfl ?_
    refine aw_aaloadQ (b := 19 + 5 * π k.toNat) (pc := 52) dX8_strength_52 (by omega) (Nat.le_refl _) rfl (by omega) (by rfl) ?_
    refine aw_qV (pc := 53) (d := m_X6_scaledStrength) (c_X6_scaledStrength h hp41 hCC) k_X6_scaledStrength dX8_strength_53 k_ml_X8_170 rfl ⟨rfl, rfl⟩ (by omega) (by first | rfl | exact z_shr _ (by omega) | exact z_shc0 (by omega) | exact z_shc1 (by omega) | exact z_shc2 (by omega) | exact z_shc3 (by omega) | exact z_shc4 (by omega)) rfl ⟨Nat.le_of_ble_eq_true rfl, Nat.le_of_ble_eq_true rfl⟩ ⟨Nat.zero_le _, Nat.zero_le _⟩ rfl (Nat.le_of_ble_eq_true rfl) (z_Pk ?_)
    rw [es]
    refine aw_lstore_n (pc := 56) (lv' := [_, _, _, _, _, _, _]) dX8_strength_56 (Nat.le_of_ble_eq_true rfl) rfl ?_
    refine aw_lload_n (pc := 57) dX8_strength_57 rfl ?_
    refine aw_qS (pc := 58) (d := m_X8_commonWithScale) (c_X8_commonWithScale hb) k_X8_commonWithScale dX8_strength_58 k_ml_X8_174 rfl ⟨rfl, rfl⟩ ⟨Nat.le_of_ble_eq_true rfl, Nat.le_of_ble_eq_true rfl⟩ ⟨Nat.zero_le _, Nat.zero_le _⟩ rfl (Nat.le_of_ble_eq_true rfl) (z_Pk ?_)
    refine aw_lstore (pc := 61) (lv' := [_, _, _, _, _, _, _]) dX8_strength_61 (Nat.le_of_ble_eq_true rfl) rfl ?_
    refine aw_iload_n (pc := 63) dX8_strength_63 rfl ?_
    refine aw_if_ne (pc := 64) (tgt := 74) dX8_strength_64 rfl (by first | omega | exact z_bl_r _) (fun h64 => ?_) (fun h64 => ?_)
    · refine aw_ldc2 (pc := 74) (v := 27720) dX8_strength_74 k_cst_X8_178 ?_
      refine aw_lload (pc := 77) dX8_strength_77 rfl ?_
      refine aw_ldiv (pc := 79) dX8_strength_79 (by omega) (by omega) (by omega) ?_
      refine aw_lreturn (pc := 80) dX8_strength_80 rfl ⟨Nat.zero_le _, Nat.zero_le _⟩ ?_
      refine ⟨?_, rfl, rfl, rfl, rfl⟩
      unfold z_stv
      first | (exfalso; omega) | rw [if_pos (show p = 0 by omega)] | rw [if_neg (show ¬ p = 0 by omega)]
      all_goals rfl
    · refine aw_lload_n (pc := 67) dX8_strength_67 rfl ?_
      refine aw_lload (pc := 68) dX8_strength_68 rfl ?_
      refine aw_ldiv (pc := 70) dX8_strength_70 (by omega) (by omega) (by omega) ?_
      refine aw_goto (pc := 71) (tgt := 80) dX8_strength_71 rfl ?_
      refine aw_lreturn (pc := 80) dX8_strength_80 rfl ⟨Nat.zero_le _, Nat.zero_le _⟩ ?_
      refine ⟨?_, rfl, rfl, rfl, rfl⟩
      unfold z_stv
      first | (exfalso; omega) | rw [if_pos (show p = 0 by omega)] | rw [if_neg (show ¬ p = 0 by omega)]
      all_goals rfl
