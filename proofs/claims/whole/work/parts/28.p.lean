theorem z_fo_inv2 {m : z_MM} {s : List z_CC × Int} {cand : Nat → z_CC} (h1 : s.2 = 0 → 40 ≤ s.1.length) (h2 : s.2 = 0 ∨ s.2 = 1) : ∀ k, ((z_fo m s cand k).2 = 0 → 40 ≤ (z_fo m s cand k).1.length) ∧ ((z_fo m s cand k).2 = 0 ∨ (z_fo m s cand k).2 = 1)
  | 0 => ⟨h1, h2⟩
  | k + 1 => ⟨z_of_inv (z_fo_inv2 h1 h2 k).1, z_of_01 (z_fo_inv2 h1 h2 k).2⟩
theorem z_fo_stop2 {m : z_MM} {s : List z_CC × Int} {cand : Nat → z_CC} (h1 : s.2 = 0 → 40 ≤ s.1.length) (h2 : s.2 = 0 ∨ s.2 = 1) {k : Nat} (h : (z_fo m s cand k).2 = 0) : ∀ j, z_fo m s cand (k + j) = z_fo m s cand k
  | 0 => rfl
  | j + 1 => by
    show z_of m (z_fo m s cand (k + j)) (cand (k + j)) = _
    rw [z_fo_stop2 h1 h2 h j, z_of_full h ((z_fo_inv2 h1 h2 k).1 h)]
theorem z_fo_full {m : z_MM} {s : List z_CC × Int} {cand : Nat → z_CC} (h : s.2 = 0) (hl : 40 ≤ s.1.length) : ∀ k, z_fo m s cand k = s
  | 0 => rfl
  | k + 1 => by
    show z_of m (z_fo m s cand k) (cand k) = s
    rw [z_fo_full h hl k, z_of_full h hl]
theorem z_cvO_inv {m : z_MM} {L : List z_CC} : ∀ r, ((z_cvO m (L, 1) r).2 = 0 → 40 ≤ (z_cvO m (L, 1) r).1.length) ∧ ((z_cvO m (L, 1) r).2 = 0 ∨ (z_cvO m (L, 1) r).2 = 1)
  | 0 => ⟨fun h => absurd h (by show ¬ (1 : Int) = 0; omega), Or.inr rfl⟩
  | r + 1 => z_fo_inv2 (z_cvO_inv r).1 (z_cvO_inv r).2 _
theorem z_cvO_stop {m : z_MM} {L : List z_CC} {r : Nat} (h : (z_cvO m (L, 1) r).2 = 0) : ∀ j, z_cvO m (L, 1) (r + j) = z_cvO m (L, 1) r
  | 0 => rfl
  | j + 1 => by
    show z_fo m (z_cvO m (L, 1) (r + j)) _ _ = _
    rw [z_cvO_stop h j]
    exact z_fo_full h ((z_cvO_inv r).1 h) _
theorem z_fo_len2 {m : z_MM} {s : List z_CC × Int} {cand : Nat → z_CC} (h : s.1.length ≤ 40) : ∀ k, (z_fo m s cand k).1.length ≤ 40
  | 0 => h
  | k + 1 => z_of_len (z_fo_len2 h k)
theorem z_cvO_len {m : z_MM} {L : List z_CC} (h : L.length ≤ 40) : ∀ r, (z_cvO m (L, 1) r).1.length ≤ 40
  | 0 => h
  | r + 1 => z_fo_len2 (z_cvO_len h r) _
theorem z_q_b {m : z_MM} (h : z_mb m) (r : Nat) : (z_q m r).1 ≤ 8 ∧ (∀ j, j < (z_q m r).1 → 0 ≤ (z_q m r).2.1 j ∧ (z_q m r).2.1 j < mN m ∧ 1 ≤ (z_q m r).2.2.1 j ∧ (z_q m r).2.2.1 j ≤ 50) ∧ (-100000 ≤ (z_q m r).2.2.2 ∧ (z_q m r).2.2.2 ≤ 100000) := by
  obtain ⟨h1, h2, h3⟩ := z_rl_b h (r := r) (b1 := fun _ => 0) (b2 := fun _ => 0) (mN m)
  have h8 := h.1
  unfold z_q
  exact ⟨by omega, h2, by omega⟩
set_option maxHeartbeats 4000000 in
theorem c_X3_seekCovers {π : Nat → Nat} {I J : AwI} {L : List z_CC} (h : z_M I J) (hL : z_L I π) (hc : z_clL I π (z_clM I J) L) (ht : I 17 2 = 1) : CT m_X3_seekCovers [zr 226] 255 I J (z_R π) (fun q9 sz' I' J' R' => q9 = none ∧ sz' = 255 ∧ J' = J ∧ R' = z_R π ∧ (∀ a j, a < 17 ∨ (224 ≤ a ∧ a < 226) ∨ 230 < a → I' a j = I a j) ∧ z_L I' π ∧ z_clL I' π (z_clM I J) (z_cvO (z_clM I J) (L, 1) ((I 1 6).toNat)).1 ∧ I' 17 2 = (z_cvO (z_clM I J) (L, 1) ((I 1 6).toNat)).2) := by
  have hnm := h.nm
  have hrw := h.rw
  refine CT.of (by decide) (Nat.le_of_ble_eq_true rfl) ?_
  show AW _ 0 0 _ 0 [some (zr 226), none, none] [] _ _ _
  have inner : ∀ (r : Nat), r < (I 1 6).toNat → (z_cvO (z_clM I J) (L, 1) (r)).2 = 1 → (∀ (I9 : AwI) (v : Option AwV), (∀ a j, a < 17 ∨ (224 ≤ a ∧ a < 226) ∨ 230 < a → I9 a j = I a j) → z_L I9 π → z_clL I9 π (z_clM I J) (z_cvO (z_clM I J) (L, 1) (r + 1)).1 → I9 17 2 = 1 → (z_cvO (z_clM I J) (L, 1) (r + 1)).2 = 1 → AW (FM m_X3_seekCovers (fun q9 sz' I' J' R' => q9 = none ∧ sz' = 255 ∧ J' = J ∧ R' = z_R π ∧ (∀ a j, a < 17 ∨ (224 ≤ a ∧ a < 226) ∨ 230 < a → I' a j = I a j) ∧ z_L I' π ∧ z_clL I' π (z_clM I J) (z_cvO (z_clM I J) (L, 1) ((I 1 6).toNat)).1 ∧ I' 17 2 = (z_cvO (z_clM I J) (L, 1) ((I 1 6).toNat)).2)) 0 0 255 54 [some (zr 226), some (zi (r : Int)), v] [] I9 J (z_R π)) → ∀ I1 : AwI, (∀ a j, a < 17 ∨ (224 ≤ a ∧ a < 226) ∨ 230 < a → I1 a j = I a j) → z_L I1 π → z_clL I1 π (z_clM I J) (z_cvO (z_clM I J) (L, 1) (r)).1 → I1 17 2 = 1 → (I1 226 6 = ((z_q (z_clM I J) r).1 : Int) ∧ I1 226 7 = (z_q (z_clM I J) r).2.2.2 ∧ ∀ j, j < (z_q (z_clM I J) r).1 → I1 227 j = (z_q (z_clM I J) r).2.1 j ∧ I1 228 j = (z_q (z_clM I J) r).2.2.1 j) → AW (FM m_X3_seekCovers (fun q9 sz' I' J' R' => q9 = none ∧ sz' = 255 ∧ J' = J ∧ R' = z_R π ∧ (∀ a j, a < 17 ∨ (224 ≤ a ∧ a < 226) ∨ 230 < a → I' a j = I a j) ∧ z_L I' π ∧ z_clL I' π (z_clM I J) (z_cvO (z_clM I J) (L, 1) ((I 1 6).toNat)).1 ∧ I' 17 2 = (z_cvO (z_clM I J) (L, 1) ((I 1 6).toNat)).2)) 0 0 255 20 [some (zr 226), some (zi (r : Int)), some (zi 1)] [] I1 J (z_R π) := by
    intro r hr hS0 hK I0 y1 y2 y3 y4 y5
    have qb := z_q_b (z_clM_mb h) r
    have hpw : 2 ^ (z_q (z_clM I J) r).1 ≤ 2 ^ 8 := Nat.pow_le_pow_right (by omega) qb.1
    have hpp : 1 ≤ 2 ^ (z_q (z_clM I J) r).1 := Nat.one_le_two_pow
    have loop : ∀ (n : Nat) (set : Nat) (I1 : AwI), set + n = 2 ^ (z_q (z_clM I J) r).1 → 1 ≤ set → (∀ a j, a < 17 ∨ (224 ≤ a ∧ a < 226) ∨ 230 < a → I1 a j = I a j) → z_L I1 π → z_clL I1 π (z_clM I J) (z_fo (z_clM I J) (z_cvO (z_clM I J) (L, 1) (r)) (z_cdV (z_clM I J) r) (set - 1)).1 → I1 17 2 = 1 → (z_fo (z_clM I J) (z_cvO (z_clM I J) (L, 1) (r)) (z_cdV (z_clM I J) r) (set - 1)).2 = 1 → (I1 226 6 = ((z_q (z_clM I J) r).1 : Int) ∧ I1 226 7 = (z_q (z_clM I J) r).2.2.2 ∧ ∀ j, j < (z_q (z_clM I J) r).1 → I1 227 j = (z_q (z_clM I J) r).2.1 j ∧ I1 228 j = (z_q (z_clM I J) r).2.2.1 j) → AW (FM m_X3_seekCovers (fun q9 sz' I' J' R' => q9 = none ∧ sz' = 255 ∧ J' = J ∧ R' = z_R π ∧ (∀ a j, a < 17 ∨ (224 ≤ a ∧ a < 226) ∨ 230 < a → I' a j = I a j) ∧ z_L I' π ∧ z_clL I' π (z_clM I J) (z_cvO (z_clM I J) (L, 1) ((I 1 6).toNat)).1 ∧ I' 17 2 = (z_cvO (z_clM I J) (L, 1) ((I 1 6).toNat)).2)) 0 0 255 20 [some (zr 226), some (zi (r : Int)), some (zi (set : Int))] [] I1 J (z_R π) := by
      intro n
      induction n with
      | zero =>
        intro set I1 he h1 hf hL1 hc1 h17 hS1 hq
        refine aw_iload_n (pc := 20) dX3_seekCovers_20 rfl ?_
        refine aw_iconst (pc := 21) dX3_seekCovers_21 ?_
        refine aw_aload_n (pc := 22) dX3_seekCovers_22 rfl ?_
        refine aw_getV (pc := 23) (v := ((z_q (z_clM I J) r).1 : Int)) dX3_seekCovers_23 k_fl_X3_42 rfl (by omega) (by first | rfl | exact z_shr _ (by omega) | exact z_shc0 (by omega) | exact z_shc1 (by omega) | exact z_shc2 (by omega) | exact z_shc3 (by omega) | exact z_shc4 (by omega)) (hq.1) ?_
        refine aw_shl1 (pc := 26) dX3_seekCovers_26 (w := (z_q (z_clM I J) r).1) rfl (by omega) ?_
        refine aw_icmp_ge (pc := 27) (tgt := 54) dX3_seekCovers_27 rfl (by first | omega | exact z_bl_r _) (by first | omega | exact z_bl_r _) (fun h27 => ?_) (fun h27 => absurd h27 (by omega))
        have e9 : (z_cvO (z_clM I J) (L, 1) (r + 1)) = (z_fo (z_clM I J) (z_cvO (z_clM I J) (L, 1) (r)) (z_cdV (z_clM I J) r) (set - 1)) := by
          show z_fo _ _ _ (2 ^ (z_q (z_clM I J) r).1 - 1) = _
          rw [show 2 ^ (z_q (z_clM I J) r).1 - 1 = set - 1 by omega]
        exact hK I1 _ hf hL1 (by rw [e9]; exact hc1) h17 (by rw [e9]; exact hS1)
      | succ n ih =>
        intro set I1 he h1 hf hL1 hc1 h17 hS1 hq
        refine aw_iload_n (pc := 20) dX3_seekCovers_20 rfl ?_
        refine aw_iconst (pc := 21) dX3_seekCovers_21 ?_
        refine aw_aload_n (pc := 22) dX3_seekCovers_22 rfl ?_
        refine aw_getV (pc := 23) (v := ((z_q (z_clM I J) r).1 : Int)) dX3_seekCovers_23 k_fl_X3_42 rfl (by omega) (by first | rfl | exact z_shr _ (by omega) | exact z_shc0 (by omega) | exact z_shc1 (by omega) | exact z_shc2 (by omega) | exact z_shc3 (by omega) | exact z_shc4 (by omega)) (hq.1) ?_
        refine aw_shl1 (pc := 26) dX3_seekCovers_26 (w := (z_q (z_clM I J) r).1) rfl (by omega) ?_
        refine aw_icmp_ge (pc := 27) (tgt := 54) dX3_seekCovers_27 rfl (by first | omega | exact z_bl_r _) (by first | omega | exact z_bl_r _) (fun h27 => absurd h27 (by omega)) (fun h27 => ?_)
        have hM1 : z_M I1 J := h.congr (fun a j ha => hf a j (Or.inl ha)) (fun _ => rfl)
        have em1 : z_clM I1 J = z_clM I J := z_clM.congr h (fun a j ha => hf a j (Or.inl ha)) (fun _ => rfl)
        have hwb : ∀ j, j < (z_q (z_clM I J) r).1 → 1 ≤ I1 228 j ∧ I1 228 j ≤ 50 := fun j hj => by rw [(hq.2.2 j hj).2]; have := qb.2.1 j hj; omega
        have K1 := c_X3_isMinimalCover (π := π) (I := I1) (J := J) (cap := I1 226 7) (ln := I1 227) (wt := I1 228) (al := I1 229) (lg := I1 230) (k := (z_q (z_clM I J) r).1) (s := set) qb.1 hwb (by rw [hq.2.1]; exact qb.2.2) h1 (by omega)
        rw [← hq.1, z_s3_id, hq.2.1] at K1
        refine aw_aload_n (pc := 30) dX3_seekCovers_30 rfl ?_
        refine aw_iload_n (pc := 31) dX3_seekCovers_31 rfl ?_
        refine aw_qV (pc := 32) (d := m_X3_isMinimalCover) (K1) k_X3_isMinimalCover dX3_seekCovers_32 k_ml_X3_45 rfl ⟨rfl, rfl⟩ (by omega) (by first | rfl | exact z_shr _ (by omega) | exact z_shc0 (by omega) | exact z_shc1 (by omega) | exact z_shc2 (by omega) | exact z_shc3 (by omega) | exact z_shc4 (by omega)) rfl ⟨Nat.le_of_ble_eq_true rfl, Nat.le_of_ble_eq_true rfl⟩ ⟨Nat.zero_le _, Nat.zero_le _⟩ rfl (Nat.le_of_ble_eq_true rfl) (z_Pk ?_)
        refine aw_if_eq (pc := 35) (tgt := 48) dX3_seekCovers_35 rfl (z_bl_r _) (fun h35 => ?_) (fun h35 => ?_)
        · refine aw_iinc (pc := 48) (lv' := [_, _, _]) dX3_seekCovers_48 (Nat.le_of_ble_eq_true rfl) rfl rfl ?_
          refine aw_goto (pc := 51) (tgt := 20) dX3_seekCovers_51 rfl ?_
          have eS : (z_fo (z_clM I J) (z_cvO (z_clM I J) (L, 1) (r)) (z_cdV (z_clM I J) r) (set)) = (z_fo (z_clM I J) (z_cvO (z_clM I J) (L, 1) (r)) (z_cdV (z_clM I J) r) (set - 1)) := by
            rw [show (z_fo (z_clM I J) (z_cvO (z_clM I J) (L, 1) (r)) (z_cdV (z_clM I J) r) (set)) = (z_fo (z_clM I J) (z_cvO (z_clM I J) (L, 1) (r)) (z_cdV (z_clM I J) r) (set - 1 + 1)) by rw [show set - 1 + 1 = set by omega]]
            show z_of (z_clM I J) (z_fo (z_clM I J) (z_cvO (z_clM I J) (L, 1) (r)) (z_cdV (z_clM I J) r) (set - 1)) (z_cdV (z_clM I J) r (set - 1)) = _
            unfold z_cdV
            rw [show set - 1 + 1 = set by omega, z_if_f (fun q => z_bl_0.mp h35 ((z_cov_c (fun j hj => (hq.2.2 j hj).2)).mpr q))]
            exact z_of_C0
          have K9 := ih (set + 1) I1 (by omega) (by omega) hf hL1 (by rw [show set + 1 - 1 = set by omega, eS]; exact hc1) h17 (by rw [show set + 1 - 1 = set by omega, eS]; exact hS1) hq
          exact K9
        · have elt : ∀ j, j < (z_q (z_clM I J) r).1 → 0 ≤ I1 227 j ∧ I1 227 j < I1 1 5 := fun j hj => by
            have g := qb.2.1 j hj
            have g2 : (mN (z_clM I J) : Int) = I 1 5 := by show (((I 1 5).toNat : Nat) : Int) = _; omega
            rw [(hq.2.2 j hj).1, hf _ _ (Or.inl (by omega))]
            omega
          have K2 := c_X3_tryCover (π := π) (I := I1) (J := J) (L := (z_fo (z_clM I J) (z_cvO (z_clM I J) (L, 1) (r)) (z_cdV (z_clM I J) r) (set - 1)).1) (cap := I1 226 7) (ln := I1 227) (wt := I1 228) (al0 := I1 229) (lg0 := I1 230) (k := (z_q (z_clM I J) r).1) (r := r) (s := set) hM1 hL1 (by rw [em1]; exact hc1) h17 (by rw [hf _ _ (Or.inl (by omega))]; omega) qb.1 (by rw [em1]) (by rw [em1]; exact hq.2.1) (fun j hj => by rw [em1]; exact hq.2.2 j hj) elt hwb (by rw [hq.2.1]; exact qb.2.2) h1 (by omega)
          rw [← hq.1, z_s3_id, em1] at K2
          refine aw_aload_n (pc := 38) dX3_seekCovers_38 rfl ?_
          refine aw_iload_n (pc := 39) dX3_seekCovers_39 rfl ?_
          refine aw_iload_n (pc := 40) dX3_seekCovers_40 rfl ?_
          refine aw_qV (pc := 41) (d := m_X3_tryCover) (K2) k_X3_tryCover dX3_seekCovers_41 k_ml_X3_49 rfl ⟨rfl, rfl⟩ (by omega) (by first | rfl | exact z_shr _ (by omega) | exact z_shc0 (by omega) | exact z_shc1 (by omega) | exact z_shc2 (by omega) | exact z_shc3 (by omega) | exact z_shc4 (by omega)) rfl ⟨Nat.le_of_ble_eq_true rfl, Nat.le_of_ble_eq_true rfl⟩ ⟨Nat.zero_le _, Nat.zero_le _⟩ rfl (Nat.le_of_ble_eq_true rfl) ?_
          rintro q9 sz3 I3 J3 R3 ⟨rfl, rfl, rfl, rfl, f3, hL3, hc3, h173⟩
          have eS : z_of (z_clM I J3) ((z_fo (z_clM I J3) (z_cvO (z_clM I J3) (L, 1) (r)) (z_cdV (z_clM I J3) r) (set - 1)).1, 1) (z_cV (z_clM I J3) r set) = (z_fo (z_clM I J3) (z_cvO (z_clM I J3) (L, 1) (r)) (z_cdV (z_clM I J3) r) (set)) := by
            rw [show (z_fo (z_clM I J3) (z_cvO (z_clM I J3) (L, 1) (r)) (z_cdV (z_clM I J3) r) (set)) = (z_fo (z_clM I J3) (z_cvO (z_clM I J3) (L, 1) (r)) (z_cdV (z_clM I J3) r) (set - 1 + 1)) by rw [show set - 1 + 1 = set by omega]]
            show _ = z_of (z_clM I J3) (z_fo (z_clM I J3) (z_cvO (z_clM I J3) (L, 1) (r)) (z_cdV (z_clM I J3) r) (set - 1)) (z_cdV (z_clM I J3) r (set - 1))
            unfold z_cdV
            rw [show set - 1 + 1 = set by omega, z_if_t ((z_cov_c (fun j hj => (hq.2.2 j hj).2)).mp (z_bl_n.mp h35))]
            exact z_of_e hS1
          rw [eS] at hc3 h173 ⊢
          have hf3 : (∀ a j, a < 17 ∨ (224 ≤ a ∧ a < 226) ∨ 230 < a → I3 a j = I a j) := fun a j ha => (f3 a j (by omega)).trans (hf a j ha)
          have h01 := (z_fo_inv2 (m := z_clM I J3) (cand := z_cdV (z_clM I J3) r) (z_cvO_inv (L := L) (m := z_clM I J3) r).1 (z_cvO_inv (L := L) (m := z_clM I J3) r).2 set).2
          refine aw_if_ne (pc := 44) (tgt := 48) dX3_seekCovers_44 rfl (by omega) (fun h44 => ?_) (fun h44 => ?_)
          · refine aw_iinc (pc := 48) (lv' := [_, _, _]) dX3_seekCovers_48 (Nat.le_of_ble_eq_true rfl) rfl rfl ?_
            refine aw_goto (pc := 51) (tgt := 20) dX3_seekCovers_51 rfl ?_
            have K9 := ih (set + 1) I3 (by omega) (by omega) hf3 hL3 (by rw [show set + 1 - 1 = set by omega]; exact hc3) (by rw [h173]; omega) (by rw [show set + 1 - 1 = set by omega]; omega) ⟨by rw [f3 _ _ (by omega)]; exact hq.1, by rw [f3 _ _ (by omega)]; exact hq.2.1, fun j hj => by rw [f3 _ _ (by omega), f3 _ _ (by omega)]; exact hq.2.2 j hj⟩
            exact K9
          · refine aw_return (pc := 47) dX3_seekCovers_47 rfl ⟨Nat.zero_le _, Nat.zero_le _⟩ ?_
            have eO : (z_cvO (z_clM I J3) (L, 1) ((I 1 6).toNat)) = (z_fo (z_clM I J3) (z_cvO (z_clM I J3) (L, 1) (r)) (z_cdV (z_clM I J3) r) (set)) := by
              have e1 : (z_cvO (z_clM I J3) (L, 1) (r + 1)) = (z_fo (z_clM I J3) (z_cvO (z_clM I J3) (L, 1) (r)) (z_cdV (z_clM I J3) r) (set)) := by
                show z_fo _ _ _ (2 ^ (z_q (z_clM I J3) r).1 - 1) = _
                rw [show 2 ^ (z_q (z_clM I J3) r).1 - 1 = set + (2 ^ (z_q (z_clM I J3) r).1 - 1 - set) by omega]
                exact z_fo_stop2 (z_cvO_inv r).1 (z_cvO_inv r).2 h44 _
              rw [show (I 1 6).toNat = r + 1 + ((I 1 6).toNat - (r + 1)) by omega, z_cvO_stop (by rw [e1]; exact h44), e1]
            exact ⟨rfl, rfl, rfl, rfl, hf3, hL3, by rw [eO]; exact hc3, by rw [eO]; exact h173⟩
    exact loop (2 ^ (z_q (z_clM I J) r).1 - 1) 1 I0 (by omega) (by omega) y1 y2 y3 y4 hS0 y5
  have outer : ∀ (n : Nat) (r : Nat) (v : Option AwV) (I1 : AwI), (r : Int) + n = I 1 6 → (∀ a j, a < 17 ∨ (224 ≤ a ∧ a < 226) ∨ 230 < a → I1 a j = I a j) → z_L I1 π → z_clL I1 π (z_clM I J) (z_cvO (z_clM I J) (L, 1) (r)).1 → I1 17 2 = 1 → (z_cvO (z_clM I J) (L, 1) (r)).2 = 1 → AW (FM m_X3_seekCovers (fun q9 sz' I' J' R' => q9 = none ∧ sz' = 255 ∧ J' = J ∧ R' = z_R π ∧ (∀ a j, a < 17 ∨ (224 ≤ a ∧ a < 226) ∨ 230 < a → I' a j = I a j) ∧ z_L I' π ∧ z_clL I' π (z_clM I J) (z_cvO (z_clM I J) (L, 1) ((I 1 6).toNat)).1 ∧ I' 17 2 = (z_cvO (z_clM I J) (L, 1) ((I 1 6).toNat)).2)) 0 0 255 2 [some (zr 226), some (zi (r : Int)), v] [] I1 J (z_R π) := by
    intro n
    induction n with
    | zero =>
      intro r v I1 he hf hL1 hc1 h17 hS1
      refine aw_iload_n (pc := 2) dX3_seekCovers_2 rfl ?_
      refine aw_aload_n (pc := 3) dX3_seekCovers_3 rfl ?_
      refine aw_getR (pc := 4) dX3_seekCovers_4 k_fl_X3_24 rfl (by omega) (by first | rfl | exact z_shr _ (by omega) | exact z_shc0 (by omega) | exact z_shc1 (by omega) | exact z_shc2 (by omega) | exact z_shc3 (by omega) | exact z_shc4 (by omega)) (by first | rfl | exact z_Rc0 _ (by omega) | exact z_Rc1 _ (by omega) | exact z_Rc2 _ (by omega) | exact z_Rc3 _ (by omega)) ?_
      refine aw_getV (pc := 7) (v := I 1 6) dX3_seekCovers_7 k_fl_X3_32 rfl (by omega) (by first | rfl | exact z_shr _ (by omega) | exact z_shc0 (by omega) | exact z_shc1 (by omega) | exact z_shc2 (by omega) | exact z_shc3 (by omega) | exact z_shc4 (by omega)) (hf _ _ (Or.inl (by omega))) ?_
      refine aw_icmp_ge (pc := 10) (tgt := 60) dX3_seekCovers_10 rfl (by first | omega | exact z_bl_r _) (by first | omega | exact z_bl_r _) (fun h10 => ?_) (fun h10 => absurd h10 (by omega))
      exact aw_return (pc := 60) dX3_seekCovers_60 rfl ⟨Nat.zero_le _, Nat.zero_le _⟩ (⟨rfl, rfl, rfl, rfl, hf, hL1, by rw [show (I 1 6).toNat = r by omega]; exact hc1, by rw [show (I 1 6).toNat = r by omega, h17]; exact hS1.symm⟩)
    | succ n ih =>
      intro r v I1 he hf hL1 hc1 h17 hS1
      refine aw_iload_n (pc := 2) dX3_seekCovers_2 rfl ?_
      refine aw_aload_n (pc := 3) dX3_seekCovers_3 rfl ?_
      refine aw_getR (pc := 4) dX3_seekCovers_4 k_fl_X3_24 rfl (by omega) (by first | rfl | exact z_shr _ (by omega) | exact z_shc0 (by omega) | exact z_shc1 (by omega) | exact z_shc2 (by omega) | exact z_shc3 (by omega) | exact z_shc4 (by omega)) (by first | rfl | exact z_Rc0 _ (by omega) | exact z_Rc1 _ (by omega) | exact z_Rc2 _ (by omega) | exact z_Rc3 _ (by omega)) ?_
      refine aw_getV (pc := 7) (v := I 1 6) dX3_seekCovers_7 k_fl_X3_32 rfl (by omega) (by first | rfl | exact z_shr _ (by omega) | exact z_shc0 (by omega) | exact z_shc1 (by omega) | exact z_shc2 (by omega) | exact z_shc3 (by omega) | exact z_shc4 (by omega)) (hf _ _ (Or.inl (by omega))) ?_
      refine aw_icmp_ge (pc := 10) (tgt := 60) dX3_seekCovers_10 rfl (by first | omega | exact z_bl_r _) (by first | omega | exact z_bl_r _) (fun h10 => absurd h10 (by omega)) (fun h10 => ?_)
      have hM1 : z_M I1 J := h.congr (fun a j ha => hf a j (Or.inl ha)) (fun _ => rfl)
      have em1 : z_clM I1 J = z_clM I J := z_clM.congr h (fun a j ha => hf a j (Or.inl ha)) (fun _ => rfl)
      have K1 := c_X3_readLiterals (π := π) (I := I1) (J := J) (k0 := I1 226 6) (cap0 := I1 226 7) (ln := I1 227) (wt := I1 228) (al := I1 229) (lg := I1 230) (r := r) hM1 (by rw [hf _ _ (Or.inl (by omega))]; omega)
      rw [z_s3_id, em1, hf 1 5 (Or.inl (by omega))] at K1
      refine aw_aload_n (pc := 13) dX3_seekCovers_13 rfl ?_
      refine aw_iload_n (pc := 14) dX3_seekCovers_14 rfl ?_
      refine aw_qV (pc := 15) (d := m_X3_readLiterals) (K1) k_X3_readLiterals dX3_seekCovers_15 k_ml_X3_38 rfl ⟨rfl, rfl⟩ (by omega) (by first | rfl | exact z_shr _ (by omega) | exact z_shc0 (by omega) | exact z_shc1 (by omega) | exact z_shc2 (by omega) | exact z_shc3 (by omega) | exact z_shc4 (by omega)) rfl ⟨Nat.le_of_ble_eq_true rfl, Nat.le_of_ble_eq_true rfl⟩ ⟨Nat.zero_le _, Nat.zero_le _⟩ rfl (Nat.le_of_ble_eq_true rfl) (z_Pk ?_)
      refine aw_iconst (pc := 18) dX3_seekCovers_18 ?_
      refine aw_istore_n (pc := 19) (lv' := [_, _, _]) dX3_seekCovers_19 (Nat.le_of_ble_eq_true rfl) rfl ?_
      have eb := z_rl_base (m := z_clM I J) (r := r) (b1 := I1 227) (b2 := I1 228) (c1 := fun _ => 0) (c2 := fun _ => 0) (I 1 5).toNat
      refine inner r (by omega) hS1 (fun I9 v9 q1 q2 q3 q4 q5 => ?_) (z_s3 I1 ((z_rl (z_clM I J) r (I1 227) (I1 228) (I 1 5).toNat).1 : Int) (z_rl (z_clM I J) r (I1 227) (I1 228) (I 1 5).toNat).2.2.2 (z_rl (z_clM I J) r (I1 227) (I1 228) (I 1 5).toNat).2.1 (z_rl (z_clM I J) r (I1 227) (I1 228) (I 1 5).toNat).2.2.1 (I1 229) (I1 230)) (fun a j ha => (z_s3_o (by omega)).trans (hf a j ha)) (hL1.frame (fun a j h1 h2 => z_s3_o (by omega))) (hc1.frame hL1 (fun a j h1 h2 => z_s3_o (by omega))) ((z_s3_o (by omega)).trans h17) ⟨by rw [z_s3_k, eb.1]; rfl, by rw [z_s3_c, eb.2.1]; rfl, fun j hj => eb.2.2 j (by rw [eb.1]; exact hj)⟩
      refine aw_iinc (pc := 54) (lv' := [_, _, _]) dX3_seekCovers_54 (Nat.le_of_ble_eq_true rfl) rfl rfl ?_
      refine aw_goto (pc := 57) (tgt := 2) dX3_seekCovers_57 rfl ?_
      exact ih (r + 1) v9 I9 (by omega) q1 q2 q3 q4 q5
  refine aw_iconst (pc := 0) dX3_seekCovers_0 ?_
  refine aw_istore_n (pc := 1) (lv' := [_, _, _]) dX3_seekCovers_1 (Nat.le_of_ble_eq_true rfl) rfl ?_
  exact outer (I 1 6).toNat 0 none I (by omega) (fun _ _ _ => rfl) hL hc ht rfl
