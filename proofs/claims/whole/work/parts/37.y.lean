/-! what the checker says, of a model and a cut -/
def z_aRM (m : z_MM) (C : z_CC) : Prop := 1 ≤ cS C 26 ∧ ¬ ((∃ r, r < mR m ∧ cS C r < 0) ∨ ∃ n, n < mN m ∧ (cS C (10 + n) < 0 ∨ cS C (18 + n) < 0)) ∧ (∀ n, n < mN m → cF C n * cS C 26 = cS C (18 + n) - cS C (10 + n) + z_sum (fun r => cS C r * mF m r n) (mR m)) ∧ (z_sum (fun r => cS C r * mrt m r) (mR m) + z_sum (fun n => cS C (18 + n) * mhi m n - cS C (10 + n) * mlo m n) (mN m)) / cS C 26 ≤ cR C
def z_aCM (m : z_MM) (C : z_CC) : Prop := (0 ≤ cS C 0 ∧ cS C 0 < (mR m : Int)) ∧ (∀ n, n < mN m → cF C n ≠ 0 → z_bin m n) ∧ ∀ s : Nat, (∀ i, s.testBit i = true → i < mN m ∧ cF C i ≠ 0) → z_sum (fun n => z_bt s n * mF m (cS C 0).toNat n) (mN m) ≤ mrt m (cS C 0).toNat - z_sum (fun n => if cF C n = 0 then z_le (mF m (cS C 0).toNat n) (mlo m n) (mhi m n) else 0) (mN m) → z_sum (fun n => z_bt s n * cF C n) (mN m) ≤ cR C
def z_aQM (m : z_MM) (C : z_CC) : Prop := 1 ≤ cR C ∧ ∀ n, n < mN m → cF C n ≠ 0 → cF C n = 1 ∧ z_bin m n ∧ ∀ k, k < n → cF C k = 1 → z_kl2 m k n
def z_acM (m : z_MM) (C : z_CC) : Prop := if cK C = 0 ∨ cK C = 1 then z_aRM m C else if cK C = 2 then z_aCM m C else z_aQM m C
theorem z_lt_i {n : Nat} {x : Int} (h : 0 ≤ x) : (n : Int) < x ↔ n < x.toNat := by omega
theorem z_aR_cl {I J : AwI} {c : Nat} {C : z_CC} (h : z_M I J) (hC : z_clC I c (z_clM I J) C) (hk : cK C = 0 ∨ cK C = 1) : z_aR I c ↔ z_aRM (z_clM I J) C := by
  have hnm := h.nm
  have hrw := h.rw
  obtain ⟨h1, h2, h3, h4, h5, h6⟩ := hC
  obtain ⟨a1, a2, a3, a4⟩ := h5 hk
  unfold z_aR z_aRM
  have e1 : z_tb0 I c ↔ ((∃ r, r < mR (z_clM I J) ∧ cS C r < 0) ∨ ∃ n, n < mN (z_clM I J) ∧ (cS C (10 + n) < 0 ∨ cS C (18 + n) < 0)) := by
    unfold z_tb0
    refine or_congr ⟨?_, ?_⟩ ⟨?_, ?_⟩
    · rintro ⟨r, q1, q2⟩
      have q : r < mR (z_clM I J) := (z_lt_i hrw.1).mp q1
      exact ⟨r, q, by rw [← a1 r q]; exact q2⟩
    · rintro ⟨r, q1, q2⟩
      exact ⟨r, (z_lt_i hrw.1).mpr q1, by rw [a1 r q1]; exact q2⟩
    · rintro ⟨n, q1, q2⟩
      have q : n < mN (z_clM I J) := (z_lt_i hnm.1).mp q1
      exact ⟨n, q, by rw [← a2 n q, ← a3 n q]; exact q2⟩
    · rintro ⟨n, q1, q2⟩
      exact ⟨n, (z_lt_i hnm.1).mpr q1, by rw [a2 n q1, a3 n q1]; exact q2⟩
  have e2 : ∀ n, n < mN (z_clM I J) → z_cf I c n = cS C (18 + n) - cS C (10 + n) + z_sum (fun r => cS C r * mF (z_clM I J) r n) (mR (z_clM I J)) := fun n hn => by
    unfold z_cf z_sm
    rw [a2 n hn, a3 n hn]
    congr 1
    exact z_sum_c _ (fun r hr => by rw [a1 r hr, z_clM_F hr hn])
  have e3 : z_rsm I c (I 1 6) = z_sum (fun r => cS C r * mrt (z_clM I J) r) (mR (z_clM I J)) := z_sum_c _ (fun r hr => by rw [a1 r hr, z_clM_rt hr])
  have e4 : z_nsm I c (I 1 5) = z_sum (fun n => cS C (18 + n) * mhi (z_clM I J) n - cS C (10 + n) * mlo (z_clM I J) n) (mN (z_clM I J)) := z_sum_c _ (fun n hn => by rw [a2 n hn, a3 n hn, z_clM_hi hn, z_clM_lo hn])
  rw [a4, h2, e1, e3, e4]
  refine and_congr_right (fun _ => and_congr_right (fun _ => and_congr_left (fun _ => ⟨fun q n hn => ?_, fun q n hn => ?_⟩)))
  · rw [← h1 n hn, ← e2 n hn]; exact q n ((z_lt_i hnm.1).mpr hn)
  · have hn2 : n < mN (z_clM I J) := (z_lt_i hnm.1).mp hn
    rw [h1 n hn2, e2 n hn2]; exact q n hn2
theorem z_aC_cl {I J : AwI} {c : Nat} {C : z_CC} (h : z_M I J) (hC : z_clC I c (z_clM I J) C) (hk : cK C = 2) : z_aC I c ↔ z_aCM (z_clM I J) C := by
  have hnm := h.nm
  have hrw := h.rw
  obtain ⟨h1, h2, h3, h4, h5, h6⟩ := hC
  have a0 := h6 hk
  unfold z_aC z_aCM
  rw [a0, h2, show (cS C 0 < I 1 6) = (cS C 0 < (mR (z_clM I J) : Int)) by show (cS C 0 < I 1 6) = (cS C 0 < ((I 1 6).toNat : Int)); rw [Int.toNat_of_nonneg hrw.1]]
  refine and_congr_right (fun hr => and_congr ⟨fun q n hn hf => ?_, fun q n hn hf => ?_⟩ ?_)
  · have g := q n ((z_lt_i hnm.1).mpr hn) (by rw [h1 n hn]; exact hf)
    exact ⟨by rw [z_clM_lo hn]; exact g.1, by rw [z_clM_hi hn]; exact g.2⟩
  · have hn2 : n < mN (z_clM I J) := (z_lt_i hnm.1).mp hn
    have g := q n hn2 (by rw [← h1 n hn2]; exact hf)
    exact ⟨by rw [← z_clM_lo (J := J) hn2]; exact g.1, by rw [← z_clM_hi (J := J) hn2]; exact g.2⟩
  · have hr2 : (cS C 0).toNat < mR (z_clM I J) := by omega
    have eb : ∀ i, (z_ub I c).testBit i = true ↔ i < mN (z_clM I J) ∧ cF C i ≠ 0 := fun i => by
      unfold z_ub
      rw [z_um_t]
      refine and_congr_right (fun hi => ?_)
      rw [h1 i hi]
    have es : ∀ s : Nat, (s ≤ z_ub I c ∧ z_an s (z_ub I c) = 0) ↔ ∀ i, s.testBit i = true → i < mN (z_clM I J) ∧ cF C i ≠ 0 := fun s => by
      rw [z_sub0]
      constructor
      · rintro ⟨-, q⟩ i hi
        exact (eb i).mp (q i hi)
      · intro q
        have q2 : ∀ i, s.testBit i = true → (z_ub I c).testBit i = true := fun i hi => (eb i).mpr (q i hi)
        refine ⟨?_, q2⟩
        have e3 := z_and_eq.mpr q2
        rw [← e3]
        exact Nat.and_le_left
    have e1 : ∀ s, z_so I (6 + (cS C 0).toNat) s = z_sum (fun n => z_bt s n * mF (z_clM I J) (cS C 0).toNat n) (mN (z_clM I J)) := fun s => z_sum_c _ (fun n hn => by rw [z_clM_F hr2 hn])
    have e2 : ∀ s, z_so I (19 + 5 * c + 1) s = z_sum (fun n => z_bt s n * cF C n) (mN (z_clM I J)) := fun s => z_sum_c _ (fun n hn => by rw [h1 n hn])
    have e3 : z_ls I c (cS C 0).toNat (I 1 5) = z_sum (fun n => if cF C n = 0 then z_le (mF (z_clM I J) (cS C 0).toNat n) (mlo (z_clM I J) n) (mhi (z_clM I J) n) else 0) (mN (z_clM I J)) := z_sum_c _ (fun n hn => by
      rw [h1 n hn, z_clM_F hr2 hn, z_clM_lo hn, z_clM_hi hn]
      rfl)
    have e4 : I 16 (cS C 0).toNat = mrt (z_clM I J) (cS C 0).toNat := (z_clM_rt hr2).symm
    rw [e3, e4]
    constructor
    · intro q s hs
      have g := q s ((es s).mpr hs).1 ((es s).mpr hs).2
      rw [e1, e2] at g
      exact g
    · intro q s s1 s2
      rw [e1, e2]
      exact q s ((es s).mp ⟨s1, s2⟩)
theorem z_aQ_cl {I J : AwI} {c : Nat} {C : z_CC} (h : z_M I J) (hC : z_clC I c (z_clM I J) C) : z_aQ I c ↔ z_aQM (z_clM I J) C := by
  have hnm := h.nm
  obtain ⟨h1, h2, h3, h4, h5, h6⟩ := hC
  unfold z_aQ z_aQM
  rw [h2]
  refine and_congr_right (fun _ => ⟨fun q n hn hf => ?_, fun q n hn hf => ?_⟩)
  · obtain ⟨g1, g2, g3⟩ := q n ((z_lt_i hnm.1).mpr hn) (by rw [h1 n hn]; exact hf)
    refine ⟨by rw [← h1 n hn]; exact g1, ⟨by rw [z_clM_lo hn]; exact g2.1, by rw [z_clM_hi hn]; exact g2.2⟩, fun k hk hf2 => ?_⟩
    have hk2 : k < mN (z_clM I J) := by omega
    exact (z_clM_kl h hk2 hn).mp (g3 k hk (by rw [h1 k hk2]; exact hf2))
  · have hn2 : n < mN (z_clM I J) := (z_lt_i hnm.1).mp hn
    obtain ⟨g1, g2, g3⟩ := q n hn2 (by rw [← h1 n hn2]; exact hf)
    refine ⟨by rw [h1 n hn2]; exact g1, ⟨by rw [← z_clM_lo (J := J) hn2]; exact g2.1, by rw [← z_clM_hi (J := J) hn2]; exact g2.2⟩, fun k hk hf2 => ?_⟩
    have hk2 : k < mN (z_clM I J) := by omega
    exact (z_clM_kl h hk2 hn2).mpr (g3 k hk (by rw [← h1 k hk2]; exact hf2))
theorem z_ac_cl {I J : AwI} {c : Nat} {C : z_CC} (h : z_M I J) (hC : z_clC I c (z_clM I J) C) : z_ac I c ↔ z_acM (z_clM I J) C := by
  unfold z_ac z_acM
  rw [hC.2.2.1]
  by_cases q : cK C = 0 ∨ cK C = 1
  · rw [if_pos q, if_pos q]; exact z_aR_cl h hC q
  · rw [if_neg q, if_neg q]
    by_cases q2 : cK C = 2
    · rw [if_pos q2, if_pos q2]; exact z_aC_cl h hC q2
    · rw [if_neg q2, if_neg q2]; exact z_aQ_cl h hC
noncomputable def z_rCk (m : z_MM) (L : List z_CC) (t k : Int) : z_RS := if ¬ (0 ≤ k ∧ k < (L.length : Int)) then (-1, m, L, t) else (z_bl (z_acM m (z_g L k.toNat)), m, L, t)
noncomputable def z_cB (m : z_MM) (L : List z_CC) (n : Nat) : Int := z_sum (fun k => z_bl (0 < z_str2 m (z_g L k))) n
noncomputable def z_cA (m : z_MM) (L : List z_CC) (n : Nat) : Int := z_sum (fun k => z_bl (z_acM m (z_g L k))) n
noncomputable def z_rT (m : z_MM) (L : List z_CC) (t w : Int) : z_RS := (if w < 0 ∨ 4 < w then -2 else if w = 0 then (mN m : Int) else if w = 1 then (mR m : Int) else if w = 2 then (L.length : Int) else if w = 3 then z_cB m L L.length else z_cA m L L.length, m, L, t)
def z_bs (m : z_MM) (L : List z_CC) : Nat → Int
  | 0 => -1
  | x + 1 => if z_bs m L x = -1 ∨ z_str2 m (z_g L (z_bs m L x).toNat) < z_str2 m (z_g L x) then (x : Int) else z_bs m L x
theorem z_bs_b (m : z_MM) (L : List z_CC) : ∀ x, -1 ≤ z_bs m L x ∧ z_bs m L x < (x : Int)
  | 0 => ⟨Int.le_refl _, by show (-1 : Int) < 0; omega⟩
  | x + 1 => by
    have := z_bs_b m L x
    unfold z_bs
    split <;> omega
set_option maxHeartbeats 4000000 in
theorem c_X8_plant {π : Nat → Nat} {I J : AwI} {m : z_MM} {L : List z_CC} {t : Int} {k w i v : Int} (hI : z_CI I J π m L t) (hk : -2147483648 ≤ k ∧ k ≤ 2147483647) (hw : -2147483648 ≤ w ∧ w ≤ 2147483647) (hi : -2147483648 ≤ i ∧ i ≤ 2147483647) (hv : -2147483648 ≤ v ∧ v ≤ 2147483647) : CT m_X8_plant [zr 0, zi k, zi w, zi i, zi v] 255 I J (z_R π) (z_PC (z_rPl m L t k w i v) I J) := by
  have hI0 := hI
  obtain ⟨h, hm, hlh, hL, hc, ht, h01, h225, h232, hA⟩ := hI0
  subst hm
  have hnm := h.nm
  have hrw := h.rw
  have hn4 := hL.n
  have eN : mN (z_clM I J) = (I 1 5).toNat := rfl
  have eR : mR (z_clM I J) = (I 1 6).toNat := rfl
  have eL := hc.1
  refine CT.of (by decide) (Nat.le_of_ble_eq_true rfl) ?_
  show AW _ 0 0 _ 0 [some (zr 0), some (zi k), some (zi w), some (zi i), some (zi v), none, none] [] _ _ _
  refine aw_aload_n (pc := 0) dX8_plant_0 rfl ?_
  refine aw_getR (pc := 1) dX8_plant_1 k_fl_X8_21 rfl (by omega) (by first | rfl | exact z_shr _ (by omega) | exact z_shc0 (by omega) | exact z_shc1 (by omega) | exact z_shc2 (by omega) | exact z_shc3 (by omega) | exact z_shc4 (by omega)) (by first | rfl | exact z_Rc0 _ (by omega) | exact z_Rc1 _ (by omega) | exact z_Rc2 _ (by omega) | exact z_Rc3 _ (by omega)) ?_
  refine aw_iload_n (pc := 4) dX8_plant_4 rfl ?_
  refine aw_qV (pc := 5) (d := m_X5_has) (c_X5_has hL hk) k_X5_has dX8_plant_5 k_ml_X8_115 rfl ⟨rfl, rfl⟩ (by omega) (by first | rfl | exact z_shr _ (by omega) | exact z_shc0 (by omega) | exact z_shc1 (by omega) | exact z_shc2 (by omega) | exact z_shc3 (by omega) | exact z_shc4 (by omega)) rfl ⟨Nat.le_of_ble_eq_true rfl, Nat.le_of_ble_eq_true rfl⟩ ⟨Nat.zero_le _, Nat.zero_le _⟩ rfl (Nat.le_of_ble_eq_true rfl) (z_Pk ?_)
  refine aw_if_ne (pc := 8) (tgt := 13) dX8_plant_8 rfl (by first | omega | exact z_bl_r _) (fun h8 => ?_) (fun h8 => ?_)
  · first | rw [z_bl_n] at h8 | rw [z_bl_0] at h8 | skip
    have hkL : k.toNat < L.length := by omega
    obtain ⟨hD, hp41, hCC, hag⟩ := hI.at hkL
    have hkd := hCC.kd
    have ekd := hD.2.2.1
    refine aw_aload_n (pc := 13) dX8_plant_13 rfl ?_
    refine aw_getR (pc := 14) dX8_plant_14 k_fl_X8_21 rfl (by omega) (by first | rfl | exact z_shr _ (by omega) | exact z_shc0 (by omega) | exact z_shc1 (by omega) | exact z_shc2 (by omega) | exact z_shc3 (by omega) | exact z_shc4 (by omega)) (by first | rfl | exact z_Rc0 _ (by omega) | exact z_Rc1 _ (by omega) | exact z_Rc2 _ (by omega) | exact z_Rc3 _ (by omega)) ?_
    refine aw_getR (pc := 17) dX8_plant_17 k_fl_X8_125 rfl (by omega) (by first | rfl | exact z_shr _ (by omega) | exact z_shc0 (by omega) | exact z_shc1 (by omega) | exact z_shc2 (by omega) | exact z_shc3 (by omega) | exact z_shc4 (by omega)) (by first | rfl | exact z_Rc0 _ (by omega) | exact z_Rc1 _ (by omega) | exact z_Rc2 _ (by omega) | exact z_Rc3 _ (by omega)) ?_
    refine aw_iload_n (pc := 20) dX8_plant_20 rfl ?_
    refine aw_aaloadQ (b := 19 + 5 * π k.toNat) (pc := 21) dX8_plant_21 (by omega) (Nat.le_refl _) rfl (by omega) (by rfl) ?_
    refine aw_astore (pc := 22) (lv' := [_, _, _, _, _, _, _]) dX8_plant_22 (Nat.le_of_ble_eq_true rfl) rfl ?_
    refine aw_aload_n (pc := 24) dX8_plant_24 rfl ?_
    refine aw_aload (pc := 25) dX8_plant_25 rfl ?_
    refine aw_iload_n (pc := 27) dX8_plant_27 rfl ?_
    refine aw_iload_n (pc := 28) dX8_plant_28 rfl ?_
    refine aw_qV (pc := 29) (d := m_X8_refusalOfPlanted) (c_X8_refusalOfPlanted h hp41 hCC hw hi) k_X8_refusalOfPlanted dX8_plant_29 k_ml_X8_157 rfl ⟨rfl, rfl⟩ (by omega) (by first | rfl | exact z_shr _ (by omega) | exact z_shc0 (by omega) | exact z_shc1 (by omega) | exact z_shc2 (by omega) | exact z_shc3 (by omega) | exact z_shc4 (by omega)) rfl ⟨Nat.le_of_ble_eq_true rfl, Nat.le_of_ble_eq_true rfl⟩ ⟨Nat.zero_le _, Nat.zero_le _⟩ rfl (Nat.le_of_ble_eq_true rfl) (z_Pk ?_)
    refine aw_istore (pc := 32) (lv' := [_, _, _, _, _, _, _]) dX8_plant_32 (Nat.le_of_ble_eq_true rfl) rfl ?_
    refine aw_iload (pc := 34) dX8_plant_34 rfl ?_
    refine aw_if_eq (pc := 36) (tgt := 42) dX8_plant_36 rfl (by have := z_rfP_b (z_clM I J) (I (19 + 5 * π k.toNat) 5) w i; omega) (fun h36 => ?_) (fun h36 => ?_)
    · refine aw_iload (pc := 42) dX8_plant_42 rfl ?_
      refine aw_sipush (pc := 44) dX8_plant_44 rfl ?_
      refine aw_qS (pc := 47) (d := m_X8_isBeyond) (c_X8_isBeyond (t := 1000) hv (by omega)) k_X8_isBeyond dX8_plant_47 k_ml_X8_62 rfl ⟨rfl, rfl⟩ ⟨Nat.le_of_ble_eq_true rfl, Nat.le_of_ble_eq_true rfl⟩ ⟨Nat.zero_le _, Nat.zero_le _⟩ rfl (Nat.le_of_ble_eq_true rfl) (z_Pk ?_)
      refine aw_if_eq (pc := 50) (tgt := 56) dX8_plant_50 rfl (by first | omega | exact z_bl_r _) (fun h50 => ?_) (fun h50 => ?_)
      · refine aw_iload_n (pc := 56) dX8_plant_56 rfl ?_
        first | rw [z_bl_n] at h50 | rw [z_bl_0] at h50 | skip
        have h36b : z_rfP (z_clM I J) (I (19 + 5 * π k.toNat) 5) w i = 0 := by omega
        rw [ekd] at h36b
        have hrz : z_rPl (z_clM I J) L t k w i v = (1, z_clM I J, L.set k.toNat (z_pl (z_g L k.toNat) w i v), t) := (if_neg (by omega)).trans (by rw [if_neg (by omega), if_neg (by omega)])
        by_cases w0 : w = 0
        · have hi0 : 0 ≤ i ∧ i < 8 := by unfold z_rfP at h36b; rw [if_pos w0] at h36b; split at h36b <;> omega
          refine aw_lookup (pc := 57) (tgt := 84) (off := 27) dX8_plant_57 (by decide) (by omega) (by rw [w0]; rfl) rfl ?_
          refine aw_aload (pc := 84) dX8_plant_84 rfl ?_
          refine aw_getR (pc := 86) dX8_plant_86 k_fl_X8_131 rfl (by omega) (by first | rfl | exact z_shr _ (by omega) | exact z_shc0 (by omega) | exact z_shc1 (by omega) | exact z_shc2 (by omega) | exact z_shc3 (by omega) | exact z_shc4 (by omega)) (by first | rfl | exact z_Rc0 _ (by omega) | exact z_Rc1 _ (by omega) | exact z_Rc2 _ (by omega) | exact z_Rc3 _ (by omega)) ?_
          refine aw_iload_n (pc := 89) dX8_plant_89 rfl ?_
          refine aw_iload (pc := 90) dX8_plant_90 rfl ?_
          refine aw_iastore (pc := 92) dX8_plant_92 (by omega) (Nat.le_refl _) (by first | rfl | exact z_shr _ (by omega) | exact z_shc0 (by omega) | exact z_shc1 (by omega) | exact z_shc2 (by omega) | exact z_shc3 (by omega) | exact z_shc4 (by omega)) (by first | omega | exact z_bl_r _) ?_
          refine aw_goto (pc := 93) (tgt := 117) dX8_plant_93 rfl ?_
          refine aw_iconst (pc := 117) dX8_plant_117 ?_
          refine aw_ireturn (pc := 118) dX8_plant_118 rfl ⟨Nat.zero_le _, Nat.zero_le _⟩ ?_
          refine z_PCr hrz (hI.put hkL (fun a j q => z_up_a _ _ (by omega)) (hCC.upF (by omega) _ (by omega)) ?_ (by unfold z_pl; rw [if_pos w0]; exact hag)) ⟨fun a k q => z_up_a _ _ (by omega), fun _ _ _ => rfl⟩
          obtain ⟨d1, d2, d3, d4, d5, d6⟩ := hD
          unfold z_pl
          rw [if_pos w0]
          refine ⟨fun n hn => ?_, by rw [z_up_a _ _ (by omega)]; exact d2, by rw [z_up_a _ _ (by omega)]; exact d3, by rw [z_up_a _ _ (by omega)]; exact d4, fun q => ?_, fun q => by rw [z_up_a _ _ (by omega)]; exact d6 q⟩
          · show (if _ ∧ n = i.toNat then v else _) = (if n = i.toNat then v else _)
            by_cases e : n = i.toNat
            · rw [if_pos ⟨rfl, e⟩, if_pos e]
            · rw [if_neg (fun q => e q.2), if_neg e]; exact d1 n hn
          · obtain ⟨e1, e2, e3, e4⟩ := d5 q
            exact ⟨fun n hn => by rw [z_up_a _ _ (by omega)]; exact e1 n hn, fun n hn => by rw [z_up_a _ _ (by omega)]; exact e2 n hn, fun n hn => by rw [z_up_a _ _ (by omega)]; exact e3 n hn, by rw [z_up_a _ _ (by omega)]; exact e4⟩
        by_cases w1 : w = 1
        · refine aw_lookup (pc := 57) (tgt := 96) (off := 39) dX8_plant_57 (by decide) (by omega) (by rw [w1]; rfl) rfl ?_
          refine aw_aload (pc := 96) dX8_plant_96 rfl ?_
          refine aw_iload (pc := 98) dX8_plant_98 rfl ?_
          refine aw_putI (pc := 100) dX8_plant_100 k_fl_X8_136 rfl (by omega) (by first | rfl | exact z_shr _ (by omega) | exact z_shc0 (by omega) | exact z_shc1 (by omega) | exact z_shc2 (by omega) | exact z_shc3 (by omega) | exact z_shc4 (by omega)) ?_
          refine aw_goto (pc := 103) (tgt := 117) dX8_plant_103 rfl ?_
          refine aw_iconst (pc := 117) dX8_plant_117 ?_
          refine aw_ireturn (pc := 118) dX8_plant_118 rfl ⟨Nat.zero_le _, Nat.zero_le _⟩ ?_
          refine z_PCr hrz (hI.put hkL (fun a j q => z_up_a _ _ (by omega)) (hCC.upF (by omega) _ (by omega)) ?_ (by unfold z_pl; rw [if_neg w0, if_pos w1]; exact hag)) ⟨fun a k q => z_up_a _ _ (by omega), fun _ _ _ => rfl⟩
          obtain ⟨d1, d2, d3, d4, d5, d6⟩ := hD
          unfold z_pl
          rw [if_neg w0, if_pos w1]
          refine ⟨fun n hn => by rw [z_up_a _ _ (by omega)]; exact d1 n hn, by rw [z_up_s]; rfl, by rw [z_up_k _ _ (by omega)]; exact d3, by rw [z_up_k _ _ (by omega)]; exact d4, fun q => ?_, fun q => by rw [z_up_k _ _ (by omega)]; exact d6 q⟩
          obtain ⟨e1, e2, e3, e4⟩ := d5 q
          exact ⟨fun n hn => by rw [z_up_a _ _ (by omega)]; exact e1 n hn, fun n hn => by rw [z_up_a _ _ (by omega)]; exact e2 n hn, fun n hn => by rw [z_up_a _ _ (by omega)]; exact e3 n hn, by rw [z_up_k _ _ (by omega)]; exact e4⟩
        · have hw25 : 2 ≤ w ∧ w ≤ 5 := by unfold z_rfP at h36b; rw [if_neg w0, if_neg w1] at h36b; split at h36b <;> omega
          have h2S : z_rfS (z_clM I J) (cK (z_g L k.toNat)) (w - 2) i = 0 := by unfold z_rfP at h36b; rw [if_neg w0, if_neg w1, if_pos hw25] at h36b; exact h36b
          obtain ⟨g1, g2, g3, g4⟩ := z_rfS_0 h2S
          refine aw_lookup (pc := 57) (tgt := 106) (off := 49) dX8_plant_57 (by decide) (by omega) (by show Op.lookupswitch.offset [(0, 27), (1, 39)] 49 w = 49; rw [Op.lookupswitch.offset_cons, if_neg (by omega), Op.lookupswitch.offset_cons, if_neg (by omega)]; rfl) rfl ?_
          refine aw_aload (pc := 106) dX8_plant_106 rfl ?_
          refine aw_iload_n (pc := 108) dX8_plant_108 rfl ?_
          refine aw_iconst (pc := 109) dX8_plant_109 ?_
          refine aw_isub (pc := 110) dX8_plant_110 ?_
          refine aw_iload_n (pc := 111) dX8_plant_111 rfl ?_
          refine aw_iload (pc := 112) dX8_plant_112 rfl ?_
          refine aw_qV (pc := 114) (d := m_X4_showOtherwise) (c_X4_showOtherwise hp41 hCC (by omega) (fun q1 q2 => by have := g4 (by omega); omega) (fun q1 => by have := g4 (by omega); omega)) k_X4_showOtherwise dX8_plant_114 k_ml_X8_160 rfl ⟨rfl, rfl⟩ (by omega) (by first | rfl | exact z_shr _ (by omega) | exact z_shc0 (by omega) | exact z_shc1 (by omega) | exact z_shc2 (by omega) | exact z_shc3 (by omega) | exact z_shc4 (by omega)) rfl ⟨Nat.le_of_ble_eq_true rfl, Nat.le_of_ble_eq_true rfl⟩ ⟨Nat.zero_le _, Nat.zero_le _⟩ rfl (Nat.le_of_ble_eq_true rfl) (z_Pk ?_)
          refine aw_iconst (pc := 117) dX8_plant_117 ?_
          refine aw_ireturn (pc := 118) dX8_plant_118 rfl ⟨Nat.zero_le _, Nat.zero_le _⟩ ?_
          refine z_PCr hrz (hI.put hkL (fun a j q => z_sho_o (by omega)) (hCC.sho (by omega)) ?_ (by unfold z_pl; rw [if_neg w0, if_neg w1]; exact hag)) ⟨fun a k q => z_sho_o (by omega), fun _ _ _ => rfl⟩
          unfold z_pl
          rw [if_neg w0, if_neg w1]
          exact z_sho_cl hD (by omega) (by omega) (by omega) h2S
      · refine aw_bipush (pc := 53) dX8_plant_53 rfl ?_
        refine aw_ireturn (pc := 55) dX8_plant_55 rfl ⟨Nat.zero_le _, Nat.zero_le _⟩ ?_
        first | rw [z_bl_n] at h50 | rw [z_bl_0] at h50 | skip
        have h36b : z_rfP (z_clM I J) (I (19 + 5 * π k.toNat) 5) w i = 0 := by omega
        rw [ekd] at h36b
        exact z_PCr ((if_neg (by omega)).trans (by rw [if_neg (by omega), if_pos (by omega)])) hI z_FR.rf
    · refine aw_iload (pc := 39) dX8_plant_39 rfl ?_
      refine aw_ireturn (pc := 41) dX8_plant_41 rfl ⟨Nat.zero_le _, Nat.zero_le _⟩ ?_
      rw [ekd] at h36 ⊢
      exact z_PCr ((if_neg (by omega)).trans (by rw [if_pos h36])) hI z_FR.rf
  · refine aw_iconst (pc := 11) dX8_plant_11 ?_
    refine aw_ireturn (pc := 12) dX8_plant_12 rfl ⟨Nat.zero_le _, Nat.zero_le _⟩ ?_
    first | rw [z_bl_n] at h8 | rw [z_bl_0] at h8 | skip
    exact z_PCr (if_pos (by omega)) hI z_FR.rf
set_option maxHeartbeats 4000000 in
theorem c_X8_check {π : Nat → Nat} {I J : AwI} {m : z_MM} {L : List z_CC} {t : Int} {k : Int} (hI : z_CI I J π m L t) (hk : -2147483648 ≤ k ∧ k ≤ 2147483647) : CT m_X8_check [zr 0, zi k] 255 I J (z_R π) (z_PC (z_rCk m L t k) I J) := by
  have hI0 := hI
  obtain ⟨h, hm, hlh, hL, hc, ht, h01, h225, h232, hA⟩ := hI0
  subst hm
  have hnm := h.nm
  have hrw := h.rw
  have hn4 := hL.n
  have eN : mN (z_clM I J) = (I 1 5).toNat := rfl
  have eR : mR (z_clM I J) = (I 1 6).toNat := rfl
  have eL := hc.1
  refine CT.of (by decide) (Nat.le_of_ble_eq_true rfl) ?_
  show AW _ 0 0 _ 0 [some (zr 0), some (zi k)] [] _ _ _
  refine aw_aload_n (pc := 0) dX8_check_0 rfl ?_
  refine aw_getR (pc := 1) dX8_check_1 k_fl_X8_21 rfl (by omega) (by first | rfl | exact z_shr _ (by omega) | exact z_shc0 (by omega) | exact z_shc1 (by omega) | exact z_shc2 (by omega) | exact z_shc3 (by omega) | exact z_shc4 (by omega)) (by first | rfl | exact z_Rc0 _ (by omega) | exact z_Rc1 _ (by omega) | exact z_Rc2 _ (by omega) | exact z_Rc3 _ (by omega)) ?_
  refine aw_iload_n (pc := 4) dX8_check_4 rfl ?_
  refine aw_qV (pc := 5) (d := m_X5_has) (c_X5_has hL hk) k_X5_has dX8_check_5 k_ml_X8_115 rfl ⟨rfl, rfl⟩ (by omega) (by first | rfl | exact z_shr _ (by omega) | exact z_shc0 (by omega) | exact z_shc1 (by omega) | exact z_shc2 (by omega) | exact z_shc3 (by omega) | exact z_shc4 (by omega)) rfl ⟨Nat.le_of_ble_eq_true rfl, Nat.le_of_ble_eq_true rfl⟩ ⟨Nat.zero_le _, Nat.zero_le _⟩ rfl (Nat.le_of_ble_eq_true rfl) (z_Pk ?_)
  refine aw_if_ne (pc := 8) (tgt := 13) dX8_check_8 rfl (by first | omega | exact z_bl_r _) (fun h8 => ?_) (fun h8 => ?_)
  · first | rw [z_bl_n] at h8 | rw [z_bl_0] at h8 | skip
    have hkL : k.toNat < L.length := by omega
    obtain ⟨hD, hp41, hCC, hag⟩ := hI.at hkL
    have hkd := hCC.kd
    have ekd := hD.2.2.1
    refine aw_aload_n (pc := 13) dX8_check_13 rfl ?_
    refine aw_getR (pc := 14) dX8_check_14 k_fl_X8_51 rfl (by omega) (by first | rfl | exact z_shr _ (by omega) | exact z_shc0 (by omega) | exact z_shc1 (by omega) | exact z_shc2 (by omega) | exact z_shc3 (by omega) | exact z_shc4 (by omega)) (by first | rfl | exact z_Rc0 _ (by omega) | exact z_Rc1 _ (by omega) | exact z_Rc2 _ (by omega) | exact z_Rc3 _ (by omega)) ?_
    refine aw_aload_n (pc := 17) dX8_check_17 rfl ?_
    refine aw_getR (pc := 18) dX8_check_18 k_fl_X8_21 rfl (by omega) (by first | rfl | exact z_shr _ (by omega) | exact z_shc0 (by omega) | exact z_shc1 (by omega) | exact z_shc2 (by omega) | exact z_shc3 (by omega) | exact z_shc4 (by omega)) (by first | rfl | exact z_Rc0 _ (by omega) | exact z_Rc1 _ (by omega) | exact z_Rc2 _ (by omega) | exact z_Rc3 _ (by omega)) ?_
    refine aw_getR (pc := 21) dX8_check_21 k_fl_X8_125 rfl (by omega) (by first | rfl | exact z_shr _ (by omega) | exact z_shc0 (by omega) | exact z_shc1 (by omega) | exact z_shc2 (by omega) | exact z_shc3 (by omega) | exact z_shc4 (by omega)) (by first | rfl | exact z_Rc0 _ (by omega) | exact z_Rc1 _ (by omega) | exact z_Rc2 _ (by omega) | exact z_Rc3 _ (by omega)) ?_
    refine aw_iload_n (pc := 24) dX8_check_24 rfl ?_
    refine aw_aaloadQ (b := 19 + 5 * π k.toNat) (pc := 25) dX8_check_25 (by omega) (Nat.le_refl _) rfl (by omega) (by rfl) ?_
    refine aw_qV (pc := 26) (d := m_X0_accepts) (c_X0_accepts h hp41 hCC) k_X0_accepts dX8_check_26 k_ml_X8_164 rfl ⟨rfl, rfl⟩ (by omega) (by first | rfl | exact z_shr _ (by omega) | exact z_shc0 (by omega) | exact z_shc1 (by omega) | exact z_shc2 (by omega) | exact z_shc3 (by omega) | exact z_shc4 (by omega)) rfl ⟨Nat.le_of_ble_eq_true rfl, Nat.le_of_ble_eq_true rfl⟩ ⟨Nat.zero_le _, Nat.zero_le _⟩ rfl (Nat.le_of_ble_eq_true rfl) (z_Pk ?_)
    refine aw_if_eq (pc := 29) (tgt := 36) dX8_check_29 rfl (by first | omega | exact z_bl_r _) (fun h29 => ?_) (fun h29 => ?_)
    · refine aw_iconst (pc := 36) dX8_check_36 ?_
      refine aw_ireturn (pc := 37) dX8_check_37 rfl ⟨Nat.zero_le _, Nat.zero_le _⟩ ?_
      first | rw [z_bl_n] at h29 | rw [z_bl_0] at h29 | skip
      first | exact z_PCr ((if_neg (by omega)).trans (by rw [z_bl_t ((z_ac_cl h hD).mp h29)])) hI z_FR.rf | exact z_PCr ((if_neg (by omega)).trans (by rw [z_bl_f (fun q => h29 ((z_ac_cl h hD).mpr q))])) hI z_FR.rf
    · refine aw_iconst (pc := 32) dX8_check_32 ?_
      refine aw_goto (pc := 33) (tgt := 37) dX8_check_33 rfl ?_
      refine aw_ireturn (pc := 37) dX8_check_37 rfl ⟨Nat.zero_le _, Nat.zero_le _⟩ ?_
      first | rw [z_bl_n] at h29 | rw [z_bl_0] at h29 | skip
      first | exact z_PCr ((if_neg (by omega)).trans (by rw [z_bl_t ((z_ac_cl h hD).mp h29)])) hI z_FR.rf | exact z_PCr ((if_neg (by omega)).trans (by rw [z_bl_f (fun q => h29 ((z_ac_cl h hD).mpr q))])) hI z_FR.rf
  · refine aw_iconst (pc := 11) dX8_check_11 ?_
    refine aw_ireturn (pc := 12) dX8_check_12 rfl ⟨Nat.zero_le _, Nat.zero_le _⟩ ?_
    first | rw [z_bl_n] at h8 | rw [z_bl_0] at h8 | skip
    exact z_PCr (if_pos (by omega)) hI z_FR.rf
set_option maxHeartbeats 4000000 in
theorem c_X8_countBroken {π : Nat → Nat} {I J : AwI} {m : z_MM} {L : List z_CC} {t : Int} (hI : z_CI I J π m L t) : CT m_X8_countBroken [zr 0] 255 I J (z_R π) (z_P (some (zi (z_cB m L L.length))) 255 I J (z_R π)) := by
  have hI0 := hI
  obtain ⟨h, hm, hlh, hL, hc, ht, h01, h225, h232, hA⟩ := hI0
  subst hm
  have hnm := h.nm
  have hrw := h.rw
  have hn4 := hL.n
  have eN : mN (z_clM I J) = (I 1 5).toNat := rfl
  have eR : mR (z_clM I J) = (I 1 6).toNat := rfl
  have eL := hc.1
  refine CT.of (by decide) (Nat.le_of_ble_eq_true rfl) ?_
  show AW _ 0 0 _ 0 [some (zr 0), none, none] [] _ _ _
  have loop : ∀ (k : Nat) (x : Nat), (x : Int) + k = (L.length : Int) → AW (FM m_X8_countBroken (z_P (some (zi (z_cB (z_clM I J) L L.length))) 255 I J (z_R π))) 0 0 255 4 [some (zr 0), some (zi (z_cB (z_clM I J) L x)), some (zi (x : Int))] [] I J (z_R π) := by
    intro k
    induction k with
    | zero =>
      intro x he
      refine aw_iload_n (pc := 4) dX8_countBroken_4 rfl ?_
      refine aw_aload_n (pc := 5) dX8_countBroken_5 rfl ?_
      refine aw_getR (pc := 6) dX8_countBroken_6 k_fl_X8_21 rfl (by omega) (by first | rfl | exact z_shr _ (by omega) | exact z_shc0 (by omega) | exact z_shc1 (by omega) | exact z_shc2 (by omega) | exact z_shc3 (by omega) | exact z_shc4 (by omega)) (by first | rfl | exact z_Rc0 _ (by omega) | exact z_Rc1 _ (by omega) | exact z_Rc2 _ (by omega) | exact z_Rc3 _ (by omega)) ?_
      refine aw_getI (pc := 9) dX8_countBroken_9 k_fl_X8_70 rfl (by omega) (by first | rfl | exact z_shr _ (by omega) | exact z_shc0 (by omega) | exact z_shc1 (by omega) | exact z_shc2 (by omega) | exact z_shc3 (by omega) | exact z_shc4 (by omega)) ?_
      refine aw_icmp_ge (pc := 12) (tgt := 45) dX8_countBroken_12 rfl (by first | omega | exact z_bl_r _) (by first | omega | exact z_bl_r _) (fun h12 => ?_) (fun h12 => absurd h12 (by omega))
      refine aw_iload_n (pc := 45) dX8_countBroken_45 rfl ?_
      exact aw_ireturn (pc := 46) dX8_countBroken_46 rfl ⟨Nat.zero_le _, Nat.zero_le _⟩ (⟨by rw [show x = L.length by omega], rfl, rfl, rfl, rfl⟩)
    | succ k ih =>
      intro x he
      refine aw_iload_n (pc := 4) dX8_countBroken_4 rfl ?_
      refine aw_aload_n (pc := 5) dX8_countBroken_5 rfl ?_
      refine aw_getR (pc := 6) dX8_countBroken_6 k_fl_X8_21 rfl (by omega) (by first | rfl | exact z_shr _ (by omega) | exact z_shc0 (by omega) | exact z_shc1 (by omega) | exact z_shc2 (by omega) | exact z_shc3 (by omega) | exact z_shc4 (by omega)) (by first | rfl | exact z_Rc0 _ (by omega) | exact z_Rc1 _ (by omega) | exact z_Rc2 _ (by omega) | exact z_Rc3 _ (by omega)) ?_
      refine aw_getI (pc := 9) dX8_countBroken_9 k_fl_X8_70 rfl (by omega) (by first | rfl | exact z_shr _ (by omega) | exact z_shc0 (by omega) | exact z_shc1 (by omega) | exact z_shc2 (by omega) | exact z_shc3 (by omega) | exact z_shc4 (by omega)) ?_
      refine aw_icmp_ge (pc := 12) (tgt := 45) dX8_countBroken_12 rfl (by first | omega | exact z_bl_r _) (by first | omega | exact z_bl_r _) (fun h12 => absurd h12 (by omega)) (fun h12 => ?_)
      obtain ⟨hD, hp41, hCC, hag⟩ := hI.at (k := x) (by omega)
      have hb := z_cst_b h hCC
      have es := z_clM_str h hD
      refine aw_aload_n (pc := 15) dX8_countBroken_15 rfl ?_
      refine aw_getR (pc := 16) dX8_countBroken_16 k_fl_X8_10 rfl (by omega) (by first | rfl | exact z_shr _ (by omega) | exact z_shc0 (by omega) | exact z_shc1 (by omega) | exact z_shc2 (by omega) | exact z_shc3 (by omega) | exact z_shc4 (by omega)) (by first | rfl | exact z_Rc0 _ (by omega) | exact z_Rc1 _ (by omega) | exact z_Rc2 _ (by omega) | exact z_Rc3 _ (by omega)) ?_
      refine aw_aload_n (pc := 19) dX8_countBroken_19 rfl ?_
      refine aw_getR (pc := 20) dX8_countBroken_20 k_fl_X8_21 rfl (by omega) (by first | rfl | exact z_shr _ (by omega) | exact z_shc0 (by omega) | exact z_shc1 (by omega) | exact z_shc2 (by omega) | exact z_shc3 (by omega) | exact z_shc4 (by omega)) (by first | rfl | exact z_Rc0 _ (by omega) | exact z_Rc1 _ (by omega) | exact z_Rc2 _ (by omega) | exact z_Rc3 _ (by omega)) ?_
      refine aw_getR (pc := 23) dX8_countBroken_23 k_fl_X8_125 rfl (by omega) (by first | rfl | exact z_shr _ (by omega) | exact z_shc0 (by omega) | exact z_shc1 (by omega) | exact z_shc2 (by omega) | exact z_shc3 (by omega) | exact z_shc4 (by omega)) (by first | rfl | exact z_Rc0 _ (by omega) | exact z_Rc1 _ (by omega) | exact z_Rc2 _ (by omega) | exact z_Rc3 _ (by omega)) ?_
      refine aw_iload_n (pc := 26) dX8_countBroken_26 rfl ?_
      refine aw_aaloadQ (b := 19 + 5 * π x) (pc := 27) dX8_countBroken_27 (by omega) (Nat.le_refl _) rfl (by omega) (by rfl) ?_
      refine aw_qV (pc := 28) (d := m_X6_scaledStrength) (c_X6_scaledStrength h hp41 hCC) k_X6_scaledStrength dX8_countBroken_28 k_ml_X8_170 rfl ⟨rfl, rfl⟩ (by omega) (by first | rfl | exact z_shr _ (by omega) | exact z_shc0 (by omega) | exact z_shc1 (by omega) | exact z_shc2 (by omega) | exact z_shc3 (by omega) | exact z_shc4 (by omega)) rfl ⟨Nat.le_of_ble_eq_true rfl, Nat.le_of_ble_eq_true rfl⟩ ⟨Nat.zero_le _, Nat.zero_le _⟩ rfl (Nat.le_of_ble_eq_true rfl) (z_Pk ?_)
      refine aw_lconst (pc := 31) (v := 0) dX8_countBroken_31 rfl ?_
      refine aw_lcmp_le (pc := 32) (tgt := 39) dX8_countBroken_32 dX8_countBroken_33 rfl (by omega) (by omega) (fun h32 => ?_) (fun h32 => ?_)
      · refine aw_iinc (pc := 39) (lv' := [_, _, _]) dX8_countBroken_39 (Nat.le_of_ble_eq_true rfl) rfl rfl ?_
        refine aw_goto (pc := 42) (tgt := 4) dX8_countBroken_42 rfl ?_
        have ex : z_cB (z_clM I J) L (x + 1) = z_cB (z_clM I J) L x + 0 := by show z_cB (z_clM I J) L x + z_bl _ = _; rw [z_bl_f (show ¬ 0 < z_str2 (z_clM I J) (z_g L x) by omega)]
        have K := ih (x + 1) (by omega)
        rw [ex, Int.add_zero] at K
        exact K
      · refine aw_iinc (pc := 36) (lv' := [_, _, _]) dX8_countBroken_36 (Nat.le_of_ble_eq_true rfl) rfl rfl ?_
        refine aw_iinc (pc := 39) (lv' := [_, _, _]) dX8_countBroken_39 (Nat.le_of_ble_eq_true rfl) rfl rfl ?_
        refine aw_goto (pc := 42) (tgt := 4) dX8_countBroken_42 rfl ?_
        have ex : z_cB (z_clM I J) L (x + 1) = z_cB (z_clM I J) L x + 1 := by show z_cB (z_clM I J) L x + z_bl _ = _; rw [z_bl_t (show 0 < z_str2 (z_clM I J) (z_g L x) by omega)]
        have K := ih (x + 1) (by omega)
        rw [ex] at K
        exact K
  refine aw_iconst (pc := 0) dX8_countBroken_0 ?_
  refine aw_istore_n (pc := 1) (lv' := [_, _, _]) dX8_countBroken_1 (Nat.le_of_ble_eq_true rfl) rfl ?_
  refine aw_iconst (pc := 2) dX8_countBroken_2 ?_
  refine aw_istore_n (pc := 3) (lv' := [_, _, _]) dX8_countBroken_3 (Nat.le_of_ble_eq_true rfl) rfl ?_
  exact loop L.length 0 (by omega)
set_option maxHeartbeats 4000000 in
theorem c_X8_countAccepted {π : Nat → Nat} {I J : AwI} {m : z_MM} {L : List z_CC} {t : Int} (hI : z_CI I J π m L t) : CT m_X8_countAccepted [zr 0] 255 I J (z_R π) (z_P (some (zi (z_cA m L L.length))) 255 I J (z_R π)) := by
  have hI0 := hI
  obtain ⟨h, hm, hlh, hL, hc, ht, h01, h225, h232, hA⟩ := hI0
  subst hm
  have hnm := h.nm
  have hrw := h.rw
  have hn4 := hL.n
  have eN : mN (z_clM I J) = (I 1 5).toNat := rfl
  have eR : mR (z_clM I J) = (I 1 6).toNat := rfl
  have eL := hc.1
  refine CT.of (by decide) (Nat.le_of_ble_eq_true rfl) ?_
  show AW _ 0 0 _ 0 [some (zr 0), none, none] [] _ _ _
  have loop : ∀ (k : Nat) (x : Nat), (x : Int) + k = (L.length : Int) → AW (FM m_X8_countAccepted (z_P (some (zi (z_cA (z_clM I J) L L.length))) 255 I J (z_R π))) 0 0 255 4 [some (zr 0), some (zi (z_cA (z_clM I J) L x)), some (zi (x : Int))] [] I J (z_R π) := by
    intro k
    induction k with
    | zero =>
      intro x he
      refine aw_iload_n (pc := 4) dX8_countAccepted_4 rfl ?_
      refine aw_aload_n (pc := 5) dX8_countAccepted_5 rfl ?_
      refine aw_getR (pc := 6) dX8_countAccepted_6 k_fl_X8_21 rfl (by omega) (by first | rfl | exact z_shr _ (by omega) | exact z_shc0 (by omega) | exact z_shc1 (by omega) | exact z_shc2 (by omega) | exact z_shc3 (by omega) | exact z_shc4 (by omega)) (by first | rfl | exact z_Rc0 _ (by omega) | exact z_Rc1 _ (by omega) | exact z_Rc2 _ (by omega) | exact z_Rc3 _ (by omega)) ?_
      refine aw_getI (pc := 9) dX8_countAccepted_9 k_fl_X8_70 rfl (by omega) (by first | rfl | exact z_shr _ (by omega) | exact z_shc0 (by omega) | exact z_shc1 (by omega) | exact z_shc2 (by omega) | exact z_shc3 (by omega) | exact z_shc4 (by omega)) ?_
      refine aw_icmp_ge (pc := 12) (tgt := 43) dX8_countAccepted_12 rfl (by first | omega | exact z_bl_r _) (by first | omega | exact z_bl_r _) (fun h12 => ?_) (fun h12 => absurd h12 (by omega))
      refine aw_iload_n (pc := 43) dX8_countAccepted_43 rfl ?_
      exact aw_ireturn (pc := 44) dX8_countAccepted_44 rfl ⟨Nat.zero_le _, Nat.zero_le _⟩ (⟨by rw [show x = L.length by omega], rfl, rfl, rfl, rfl⟩)
    | succ k ih =>
      intro x he
      refine aw_iload_n (pc := 4) dX8_countAccepted_4 rfl ?_
      refine aw_aload_n (pc := 5) dX8_countAccepted_5 rfl ?_
      refine aw_getR (pc := 6) dX8_countAccepted_6 k_fl_X8_21 rfl (by omega) (by first | rfl | exact z_shr _ (by omega) | exact z_shc0 (by omega) | exact z_shc1 (by omega) | exact z_shc2 (by omega) | exact z_shc3 (by omega) | exact z_shc4 (by omega)) (by first | rfl | exact z_Rc0 _ (by omega) | exact z_Rc1 _ (by omega) | exact z_Rc2 _ (by omega) | exact z_Rc3 _ (by omega)) ?_
      refine aw_getI (pc := 9) dX8_countAccepted_9 k_fl_X8_70 rfl (by omega) (by first | rfl | exact z_shr _ (by omega) | exact z_shc0 (by omega) | exact z_shc1 (by omega) | exact z_shc2 (by omega) | exact z_shc3 (by omega) | exact z_shc4 (by omega)) ?_
      refine aw_icmp_ge (pc := 12) (tgt := 43) dX8_countAccepted_12 rfl (by first | omega | exact z_bl_r _) (by first | omega | exact z_bl_r _) (fun h12 => absurd h12 (by omega)) (fun h12 => ?_)
      obtain ⟨hD, hp41, hCC, hag⟩ := hI.at (k := x) (by omega)
      have es := z_ac_cl h hD
      refine aw_aload_n (pc := 15) dX8_countAccepted_15 rfl ?_
      refine aw_getR (pc := 16) dX8_countAccepted_16 k_fl_X8_51 rfl (by omega) (by first | rfl | exact z_shr _ (by omega) | exact z_shc0 (by omega) | exact z_shc1 (by omega) | exact z_shc2 (by omega) | exact z_shc3 (by omega) | exact z_shc4 (by omega)) (by first | rfl | exact z_Rc0 _ (by omega) | exact z_Rc1 _ (by omega) | exact z_Rc2 _ (by omega) | exact z_Rc3 _ (by omega)) ?_
      refine aw_aload_n (pc := 19) dX8_countAccepted_19 rfl ?_
      refine aw_getR (pc := 20) dX8_countAccepted_20 k_fl_X8_21 rfl (by omega) (by first | rfl | exact z_shr _ (by omega) | exact z_shc0 (by omega) | exact z_shc1 (by omega) | exact z_shc2 (by omega) | exact z_shc3 (by omega) | exact z_shc4 (by omega)) (by first | rfl | exact z_Rc0 _ (by omega) | exact z_Rc1 _ (by omega) | exact z_Rc2 _ (by omega) | exact z_Rc3 _ (by omega)) ?_
      refine aw_getR (pc := 23) dX8_countAccepted_23 k_fl_X8_125 rfl (by omega) (by first | rfl | exact z_shr _ (by omega) | exact z_shc0 (by omega) | exact z_shc1 (by omega) | exact z_shc2 (by omega) | exact z_shc3 (by omega) | exact z_shc4 (by omega)) (by first | rfl | exact z_Rc0 _ (by omega) | exact z_Rc1 _ (by omega) | exact z_Rc2 _ (by omega) | exact z_Rc3 _ (by omega)) ?_
      refine aw_iload_n (pc := 26) dX8_countAccepted_26 rfl ?_
      refine aw_aaloadQ (b := 19 + 5 * π x) (pc := 27) dX8_countAccepted_27 (by omega) (Nat.le_refl _) rfl (by omega) (by rfl) ?_
      refine aw_qV (pc := 28) (d := m_X0_accepts) (c_X0_accepts h hp41 hCC) k_X0_accepts dX8_countAccepted_28 k_ml_X8_164 rfl ⟨rfl, rfl⟩ (by omega) (by first | rfl | exact z_shr _ (by omega) | exact z_shc0 (by omega) | exact z_shc1 (by omega) | exact z_shc2 (by omega) | exact z_shc3 (by omega) | exact z_shc4 (by omega)) rfl ⟨Nat.le_of_ble_eq_true rfl, Nat.le_of_ble_eq_true rfl⟩ ⟨Nat.zero_le _, Nat.zero_le _⟩ rfl (Nat.le_of_ble_eq_true rfl) (z_Pk ?_)
      refine aw_if_eq (pc := 31) (tgt := 37) dX8_countAccepted_31 rfl (by first | omega | exact z_bl_r _) (fun h31 => ?_) (fun h31 => ?_)
      · refine aw_iinc (pc := 37) (lv' := [_, _, _]) dX8_countAccepted_37 (Nat.le_of_ble_eq_true rfl) rfl rfl ?_
        refine aw_goto (pc := 40) (tgt := 4) dX8_countAccepted_40 rfl ?_
        have ex : z_cA (z_clM I J) L (x + 1) = z_cA (z_clM I J) L x + 0 := by show z_cA (z_clM I J) L x + z_bl _ = _; rw [z_bl_f (fun q => z_bl_0.mp h31 (es.mpr q))]
        have K := ih (x + 1) (by omega)
        rw [ex, Int.add_zero] at K
        exact K
      · refine aw_iinc (pc := 34) (lv' := [_, _, _]) dX8_countAccepted_34 (Nat.le_of_ble_eq_true rfl) rfl rfl ?_
        refine aw_iinc (pc := 37) (lv' := [_, _, _]) dX8_countAccepted_37 (Nat.le_of_ble_eq_true rfl) rfl rfl ?_
        refine aw_goto (pc := 40) (tgt := 4) dX8_countAccepted_40 rfl ?_
        have ex : z_cA (z_clM I J) L (x + 1) = z_cA (z_clM I J) L x + 1 := by show z_cA (z_clM I J) L x + z_bl _ = _; rw [z_bl_t (es.mp (z_bl_n.mp h31))]
        have K := ih (x + 1) (by omega)
        rw [ex] at K
        exact K
  refine aw_iconst (pc := 0) dX8_countAccepted_0 ?_
  refine aw_istore_n (pc := 1) (lv' := [_, _, _]) dX8_countAccepted_1 (Nat.le_of_ble_eq_true rfl) rfl ?_
  refine aw_iconst (pc := 2) dX8_countAccepted_2 ?_
  refine aw_istore_n (pc := 3) (lv' := [_, _, _]) dX8_countAccepted_3 (Nat.le_of_ble_eq_true rfl) rfl ?_
  exact loop L.length 0 (by omega)
set_option maxHeartbeats 4000000 in
theorem c_X8_told {π : Nat → Nat} {I J : AwI} {m : z_MM} {L : List z_CC} {t : Int} {w : Int} (hI : z_CI I J π m L t) (hw : -2147483648 ≤ w ∧ w ≤ 2147483647) : CT m_X8_told [zr 0, zi w] 255 I J (z_R π) (z_PC (z_rT m L t w) I J) := by
  have hI0 := hI
  obtain ⟨h, hm, hlh, hL, hc, ht, h01, h225, h232, hA⟩ := hI0
  subst hm
  have hnm := h.nm
  have hrw := h.rw
  have hn4 := hL.n
  have eN : mN (z_clM I J) = (I 1 5).toNat := rfl
  have eR : mR (z_clM I J) = (I 1 6).toNat := rfl
  have eL := hc.1
  refine CT.of (by decide) (Nat.le_of_ble_eq_true rfl) ?_
  show AW _ 0 0 _ 0 [some (zr 0), some (zi w)] [] _ _ _
  refine aw_iload_n (pc := 0) dX8_told_0 rfl ?_
  rcases (show (w < 0 ∨ 4 < w) ∨ w = 0 ∨ w = 1 ∨ w = 2 ∨ w = 3 ∨ w = 4 by omega) with h1 | h1 | h1 | h1 | h1 | h1
  · refine aw_tbl_out (pc := 1) (tgt := 70) dX8_told_1 (by omega) h1 rfl ?_
    refine aw_bipush (pc := 70) dX8_told_70 rfl ?_
    refine aw_ireturn (pc := 72) dX8_told_72 rfl ⟨Nat.zero_le _, Nat.zero_le _⟩ ?_
    refine z_PCr ?_ hI z_FR.rf
    unfold z_rT
    congr 1
    repeat' split
    all_goals (first | rfl | omega | (exfalso; omega))
  · subst h1
    refine aw_tbl_in (pc := 1) (tgt := 36) (off := 35) dX8_told_1 (by omega) (by omega) rfl rfl ?_
    refine aw_aload_n (pc := 36) dX8_told_36 rfl ?_
    refine aw_getR (pc := 37) dX8_told_37 k_fl_X8_10 rfl (by omega) (by first | rfl | exact z_shr _ (by omega) | exact z_shc0 (by omega) | exact z_shc1 (by omega) | exact z_shc2 (by omega) | exact z_shc3 (by omega) | exact z_shc4 (by omega)) (by first | rfl | exact z_Rc0 _ (by omega) | exact z_Rc1 _ (by omega) | exact z_Rc2 _ (by omega) | exact z_Rc3 _ (by omega)) ?_
    refine aw_getI (pc := 40) dX8_told_40 k_fl_X8_66 rfl (by omega) (by first | rfl | exact z_shr _ (by omega) | exact z_shc0 (by omega) | exact z_shc1 (by omega) | exact z_shc2 (by omega) | exact z_shc3 (by omega) | exact z_shc4 (by omega)) ?_
    refine aw_ireturn (pc := 43) dX8_told_43 rfl ⟨Nat.zero_le _, Nat.zero_le _⟩ ?_
    refine z_PCr ?_ hI z_FR.rf
    unfold z_rT
    congr 1
    repeat' split
    all_goals (first | rfl | omega | (exfalso; omega))
  · subst h1
    refine aw_tbl_in (pc := 1) (tgt := 44) (off := 43) dX8_told_1 (by omega) (by omega) rfl rfl ?_
    refine aw_aload_n (pc := 44) dX8_told_44 rfl ?_
    refine aw_getR (pc := 45) dX8_told_45 k_fl_X8_10 rfl (by omega) (by first | rfl | exact z_shr _ (by omega) | exact z_shc0 (by omega) | exact z_shc1 (by omega) | exact z_shc2 (by omega) | exact z_shc3 (by omega) | exact z_shc4 (by omega)) (by first | rfl | exact z_Rc0 _ (by omega) | exact z_Rc1 _ (by omega) | exact z_Rc2 _ (by omega) | exact z_Rc3 _ (by omega)) ?_
    refine aw_getI (pc := 48) dX8_told_48 k_fl_X8_77 rfl (by omega) (by first | rfl | exact z_shr _ (by omega) | exact z_shc0 (by omega) | exact z_shc1 (by omega) | exact z_shc2 (by omega) | exact z_shc3 (by omega) | exact z_shc4 (by omega)) ?_
    refine aw_ireturn (pc := 51) dX8_told_51 rfl ⟨Nat.zero_le _, Nat.zero_le _⟩ ?_
    refine z_PCr ?_ hI z_FR.rf
    unfold z_rT
    congr 1
    repeat' split
    all_goals (first | rfl | omega | (exfalso; omega))
  · subst h1
    refine aw_tbl_in (pc := 1) (tgt := 52) (off := 51) dX8_told_1 (by omega) (by omega) rfl rfl ?_
    refine aw_aload_n (pc := 52) dX8_told_52 rfl ?_
    refine aw_getR (pc := 53) dX8_told_53 k_fl_X8_21 rfl (by omega) (by first | rfl | exact z_shr _ (by omega) | exact z_shc0 (by omega) | exact z_shc1 (by omega) | exact z_shc2 (by omega) | exact z_shc3 (by omega) | exact z_shc4 (by omega)) (by first | rfl | exact z_Rc0 _ (by omega) | exact z_Rc1 _ (by omega) | exact z_Rc2 _ (by omega) | exact z_Rc3 _ (by omega)) ?_
    refine aw_getI (pc := 56) dX8_told_56 k_fl_X8_70 rfl (by omega) (by first | rfl | exact z_shr _ (by omega) | exact z_shc0 (by omega) | exact z_shc1 (by omega) | exact z_shc2 (by omega) | exact z_shc3 (by omega) | exact z_shc4 (by omega)) ?_
    refine aw_ireturn (pc := 59) dX8_told_59 rfl ⟨Nat.zero_le _, Nat.zero_le _⟩ ?_
    refine z_PCr ?_ hI z_FR.rf
    unfold z_rT
    congr 1
    repeat' split
    all_goals (first | rfl | omega | (exfalso; omega))
  · subst h1
    refine aw_tbl_in (pc := 1) (tgt := 60) (off := 59) dX8_told_1 (by omega) (by omega) rfl rfl ?_
    refine aw_aload_n (pc := 60) dX8_told_60 rfl ?_
    refine aw_qV (pc := 61) (d := m_X8_countBroken) (c_X8_countBroken hI) k_X8_countBroken dX8_told_61 k_ml_X8_203 rfl ⟨rfl, rfl⟩ (by omega) (by first | rfl | exact z_shr _ (by omega) | exact z_shc0 (by omega) | exact z_shc1 (by omega) | exact z_shc2 (by omega) | exact z_shc3 (by omega) | exact z_shc4 (by omega)) rfl ⟨Nat.le_of_ble_eq_true rfl, Nat.le_of_ble_eq_true rfl⟩ ⟨Nat.zero_le _, Nat.zero_le _⟩ rfl (Nat.le_of_ble_eq_true rfl) (z_Pk ?_)
    refine aw_ireturn (pc := 64) dX8_told_64 rfl ⟨Nat.zero_le _, Nat.zero_le _⟩ ?_
    refine z_PCr ?_ hI z_FR.rf
    unfold z_rT
    congr 1
    repeat' split
    all_goals (first | rfl | omega | (exfalso; omega))
  · subst h1
    refine aw_tbl_in (pc := 1) (tgt := 65) (off := 64) dX8_told_1 (by omega) (by omega) rfl rfl ?_
    refine aw_aload_n (pc := 65) dX8_told_65 rfl ?_
    refine aw_qV (pc := 66) (d := m_X8_countAccepted) (c_X8_countAccepted hI) k_X8_countAccepted dX8_told_66 k_ml_X8_206 rfl ⟨rfl, rfl⟩ (by omega) (by first | rfl | exact z_shr _ (by omega) | exact z_shc0 (by omega) | exact z_shc1 (by omega) | exact z_shc2 (by omega) | exact z_shc3 (by omega) | exact z_shc4 (by omega)) rfl ⟨Nat.le_of_ble_eq_true rfl, Nat.le_of_ble_eq_true rfl⟩ ⟨Nat.zero_le _, Nat.zero_le _⟩ rfl (Nat.le_of_ble_eq_true rfl) (z_Pk ?_)
    refine aw_ireturn (pc := 69) dX8_told_69 rfl ⟨Nat.zero_le _, Nat.zero_le _⟩ ?_
    refine z_PCr ?_ hI z_FR.rf
    unfold z_rT
    congr 1
    repeat' split
    all_goals (first | rfl | omega | (exfalso; omega))
set_option maxHeartbeats 4000000 in
theorem c_X8_best {π : Nat → Nat} {I J : AwI} {m : z_MM} {L : List z_CC} {t : Int} (hI : z_CI I J π m L t) : CT m_X8_best [zr 0] 255 I J (z_R π) (z_PC (z_bs m L L.length, m, L, t) I J) := by
  have hI0 := hI
  obtain ⟨h, hm, hlh, hL, hc, ht, h01, h225, h232, hA⟩ := hI0
  subst hm
  have hnm := h.nm
  have hrw := h.rw
  have hn4 := hL.n
  have eN : mN (z_clM I J) = (I 1 5).toNat := rfl
  have eR : mR (z_clM I J) = (I 1 6).toNat := rfl
  have eL := hc.1
  refine CT.of (by decide) (Nat.le_of_ble_eq_true rfl) ?_
  show AW _ 0 0 _ 0 [some (zr 0), none, none, none, none, none, none] [] _ _ _
  have loop : ∀ (k : Nat) (x : Nat) (mo : Int) (v : Option AwV), (x : Int) + k = (L.length : Int) → (-100000000000 ≤ mo ∧ mo ≤ 100000000000) → (z_bs (z_clM I J) L x ≠ -1 → mo = z_str2 (z_clM I J) (z_g L (z_bs (z_clM I J) L x).toNat)) → AW (FM m_X8_best (z_PC (z_bs (z_clM I J) L L.length, z_clM I J, L, t) I J)) 0 0 255 7 [some (zr 0), some (zi (z_bs (z_clM I J) L x)), some (zl mo), none, some (zi (x : Int)), v, none] [] I J (z_R π) := by
    intro k
    induction k with
    | zero =>
      intro x mo v he hmo hm
      refine aw_iload (pc := 7) dX8_best_7 rfl ?_
      refine aw_aload_n (pc := 9) dX8_best_9 rfl ?_
      refine aw_getR (pc := 10) dX8_best_10 k_fl_X8_21 rfl (by omega) (by first | rfl | exact z_shr _ (by omega) | exact z_shc0 (by omega) | exact z_shc1 (by omega) | exact z_shc2 (by omega) | exact z_shc3 (by omega) | exact z_shc4 (by omega)) (by first | rfl | exact z_Rc0 _ (by omega) | exact z_Rc1 _ (by omega) | exact z_Rc2 _ (by omega) | exact z_Rc3 _ (by omega)) ?_
      refine aw_getI (pc := 13) dX8_best_13 k_fl_X8_70 rfl (by omega) (by first | rfl | exact z_shr _ (by omega) | exact z_shc0 (by omega) | exact z_shc1 (by omega) | exact z_shc2 (by omega) | exact z_shc3 (by omega) | exact z_shc4 (by omega)) ?_
      refine aw_icmp_ge (pc := 16) (tgt := 62) dX8_best_16 rfl (by first | omega | exact z_bl_r _) (by first | omega | exact z_bl_r _) (fun h16 => ?_) (fun h16 => absurd h16 (by omega))
      refine aw_iload_n (pc := 62) dX8_best_62 rfl ?_
      refine aw_ireturn (pc := 63) dX8_best_63 rfl ⟨Nat.zero_le _, Nat.zero_le _⟩ ?_
      exact z_PCr (by rw [show x = L.length by omega]) hI z_FR.rf
    | succ k ih =>
      intro x mo v he hmo hm
      refine aw_iload (pc := 7) dX8_best_7 rfl ?_
      refine aw_aload_n (pc := 9) dX8_best_9 rfl ?_
      refine aw_getR (pc := 10) dX8_best_10 k_fl_X8_21 rfl (by omega) (by first | rfl | exact z_shr _ (by omega) | exact z_shc0 (by omega) | exact z_shc1 (by omega) | exact z_shc2 (by omega) | exact z_shc3 (by omega) | exact z_shc4 (by omega)) (by first | rfl | exact z_Rc0 _ (by omega) | exact z_Rc1 _ (by omega) | exact z_Rc2 _ (by omega) | exact z_Rc3 _ (by omega)) ?_
      refine aw_getI (pc := 13) dX8_best_13 k_fl_X8_70 rfl (by omega) (by first | rfl | exact z_shr _ (by omega) | exact z_shc0 (by omega) | exact z_shc1 (by omega) | exact z_shc2 (by omega) | exact z_shc3 (by omega) | exact z_shc4 (by omega)) ?_
      refine aw_icmp_ge (pc := 16) (tgt := 62) dX8_best_16 rfl (by first | omega | exact z_bl_r _) (by first | omega | exact z_bl_r _) (fun h16 => absurd h16 (by omega)) (fun h16 => ?_)
      obtain ⟨hD, hp41, hCC, hag⟩ := hI.at (k := x) (by omega)
      have hb := z_cst_b h hCC
      have es := z_clM_str h hD
      have hbb := z_bs_b (z_clM I J) L x
      refine aw_aload_n (pc := 19) dX8_best_19 rfl ?_
      refine aw_getR (pc := 20) dX8_best_20 k_fl_X8_10 rfl (by omega) (by first | rfl | exact z_shr _ (by omega) | exact z_shc0 (by omega) | exact z_shc1 (by omega) | exact z_shc2 (by omega) | exact z_shc3 (by omega) | exact z_shc4 (by omega)) (by first | rfl | exact z_Rc0 _ (by omega) | exact z_Rc1 _ (by omega) | exact z_Rc2 _ (by omega) | exact z_Rc3 _ (by omega)) ?_
      refine aw_aload_n (pc := 23) dX8_best_23 rfl ?_
      refine aw_getR (pc := 24) dX8_best_24 k_fl_X8_21 rfl (by omega) (by first | rfl | exact z_shr _ (by omega) | exact z_shc0 (by omega) | exact z_shc1 (by omega) | exact z_shc2 (by omega) | exact z_shc3 (by omega) | exact z_shc4 (by omega)) (by first | rfl | exact z_Rc0 _ (by omega) | exact z_Rc1 _ (by omega) | exact z_Rc2 _ (by omega) | exact z_Rc3 _ (by omega)) ?_
      refine aw_getR (pc := 27) dX8_best_27 k_fl_X8_125 rfl (by omega) (by first | rfl | exact z_shr _ (by omega) | exact z_shc0 (by omega) | exact z_shc1 (by omega) | exact z_shc2 (by omega) | exact z_shc3 (by omega) | exact z_shc4 (by omega)) (by first | rfl | exact z_Rc0 _ (by omega) | exact z_Rc1 _ (by omega) | exact z_Rc2 _ (by omega) | exact z_Rc3 _ (by omega)) ?_
      refine aw_iload (pc := 30) dX8_best_30 rfl ?_
      refine aw_aaloadQ (b := 19 + 5 * π x) (pc := 32) dX8_best_32 (by omega) (Nat.le_refl _) rfl (by omega) (by rfl) ?_
      refine aw_qV (pc := 33) (d := m_X6_scaledStrength) (c_X6_scaledStrength h hp41 hCC) k_X6_scaledStrength dX8_best_33 k_ml_X8_170 rfl ⟨rfl, rfl⟩ (by omega) (by first | rfl | exact z_shr _ (by omega) | exact z_shc0 (by omega) | exact z_shc1 (by omega) | exact z_shc2 (by omega) | exact z_shc3 (by omega) | exact z_shc4 (by omega)) rfl ⟨Nat.le_of_ble_eq_true rfl, Nat.le_of_ble_eq_true rfl⟩ ⟨Nat.zero_le _, Nat.zero_le _⟩ rfl (Nat.le_of_ble_eq_true rfl) (z_Pk ?_)
      refine aw_lstore (pc := 36) (lv' := [_, _, _, _, _, _, _]) dX8_best_36 (Nat.le_of_ble_eq_true rfl) rfl ?_
      refine aw_iload_n (pc := 38) dX8_best_38 rfl ?_
      refine aw_iconst (pc := 39) dX8_best_39 ?_
      refine aw_icmp_eq (pc := 40) (tgt := 50) dX8_best_40 rfl (by have := z_bs_b (z_clM I J) L x; omega) (by omega) (fun h40 => ?_) (fun h40 => ?_)
      · refine aw_iload (pc := 50) dX8_best_50 rfl ?_
        refine aw_istore_n (pc := 52) (lv' := [_, _, _, _, _, _, _]) dX8_best_52 (Nat.le_of_ble_eq_true rfl) rfl ?_
        refine aw_lload (pc := 53) dX8_best_53 rfl ?_
        refine aw_lstore_n (pc := 55) (lv' := [_, _, _, _, _, _, _]) dX8_best_55 (Nat.le_of_ble_eq_true rfl) rfl ?_
        refine aw_iinc (pc := 56) (lv' := [_, _, _, _, _, _, _]) dX8_best_56 (Nat.le_of_ble_eq_true rfl) rfl rfl ?_
        refine aw_goto (pc := 59) (tgt := 7) dX8_best_59 rfl ?_
        try have hm2 := hm h40
        have ex : z_bs (z_clM I J) L (x + 1) = (x : Int) := by show (if _ then _ else _) = _; rw [if_pos (by first | exact Or.inl h40 | exact Or.inr (by omega))]
        have K := ih (x + 1) (z_cst I J (π x)) (some (zl (z_cst I J (π x)))) (by omega) (by omega) (fun _ => by rw [ex]; exact es)
        rw [ex] at K
        exact K
      · refine aw_lload (pc := 43) dX8_best_43 rfl ?_
        refine aw_lload_n (pc := 45) dX8_best_45 rfl ?_
        refine aw_lcmp_le (pc := 46) (tgt := 56) dX8_best_46 dX8_best_47 rfl (by omega) (by omega) (fun h46 => ?_) (fun h46 => ?_)
        · refine aw_iinc (pc := 56) (lv' := [_, _, _, _, _, _, _]) dX8_best_56 (Nat.le_of_ble_eq_true rfl) rfl rfl ?_
          refine aw_goto (pc := 59) (tgt := 7) dX8_best_59 rfl ?_
          have hm2 := hm h40
          have ex : z_bs (z_clM I J) L (x + 1) = z_bs (z_clM I J) L x := by show (if _ then _ else _) = _; rw [if_neg (by omega)]
          have K := ih (x + 1) mo (some (zl (z_cst I J (π x)))) (by omega) (by omega) (fun q => by rw [ex]; exact hm2)
          rw [ex] at K
          exact K
        · refine aw_iload (pc := 50) dX8_best_50 rfl ?_
          refine aw_istore_n (pc := 52) (lv' := [_, _, _, _, _, _, _]) dX8_best_52 (Nat.le_of_ble_eq_true rfl) rfl ?_
          refine aw_lload (pc := 53) dX8_best_53 rfl ?_
          refine aw_lstore_n (pc := 55) (lv' := [_, _, _, _, _, _, _]) dX8_best_55 (Nat.le_of_ble_eq_true rfl) rfl ?_
          refine aw_iinc (pc := 56) (lv' := [_, _, _, _, _, _, _]) dX8_best_56 (Nat.le_of_ble_eq_true rfl) rfl rfl ?_
          refine aw_goto (pc := 59) (tgt := 7) dX8_best_59 rfl ?_
          try have hm2 := hm h40
          have ex : z_bs (z_clM I J) L (x + 1) = (x : Int) := by show (if _ then _ else _) = _; rw [if_pos (by first | exact Or.inl h40 | exact Or.inr (by omega))]
          have K := ih (x + 1) (z_cst I J (π x)) (some (zl (z_cst I J (π x)))) (by omega) (by omega) (fun _ => by rw [ex]; exact es)
          rw [ex] at K
          exact K
  refine aw_iconst (pc := 0) dX8_best_0 ?_
  refine aw_istore_n (pc := 1) (lv' := [_, _, _, _, _, _, _]) dX8_best_1 (Nat.le_of_ble_eq_true rfl) rfl ?_
  refine aw_lconst (pc := 2) (v := 0) dX8_best_2 rfl ?_
  refine aw_lstore_n (pc := 3) (lv' := [_, _, _, _, _, _, _]) dX8_best_3 (Nat.le_of_ble_eq_true rfl) rfl ?_
  refine aw_iconst (pc := 4) dX8_best_4 ?_
  refine aw_istore (pc := 5) (lv' := [_, _, _, _, _, _, _]) dX8_best_5 (Nat.le_of_ble_eq_true rfl) rfl ?_
  exact loop L.length 0 0 _ (by omega) (by omega) (fun q => absurd rfl q)
