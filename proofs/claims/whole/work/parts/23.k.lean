theorem z_tlR_b (m : z_MM) {D : Int} (hD : 2 ≤ D ∧ D ≤ 9) (s : Nat → Int) (n : Nat) : 0 ≤ z_tlR m D s n ∧ z_tlR m D s n ≤ 9 := by
  have h1 := Int.emod_nonneg (s n) (show D ≠ 0 by omega)
  have h2 := Int.emod_lt_of_pos (s n) (show 0 < D by omega)
  unfold z_tlR
  by_cases q : s n % D ≠ 0 ∧ z_lcM m n (s n % D) D
  · rw [z_if_t q]; omega
  · rw [z_if_f q]; omega
theorem z_thR_b (m : z_MM) {D : Int} (hD : 2 ≤ D ∧ D ≤ 9) (s : Nat → Int) (n : Nat) : 0 ≤ z_thR m D s n ∧ z_thR m D s n ≤ 9 := by
  have h1 := Int.emod_nonneg (s n) (show D ≠ 0 by omega)
  have h2 := Int.emod_lt_of_pos (s n) (show 0 < D by omega)
  unfold z_thR
  by_cases q : s n % D ≠ 0 ∧ ¬ z_lcM m n (s n % D) D
  · rw [z_if_t q]; omega
  · rw [z_if_f q]; omega
theorem z_R_dv (m : z_MM) {D : Int} (hD : 2 ≤ D ∧ D ≤ 9) (s : Nat → Int) (n : Nat) : (s n - z_tlR m D s n + z_thR m D s n) % D = 0 := by
  have h3 := Int.mul_ediv_add_emod (s n) D
  unfold z_tlR z_thR
  by_cases q0 : s n % D = 0
  · rw [z_if_f (fun q => q.1 q0), z_if_f (fun q => q.1 q0), Int.sub_zero, Int.add_zero]
    exact q0
  · by_cases q : z_lcM m n (s n % D) D
    · rw [z_if_t ⟨q0, q⟩, z_if_f (fun z => z.2 q), show s n - s n % D + 0 = D * (s n / D) by omega]
      exact Int.mul_emod_right D _
    · rw [z_if_f (fun z => q z.2), z_if_t ⟨q0, q⟩, show s n - 0 + (D - s n % D) = D * (s n / D + 1) by rw [Int.mul_add, Int.mul_one]; omega]
      exact Int.mul_emod_right D _
theorem z_tlR_c {m : z_MM} {D : Int} {s s' : Nat → Int} {n : Nat} (h : s n = s' n) : z_tlR m D s n = z_tlR m D s' n := by
  unfold z_tlR
  rw [h]
theorem z_thR_c {m : z_MM} {D : Int} {s s' : Nat → Int} {n : Nat} (h : s n = s' n) : z_thR m D s n = z_thR m D s' n := by
  unfold z_thR
  rw [h]
set_option maxHeartbeats 4000000 in
theorem c_X7_tryRounded {π : Nat → Nat} {I J : AwI} {L : List z_CC} {r : Nat} {d : Int} (h : z_M I J) (hL : z_L I π) (hc : z_clL I π (z_clM I J) L) (ht : I 17 2 = 1) (hr : r < (I 1 6).toNat) (hd : 2 ≤ d ∧ d ≤ 9) : CT m_X7_tryRounded [zr 224, zi (r : Int), zi d] 255 I J (z_R π) (fun q9 sz' I' J' R' => q9 = some (zi (z_of (z_clM I J) (L, 1) (z_cR (z_clM I J) r d)).2) ∧ sz' = 255 ∧ J' = J ∧ R' = z_R π ∧ z_F I I' ∧ z_L I' π ∧ z_clL I' π (z_clM I J) (z_of (z_clM I J) (L, 1) (z_cR (z_clM I J) r d)).1 ∧ I' 17 2 = (z_of (z_clM I J) (L, 1) (z_cR (z_clM I J) r d)).2) := by
  have hnm := h.nm
  have hrw := h.rw
  have hn4 := hL.n
  have hp := hL.p (k := (I 17 1).toNat) (by omega)
  obtain ⟨b1, b2, b3, b4⟩ := hL.f0 hp
  have hrt := h.rt r
  have htb := z_tlR_b (z_clM I J) hd (fun n => I (6 + r) n)
  have hhb := z_thR_b (z_clM I J) hd (fun n => I (6 + r) n)
  have hgb : ∀ k, -1000 ≤ I (6 + r) k - (z_tlR (z_clM I J) d (fun n => I (6 + r) n)) k + (z_thR (z_clM I J) d (fun n => I (6 + r) n)) k ∧ I (6 + r) k - (z_tlR (z_clM I J) d (fun n => I (6 + r) n)) k + (z_thR (z_clM I J) d (fun n => I (6 + r) n)) k ≤ 1000 := fun k => by have := h.fc r k (by omega); have := htb k; have := hhb k; omega
  have hrb : ∀ k, -1000 ≤ (va_up (z_f0 I (19 + 5 * (π (I 17 1).toNat) + 2) 10) r 1) k ∧ (va_up (z_f0 I (19 + 5 * (π (I 17 1).toNat) + 2) 10) r 1) k ≤ 1000 := fun k => by unfold va_up; split; omega; exact b2 k
  have hab := z_sm_b (f := (fun n => (z_thR (z_clM I J) d (fun n => I (6 + r) n)) n * I 3 n - (z_tlR (z_clM I J) d (fun n => I (6 + r) n)) n * I 2 n)) 600 (I 1 5) 8 (by omega) (by omega) (fun n => by have a1 := z_mulb (a := (z_thR (z_clM I J) d (fun n => I (6 + r) n)) n) (A := 9) (by have := hhb n; omega) (h.hi n); have a2 := z_mulb (a := (z_tlR (z_clM I J) d (fun n => I (6 + r) n)) n) (A := 9) (by have := htb n; omega) (h.lo n); omega)
  refine CT.of (by decide) (Nat.le_of_ble_eq_true rfl) ?_
  show AW _ 0 0 _ 0 [some (zr 224), some (zi (r : Int)), some (zi d), none, none, none] [] _ _ _
  have loop2 : ∀ (k : Nat) (x : Int) (v : Option AwV), 0 ≤ x → x + k = I 1 5 → AW (FM m_X7_tryRounded (fun q9 sz' I' J' R' => q9 = some (zi (z_of (z_clM I J) (L, 1) (z_cR (z_clM I J) r d)).2) ∧ sz' = 255 ∧ J' = J ∧ R' = z_R π ∧ z_F I I' ∧ z_L I' π ∧ z_clL I' π (z_clM I J) (z_of (z_clM I J) (L, 1) (z_cR (z_clM I J) r d)).1 ∧ I' 17 2 = (z_of (z_clM I J) (L, 1) (z_cR (z_clM I J) r d)).2)) 0 0 255 37 [some (zr 224), some (zi (r : Int)), some (zi d), some (zr (19 + 5 * (π (I 17 1).toNat))), some (zi x), v] [] (z_ct9 I (π (I 17 1).toNat) (z_pf (fun n => I (6 + r) n - (z_tlR (z_clM I J) d (fun n => I (6 + r) n)) n + (z_thR (z_clM I J) d (fun n => I (6 + r) n)) n) (z_f0 I (19 + 5 * (π (I 17 1).toNat) + 1) 8) x.toNat) (va_up (z_f0 I (19 + 5 * (π (I 17 1).toNat) + 2) 10) r 1) (z_pf (z_tlR (z_clM I J) d (fun n => I (6 + r) n)) (z_f0 I (19 + 5 * (π (I 17 1).toNat) + 3) 8) x.toNat) (z_pf (z_thR (z_clM I J) d (fun n => I (6 + r) n)) (z_f0 I (19 + 5 * (π (I 17 1).toNat) + 4) 8) x.toNat) (I 16 r + z_sm (fun n => (z_thR (z_clM I J) d (fun n => I (6 + r) n)) n * I 3 n - (z_tlR (z_clM I J) d (fun n => I (6 + r) n)) n * I 2 n) x) 1 0 d 0) J (z_R π) := by
    intro k
    induction k with
    | zero =>
      intro x v hx he
      have he : x = I 1 5 := by omega
      subst he
      refine aw_iload (pc := 37) dX7_tryRounded_37 rfl ?_
      refine aw_aload_n (pc := 39) dX7_tryRounded_39 rfl ?_
      refine aw_getR (pc := 40) dX7_tryRounded_40 k_fl_X7_15 rfl (by omega) (by first | rfl | exact z_shr _ (by omega) | exact z_shc0 (by omega) | exact z_shc1 (by omega) | exact z_shc2 (by omega) | exact z_shc3 (by omega) | exact z_shc4 (by omega)) (by first | rfl | exact z_Rc0 _ (by omega) | exact z_Rc1 _ (by omega) | exact z_Rc2 _ (by omega) | exact z_Rc3 _ (by omega)) ?_
      refine aw_getV (pc := 43) (v := I 1 5) dX7_tryRounded_43 k_fl_X7_53 rfl (by omega) (by first | rfl | exact z_shr _ (by omega) | exact z_shc0 (by omega) | exact z_shc1 (by omega) | exact z_shc2 (by omega) | exact z_shc3 (by omega) | exact z_shc4 (by omega)) (z_c9_o (by omega)) ?_
      refine aw_icmp_ge (pc := 46) (tgt := 130) dX7_tryRounded_46 rfl (by first | omega | exact z_bl_r _) (by first | omega | exact z_bl_r _) (fun h46 => ?_) (fun h46 => absurd h46 (by omega))
      refine aw_aload_n (pc := 130) dX7_tryRounded_130 rfl ?_
      refine aw_aload_n (pc := 131) dX7_tryRounded_131 rfl ?_
      refine aw_iload_n (pc := 132) dX7_tryRounded_132 rfl ?_
      refine aw_qV (pc := 133) (d := m_X7_divideAndSettle) (c_X7_divideAndSettle h hL hp (by omega) (z_pf_b hgb b1) hrb (z_pf_b (fun n => by have := htb n; omega) b3) (z_pf_b (fun n => by have := hhb n; omega) b4) (by omega) (by omega) (by omega) (by omega) (by omega)) k_X7_divideAndSettle dX7_tryRounded_133 k_ml_X7_98 rfl ⟨rfl, rfl⟩ (by omega) (by first | rfl | exact z_shr _ (by omega) | exact z_shc0 (by omega) | exact z_shc1 (by omega) | exact z_shc2 (by omega) | exact z_shc3 (by omega) | exact z_shc4 (by omega)) rfl ⟨Nat.le_of_ble_eq_true rfl, Nat.le_of_ble_eq_true rfl⟩ ⟨Nat.zero_le _, Nat.zero_le _⟩ rfl (Nat.le_of_ble_eq_true rfl) (z_Pk ?_)
      refine aw_zreturn (pc := 136) dX7_tryRounded_136 rfl (z_sd01 _ _ _) ⟨Nat.zero_le _, Nat.zero_le _⟩ ?_
      have hC := z_rc9 (J := J) (c := (π (I 17 1).toNat)) h (f0 := (z_f0 I (19 + 5 * (π (I 17 1).toNat) + 1) 8)) (rt := (va_up (z_f0 I (19 + 5 * (π (I 17 1).toNat) + 2) 10) r 1)) (lt0 := (z_f0 I (19 + 5 * (π (I 17 1).toNat) + 3) 8)) (ht0 := (z_f0 I (19 + 5 * (π (I 17 1).toNat) + 4) 8)) (kd := 1) (D := d) (R0 := I 16 r) (s := (fun n => I (6 + r) n)) (tl := (z_tlR (z_clM I J) d (fun n => I (6 + r) n))) (th := (z_thR (z_clM I J) d (fun n => I (6 + r) n))) (rtm := fun j => if j = r then 1 else 0) (by omega) (fun n hn => z_R_dv _ hd _ n) (fun j hj => by unfold va_up; by_cases e : j = r; (rw [if_pos e, if_pos e]); (rw [if_neg e, if_neg e]; exact if_pos (by omega))) (Or.inr rfl)
      obtain ⟨k1, k2, k3, k4, k5⟩ := z_draft (L := L) h hL hc ht (z_pf_b (fun n => by have a1 := z_pf_b (x := (I 1 5).toNat) (g := (fun n => I (6 + r) n - (z_tlR (z_clM I J) d (fun n => I (6 + r) n)) n + (z_thR (z_clM I J) d (fun n => I (6 + r) n)) n)) (B := 1000) hgb b1 n; have := z_tdb (z_pf (fun n => I (6 + r) n - (z_tlR (z_clM I J) d (fun n => I (6 + r) n)) n + (z_thR (z_clM I J) d (fun n => I (6 + r) n)) n) (z_f0 I (19 + 5 * (π (I 17 1).toNat) + 1) 8) (I 1 5).toNat n) (d := d) (by omega); omega) (z_pf_b hgb b1)) hrb (z_pf_b (fun n => by have := htb n; omega) b3) (z_pf_b (fun n => by have := hhb n; omega) b4) (by have := z_edb (I 16 r + z_sm (fun n => (z_thR (z_clM I J) d (fun n => I (6 + r) n)) n * I 3 n - (z_tlR (z_clM I J) d (fun n => I (6 + r) n)) n * I 2 n) (I 1 5)) (d := d) (by omega); omega) (by omega) (by omega) (by omega) hC
      have eC : (z_rc (z_clM I J) 1 d (fun n => I (6 + r) n) (z_tlR (z_clM I J) d (fun n => I (6 + r) n)) (z_thR (z_clM I J) d (fun n => I (6 + r) n)) (I 16 r) (fun j => if j = r then 1 else 0)) = z_cR (z_clM I J) r d := z_rc_c (fun n hn => by
        have e0 : I (6 + r) n = mF (z_clM I J) r n := (z_clM_F (by omega) hn).symm
        exact ⟨e0, z_tlR_c e0, z_thR_c e0⟩) (z_clM_rt (by omega)).symm (fun _ _ => rfl)
      rw [eC] at k1 k2 k3
      exact ⟨by rw [k1], rfl, rfl, rfl, k4, k5, k2, k3⟩
    | succ k ih =>
      intro x v hx he
      refine aw_iload (pc := 37) dX7_tryRounded_37 rfl ?_
      refine aw_aload_n (pc := 39) dX7_tryRounded_39 rfl ?_
      refine aw_getR (pc := 40) dX7_tryRounded_40 k_fl_X7_15 rfl (by omega) (by first | rfl | exact z_shr _ (by omega) | exact z_shc0 (by omega) | exact z_shc1 (by omega) | exact z_shc2 (by omega) | exact z_shc3 (by omega) | exact z_shc4 (by omega)) (by first | rfl | exact z_Rc0 _ (by omega) | exact z_Rc1 _ (by omega) | exact z_Rc2 _ (by omega) | exact z_Rc3 _ (by omega)) ?_
      refine aw_getV (pc := 43) (v := I 1 5) dX7_tryRounded_43 k_fl_X7_53 rfl (by omega) (by first | rfl | exact z_shr _ (by omega) | exact z_shc0 (by omega) | exact z_shc1 (by omega) | exact z_shc2 (by omega) | exact z_shc3 (by omega) | exact z_shc4 (by omega)) (z_c9_o (by omega)) ?_
      refine aw_icmp_ge (pc := 46) (tgt := 130) dX7_tryRounded_46 rfl (by first | omega | exact z_bl_r _) (by first | omega | exact z_bl_r _) (fun h46 => absurd h46 (by omega)) (fun h46 => ?_)
      have g1 := h.fc r x.toNat (by omega)
      have hxn : x.toNat < (I 1 5).toNat := by omega
      have l0 : (z_f0 I (19 + 5 * (π (I 17 1).toNat) + 3) 8) x.toNat = 0 := if_pos (by omega)
      have r0 : (z_f0 I (19 + 5 * (π (I 17 1).toNat) + 4) 8) x.toNat = 0 := if_pos (by omega)
      have q1 := Int.emod_nonneg (I (6 + r) x.toNat) (show d ≠ 0 by omega)
      have q2 := Int.emod_lt_of_pos (I (6 + r) x.toNat) (show 0 < d by omega)
      refine aw_aload_n (pc := 49) dX7_tryRounded_49 rfl ?_
      refine aw_getR (pc := 50) dX7_tryRounded_50 k_fl_X7_80 rfl (by omega) (by first | rfl | exact z_shr _ (by omega) | exact z_shc0 (by omega) | exact z_shc1 (by omega) | exact z_shc2 (by omega) | exact z_shc3 (by omega) | exact z_shc4 (by omega)) (by first | rfl | exact z_Rc0 _ (by omega) | exact z_Rc1 _ (by omega) | exact z_Rc2 _ (by omega) | exact z_Rc3 _ (by omega)) ?_
      refine aw_iload (pc := 53) dX7_tryRounded_53 rfl ?_
      refine aw_aload_n (pc := 55) dX7_tryRounded_55 rfl ?_
      refine aw_getR (pc := 56) dX7_tryRounded_56 k_fl_X7_15 rfl (by omega) (by first | rfl | exact z_shr _ (by omega) | exact z_shc0 (by omega) | exact z_shc1 (by omega) | exact z_shc2 (by omega) | exact z_shc3 (by omega) | exact z_shc4 (by omega)) (by first | rfl | exact z_Rc0 _ (by omega) | exact z_Rc1 _ (by omega) | exact z_Rc2 _ (by omega) | exact z_Rc3 _ (by omega)) ?_
      refine aw_getR (pc := 59) dX7_tryRounded_59 k_fl_X7_56 rfl (by omega) (by first | rfl | exact z_shr _ (by omega) | exact z_shc0 (by omega) | exact z_shc1 (by omega) | exact z_shc2 (by omega) | exact z_shc3 (by omega) | exact z_shc4 (by omega)) (by first | rfl | exact z_Rc0 _ (by omega) | exact z_Rc1 _ (by omega) | exact z_Rc2 _ (by omega) | exact z_Rc3 _ (by omega)) ?_
      refine aw_iload_n (pc := 62) dX7_tryRounded_62 rfl ?_
      refine aw_aaloadG (b := 6 + r) (pc := 63) dX7_tryRounded_63 (by omega) (Nat.le_refl _) rfl (by omega) (by rfl) ?_
      refine aw_iload (pc := 64) dX7_tryRounded_64 rfl ?_
      refine aw_ialoadV (pc := 66) (v := I (6 + r) x.toNat) dX7_tryRounded_66 (by omega) (Nat.le_refl _) (by first | rfl | exact z_shr _ (by omega) | exact z_shc0 (by omega) | exact z_shc1 (by omega) | exact z_shc2 (by omega) | exact z_shc3 (by omega) | exact z_shc4 (by omega)) (by first | omega | exact z_bl_r _) (z_c9_o (by omega)) ?_
      refine aw_iastore (pc := 67) dX7_tryRounded_67 (by omega) (Nat.le_refl _) (by first | rfl | exact z_shr _ (by omega) | exact z_shc0 (by omega) | exact z_shc1 (by omega) | exact z_shc2 (by omega) | exact z_shc3 (by omega) | exact z_shc4 (by omega)) (by first | omega | exact z_bl_r _) ?_
      rw [z_c9_uf]
      refine aw_aload_n (pc := 68) dX7_tryRounded_68 rfl ?_
      refine aw_getR (pc := 69) dX7_tryRounded_69 k_fl_X7_80 rfl (by omega) (by first | rfl | exact z_shr _ (by omega) | exact z_shc0 (by omega) | exact z_shc1 (by omega) | exact z_shc2 (by omega) | exact z_shc3 (by omega) | exact z_shc4 (by omega)) (by first | rfl | exact z_Rc0 _ (by omega) | exact z_Rc1 _ (by omega) | exact z_Rc2 _ (by omega) | exact z_Rc3 _ (by omega)) ?_
      refine aw_iload (pc := 72) dX7_tryRounded_72 rfl ?_
      refine aw_ialoadV (pc := 74) (v := I (6 + r) x.toNat) dX7_tryRounded_74 (by omega) (Nat.le_refl _) (by first | rfl | exact z_shr _ (by omega) | exact z_shc0 (by omega) | exact z_shc1 (by omega) | exact z_shc2 (by omega) | exact z_shc3 (by omega) | exact z_shc4 (by omega)) (by first | omega | exact z_bl_r _) ((z_c9_f _).trans z_vs) ?_
      refine aw_iload_n (pc := 75) dX7_tryRounded_75 rfl ?_
      refine aw_qS (pc := 76) (d := m_J9_floorMod_7cf53) (c_floorMod (by omega) (by omega)) k_J9_floorMod_7cf53 dX7_tryRounded_76 k_ml_X7_82 rfl ⟨rfl, rfl⟩ ⟨Nat.le_of_ble_eq_true rfl, Nat.le_of_ble_eq_true rfl⟩ ⟨Nat.zero_le _, Nat.zero_le _⟩ rfl (Nat.le_of_ble_eq_true rfl) (z_Pk ?_)
      refine aw_istore (pc := 79) (lv' := [_, _, _, _, _, _]) dX7_tryRounded_79 (Nat.le_of_ble_eq_true rfl) rfl ?_
      refine aw_iload (pc := 81) dX7_tryRounded_81 rfl ?_
      refine aw_if_ne (pc := 83) (tgt := 89) dX7_tryRounded_83 rfl (by omega) (fun h83 => ?_) (fun h83 => ?_)
      · refine aw_aload_n (pc := 89) dX7_tryRounded_89 rfl ?_
        refine aw_iload (pc := 90) dX7_tryRounded_90 rfl ?_
        refine aw_iload (pc := 92) dX7_tryRounded_92 rfl ?_
        refine aw_iload_n (pc := 94) dX7_tryRounded_94 rfl ?_
        refine aw_qV (pc := 95) (d := m_X7_isLowCheaper) (c_X7_isLowCheaper h.c9 (by omega) (by omega) (by omega)) k_X7_isLowCheaper dX7_tryRounded_95 k_ml_X7_102 rfl ⟨rfl, rfl⟩ (by omega) (by first | rfl | exact z_shr _ (by omega) | exact z_shc0 (by omega) | exact z_shc1 (by omega) | exact z_shc2 (by omega) | exact z_shc3 (by omega) | exact z_shc4 (by omega)) rfl ⟨Nat.le_of_ble_eq_true rfl, Nat.le_of_ble_eq_true rfl⟩ ⟨Nat.zero_le _, Nat.zero_le _⟩ rfl (Nat.le_of_ble_eq_true rfl) (z_Pk ?_)
        refine aw_if_eq (pc := 98) (tgt := 113) dX7_tryRounded_98 rfl (z_bl_r _) (fun h98 => ?_) (fun h98 => ?_)
        · refine aw_aload_n (pc := 113) dX7_tryRounded_113 rfl ?_
          refine aw_aload_n (pc := 114) dX7_tryRounded_114 rfl ?_
          refine aw_iload (pc := 115) dX7_tryRounded_115 rfl ?_
          refine aw_iload_n (pc := 117) dX7_tryRounded_117 rfl ?_
          refine aw_iload (pc := 118) dX7_tryRounded_118 rfl ?_
          refine aw_isub (pc := 120) dX7_tryRounded_120 ?_
          refine aw_qV (pc := 121) (d := m_X7_takeHigh) (c_X7_takeHigh hp (by omega)) k_X7_takeHigh dX7_tryRounded_121 k_ml_X7_91 rfl ⟨rfl, rfl⟩ (by omega) (by first | rfl | exact z_shr _ (by omega) | exact z_shc0 (by omega) | exact z_shc1 (by omega) | exact z_shc2 (by omega) | exact z_shc3 (by omega) | exact z_shc4 (by omega)) rfl ⟨Nat.le_of_ble_eq_true rfl, Nat.le_of_ble_eq_true rfl⟩ ⟨Nat.zero_le _, Nat.zero_le _⟩ rfl (Nat.le_of_ble_eq_true rfl) (z_Pk ?_)
          refine aw_iinc (pc := 124) (lv' := [_, _, _, _, _, _]) dX7_tryRounded_124 (Nat.le_of_ble_eq_true rfl) rfl rfl ?_
          refine aw_goto (pc := 127) (tgt := 37) dX7_tryRounded_127 rfl ?_
          have e1 : (z_tlR (z_clM I J) d (fun n => I (6 + r) n)) x.toNat = 0 := by unfold z_tlR; exact z_if_f (fun q => (fun q => z_bl_0.mp h98 (by rw [z_lc9]; exact (z_clM_lc hxn).mp q)) q.2)
          have e2 : (z_thR (z_clM I J) d (fun n => I (6 + r) n)) x.toNat = d - (I (6 + r) x.toNat % d) := by unfold z_thR; exact z_if_t ⟨h83, (fun q => z_bl_0.mp h98 (by rw [z_lc9]; exact (z_clM_lc hxn).mp q))⟩
          have e4 : I 16 r + z_sm (fun n => (z_thR (z_clM I J) d (fun n => I (6 + r) n)) n * I 3 n - (z_tlR (z_clM I J) d (fun n => I (6 + r) n)) n * I 2 n) x + (d - (I (6 + r) x.toNat % d)) * I 3 x.toNat = I 16 r + z_sm (fun n => (z_thR (z_clM I J) d (fun n => I (6 + r) n)) n * I 3 n - (z_tlR (z_clM I J) d (fun n => I (6 + r) n)) n * I 2 n) (x + 1) := by rw [z_sm_s _ hx]; simp only [e1, e2]; omega
          rw [z_vs, z_vu, z_pf_s (g := (fun n => I (6 + r) n - (z_tlR (z_clM I J) d (fun n => I (6 + r) n)) n + (z_thR (z_clM I J) d (fun n => I (6 + r) n)) n)) (v := I (6 + r) x.toNat + (d - (I (6 + r) x.toNat % d))) hx (by simp only [e1, e2]; omega), z_pf_n (g := (z_tlR (z_clM I J) d (fun n => I (6 + r) n))) (f := (z_f0 I (19 + 5 * (π (I 17 1).toNat) + 3) 8)) hx (e1.trans l0.symm), z_pf_s (g := (z_thR (z_clM I J) d (fun n => I (6 + r) n))) (v := d - (I (6 + r) x.toNat % d)) hx e2.symm, e4]
          exact ih (x + 1) _ (by omega) (by omega)
        · refine aw_aload_n (pc := 101) dX7_tryRounded_101 rfl ?_
          refine aw_aload_n (pc := 102) dX7_tryRounded_102 rfl ?_
          refine aw_iload (pc := 103) dX7_tryRounded_103 rfl ?_
          refine aw_iload (pc := 105) dX7_tryRounded_105 rfl ?_
          refine aw_qV (pc := 107) (d := m_X7_takeLow) (c_X7_takeLow hp (by omega)) k_X7_takeLow dX7_tryRounded_107 k_ml_X7_95 rfl ⟨rfl, rfl⟩ (by omega) (by first | rfl | exact z_shr _ (by omega) | exact z_shc0 (by omega) | exact z_shc1 (by omega) | exact z_shc2 (by omega) | exact z_shc3 (by omega) | exact z_shc4 (by omega)) rfl ⟨Nat.le_of_ble_eq_true rfl, Nat.le_of_ble_eq_true rfl⟩ ⟨Nat.zero_le _, Nat.zero_le _⟩ rfl (Nat.le_of_ble_eq_true rfl) (z_Pk ?_)
          refine aw_goto (pc := 110) (tgt := 124) dX7_tryRounded_110 rfl ?_
          refine aw_iinc (pc := 124) (lv' := [_, _, _, _, _, _]) dX7_tryRounded_124 (Nat.le_of_ble_eq_true rfl) rfl rfl ?_
          refine aw_goto (pc := 127) (tgt := 37) dX7_tryRounded_127 rfl ?_
          have e1 : (z_tlR (z_clM I J) d (fun n => I (6 + r) n)) x.toNat = (I (6 + r) x.toNat % d) := by unfold z_tlR; exact z_if_t ⟨h83, ((z_clM_lc hxn).mpr (by have q := z_bl_n.mp h98; rw [z_lc9] at q; exact q))⟩
          have e2 : (z_thR (z_clM I J) d (fun n => I (6 + r) n)) x.toNat = 0 := by unfold z_thR; exact z_if_f (fun q => q.2 ((z_clM_lc hxn).mpr (by have q := z_bl_n.mp h98; rw [z_lc9] at q; exact q)))
          have e4 : I 16 r + z_sm (fun n => (z_thR (z_clM I J) d (fun n => I (6 + r) n)) n * I 3 n - (z_tlR (z_clM I J) d (fun n => I (6 + r) n)) n * I 2 n) x - (I (6 + r) x.toNat % d) * I 2 x.toNat = I 16 r + z_sm (fun n => (z_thR (z_clM I J) d (fun n => I (6 + r) n)) n * I 3 n - (z_tlR (z_clM I J) d (fun n => I (6 + r) n)) n * I 2 n) (x + 1) := by rw [z_sm_s _ hx]; simp only [e1, e2]; omega
          rw [z_vs, z_vu, z_pf_s (g := (fun n => I (6 + r) n - (z_tlR (z_clM I J) d (fun n => I (6 + r) n)) n + (z_thR (z_clM I J) d (fun n => I (6 + r) n)) n)) (v := I (6 + r) x.toNat - (I (6 + r) x.toNat % d)) hx (by simp only [e1, e2]; omega), z_pf_s (g := (z_tlR (z_clM I J) d (fun n => I (6 + r) n))) (v := (I (6 + r) x.toNat % d)) hx e1.symm, z_pf_n (g := (z_thR (z_clM I J) d (fun n => I (6 + r) n))) (f := (z_f0 I (19 + 5 * (π (I 17 1).toNat) + 4) 8)) hx (e2.trans r0.symm), e4]
          exact ih (x + 1) _ (by omega) (by omega)
      · refine aw_goto (pc := 86) (tgt := 124) dX7_tryRounded_86 rfl ?_
        refine aw_iinc (pc := 124) (lv' := [_, _, _, _, _, _]) dX7_tryRounded_124 (Nat.le_of_ble_eq_true rfl) rfl rfl ?_
        refine aw_goto (pc := 127) (tgt := 37) dX7_tryRounded_127 rfl ?_
        have e1 : (z_tlR (z_clM I J) d (fun n => I (6 + r) n)) x.toNat = 0 := by unfold z_tlR; exact z_if_f (fun q => q.1 h83)
        have e2 : (z_thR (z_clM I J) d (fun n => I (6 + r) n)) x.toNat = 0 := by unfold z_thR; exact z_if_f (fun q => q.1 h83)
        have e4 : I 16 r + z_sm (fun n => (z_thR (z_clM I J) d (fun n => I (6 + r) n)) n * I 3 n - (z_tlR (z_clM I J) d (fun n => I (6 + r) n)) n * I 2 n) x = I 16 r + z_sm (fun n => (z_thR (z_clM I J) d (fun n => I (6 + r) n)) n * I 3 n - (z_tlR (z_clM I J) d (fun n => I (6 + r) n)) n * I 2 n) (x + 1) := by rw [z_sm_s _ hx]; simp only [e1, e2]; omega
        rw [z_pf_s (g := (fun n => I (6 + r) n - (z_tlR (z_clM I J) d (fun n => I (6 + r) n)) n + (z_thR (z_clM I J) d (fun n => I (6 + r) n)) n)) (v := I (6 + r) x.toNat) hx (by simp only [e1, e2]; omega), z_pf_n (g := (z_tlR (z_clM I J) d (fun n => I (6 + r) n))) (f := (z_f0 I (19 + 5 * (π (I 17 1).toNat) + 3) 8)) hx (e1.trans l0.symm), z_pf_n (g := (z_thR (z_clM I J) d (fun n => I (6 + r) n))) (f := (z_f0 I (19 + 5 * (π (I 17 1).toNat) + 4) 8)) hx (e2.trans r0.symm), e4]
        exact ih (x + 1) _ (by omega) (by omega)
  refine aw_aload_n (pc := 0) dX7_tryRounded_0 rfl ?_
  refine aw_getR (pc := 1) dX7_tryRounded_1 k_fl_X7_19 rfl (by omega) (by first | rfl | exact z_shr _ (by omega) | exact z_shc0 (by omega) | exact z_shc1 (by omega) | exact z_shc2 (by omega) | exact z_shc3 (by omega) | exact z_shc4 (by omega)) (by first | rfl | exact z_Rc0 _ (by omega) | exact z_Rc1 _ (by omega) | exact z_Rc2 _ (by omega) | exact z_Rc3 _ (by omega)) ?_
  refine aw_iconst (pc := 4) dX7_tryRounded_4 ?_
  refine aw_qV (pc := 5) (d := m_X5_newDraft) (c_X5_newDraft hL) k_X5_newDraft dX7_tryRounded_5 k_ml_X7_63 rfl ⟨rfl, rfl⟩ (by omega) (by first | rfl | exact z_shr _ (by omega) | exact z_shc0 (by omega) | exact z_shc1 (by omega) | exact z_shc2 (by omega) | exact z_shc3 (by omega) | exact z_shc4 (by omega)) rfl ⟨Nat.le_of_ble_eq_true rfl, Nat.le_of_ble_eq_true rfl⟩ ⟨Nat.zero_le _, Nat.zero_le _⟩ rfl (Nat.le_of_ble_eq_true rfl) (z_Pk ?_)
  rw [z_bg9]
  refine aw_astore_n (pc := 8) (lv' := [_, _, _, _, _, _]) dX7_tryRounded_8 (Nat.le_of_ble_eq_true rfl) rfl ?_
  refine aw_aload_n (pc := 9) dX7_tryRounded_9 rfl ?_
  refine aw_getR (pc := 10) dX7_tryRounded_10 k_fl_X7_69 rfl (by omega) (by first | rfl | exact z_shr _ (by omega) | exact z_shc0 (by omega) | exact z_shc1 (by omega) | exact z_shc2 (by omega) | exact z_shc3 (by omega) | exact z_shc4 (by omega)) (by first | rfl | exact z_Rc0 _ (by omega) | exact z_Rc1 _ (by omega) | exact z_Rc2 _ (by omega) | exact z_Rc3 _ (by omega)) ?_
  refine aw_iload_n (pc := 13) dX7_tryRounded_13 rfl ?_
  refine aw_iconst (pc := 14) dX7_tryRounded_14 ?_
  refine aw_iastore (pc := 15) dX7_tryRounded_15 (by omega) (Nat.le_refl _) (by first | rfl | exact z_shr _ (by omega) | exact z_shc0 (by omega) | exact z_shc1 (by omega) | exact z_shc2 (by omega) | exact z_shc3 (by omega) | exact z_shc4 (by omega)) (by first | omega | exact z_bl_r _) ?_
  rw [z_c9_urt]
  refine aw_aload_n (pc := 16) dX7_tryRounded_16 rfl ?_
  refine aw_iload_n (pc := 17) dX7_tryRounded_17 rfl ?_
  refine aw_putI (pc := 18) dX7_tryRounded_18 k_fl_X7_74 rfl (by omega) (by first | rfl | exact z_shr _ (by omega) | exact z_shc0 (by omega) | exact z_shc1 (by omega) | exact z_shc2 (by omega) | exact z_shc3 (by omega) | exact z_shc4 (by omega)) ?_
  rw [z_c9_udv]
  refine aw_aload_n (pc := 21) dX7_tryRounded_21 rfl ?_
  refine aw_aload_n (pc := 22) dX7_tryRounded_22 rfl ?_
  refine aw_getR (pc := 23) dX7_tryRounded_23 k_fl_X7_15 rfl (by omega) (by first | rfl | exact z_shr _ (by omega) | exact z_shc0 (by omega) | exact z_shc1 (by omega) | exact z_shc2 (by omega) | exact z_shc3 (by omega) | exact z_shc4 (by omega)) (by first | rfl | exact z_Rc0 _ (by omega) | exact z_Rc1 _ (by omega) | exact z_Rc2 _ (by omega) | exact z_Rc3 _ (by omega)) ?_
  refine aw_getR (pc := 26) dX7_tryRounded_26 k_fl_X7_60 rfl (by omega) (by first | rfl | exact z_shr _ (by omega) | exact z_shc0 (by omega) | exact z_shc1 (by omega) | exact z_shc2 (by omega) | exact z_shc3 (by omega) | exact z_shc4 (by omega)) (by first | rfl | exact z_Rc0 _ (by omega) | exact z_Rc1 _ (by omega) | exact z_Rc2 _ (by omega) | exact z_Rc3 _ (by omega)) ?_
  refine aw_iload_n (pc := 29) dX7_tryRounded_29 rfl ?_
  refine aw_ialoadV (pc := 30) (v := I 16 r) dX7_tryRounded_30 (by omega) (Nat.le_refl _) (by first | rfl | exact z_shr _ (by omega) | exact z_shc0 (by omega) | exact z_shc1 (by omega) | exact z_shc2 (by omega) | exact z_shc3 (by omega) | exact z_shc4 (by omega)) (by first | omega | exact z_bl_r _) (z_c9_o (by omega)) ?_
  refine aw_putI (pc := 31) dX7_tryRounded_31 k_fl_X7_77 rfl (by omega) (by first | rfl | exact z_shr _ (by omega) | exact z_shc0 (by omega) | exact z_shc1 (by omega) | exact z_shc2 (by omega) | exact z_shc3 (by omega) | exact z_shc4 (by omega)) ?_
  rw [z_c9_ur]
  refine aw_iconst (pc := 34) dX7_tryRounded_34 ?_
  refine aw_istore (pc := 35) (lv' := [_, _, _, _, _, _]) dX7_tryRounded_35 (Nat.le_of_ble_eq_true rfl) rfl ?_
  have K := loop2 (I 1 5).toNat 0 none (by omega) (by omega)
  rw [show (0 : Int).toNat = 0 from rfl, z_pf_0, z_pf_0, z_pf_0, z_sm_0, Int.add_zero] at K
  exact K
set_option maxHeartbeats 4000000 in
theorem c_X7_seekRounded {π : Nat → Nat} {I J : AwI} {L : List z_CC} (h : z_M I J) (hL : z_L I π) (hc : z_clL I π (z_clM I J) L) (ht : I 17 2 = 1) : CT m_X7_seekRounded [zr 224] 255 I J (z_R π) (fun q sz' I' J' R' => q = none ∧ sz' = 255 ∧ J' = J ∧ R' = z_R π ∧ z_F I I' ∧ z_L I' π ∧ z_clL I' π (z_clM I J) (z_fo (z_clM I J) (L, 1) (fun j => z_cR (z_clM I J) (j / 8) ((j % 8 : Nat) + 2)) (8 * (I 1 6).toNat)).1 ∧ I' 17 2 = (z_fo (z_clM I J) (L, 1) (fun j => z_cR (z_clM I J) (j / 8) ((j % 8 : Nat) + 2)) (8 * (I 1 6).toNat)).2) := by
  have hnm := h.nm
  have hrw := h.rw
  refine CT.of (by decide) (Nat.le_of_ble_eq_true rfl) ?_
  show AW _ 0 0 _ 0 [some (zr 224), none, none] [] _ _ _
  have inner : ∀ (r : Nat), r < (I 1 6).toNat → (∀ I9 : AwI, z_F I I9 → z_L I9 π → z_clL I9 π (z_clM I J) (z_fo (z_clM I J) (L, 1) (fun j => z_cR (z_clM I J) (j / 8) ((j % 8 : Nat) + 2)) (8 * r + 8)).1 → I9 17 2 = 1 → (z_fo (z_clM I J) (L, 1) (fun j => z_cR (z_clM I J) (j / 8) ((j % 8 : Nat) + 2)) (8 * r + 8)).2 = 1 → AW (FM m_X7_seekRounded (fun q sz' I' J' R' => q = none ∧ sz' = 255 ∧ J' = J ∧ R' = z_R π ∧ z_F I I' ∧ z_L I' π ∧ z_clL I' π (z_clM I J) (z_fo (z_clM I J) (L, 1) (fun j => z_cR (z_clM I J) (j / 8) ((j % 8 : Nat) + 2)) (8 * (I 1 6).toNat)).1 ∧ I' 17 2 = (z_fo (z_clM I J) (L, 1) (fun j => z_cR (z_clM I J) (j / 8) ((j % 8 : Nat) + 2)) (8 * (I 1 6).toNat)).2)) 0 0 255 37 [some (zr 224), some (zi (r : Int)), some (zi 10)] [] I9 J (z_R π)) → ∀ I1 : AwI, z_F I I1 → z_L I1 π → z_clL I1 π (z_clM I J) (z_fo (z_clM I J) (L, 1) (fun j => z_cR (z_clM I J) (j / 8) ((j % 8 : Nat) + 2)) (8 * r)).1 → I1 17 2 = 1 → (z_fo (z_clM I J) (L, 1) (fun j => z_cR (z_clM I J) (j / 8) ((j % 8 : Nat) + 2)) (8 * r)).2 = 1 → AW (FM m_X7_seekRounded (fun q sz' I' J' R' => q = none ∧ sz' = 255 ∧ J' = J ∧ R' = z_R π ∧ z_F I I' ∧ z_L I' π ∧ z_clL I' π (z_clM I J) (z_fo (z_clM I J) (L, 1) (fun j => z_cR (z_clM I J) (j / 8) ((j % 8 : Nat) + 2)) (8 * (I 1 6).toNat)).1 ∧ I' 17 2 = (z_fo (z_clM I J) (L, 1) (fun j => z_cR (z_clM I J) (j / 8) ((j % 8 : Nat) + 2)) (8 * (I 1 6).toNat)).2)) 0 0 255 15 [some (zr 224), some (zi (r : Int)), some (zi 2)] [] I1 J (z_R π) := by
    intro r hr hK I0 g1 g2 g3 g4 g5
    have loop : ∀ (k : Nat) (d : Nat) (I1 : AwI), d + k = 8 → z_F I I1 → z_L I1 π → z_clL I1 π (z_clM I J) (z_fo (z_clM I J) (L, 1) (fun j => z_cR (z_clM I J) (j / 8) ((j % 8 : Nat) + 2)) (8 * r + d)).1 → I1 17 2 = 1 → (z_fo (z_clM I J) (L, 1) (fun j => z_cR (z_clM I J) (j / 8) ((j % 8 : Nat) + 2)) (8 * r + d)).2 = 1 → AW (FM m_X7_seekRounded (fun q sz' I' J' R' => q = none ∧ sz' = 255 ∧ J' = J ∧ R' = z_R π ∧ z_F I I' ∧ z_L I' π ∧ z_clL I' π (z_clM I J) (z_fo (z_clM I J) (L, 1) (fun j => z_cR (z_clM I J) (j / 8) ((j % 8 : Nat) + 2)) (8 * (I 1 6).toNat)).1 ∧ I' 17 2 = (z_fo (z_clM I J) (L, 1) (fun j => z_cR (z_clM I J) (j / 8) ((j % 8 : Nat) + 2)) (8 * (I 1 6).toNat)).2)) 0 0 255 15 [some (zr 224), some (zi (r : Int)), some (zi ((d : Int) + 2))] [] I1 J (z_R π) := by
      intro k
      induction k with
      | zero =>
        intro d I1 he hf hL1 hc1 h17 hS1
        refine aw_iload_n (pc := 15) dX7_seekRounded_15 rfl ?_
        refine aw_bipush (pc := 16) dX7_seekRounded_16 rfl ?_
        refine aw_icmp_gt (pc := 18) (tgt := 37) dX7_seekRounded_18 rfl (by first | omega | exact z_bl_r _) (by first | omega | exact z_bl_r _) (fun h18 => ?_) (fun h18 => absurd h18 (by omega))
        have e8 : d = 8 := by omega
        subst e8
        exact hK I1 hf hL1 hc1 h17 hS1
      | succ k ih =>
        intro d I1 he hf hL1 hc1 h17 hS1
        refine aw_iload_n (pc := 15) dX7_seekRounded_15 rfl ?_
        refine aw_bipush (pc := 16) dX7_seekRounded_16 rfl ?_
        refine aw_icmp_gt (pc := 18) (tgt := 37) dX7_seekRounded_18 rfl (by first | omega | exact z_bl_r _) (by first | omega | exact z_bl_r _) (fun h18 => absurd h18 (by omega)) (fun h18 => ?_)
        have hM1 : z_M I1 J := h.congr (fun a j ha => hf a j (Or.inl ha)) (fun _ => rfl)
        have em1 : z_clM I1 J = z_clM I J := z_clM.congr h (fun a j ha => hf a j (Or.inl ha)) (fun _ => rfl)
        have K2 := c_X7_tryRounded (r := r) (d := (d : Int) + 2) hM1 hL1 (by rw [em1]; exact hc1) h17 (by rw [hf _ _ (Or.inl (by omega))]; omega) (by omega)
        rw [em1] at K2
        refine aw_aload_n (pc := 21) dX7_seekRounded_21 rfl ?_
        refine aw_iload_n (pc := 22) dX7_seekRounded_22 rfl ?_
        refine aw_iload_n (pc := 23) dX7_seekRounded_23 rfl ?_
        refine aw_qV (pc := 24) (d := m_X7_tryRounded) (K2) k_X7_tryRounded dX7_seekRounded_24 k_ml_X7_46 rfl ⟨rfl, rfl⟩ (by omega) (by first | rfl | exact z_shr _ (by omega) | exact z_shc0 (by omega) | exact z_shc1 (by omega) | exact z_shc2 (by omega) | exact z_shc3 (by omega) | exact z_shc4 (by omega)) rfl ⟨Nat.le_of_ble_eq_true rfl, Nat.le_of_ble_eq_true rfl⟩ ⟨Nat.zero_le _, Nat.zero_le _⟩ rfl (Nat.le_of_ble_eq_true rfl) ?_
        rintro q sz3 I3 J3 R3 ⟨rfl, rfl, rfl, rfl, f3, hL3, hc3, h173⟩
        have eS : z_of (z_clM I J3) ((z_fo (z_clM I J3) (L, 1) (fun j => z_cR (z_clM I J3) (j / 8) ((j % 8 : Nat) + 2)) (8 * r + d)).1, 1) (z_cR (z_clM I J3) r ((d : Int) + 2)) = (z_fo (z_clM I J3) (L, 1) (fun j => z_cR (z_clM I J3) (j / 8) ((j % 8 : Nat) + 2)) (8 * r + (d + 1))) := by
          show _ = z_of (z_clM I J3) (z_fo (z_clM I J3) (L, 1) (fun j => z_cR (z_clM I J3) (j / 8) ((j % 8 : Nat) + 2)) (8 * r + d)) (z_cR (z_clM I J3) ((8 * r + d) / 8) (((8 * r + d) % 8 : Nat) + 2))
          rw [show (8 * r + d) / 8 = r by omega, show (8 * r + d) % 8 = d by omega]
          exact z_of_e hS1
        rw [eS] at hc3 h173 ⊢
        have hf3 : z_F I I3 := fun a j ha => (f3 a j ha).trans (hf a j ha)
        have h01 := (z_fo_inv (m := z_clM I J3) (L := L) (cand := (fun j => z_cR (z_clM I J3) (j / 8) ((j % 8 : Nat) + 2))) (8 * r + (d + 1))).2
        refine aw_if_ne (pc := 27) (tgt := 31) dX7_seekRounded_27 rfl (by omega) (fun h27 => ?_) (fun h27 => ?_)
        · refine aw_iinc (pc := 31) (lv' := [_, _, _]) dX7_seekRounded_31 (Nat.le_of_ble_eq_true rfl) rfl rfl ?_
          refine aw_goto (pc := 34) (tgt := 15) dX7_seekRounded_34 rfl ?_
          have K := ih (d + 1) I3 (by omega) hf3 hL3 hc3 (by rw [h173]; omega) (by omega)
          rw [show ((d + 1 : Nat) : Int) + 2 = (d : Int) + 2 + 1 by omega] at K
          exact K
        · exact aw_return (pc := 30) dX7_seekRounded_30 rfl ⟨Nat.zero_le _, Nat.zero_le _⟩ (⟨rfl, rfl, rfl, rfl, hf3, hL3, by rw [show 8 * (I 1 6).toNat = 8 * r + (d + 1) + (8 * (I 1 6).toNat - (8 * r + (d + 1))) by omega, z_fo_stop h27]; exact hc3, by rw [show 8 * (I 1 6).toNat = 8 * r + (d + 1) + (8 * (I 1 6).toNat - (8 * r + (d + 1))) by omega, z_fo_stop h27]; exact h173⟩)
    exact loop 8 0 I0 (by omega) g1 g2 g3 g4 g5
  have outer : ∀ (k : Nat) (r : Nat) (v : Option AwV) (I1 : AwI), (r : Int) + k = I 1 6 → z_F I I1 → z_L I1 π → z_clL I1 π (z_clM I J) (z_fo (z_clM I J) (L, 1) (fun j => z_cR (z_clM I J) (j / 8) ((j % 8 : Nat) + 2)) (8 * r)).1 → I1 17 2 = 1 → (z_fo (z_clM I J) (L, 1) (fun j => z_cR (z_clM I J) (j / 8) ((j % 8 : Nat) + 2)) (8 * r)).2 = 1 → AW (FM m_X7_seekRounded (fun q sz' I' J' R' => q = none ∧ sz' = 255 ∧ J' = J ∧ R' = z_R π ∧ z_F I I' ∧ z_L I' π ∧ z_clL I' π (z_clM I J) (z_fo (z_clM I J) (L, 1) (fun j => z_cR (z_clM I J) (j / 8) ((j % 8 : Nat) + 2)) (8 * (I 1 6).toNat)).1 ∧ I' 17 2 = (z_fo (z_clM I J) (L, 1) (fun j => z_cR (z_clM I J) (j / 8) ((j % 8 : Nat) + 2)) (8 * (I 1 6).toNat)).2)) 0 0 255 2 [some (zr 224), some (zi (r : Int)), v] [] I1 J (z_R π) := by
    intro k
    induction k with
    | zero =>
      intro r v I1 he hf hL1 hc1 h17 hS1
      refine aw_iload_n (pc := 2) dX7_seekRounded_2 rfl ?_
      refine aw_aload_n (pc := 3) dX7_seekRounded_3 rfl ?_
      refine aw_getR (pc := 4) dX7_seekRounded_4 k_fl_X7_15 rfl (by omega) (by first | rfl | exact z_shr _ (by omega) | exact z_shc0 (by omega) | exact z_shc1 (by omega) | exact z_shc2 (by omega) | exact z_shc3 (by omega) | exact z_shc4 (by omega)) (by first | rfl | exact z_Rc0 _ (by omega) | exact z_Rc1 _ (by omega) | exact z_Rc2 _ (by omega) | exact z_Rc3 _ (by omega)) ?_
      refine aw_getV (pc := 7) (v := I 1 6) dX7_seekRounded_7 k_fl_X7_33 rfl (by omega) (by first | rfl | exact z_shr _ (by omega) | exact z_shc0 (by omega) | exact z_shc1 (by omega) | exact z_shc2 (by omega) | exact z_shc3 (by omega) | exact z_shc4 (by omega)) (hf _ _ (Or.inl (by omega))) ?_
      refine aw_icmp_ge (pc := 10) (tgt := 43) dX7_seekRounded_10 rfl (by first | omega | exact z_bl_r _) (by first | omega | exact z_bl_r _) (fun h10 => ?_) (fun h10 => absurd h10 (by omega))
      exact aw_return (pc := 43) dX7_seekRounded_43 rfl ⟨Nat.zero_le _, Nat.zero_le _⟩ (⟨rfl, rfl, rfl, rfl, hf, hL1, by rw [show (I 1 6).toNat = r by omega]; exact hc1, by rw [show (I 1 6).toNat = r by omega, h17]; exact hS1.symm⟩)
    | succ k ih =>
      intro r v I1 he hf hL1 hc1 h17 hS1
      refine aw_iload_n (pc := 2) dX7_seekRounded_2 rfl ?_
      refine aw_aload_n (pc := 3) dX7_seekRounded_3 rfl ?_
      refine aw_getR (pc := 4) dX7_seekRounded_4 k_fl_X7_15 rfl (by omega) (by first | rfl | exact z_shr _ (by omega) | exact z_shc0 (by omega) | exact z_shc1 (by omega) | exact z_shc2 (by omega) | exact z_shc3 (by omega) | exact z_shc4 (by omega)) (by first | rfl | exact z_Rc0 _ (by omega) | exact z_Rc1 _ (by omega) | exact z_Rc2 _ (by omega) | exact z_Rc3 _ (by omega)) ?_
      refine aw_getV (pc := 7) (v := I 1 6) dX7_seekRounded_7 k_fl_X7_33 rfl (by omega) (by first | rfl | exact z_shr _ (by omega) | exact z_shc0 (by omega) | exact z_shc1 (by omega) | exact z_shc2 (by omega) | exact z_shc3 (by omega) | exact z_shc4 (by omega)) (hf _ _ (Or.inl (by omega))) ?_
      refine aw_icmp_ge (pc := 10) (tgt := 43) dX7_seekRounded_10 rfl (by first | omega | exact z_bl_r _) (by first | omega | exact z_bl_r _) (fun h10 => absurd h10 (by omega)) (fun h10 => ?_)
      refine aw_iconst (pc := 13) dX7_seekRounded_13 ?_
      refine aw_istore_n (pc := 14) (lv' := [_, _, _]) dX7_seekRounded_14 (Nat.le_of_ble_eq_true rfl) rfl ?_
      refine inner r (by omega) (fun I9 q1 q2 q3 q4 q5 => ?_) I1 hf hL1 hc1 h17 hS1
      refine aw_iinc (pc := 37) (lv' := [_, _, _]) dX7_seekRounded_37 (Nat.le_of_ble_eq_true rfl) rfl rfl ?_
      refine aw_goto (pc := 40) (tgt := 2) dX7_seekRounded_40 rfl ?_
      have K := ih (r + 1) (some (zi 10)) I9 (by omega) q1 q2 (by rw [show 8 * (r + 1) = 8 * r + 8 by omega]; exact q3) q4 (by rw [show 8 * (r + 1) = 8 * r + 8 by omega]; exact q5)
      exact K
  refine aw_iconst (pc := 0) dX7_seekRounded_0 ?_
  refine aw_istore_n (pc := 1) (lv' := [_, _, _]) dX7_seekRounded_1 (Nat.le_of_ble_eq_true rfl) rfl ?_
  exact outer (I 1 6).toNat 0 none I (by omega) (fun _ _ _ => rfl) hL hc ht rfl
