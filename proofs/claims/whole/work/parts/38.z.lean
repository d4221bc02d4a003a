/-! the number of choices -/
theorem z_pr_c {f g : Nat → Int} : ∀ n, (∀ k, k < n → f k = g k) → z_pr f n = z_pr g n
  | 0, _ => rfl
  | n + 1, h => by
    show z_pr f n * f n = z_pr g n * g n
    rw [z_pr_c n (fun k hk => h k (by omega)), h n (by omega)]
theorem z_pr_b {f : Nat → Int} : ∀ n : Nat, (∀ k, k < n → 1 ≤ f k ∧ f k ≤ 61) → 1 ≤ z_pr f n ∧ z_pr f n ≤ 61 ^ n
  | 0, _ => ⟨by show (1 : Int) ≤ 1; omega, by show (1 : Int) ≤ 61 ^ 0; omega⟩
  | n + 1, h => by
    have h1 := z_pr_b n (fun k hk => h k (by omega))
    have h2 := h n (by omega)
    refine ⟨?_, ?_⟩
    · show 1 ≤ z_pr f n * f n
      have := Int.mul_le_mul h1.1 h2.1 (by omega) (by omega)
      omega
    · show z_pr f n * f n ≤ 61 ^ (n + 1)
      rw [Int.pow_succ]
      exact Int.mul_le_mul h1.2 h2.2 (by omega) (by omega)
def z_np (m : z_MM) : Int := z_pr (fun n => mhi m n - mlo m n + 1) (mN m)
theorem z_np_cl {I J : AwI} : z_pm (fun n => I 3 n - I 2 n + 1) (I 1 5) = z_np (z_clM I J) := z_pr_c _ (fun n hn => by rw [z_clM_lo hn, z_clM_hi hn])
theorem z_np_b {m : z_MM} (hb : z_mb m) (h : ∀ n, n < mN m → mlo m n ≤ mhi m n) : 1 ≤ z_np m ∧ z_np m ≤ 191707312997281 := by
  obtain ⟨h1, h2⟩ := z_pr_b (f := fun n => mhi m n - mlo m n + 1) (mN m) (fun k hk => by
    have a := hb.2.2.1 k
    have b := hb.2.2.2.1 k
    have c := h k hk
    show 1 ≤ mhi m k - mlo m k + 1 ∧ mhi m k - mlo m k + 1 ≤ 61
    omega)
  refine ⟨h1, Int.le_trans h2 ?_⟩
  have : (61 : Int) ^ mN m ≤ 61 ^ 8 := by
    have := Nat.pow_le_pow_right (n := 61) (by omega) hb.1
    exact_mod_cast this
  exact this
theorem z_isP_c {m : z_MM} {p p' : Nat → Int} (h : ∀ n, n < mN m → p n = p' n) : z_isP m p ↔ z_isP m p' := by
  unfold z_isP
  refine forall_congr' (fun r => forall_congr' (fun hr => ?_))
  rw [z_sum_c (f := fun n => mF m r n * p n) (g := fun n => mF m r n * p' n) _ (fun n hn => by rw [h n hn])]
theorem z_kp_c {m : z_MM} {C : z_CC} {p p' : Nat → Int} (h : ∀ n, n < mN m → p n = p' n) : z_kp m C p ↔ z_kp m C p' := by
  unfold z_kp
  rw [z_sum_c (f := fun n => cF C n * p n) (g := fun n => cF C n * p' n) _ (fun n hn => by rw [h n hn])]
def z_ho (m : z_MM) (C : z_CC) (x : Nat) : Prop := ∀ c, c < x → z_isP m (z_it m c) → z_kp m C (z_it m c)
noncomputable def z_cP (m : z_MM) (x : Nat) : Int := z_sum (fun c => z_bl (z_isP m (z_it m c))) x
noncomputable def z_rHo (m : z_MM) (L : List z_CC) (t k : Int) : z_RS := if ¬ (0 ≤ k ∧ k < (L.length : Int)) then (-1, m, L, t) else if 20000 < z_np m then (-4, m, L, t) else (z_bl (z_ho m (z_g L k.toNat) (z_np m).toNat), m, L, t)
noncomputable def z_rPn (m : z_MM) (L : List z_CC) (t : Int) : z_RS := if 20000 < z_np m then (-4, m, L, t) else (z_cP m (z_np m).toNat, m, L, t)
theorem z_cP_b (m : z_MM) : ∀ x : Nat, 0 ≤ z_cP m x ∧ z_cP m x ≤ x
  | 0 => ⟨Int.le_refl _, Int.le_refl _⟩
  | x + 1 => by
    have := z_cP_b m x
    have e : z_cP m (x + 1) = z_cP m x + z_bl (z_isP m (z_it m x)) := rfl
    have := z_bl_01 (z_isP m (z_it m x))
    omega
/-! the greatest divisor -/
theorem z_eu {a b k : Nat} (hb : 0 < b) (hab : b < a) (h : a * b < 2 ^ (k + 1)) : b * (a % b) < 2 ^ k := by
  have h1 := Nat.div_add_mod a b
  have h2 : 1 ≤ a / b := Nat.div_pos (Nat.le_of_lt hab) hb
  have h3 : b * 1 ≤ b * (a / b) := Nat.mul_le_mul_left b h2
  have h4 := Nat.mod_lt a hb
  have h5 : 2 * (a % b) ≤ a := by omega
  have h6 : b * (2 * (a % b)) ≤ b * a := Nat.mul_le_mul_left b h5
  rw [Nat.mul_left_comm, Nat.mul_comm b a] at h6
  rw [Nat.pow_succ] at h
  omega
def z_gc (v : Int) : Int := (Nat.gcd 27720 v.natAbs : Int)
theorem z_gc_b (v : Int) : 1 ≤ z_gc v ∧ z_gc v ≤ 27720 := by
  have h1 : 0 < Nat.gcd 27720 v.natAbs := Nat.gcd_pos_of_pos_left _ (by omega)
  have h2 : Nat.gcd 27720 v.natAbs ≤ 27720 := Nat.gcd_le_left _ (by omega)
  unfold z_gc
  omega
def z_stv (m : z_MM) (C : z_CC) (pt : Int) : Int := if pt = 0 then (z_str2 m C).tdiv (z_gc (z_str2 m C)) else (27720 : Int).tdiv (z_gc (z_str2 m C))
def z_cutv (C : z_CC) (w i : Int) : Int := if w = 0 then cF C i.toNat else if w = 1 then cR C else if w = 2 then cK C else cA C
set_option maxHeartbeats 4000000 in
theorem c_X8_find {π : Nat → Nat} {I J : AwI} {m : z_MM} {L : List z_CC} {t : Int} {kd : Int} (hI : z_CI I J π m L t) (hkd : -2147483648 ≤ kd ∧ kd ≤ 2147483647) : CT m_X8_find [zr 0, zi kd] 255 I J (z_R π) (z_PC (z_rFd m L t kd) I J) := by
  have hI0 := hI
  obtain ⟨h, hm, hlh, hL, hc, ht, h01, h225, h232, hA⟩ := hI0
  subst hm
  have hnm := h.nm
  have hrw := h.rw
  have hn4 := hL.n
  have eN : mN (z_clM I J) = (I 1 5).toNat := rfl
  have eR : mR (z_clM I J) = (I 1 6).toNat := rfl
  have eL := hc.1
  refine CT.of (by decide) (Nat.le_of_ble_eq_true rfl) ?_
  show AW _ 0 0 _ 0 [some (zr 0), some (zi kd), none] [] _ _ _
  refine aw_iload_n (pc := 0) dX8_find_0 rfl ?_
  refine aw_if_lt (pc := 1) (tgt := 9) dX8_find_1 rfl (by first | omega | exact z_bl_r _) (fun h1 => ?_) (fun h1 => ?_)
  · refine aw_bipush (pc := 9) dX8_find_9 rfl ?_
    refine aw_ireturn (pc := 11) dX8_find_11 rfl ⟨Nat.zero_le _, Nat.zero_le _⟩ ?_
    exact z_PCr (if_pos (by omega)) hI z_FR.rf
  · refine aw_iload_n (pc := 4) dX8_find_4 rfl ?_
    refine aw_iconst (pc := 5) dX8_find_5 ?_
    refine aw_icmp_le (pc := 6) (tgt := 12) dX8_find_6 rfl (by first | omega | exact z_bl_r _) (by first | omega | exact z_bl_r _) (fun h6 => ?_) (fun h6 => ?_)
    · refine aw_aload_n (pc := 12) dX8_find_12 rfl ?_
      refine aw_getR (pc := 13) dX8_find_13 k_fl_X8_21 rfl (by omega) (by first | rfl | exact z_shr _ (by omega) | exact z_shc0 (by omega) | exact z_shc1 (by omega) | exact z_shc2 (by omega) | exact z_shc3 (by omega) | exact z_shc4 (by omega)) (by first | rfl | exact z_Rc0 _ (by omega) | exact z_Rc1 _ (by omega) | exact z_Rc2 _ (by omega) | exact z_Rc3 _ (by omega)) ?_
      refine aw_getI (pc := 16) dX8_find_16 k_fl_X8_70 rfl (by omega) (by first | rfl | exact z_shr _ (by omega) | exact z_shc0 (by omega) | exact z_shc1 (by omega) | exact z_shc2 (by omega) | exact z_shc3 (by omega) | exact z_shc4 (by omega)) ?_
      refine aw_istore_n (pc := 19) (lv' := [_, _, _]) dX8_find_19 (Nat.le_of_ble_eq_true rfl) rfl ?_
      refine aw_aload_n (pc := 20) dX8_find_20 rfl ?_
      refine aw_getR (pc := 21) dX8_find_21 k_fl_X8_21 rfl (by omega) (by first | rfl | exact z_shr _ (by omega) | exact z_shc0 (by omega) | exact z_shc1 (by omega) | exact z_shc2 (by omega) | exact z_shc3 (by omega) | exact z_shc4 (by omega)) (by first | rfl | exact z_Rc0 _ (by omega) | exact z_Rc1 _ (by omega) | exact z_Rc2 _ (by omega) | exact z_Rc3 _ (by omega)) ?_
      refine aw_iconst (pc := 24) dX8_find_24 ?_
      refine aw_putZ (pc := 25) dX8_find_25 k_fl_X8_99 rfl (by omega) (by first | rfl | exact z_shr _ (by omega) | exact z_shc0 (by omega) | exact z_shc1 (by omega) | exact z_shc2 (by omega) | exact z_shc3 (by omega) | exact z_shc4 (by omega)) (Or.inr rfl) ?_
      have hM1 : z_M (z_up I 17 2 1) J := h.congr (fun a k ha => z_up_a _ _ (by omega)) (fun _ => rfl)
      have em1 : z_clM (z_up I 17 2 1) J = z_clM I J := z_clM.congr h (fun a k ha => z_up_a _ _ (by omega)) (fun _ => rfl)
      have hC1 : ∀ c, c < 41 → z_C (z_up I 17 2 1) c := fun c hc => by
        have g := hL.c hc
        refine ⟨fun n => ?_, fun n => ?_, fun n => ?_, fun n => ?_, ?_, ?_, ?_, ?_, ?_⟩
        all_goals rw [z_up_a _ _ (by omega)]
        · exact g.f n
        · exact g.rt n
        · exact g.lt n
        · exact g.ht n
        · exact g.r
        · exact g.kd
        · exact g.ag
        · exact g.dv
        · exact g.cr
      have hL1 : z_L (z_up I 17 2 1) π := ⟨by rw [z_up_k _ _ (by omega)]; exact hn4, hL.2.1, hC1⟩
      have hc1 : z_clL (z_up I 17 2 1) π (z_clM (z_up I 17 2 1) J) L := by
        rw [em1]
        exact hc.congr (fun k hk => hL.p hk) hI.len (z_up_k _ _ (by omega)) (fun a k h1 h2 => z_up_a _ _ (by omega))
      have ht1 : (z_up I 17 2 1) 17 2 = 1 := z_up_s _ _ _ _
      have e5 : (z_up I 17 2 1) 1 5 = I 1 5 := z_up_a _ _ (by omega)
      have e6 : (z_up I 17 2 1) 1 6 = I 1 6 := z_up_a _ _ (by omega)
      have K0 := c_X7_seekHalves hM1 hL1 hc1 ht1 (fun n => by rw [z_up_a _ _ (by omega)]; exact h225 n)
      have K1 := c_X7_seekRounded hM1 hL1 hc1 ht1
      have K2 := c_X3_seekCovers hM1 hL1 hc1 ht1
      have K3 := c_X2_seekCliques hM1 hL1 hc1 ht1 (fun n => by rw [z_up_a _ _ (by omega)]; exact h232 n)
      rw [em1, e6] at K0 K1 K2
      rw [em1, e5] at K3
      refine aw_iload_n (pc := 28) dX8_find_28 rfl ?_
      rcases (show (kd < 0 ∨ 2 < kd) ∨ kd = 0 ∨ kd = 1 ∨ kd = 2 by omega) with h29 | h29 | h29 | h29
      · refine aw_tbl_out (pc := 29) (tgt := 86) dX8_find_29 (by omega) h29 rfl ?_
        refine aw_aload_n (pc := 86) dX8_find_86 rfl ?_
        refine aw_getR (pc := 87) dX8_find_87 k_fl_X8_44 rfl (by omega) (by first | rfl | exact z_shr _ (by omega) | exact z_shc0 (by omega) | exact z_shc1 (by omega) | exact z_shc2 (by omega) | exact z_shc3 (by omega) | exact z_shc4 (by omega)) (by first | rfl | exact z_Rc0 _ (by omega) | exact z_Rc1 _ (by omega) | exact z_Rc2 _ (by omega) | exact z_Rc3 _ (by omega)) ?_
        refine aw_qV (pc := 90) (d := m_X2_seekCliques) (K3) k_X2_seekCliques dX8_find_90 k_ml_X8_112 rfl ⟨rfl, rfl⟩ (by omega) (by first | rfl | exact z_shr _ (by omega) | exact z_shc0 (by omega) | exact z_shc1 (by omega) | exact z_shc2 (by omega) | exact z_shc3 (by omega) | exact z_shc4 (by omega)) rfl ⟨Nat.le_of_ble_eq_true rfl, Nat.le_of_ble_eq_true rfl⟩ ⟨Nat.zero_le _, Nat.zero_le _⟩ rfl (Nat.le_of_ble_eq_true rfl) ?_
        rintro q9 sz2 I2 J R2 ⟨rfl, rfl, rfl, rfl, f2, hL2, hc2, h172, hb2x⟩
        have fr : ∀ a k, a < 17 ∨ 237 ≤ a → I2 a k = I a k := fun a k q => (f2 a k (by omega)).trans (z_up_a _ _ (by omega))
        have hb1 : ∀ n, -600 ≤ I2 225 n ∧ I2 225 n ≤ 600 := fun n => by rw [f2 225 n (by omega), z_up_a _ _ (by omega)]; exact h225 n
        have hb2 : ∀ j, 0 ≤ I2 232 j := hb2x
        have ez := (show z_fd (z_clM I J) L kd = z_fo (z_clM I J) (L, 1) (z_cdQ (z_clM I J)) (2 ^ (I 1 5).toNat - 1) by unfold z_fd; rw [if_neg (by omega), if_neg (by omega), if_neg (by omega)]; rfl)
        refine aw_aload_n (pc := 93) dX8_find_93 rfl ?_
        refine aw_getR (pc := 94) dX8_find_94 k_fl_X8_21 rfl (by omega) (by first | rfl | exact z_shr _ (by omega) | exact z_shc0 (by omega) | exact z_shc1 (by omega) | exact z_shc2 (by omega) | exact z_shc3 (by omega) | exact z_shc4 (by omega)) (by first | rfl | exact z_Rc0 _ (by omega) | exact z_Rc1 _ (by omega) | exact z_Rc2 _ (by omega) | exact z_Rc3 _ (by omega)) ?_
        refine aw_getI (pc := 97) dX8_find_97 k_fl_X8_70 rfl (by omega) (by first | rfl | exact z_shr _ (by omega) | exact z_shc0 (by omega) | exact z_shc1 (by omega) | exact z_shc2 (by omega) | exact z_shc3 (by omega) | exact z_shc4 (by omega)) ?_
        refine aw_iload_n (pc := 100) dX8_find_100 rfl ?_
        refine aw_isub (pc := 101) dX8_find_101 ?_
        refine aw_ireturn (pc := 102) dX8_find_102 rfl ⟨Nat.zero_le _, Nat.zero_le _⟩ ?_
        rw [← ez] at hc2 h172
        have hlen2 := hc2.1
        rw [hlen2, hc.1]
        exact z_PCr (if_neg (by omega)) ⟨h.congr (fun a k q => fr a k (Or.inl q)) (fun _ => rfl), z_clM.congr h (fun a k q => fr a k (Or.inl q)) (fun _ => rfl), hlh, hL2, hc2, h172, z_fd_01, hb1, hb2, z_fd_age hA⟩ ⟨fun a k q => fr a k (Or.inr q), fun _ _ _ => rfl⟩
      · subst h29
        refine aw_tbl_in (pc := 29) (tgt := 56) (off := 27) dX8_find_29 (by omega) (by omega) rfl rfl ?_
        refine aw_aload_n (pc := 56) dX8_find_56 rfl ?_
        refine aw_getR (pc := 57) dX8_find_57 k_fl_X8_30 rfl (by omega) (by first | rfl | exact z_shr _ (by omega) | exact z_shc0 (by omega) | exact z_shc1 (by omega) | exact z_shc2 (by omega) | exact z_shc3 (by omega) | exact z_shc4 (by omega)) (by first | rfl | exact z_Rc0 _ (by omega) | exact z_Rc1 _ (by omega) | exact z_Rc2 _ (by omega) | exact z_Rc3 _ (by omega)) ?_
        refine aw_qV (pc := 60) (d := m_X7_seekHalves) (K0) k_X7_seekHalves dX8_find_60 k_ml_X8_103 rfl ⟨rfl, rfl⟩ (by omega) (by first | rfl | exact z_shr _ (by omega) | exact z_shc0 (by omega) | exact z_shc1 (by omega) | exact z_shc2 (by omega) | exact z_shc3 (by omega) | exact z_shc4 (by omega)) rfl ⟨Nat.le_of_ble_eq_true rfl, Nat.le_of_ble_eq_true rfl⟩ ⟨Nat.zero_le _, Nat.zero_le _⟩ rfl (Nat.le_of_ble_eq_true rfl) ?_
        rintro q9 sz2 I2 J R2 ⟨rfl, rfl, rfl, rfl, f2, hL2, hc2, h172, hb1x⟩
        have fr : ∀ a k, a < 17 ∨ 237 ≤ a → I2 a k = I a k := fun a k q => (f2 a k (by omega)).trans (z_up_a _ _ (by omega))
        have hb1 : ∀ n, -600 ≤ I2 225 n ∧ I2 225 n ≤ 600 := hb1x
        have hb2 : ∀ j, 0 ≤ I2 232 j := fun n => by rw [f2 232 n (by omega), z_up_a _ _ (by omega)]; exact h232 n
        have ez := (show z_fd (z_clM I J) L 0 = z_fo (z_clM I J) (L, 1) (fun j => z_cH (z_clM I J) (j + 1)) (2 ^ (I 1 6).toNat - 1) from rfl)
        refine aw_goto (pc := 63) (tgt := 93) dX8_find_63 rfl ?_
        refine aw_aload_n (pc := 93) dX8_find_93 rfl ?_
        refine aw_getR (pc := 94) dX8_find_94 k_fl_X8_21 rfl (by omega) (by first | rfl | exact z_shr _ (by omega) | exact z_shc0 (by omega) | exact z_shc1 (by omega) | exact z_shc2 (by omega) | exact z_shc3 (by omega) | exact z_shc4 (by omega)) (by first | rfl | exact z_Rc0 _ (by omega) | exact z_Rc1 _ (by omega) | exact z_Rc2 _ (by omega) | exact z_Rc3 _ (by omega)) ?_
        refine aw_getI (pc := 97) dX8_find_97 k_fl_X8_70 rfl (by omega) (by first | rfl | exact z_shr _ (by omega) | exact z_shc0 (by omega) | exact z_shc1 (by omega) | exact z_shc2 (by omega) | exact z_shc3 (by omega) | exact z_shc4 (by omega)) ?_
        refine aw_iload_n (pc := 100) dX8_find_100 rfl ?_
        refine aw_isub (pc := 101) dX8_find_101 ?_
        refine aw_ireturn (pc := 102) dX8_find_102 rfl ⟨Nat.zero_le _, Nat.zero_le _⟩ ?_
        rw [← ez] at hc2 h172
        have hlen2 := hc2.1
        rw [hlen2, hc.1]
        exact z_PCr (if_neg (by omega)) ⟨h.congr (fun a k q => fr a k (Or.inl q)) (fun _ => rfl), z_clM.congr h (fun a k q => fr a k (Or.inl q)) (fun _ => rfl), hlh, hL2, hc2, h172, z_fd_01, hb1, hb2, z_fd_age hA⟩ ⟨fun a k q => fr a k (Or.inr q), fun _ _ _ => rfl⟩
      · subst h29
        refine aw_tbl_in (pc := 29) (tgt := 66) (off := 37) dX8_find_29 (by omega) (by omega) rfl rfl ?_
        refine aw_aload_n (pc := 66) dX8_find_66 rfl ?_
        refine aw_getR (pc := 67) dX8_find_67 k_fl_X8_30 rfl (by omega) (by first | rfl | exact z_shr _ (by omega) | exact z_shc0 (by omega) | exact z_shc1 (by omega) | exact z_shc2 (by omega) | exact z_shc3 (by omega) | exact z_shc4 (by omega)) (by first | rfl | exact z_Rc0 _ (by omega) | exact z_Rc1 _ (by omega) | exact z_Rc2 _ (by omega) | exact z_Rc3 _ (by omega)) ?_
        refine aw_qV (pc := 70) (d := m_X7_seekRounded) (K1) k_X7_seekRounded dX8_find_70 k_ml_X8_106 rfl ⟨rfl, rfl⟩ (by omega) (by first | rfl | exact z_shr _ (by omega) | exact z_shc0 (by omega) | exact z_shc1 (by omega) | exact z_shc2 (by omega) | exact z_shc3 (by omega) | exact z_shc4 (by omega)) rfl ⟨Nat.le_of_ble_eq_true rfl, Nat.le_of_ble_eq_true rfl⟩ ⟨Nat.zero_le _, Nat.zero_le _⟩ rfl (Nat.le_of_ble_eq_true rfl) ?_
        rintro q9 sz2 I2 J R2 ⟨rfl, rfl, rfl, rfl, f2, hL2, hc2, h172⟩
        have fr : ∀ a k, a < 17 ∨ 237 ≤ a → I2 a k = I a k := fun a k q => (f2 a k (by omega)).trans (z_up_a _ _ (by omega))
        have hb1 : ∀ n, -600 ≤ I2 225 n ∧ I2 225 n ≤ 600 := fun n => by rw [f2 225 n (by omega), z_up_a _ _ (by omega)]; exact h225 n
        have hb2 : ∀ j, 0 ≤ I2 232 j := fun n => by rw [f2 232 n (by omega), z_up_a _ _ (by omega)]; exact h232 n
        have ez := (show z_fd (z_clM I J) L 1 = z_fo (z_clM I J) (L, 1) (fun j => z_cR (z_clM I J) (j / 8) ((j % 8 : Nat) + 2)) (8 * (I 1 6).toNat) from rfl)
        refine aw_goto (pc := 73) (tgt := 93) dX8_find_73 rfl ?_
        refine aw_aload_n (pc := 93) dX8_find_93 rfl ?_
        refine aw_getR (pc := 94) dX8_find_94 k_fl_X8_21 rfl (by omega) (by first | rfl | exact z_shr _ (by omega) | exact z_shc0 (by omega) | exact z_shc1 (by omega) | exact z_shc2 (by omega) | exact z_shc3 (by omega) | exact z_shc4 (by omega)) (by first | rfl | exact z_Rc0 _ (by omega) | exact z_Rc1 _ (by omega) | exact z_Rc2 _ (by omega) | exact z_Rc3 _ (by omega)) ?_
        refine aw_getI (pc := 97) dX8_find_97 k_fl_X8_70 rfl (by omega) (by first | rfl | exact z_shr _ (by omega) | exact z_shc0 (by omega) | exact z_shc1 (by omega) | exact z_shc2 (by omega) | exact z_shc3 (by omega) | exact z_shc4 (by omega)) ?_
        refine aw_iload_n (pc := 100) dX8_find_100 rfl ?_
        refine aw_isub (pc := 101) dX8_find_101 ?_
        refine aw_ireturn (pc := 102) dX8_find_102 rfl ⟨Nat.zero_le _, Nat.zero_le _⟩ ?_
        rw [← ez] at hc2 h172
        have hlen2 := hc2.1
        rw [hlen2, hc.1]
        exact z_PCr (if_neg (by omega)) ⟨h.congr (fun a k q => fr a k (Or.inl q)) (fun _ => rfl), z_clM.congr h (fun a k q => fr a k (Or.inl q)) (fun _ => rfl), hlh, hL2, hc2, h172, z_fd_01, hb1, hb2, z_fd_age hA⟩ ⟨fun a k q => fr a k (Or.inr q), fun _ _ _ => rfl⟩
      · subst h29
        refine aw_tbl_in (pc := 29) (tgt := 76) (off := 47) dX8_find_29 (by omega) (by omega) rfl rfl ?_
        refine aw_aload_n (pc := 76) dX8_find_76 rfl ?_
        refine aw_getR (pc := 77) dX8_find_77 k_fl_X8_37 rfl (by omega) (by first | rfl | exact z_shr _ (by omega) | exact z_shc0 (by omega) | exact z_shc1 (by omega) | exact z_shc2 (by omega) | exact z_shc3 (by omega) | exact z_shc4 (by omega)) (by first | rfl | exact z_Rc0 _ (by omega) | exact z_Rc1 _ (by omega) | exact z_Rc2 _ (by omega) | exact z_Rc3 _ (by omega)) ?_
        refine aw_qV (pc := 80) (d := m_X3_seekCovers) (K2) k_X3_seekCovers dX8_find_80 k_ml_X8_109 rfl ⟨rfl, rfl⟩ (by omega) (by first | rfl | exact z_shr _ (by omega) | exact z_shc0 (by omega) | exact z_shc1 (by omega) | exact z_shc2 (by omega) | exact z_shc3 (by omega) | exact z_shc4 (by omega)) rfl ⟨Nat.le_of_ble_eq_true rfl, Nat.le_of_ble_eq_true rfl⟩ ⟨Nat.zero_le _, Nat.zero_le _⟩ rfl (Nat.le_of_ble_eq_true rfl) ?_
        rintro q9 sz2 I2 J R2 ⟨rfl, rfl, rfl, rfl, f2, hL2, hc2, h172⟩
        have fr : ∀ a k, a < 17 ∨ 237 ≤ a → I2 a k = I a k := fun a k q => (f2 a k (by omega)).trans (z_up_a _ _ (by omega))
        have hb1 : ∀ n, -600 ≤ I2 225 n ∧ I2 225 n ≤ 600 := fun n => by rw [f2 225 n (by omega), z_up_a _ _ (by omega)]; exact h225 n
        have hb2 : ∀ j, 0 ≤ I2 232 j := fun n => by rw [f2 232 n (by omega), z_up_a _ _ (by omega)]; exact h232 n
        have ez := (show z_fd (z_clM I J) L 2 = z_cvO (z_clM I J) (L, 1) (I 1 6).toNat from rfl)
        refine aw_goto (pc := 83) (tgt := 93) dX8_find_83 rfl ?_
        refine aw_aload_n (pc := 93) dX8_find_93 rfl ?_
        refine aw_getR (pc := 94) dX8_find_94 k_fl_X8_21 rfl (by omega) (by first | rfl | exact z_shr _ (by omega) | exact z_shc0 (by omega) | exact z_shc1 (by omega) | exact z_shc2 (by omega) | exact z_shc3 (by omega) | exact z_shc4 (by omega)) (by first | rfl | exact z_Rc0 _ (by omega) | exact z_Rc1 _ (by omega) | exact z_Rc2 _ (by omega) | exact z_Rc3 _ (by omega)) ?_
        refine aw_getI (pc := 97) dX8_find_97 k_fl_X8_70 rfl (by omega) (by first | rfl | exact z_shr _ (by omega) | exact z_shc0 (by omega) | exact z_shc1 (by omega) | exact z_shc2 (by omega) | exact z_shc3 (by omega) | exact z_shc4 (by omega)) ?_
        refine aw_iload_n (pc := 100) dX8_find_100 rfl ?_
        refine aw_isub (pc := 101) dX8_find_101 ?_
        refine aw_ireturn (pc := 102) dX8_find_102 rfl ⟨Nat.zero_le _, Nat.zero_le _⟩ ?_
        rw [← ez] at hc2 h172
        have hlen2 := hc2.1
        rw [hlen2, hc.1]
        exact z_PCr (if_neg (by omega)) ⟨h.congr (fun a k q => fr a k (Or.inl q)) (fun _ => rfl), z_clM.congr h (fun a k q => fr a k (Or.inl q)) (fun _ => rfl), hlh, hL2, hc2, h172, z_fd_01, hb1, hb2, z_fd_age hA⟩ ⟨fun a k q => fr a k (Or.inr q), fun _ _ _ => rfl⟩
    · refine aw_bipush (pc := 9) dX8_find_9 rfl ?_
      refine aw_ireturn (pc := 11) dX8_find_11 rfl ⟨Nat.zero_le _, Nat.zero_le _⟩ ?_
      exact z_PCr (if_pos (by omega)) hI z_FR.rf
set_option maxHeartbeats 4000000 in
theorem c_X8_clear {π : Nat → Nat} {I J : AwI} {m : z_MM} {L : List z_CC} {t : Int} (hI : z_CI I J π m L t) : CT m_X8_clear [zr 0] 255 I J (z_R π) (fun q sz I' J' R' => q = none ∧ sz = 255 ∧ ∃ π', R' = z_R π' ∧ z_CI I' J' π' z_m0 [] 1 ∧ z_FR I J I' J') := by
  have hI0 := hI
  obtain ⟨h, hm, hlh, hL, hc, ht, h01, h225, h232, hA⟩ := hI0
  subst hm
  have hnm := h.nm
  have hrw := h.rw
  have hn4 := hL.n
  have eN : mN (z_clM I J) = (I 1 5).toNat := rfl
  have eR : mR (z_clM I J) = (I 1 6).toNat := rfl
  have eL := hc.1
  refine CT.of (by decide) (Nat.le_of_ble_eq_true rfl) ?_
  show AW _ 0 0 _ 0 [some (zr 0)] [] _ _ _
  refine aw_aload_n (pc := 0) dX8_clear_0 rfl ?_
  refine aw_getR (pc := 1) dX8_clear_1 k_fl_X8_10 rfl (by omega) (by first | rfl | exact z_shr _ (by omega) | exact z_shc0 (by omega) | exact z_shc1 (by omega) | exact z_shc2 (by omega) | exact z_shc3 (by omega) | exact z_shc4 (by omega)) (by first | rfl | exact z_Rc0 _ (by omega) | exact z_Rc1 _ (by omega) | exact z_Rc2 _ (by omega) | exact z_Rc3 _ (by omega)) ?_
  refine aw_iconst (pc := 4) dX8_clear_4 ?_
  refine aw_putI (pc := 5) dX8_clear_5 k_fl_X8_66 rfl (by omega) (by first | rfl | exact z_shr _ (by omega) | exact z_shc0 (by omega) | exact z_shc1 (by omega) | exact z_shc2 (by omega) | exact z_shc3 (by omega) | exact z_shc4 (by omega)) ?_
  refine aw_aload_n (pc := 8) dX8_clear_8 rfl ?_
  refine aw_getR (pc := 9) dX8_clear_9 k_fl_X8_10 rfl (by omega) (by first | rfl | exact z_shr _ (by omega) | exact z_shc0 (by omega) | exact z_shc1 (by omega) | exact z_shc2 (by omega) | exact z_shc3 (by omega) | exact z_shc4 (by omega)) (by first | rfl | exact z_Rc0 _ (by omega) | exact z_Rc1 _ (by omega) | exact z_Rc2 _ (by omega) | exact z_Rc3 _ (by omega)) ?_
  refine aw_iconst (pc := 12) dX8_clear_12 ?_
  refine aw_putI (pc := 13) dX8_clear_13 k_fl_X8_77 rfl (by omega) (by first | rfl | exact z_shr _ (by omega) | exact z_shc0 (by omega) | exact z_shc1 (by omega) | exact z_shc2 (by omega) | exact z_shc3 (by omega) | exact z_shc4 (by omega)) ?_
  refine aw_aload_n (pc := 16) dX8_clear_16 rfl ?_
  refine aw_getR (pc := 17) dX8_clear_17 k_fl_X8_21 rfl (by omega) (by first | rfl | exact z_shr _ (by omega) | exact z_shc0 (by omega) | exact z_shc1 (by omega) | exact z_shc2 (by omega) | exact z_shc3 (by omega) | exact z_shc4 (by omega)) (by first | rfl | exact z_Rc0 _ (by omega) | exact z_Rc1 _ (by omega) | exact z_Rc2 _ (by omega) | exact z_Rc3 _ (by omega)) ?_
  refine aw_iconst (pc := 20) dX8_clear_20 ?_
  refine aw_putI (pc := 21) dX8_clear_21 k_fl_X8_70 rfl (by omega) (by first | rfl | exact z_shr _ (by omega) | exact z_shc0 (by omega) | exact z_shc1 (by omega) | exact z_shc2 (by omega) | exact z_shc3 (by omega) | exact z_shc4 (by omega)) ?_
  refine aw_aload_n (pc := 24) dX8_clear_24 rfl ?_
  refine aw_getR (pc := 25) dX8_clear_25 k_fl_X8_21 rfl (by omega) (by first | rfl | exact z_shr _ (by omega) | exact z_shc0 (by omega) | exact z_shc1 (by omega) | exact z_shc2 (by omega) | exact z_shc3 (by omega) | exact z_shc4 (by omega)) (by first | rfl | exact z_Rc0 _ (by omega) | exact z_Rc1 _ (by omega) | exact z_Rc2 _ (by omega) | exact z_Rc3 _ (by omega)) ?_
  refine aw_iconst (pc := 28) dX8_clear_28 ?_
  refine aw_putZ (pc := 29) dX8_clear_29 k_fl_X8_99 rfl (by omega) (by first | rfl | exact z_shr _ (by omega) | exact z_shc0 (by omega) | exact z_shc1 (by omega) | exact z_shc2 (by omega) | exact z_shc3 (by omega) | exact z_shc4 (by omega)) (Or.inr rfl) ?_
  refine aw_return (pc := 32) dX8_clear_32 rfl ⟨Nat.zero_le _, Nat.zero_le _⟩ ?_
  have e1 : ∀ a k, (a ≠ 1 ∨ (k ≠ 5 ∧ k ≠ 6)) → (a ≠ 17 ∨ (k ≠ 1 ∧ k ≠ 2)) → (z_up (z_up (z_up (z_up I 1 5 0) 1 6 0) 17 1 0) 17 2 1) a k = I a k := fun a k h1 h2 => by
    unfold z_up
    rw [if_neg (by omega), if_neg (by omega), if_neg (by omega), if_neg (by omega)]
  have a5 : (z_up (z_up (z_up (z_up I 1 5 0) 1 6 0) 17 1 0) 17 2 1) 1 5 = 0 := rfl
  have a6 : (z_up (z_up (z_up (z_up I 1 5 0) 1 6 0) 17 1 0) 17 2 1) 1 6 = 0 := rfl
  have b1 : (z_up (z_up (z_up (z_up I 1 5 0) 1 6 0) 17 1 0) 17 2 1) 17 1 = 0 := rfl
  have b2 : (z_up (z_up (z_up (z_up I 1 5 0) 1 6 0) 17 1 0) 17 2 1) 17 2 = 1 := rfl
  refine ⟨rfl, rfl, π, rfl, ⟨⟨by rw [a5]; omega, by rw [a6]; omega, fun n => by rw [e1 _ _ (by omega) (by omega)]; exact h.lo n, fun n => by rw [e1 _ _ (by omega) (by omega)]; exact h.hi n, h.pt, fun r n hr => by rw [e1 _ _ (by omega) (by omega)]; exact h.fc r n hr, fun r => by rw [e1 _ _ (by omega) (by omega)]; exact h.rt r, fun r n q1 => by rw [a6] at q1; omega⟩, ?_, fun n hn => absurd hn (by show ¬ n < 0; omega), ⟨by rw [b1]; omega, hL.2.1, fun c hc => ?_⟩, ⟨by rw [b1]; rfl, fun k C hk => by cases hk⟩, b2, Or.inr rfl, fun n => by rw [e1 _ _ (by omega) (by omega)]; exact h225 n, fun n => by rw [e1 _ _ (by omega) (by omega)]; exact h232 n, fun C hC => by cases hC⟩, fun a k q => e1 a k (by omega) (by omega), fun _ _ _ => rfl⟩
  · rw [z_clM_mk, a5, a6]; exact z_mkM_0
  · have g := hL.c hc
    refine ⟨fun n => ?_, fun n => ?_, fun n => ?_, fun n => ?_, ?_, ?_, ?_, ?_, ?_⟩
    all_goals rw [e1 _ _ (by omega) (by omega)]
    · exact g.f n
    · exact g.rt n
    · exact g.lt n
    · exact g.ht n
    · exact g.r
    · exact g.kd
    · exact g.ag
    · exact g.dv
    · exact g.cr
set_option maxHeartbeats 4000000 in
theorem c_X8_turn {π : Nat → Nat} {I J : AwI} {m : z_MM} {L : List z_CC} {t : Int} (hI : z_CI I J π m L t) : CT m_X8_turn [zr 0] 255 I J (z_R π) (z_PC ((L.length : Int) - ((z_tn m L).length : Int), m, z_tn m L, t) I J) := by
  have hI0 := hI
  obtain ⟨h, hm, hlh, hL, hc, ht, h01, h225, h232, hA⟩ := hI0
  subst hm
  have hnm := h.nm
  have hrw := h.rw
  have hn4 := hL.n
  have eN : mN (z_clM I J) = (I 1 5).toNat := rfl
  have eR : mR (z_clM I J) = (I 1 6).toNat := rfl
  have eL := hc.1
  have hA2 : ∀ k : Nat, (k : Int) < I 17 1 → I (19 + 5 * π k) 6 ≤ 2 := fun k hk => by
    obtain ⟨hD, hp41, hCC, hag⟩ := hI.at (k := k) (by omega)
    rw [hD.2.2.2.1]
    exact hag
  refine CT.of (by decide) (Nat.le_of_ble_eq_true rfl) ?_
  show AW _ 0 0 _ 0 [some (zr 0)] [] _ _ _
  refine aw_aload_n (pc := 0) dX8_turn_0 rfl ?_
  refine aw_getR (pc := 1) dX8_turn_1 k_fl_X8_21 rfl (by omega) (by first | rfl | exact z_shr _ (by omega) | exact z_shc0 (by omega) | exact z_shc1 (by omega) | exact z_shc2 (by omega) | exact z_shc3 (by omega) | exact z_shc4 (by omega)) (by first | rfl | exact z_Rc0 _ (by omega) | exact z_Rc1 _ (by omega) | exact z_Rc2 _ (by omega) | exact z_Rc3 _ (by omega)) ?_
  refine aw_qV (pc := 4) (d := m_X5_ageAll) (c_X5_ageAll h hL hA2) k_X5_ageAll dX8_turn_4 k_ml_X8_199 rfl ⟨rfl, rfl⟩ (by omega) (by first | rfl | exact z_shr _ (by omega) | exact z_shc0 (by omega) | exact z_shc1 (by omega) | exact z_shc2 (by omega) | exact z_shc3 (by omega) | exact z_shc4 (by omega)) rfl ⟨Nat.le_of_ble_eq_true rfl, Nat.le_of_ble_eq_true rfl⟩ ⟨Nat.zero_le _, Nat.zero_le _⟩ rfl (Nat.le_of_ble_eq_true rfl) (z_Pk ?_)
  refine aw_ireturn (pc := 7) dX8_turn_7 rfl ⟨Nat.zero_le _, Nat.zero_le _⟩ ?_
  have hln : (I 17 1).toNat = L.length := by omega
  obtain ⟨g1, g2, g3, g4, g5⟩ := z_ag_ok (J := J) hL hA2 (I 17 1).toNat (by omega)
  obtain ⟨c1, c2⟩ := z_ag_cl (J := J) h hL hc hA hA2 L.length (Nat.le_refl _)
  rw [List.take_length] at c1 c2
  rw [hln] at g1 g2 g3 g4 g5 ⊢
  have hle := z_tn_len (m := z_clM I J) (L := L)
  have e1 : ∀ a k, a < 17 ∨ 224 ≤ a ∨ a = 17 ∧ k ≠ 1 → z_up (z_ag J π I L.length).2.2 17 1 ((z_ag J π I L.length).1 : Int) a k = I a k := fun a k q => by
    have : z_up (z_ag J π I L.length).2.2 17 1 ((z_ag J π I L.length).1 : Int) a k = (z_ag J π I L.length).2.2 a k := if_neg (by omega)
    rw [this]
    exact g4 a k (Or.inr (fun j hj e => by have := hL.p (k := j) (by omega); omega))
  rw [eL, c1]
  have hcz : ∀ c, c < 41 → z_C (z_up (z_ag J π I L.length).2.2 17 1 ((z_tn (z_clM I J) L).length : Int)) c := fun c hc => by
    have g := g5 c hc
    refine ⟨fun n => ?_, fun n => ?_, fun n => ?_, fun n => ?_, ?_, ?_, ?_, ?_, ?_⟩
    all_goals rw [z_up_a _ _ (by omega)]
    · exact g.f n
    · exact g.rt n
    · exact g.lt n
    · exact g.ht n
    · exact g.r
    · exact g.kd
    · exact g.ag
    · exact g.dv
    · exact g.cr
  rw [c1] at e1
  refine z_PCr rfl ⟨h.congr (fun a k q => e1 a k (Or.inl q)) (fun _ => rfl), z_clM.congr h (fun a k q => e1 a k (Or.inl q)) (fun _ => rfl), hlh, ⟨by rw [z_up_s]; omega, g3, hcz⟩, ⟨z_up_s _ _ _ _, fun k C hk => (c2 k C hk).congr (fun a j q1 q2 => z_up_a _ _ (by omega))⟩, by rw [e1 _ _ (by omega)]; exact ht, h01, fun n => by rw [e1 _ _ (by omega)]; exact h225 n, fun n => by rw [e1 _ _ (by omega)]; exact h232 n, z_tn_age⟩ ⟨fun a k q => e1 a k (by omega), fun _ _ _ => rfl⟩
set_option maxHeartbeats 4000000 in
theorem c_X8_holds {π : Nat → Nat} {I J : AwI} {m : z_MM} {L : List z_CC} {t : Int} {k : Int} (hI : z_CI I J π m L t) (hk : -2147483648 ≤ k ∧ k ≤ 2147483647) : CT m_X8_holds [zr 0, zi k] 255 I J (z_R π) (z_PC (z_rHo m L t k) I J) := by
  have hI0 := hI
  obtain ⟨h, hm, hlh, hL, hc, ht, h01, h225, h232, hA⟩ := hI0
  subst hm
  have hnm := h.nm
  have hrw := h.rw
  have hn4 := hL.n
  have eN : mN (z_clM I J) = (I 1 5).toNat := rfl
  have eR : mR (z_clM I J) = (I 1 6).toNat := rfl
  have eL := hc.1
  have hmb := z_clM_mb h
  have hnp := z_np_b hmb hlh
  have hch := c_X6_choices (π := π) h
  rw [z_np_cl (J := J)] at hch
  have hbg := c_X1_begin (π := π) (ch0 := I 235) (sm0 := I 236) h
  rw [z_s1_id] at hbg
  refine CT.of (by decide) (Nat.le_of_ble_eq_true rfl) ?_
  show AW _ 0 0 _ 0 [some (zr 0), some (zi k), none, none, none, none] [] _ _ _
  refine aw_aload_n (pc := 0) dX8_holds_0 rfl ?_
  refine aw_getR (pc := 1) dX8_holds_1 k_fl_X8_21 rfl (by omega) (by first | rfl | exact z_shr _ (by omega) | exact z_shc0 (by omega) | exact z_shc1 (by omega) | exact z_shc2 (by omega) | exact z_shc3 (by omega) | exact z_shc4 (by omega)) (by first | rfl | exact z_Rc0 _ (by omega) | exact z_Rc1 _ (by omega) | exact z_Rc2 _ (by omega) | exact z_Rc3 _ (by omega)) ?_
  refine aw_iload_n (pc := 4) dX8_holds_4 rfl ?_
  refine aw_qV (pc := 5) (d := m_X5_has) (c_X5_has hL hk) k_X5_has dX8_holds_5 k_ml_X8_115 rfl ⟨rfl, rfl⟩ (by omega) (by first | rfl | exact z_shr _ (by omega) | exact z_shc0 (by omega) | exact z_shc1 (by omega) | exact z_shc2 (by omega) | exact z_shc3 (by omega) | exact z_shc4 (by omega)) rfl ⟨Nat.le_of_ble_eq_true rfl, Nat.le_of_ble_eq_true rfl⟩ ⟨Nat.zero_le _, Nat.zero_le _⟩ rfl (Nat.le_of_ble_eq_true rfl) (z_Pk ?_)
  refine aw_if_ne (pc := 8) (tgt := 13) dX8_holds_8 rfl (by first | omega | exact z_bl_r _) (fun h8 => ?_) (fun h8 => ?_)
  · first | rw [z_bl_n] at h8 | rw [z_bl_0] at h8 | skip
    have hkL : k.toNat < L.length := by omega
    obtain ⟨hD, hp41, hCC, hag⟩ := hI.at hkL
    have hkd := hCC.kd
    have ekd := hD.2.2.1
    refine aw_aload_n (pc := 13) dX8_holds_13 rfl ?_
    refine aw_getR (pc := 14) dX8_holds_14 k_fl_X8_10 rfl (by omega) (by first | rfl | exact z_shr _ (by omega) | exact z_shc0 (by omega) | exact z_shc1 (by omega) | exact z_shc2 (by omega) | exact z_shc3 (by omega) | exact z_shc4 (by omega)) (by first | rfl | exact z_Rc0 _ (by omega) | exact z_Rc1 _ (by omega) | exact z_Rc2 _ (by omega) | exact z_Rc3 _ (by omega)) ?_
    refine aw_qV (pc := 17) (d := m_X6_choices) (hch) k_X6_choices dX8_holds_17 k_ml_X8_180 rfl ⟨rfl, rfl⟩ (by omega) (by first | rfl | exact z_shr _ (by omega) | exact z_shc0 (by omega) | exact z_shc1 (by omega) | exact z_shc2 (by omega) | exact z_shc3 (by omega) | exact z_shc4 (by omega)) rfl ⟨Nat.le_of_ble_eq_true rfl, Nat.le_of_ble_eq_true rfl⟩ ⟨Nat.zero_le _, Nat.zero_le _⟩ rfl (Nat.le_of_ble_eq_true rfl) (z_Pk ?_)
    refine aw_lstore_n (pc := 20) (lv' := [_, _, _, _, _, _]) dX8_holds_20 (Nat.le_of_ble_eq_true rfl) rfl ?_
    refine aw_lload_n (pc := 21) dX8_holds_21 rfl ?_
    refine aw_ldc2 (pc := 22) (v := 20000) dX8_holds_22 k_cst_X8_184 ?_
    refine aw_lcmp_le (pc := 25) (tgt := 32) dX8_holds_25 dX8_holds_26 rfl (by first | omega | exact z_bl_r _) (by first | omega | exact z_bl_r _) (fun h25 => ?_) (fun h25 => ?_)
    · refine aw_aload_n (pc := 32) dX8_holds_32 rfl ?_
      refine aw_getR (pc := 33) dX8_holds_33 k_fl_X8_21 rfl (by omega) (by first | rfl | exact z_shr _ (by omega) | exact z_shc0 (by omega) | exact z_shc1 (by omega) | exact z_shc2 (by omega) | exact z_shc3 (by omega) | exact z_shc4 (by omega)) (by first | rfl | exact z_Rc0 _ (by omega) | exact z_Rc1 _ (by omega) | exact z_Rc2 _ (by omega) | exact z_Rc3 _ (by omega)) ?_
      refine aw_getR (pc := 36) dX8_holds_36 k_fl_X8_125 rfl (by omega) (by first | rfl | exact z_shr _ (by omega) | exact z_shc0 (by omega) | exact z_shc1 (by omega) | exact z_shc2 (by omega) | exact z_shc3 (by omega) | exact z_shc4 (by omega)) (by first | rfl | exact z_Rc0 _ (by omega) | exact z_Rc1 _ (by omega) | exact z_Rc2 _ (by omega) | exact z_Rc3 _ (by omega)) ?_
      refine aw_iload_n (pc := 39) dX8_holds_39 rfl ?_
      refine aw_aaloadQ (b := 19 + 5 * π k.toNat) (pc := 40) dX8_holds_40 (by omega) (Nat.le_refl _) rfl (by omega) (by rfl) ?_
      refine aw_astore (pc := 41) (lv' := [_, _, _, _, _, _]) dX8_holds_41 (Nat.le_of_ble_eq_true rfl) rfl ?_
      have loop : ∀ (k2 : Nat) (x : Nat) (ch sm : Nat → Int), (x : Int) + k2 = z_np (z_clM I J) → z_sOK I ch sm → (∀ n, n < mN (z_clM I J) → ch n = z_it (z_clM I J) x n) → z_ho (z_clM I J) (z_g L k.toNat) x → AW (FM m_X8_holds (z_PC (z_rHo (z_clM I J) L t k) I J)) 0 0 255 53 [some (zr 0), some (zi k), some (zl (z_np (z_clM I J))), none, some (zr (19 + 5 * π k.toNat)), some (zi (x : Int))] [] (z_s1 I ch sm) J (z_R π) := by
        intro k2
        induction k2 with
        | zero =>
          intro x ch sm he g0 g1 g2
          refine aw_iload (pc := 53) dX8_holds_53 rfl ?_
          refine aw_i2l (pc := 55) dX8_holds_55 (by first | omega | exact z_bl_r _) ?_
          refine aw_lload_n (pc := 56) dX8_holds_56 rfl ?_
          refine aw_lcmp_ge (pc := 57) (tgt := 98) dX8_holds_57 dX8_holds_58 rfl (by omega) (by omega) (fun h57 => ?_) (fun h57 => absurd h57 (by omega))
          refine aw_iconst (pc := 98) dX8_holds_98 ?_
          refine aw_ireturn (pc := 99) dX8_holds_99 rfl ⟨Nat.zero_le _, Nat.zero_le _⟩ ?_
          exact z_PCr ((if_neg (by omega)).trans ((if_neg (by omega)).trans (by rw [z_bl_t (show z_ho (z_clM I J) (z_g L k.toNat) (z_np (z_clM I J)).toNat by rw [show (z_np (z_clM I J)).toNat = x by omega]; exact g2)]))) (hI.frame (fun a k q => z_s1_o (by omega)) (fun _ => rfl)) ⟨fun a k q => z_s1_o (by omega), fun _ _ _ => rfl⟩
        | succ k2 ih =>
          intro x ch sm he g0 g1 g2
          refine aw_iload (pc := 53) dX8_holds_53 rfl ?_
          refine aw_i2l (pc := 55) dX8_holds_55 (by first | omega | exact z_bl_r _) ?_
          refine aw_lload_n (pc := 56) dX8_holds_56 rfl ?_
          refine aw_lcmp_ge (pc := 57) (tgt := 98) dX8_holds_57 dX8_holds_58 rfl (by omega) (by omega) (fun h57 => absurd h57 (by omega)) (fun h57 => ?_)
          have hb : ∀ n, n < (I 1 5).toNat → I 2 n ≤ ch n ∧ ch n ≤ I 3 n := (fun n hn => by have q := z_it_in hlh x n hn; rw [g1 n hn]; rw [z_clM_lo hn, z_clM_hi hn] at q; exact q)
          refine aw_aload_n (pc := 61) dX8_holds_61 rfl ?_
          refine aw_getR (pc := 62) dX8_holds_62 k_fl_X8_58 rfl (by omega) (by first | rfl | exact z_shr _ (by omega) | exact z_shc0 (by omega) | exact z_shc1 (by omega) | exact z_shc2 (by omega) | exact z_shc3 (by omega) | exact z_shc4 (by omega)) (by first | rfl | exact z_Rc0 _ (by omega) | exact z_Rc1 _ (by omega) | exact z_Rc2 _ (by omega) | exact z_Rc3 _ (by omega)) ?_
          refine aw_qV (pc := 65) (d := m_X1_isPlan) (c_X1_isPlan h g0 hb) k_X1_isPlan dX8_holds_65 k_ml_X8_189 rfl ⟨rfl, rfl⟩ (by omega) (by first | rfl | exact z_shr _ (by omega) | exact z_shc0 (by omega) | exact z_shc1 (by omega) | exact z_shc2 (by omega) | exact z_shc3 (by omega) | exact z_shc4 (by omega)) rfl ⟨Nat.le_of_ble_eq_true rfl, Nat.le_of_ble_eq_true rfl⟩ ⟨Nat.zero_le _, Nat.zero_le _⟩ rfl (Nat.le_of_ble_eq_true rfl) (z_Pk ?_)
          refine aw_if_eq (pc := 68) (tgt := 85) dX8_holds_68 rfl (by first | omega | exact z_bl_r _) (fun h68 => ?_) (fun h68 => ?_)
          · refine aw_aload_n (pc := 85) dX8_holds_85 rfl ?_
            refine aw_getR (pc := 86) dX8_holds_86 k_fl_X8_58 rfl (by omega) (by first | rfl | exact z_shr _ (by omega) | exact z_shc0 (by omega) | exact z_shc1 (by omega) | exact z_shc2 (by omega) | exact z_shc3 (by omega) | exact z_shc4 (by omega)) (by first | rfl | exact z_Rc0 _ (by omega) | exact z_Rc1 _ (by omega) | exact z_Rc2 _ (by omega) | exact z_Rc3 _ (by omega)) ?_
            refine aw_qV (pc := 89) (d := m_X1_advance) (c_X1_advance h g0 hb) k_X1_advance dX8_holds_89 k_ml_X8_196 rfl ⟨rfl, rfl⟩ (by omega) (by first | rfl | exact z_shr _ (by omega) | exact z_shc0 (by omega) | exact z_shc1 (by omega) | exact z_shc2 (by omega) | exact z_shc3 (by omega) | exact z_shc4 (by omega)) rfl ⟨Nat.le_of_ble_eq_true rfl, Nat.le_of_ble_eq_true rfl⟩ ⟨Nat.zero_le _, Nat.zero_le _⟩ rfl (Nat.le_of_ble_eq_true rfl) ?_
            rintro q9 sz2 I2 J R2 ⟨rfl, rfl, rfl, rfl, ch2, sm2, rfl, e1, e2⟩
            refine aw_iinc (pc := 92) (lv' := [_, _, _, _, _, _]) dX8_holds_92 (Nat.le_of_ble_eq_true rfl) rfl rfl ?_
            refine aw_goto (pc := 95) (tgt := 53) dX8_holds_95 rfl ?_
            exact ih (x + 1) ch2 sm2 (by omega) e1 (fun n hn => (e2 n hn).trans (z_nx_c g1 n hn)) (fun c hc => by
              by_cases e : c = x
              · subst e; exact fun q => absurd ((z_isP_c g1).mpr q) (z_bl_0.mp h68)
              · exact g2 c (by omega))
          · refine aw_aload_n (pc := 71) dX8_holds_71 rfl ?_
            refine aw_getR (pc := 72) dX8_holds_72 k_fl_X8_58 rfl (by omega) (by first | rfl | exact z_shr _ (by omega) | exact z_shc0 (by omega) | exact z_shc1 (by omega) | exact z_shc2 (by omega) | exact z_shc3 (by omega) | exact z_shc4 (by omega)) (by first | rfl | exact z_Rc0 _ (by omega) | exact z_Rc1 _ (by omega) | exact z_Rc2 _ (by omega) | exact z_Rc3 _ (by omega)) ?_
            refine aw_aload (pc := 75) dX8_holds_75 rfl ?_
            refine aw_qV (pc := 77) (d := m_X1_keeps) (c_X1_keeps h hp41 hCC hD hb) k_X1_keeps dX8_holds_77 k_ml_X8_193 rfl ⟨rfl, rfl⟩ (by omega) (by first | rfl | exact z_shr _ (by omega) | exact z_shc0 (by omega) | exact z_shc1 (by omega) | exact z_shc2 (by omega) | exact z_shc3 (by omega) | exact z_shc4 (by omega)) rfl ⟨Nat.le_of_ble_eq_true rfl, Nat.le_of_ble_eq_true rfl⟩ ⟨Nat.zero_le _, Nat.zero_le _⟩ rfl (Nat.le_of_ble_eq_true rfl) (z_Pk ?_)
            refine aw_if_ne (pc := 80) (tgt := 85) dX8_holds_80 rfl (by first | omega | exact z_bl_r _) (fun h80 => ?_) (fun h80 => ?_)
            · refine aw_aload_n (pc := 85) dX8_holds_85 rfl ?_
              refine aw_getR (pc := 86) dX8_holds_86 k_fl_X8_58 rfl (by omega) (by first | rfl | exact z_shr _ (by omega) | exact z_shc0 (by omega) | exact z_shc1 (by omega) | exact z_shc2 (by omega) | exact z_shc3 (by omega) | exact z_shc4 (by omega)) (by first | rfl | exact z_Rc0 _ (by omega) | exact z_Rc1 _ (by omega) | exact z_Rc2 _ (by omega) | exact z_Rc3 _ (by omega)) ?_
              refine aw_qV (pc := 89) (d := m_X1_advance) (c_X1_advance h g0 hb) k_X1_advance dX8_holds_89 k_ml_X8_196 rfl ⟨rfl, rfl⟩ (by omega) (by first | rfl | exact z_shr _ (by omega) | exact z_shc0 (by omega) | exact z_shc1 (by omega) | exact z_shc2 (by omega) | exact z_shc3 (by omega) | exact z_shc4 (by omega)) rfl ⟨Nat.le_of_ble_eq_true rfl, Nat.le_of_ble_eq_true rfl⟩ ⟨Nat.zero_le _, Nat.zero_le _⟩ rfl (Nat.le_of_ble_eq_true rfl) ?_
              rintro q9 sz2 I2 J R2 ⟨rfl, rfl, rfl, rfl, ch2, sm2, rfl, e1, e2⟩
              refine aw_iinc (pc := 92) (lv' := [_, _, _, _, _, _]) dX8_holds_92 (Nat.le_of_ble_eq_true rfl) rfl rfl ?_
              refine aw_goto (pc := 95) (tgt := 53) dX8_holds_95 rfl ?_
              exact ih (x + 1) ch2 sm2 (by omega) e1 (fun n hn => (e2 n hn).trans (z_nx_c g1 n hn)) (fun c hc => by
                by_cases e : c = x
                · subst e; exact fun _ => (z_kp_c g1).mp (z_bl_n.mp h80)
                · exact g2 c (by omega))
            · refine aw_iconst (pc := 83) dX8_holds_83 ?_
              refine aw_ireturn (pc := 84) dX8_holds_84 rfl ⟨Nat.zero_le _, Nat.zero_le _⟩ ?_
              have n1 := (z_isP_c g1).mp (z_bl_n.mp h68)
              have n2 : ¬ z_kp (z_clM I J) (z_g L k.toNat) (z_it (z_clM I J) x) := fun q => z_bl_0.mp h80 ((z_kp_c g1).mpr q)
              exact z_PCr ((if_neg (by omega)).trans ((if_neg (by omega)).trans (by rw [z_bl_f (fun q => n2 (q x (by omega) n1))]))) (hI.frame (fun a k q => z_s1_o (by omega)) (fun _ => rfl)) ⟨fun a k q => z_s1_o (by omega), fun _ _ _ => rfl⟩
      refine aw_aload_n (pc := 43) dX8_holds_43 rfl ?_
      refine aw_getR (pc := 44) dX8_holds_44 k_fl_X8_58 rfl (by omega) (by first | rfl | exact z_shr _ (by omega) | exact z_shc0 (by omega) | exact z_shc1 (by omega) | exact z_shc2 (by omega) | exact z_shc3 (by omega) | exact z_shc4 (by omega)) (by first | rfl | exact z_Rc0 _ (by omega) | exact z_Rc1 _ (by omega) | exact z_Rc2 _ (by omega) | exact z_Rc3 _ (by omega)) ?_
      refine aw_qV (pc := 47) (d := m_X1_begin) (hbg) k_X1_begin dX8_holds_47 k_ml_X8_186 rfl ⟨rfl, rfl⟩ (by omega) (by first | rfl | exact z_shr _ (by omega) | exact z_shc0 (by omega) | exact z_shc1 (by omega) | exact z_shc2 (by omega) | exact z_shc3 (by omega) | exact z_shc4 (by omega)) rfl ⟨Nat.le_of_ble_eq_true rfl, Nat.le_of_ble_eq_true rfl⟩ ⟨Nat.zero_le _, Nat.zero_le _⟩ rfl (Nat.le_of_ble_eq_true rfl) ?_
      rintro q9 sz2 I2 J R2 ⟨rfl, rfl, rfl, rfl, ch, sm, rfl, e1, e2⟩
      refine aw_iconst (pc := 50) dX8_holds_50 ?_
      refine aw_istore (pc := 51) (lv' := [_, _, _, _, _, _]) dX8_holds_51 (Nat.le_of_ble_eq_true rfl) rfl ?_
      exact loop (z_np (z_clM I J)).toNat 0 ch sm (by omega) e1 (fun n hn => (e2 n hn).trans (z_clM_lo hn).symm) (fun c hc => absurd hc (by omega))
    · refine aw_bipush (pc := 29) dX8_holds_29 rfl ?_
      refine aw_ireturn (pc := 31) dX8_holds_31 rfl ⟨Nat.zero_le _, Nat.zero_le _⟩ ?_
      exact z_PCr ((if_neg (by omega)).trans (if_pos (by omega))) hI z_FR.rf
  · refine aw_iconst (pc := 11) dX8_holds_11 ?_
    refine aw_ireturn (pc := 12) dX8_holds_12 rfl ⟨Nat.zero_le _, Nat.zero_le _⟩ ?_
    first | rw [z_bl_n] at h8 | rw [z_bl_0] at h8 | skip
    exact z_PCr (if_pos (by omega)) hI z_FR.rf
set_option maxHeartbeats 4000000 in
theorem c_X8_plans {π : Nat → Nat} {I J : AwI} {m : z_MM} {L : List z_CC} {t : Int} (hI : z_CI I J π m L t) : CT m_X8_plans [zr 0] 255 I J (z_R π) (z_PC (z_rPn m L t) I J) := by
  have hI0 := hI
  obtain ⟨h, hm, hlh, hL, hc, ht, h01, h225, h232, hA⟩ := hI0
  subst hm
  have hnm := h.nm
  have hrw := h.rw
  have hn4 := hL.n
  have eN : mN (z_clM I J) = (I 1 5).toNat := rfl
  have eR : mR (z_clM I J) = (I 1 6).toNat := rfl
  have eL := hc.1
  have hmb := z_clM_mb h
  have hnp := z_np_b hmb hlh
  have hch := c_X6_choices (π := π) h
  rw [z_np_cl (J := J)] at hch
  have hbg := c_X1_begin (π := π) (ch0 := I 235) (sm0 := I 236) h
  rw [z_s1_id] at hbg
  refine CT.of (by decide) (Nat.le_of_ble_eq_true rfl) ?_
  show AW _ 0 0 _ 0 [some (zr 0), none, none, none, none] [] _ _ _
  refine aw_aload_n (pc := 0) dX8_plans_0 rfl ?_
  refine aw_getR (pc := 1) dX8_plans_1 k_fl_X8_10 rfl (by omega) (by first | rfl | exact z_shr _ (by omega) | exact z_shc0 (by omega) | exact z_shc1 (by omega) | exact z_shc2 (by omega) | exact z_shc3 (by omega) | exact z_shc4 (by omega)) (by first | rfl | exact z_Rc0 _ (by omega) | exact z_Rc1 _ (by omega) | exact z_Rc2 _ (by omega) | exact z_Rc3 _ (by omega)) ?_
  refine aw_qV (pc := 4) (d := m_X6_choices) (hch) k_X6_choices dX8_plans_4 k_ml_X8_180 rfl ⟨rfl, rfl⟩ (by omega) (by first | rfl | exact z_shr _ (by omega) | exact z_shc0 (by omega) | exact z_shc1 (by omega) | exact z_shc2 (by omega) | exact z_shc3 (by omega) | exact z_shc4 (by omega)) rfl ⟨Nat.le_of_ble_eq_true rfl, Nat.le_of_ble_eq_true rfl⟩ ⟨Nat.zero_le _, Nat.zero_le _⟩ rfl (Nat.le_of_ble_eq_true rfl) (z_Pk ?_)
  refine aw_lstore_n (pc := 7) (lv' := [_, _, _, _, _]) dX8_plans_7 (Nat.le_of_ble_eq_true rfl) rfl ?_
  refine aw_lload_n (pc := 8) dX8_plans_8 rfl ?_
  refine aw_ldc2 (pc := 9) (v := 20000) dX8_plans_9 k_cst_X8_184 ?_
  refine aw_lcmp_le (pc := 12) (tgt := 19) dX8_plans_12 dX8_plans_13 rfl (by first | omega | exact z_bl_r _) (by first | omega | exact z_bl_r _) (fun h12 => ?_) (fun h12 => ?_)
  · have loop : ∀ (k : Nat) (x : Nat) (ch sm : Nat → Int), (x : Int) + k = z_np (z_clM I J) → z_sOK I ch sm → (∀ n, n < mN (z_clM I J) → ch n = z_it (z_clM I J) x n) → AW (FM m_X8_plans (z_PC (z_rPn (z_clM I J) L t) I J)) 0 0 255 31 [some (zr 0), some (zl (z_np (z_clM I J))), none, some (zi (z_cP (z_clM I J) x)), some (zi (x : Int))] [] (z_s1 I ch sm) J (z_R π) := by
      intro k
      induction k with
      | zero =>
        intro x ch sm he g0 g1
        refine aw_iload (pc := 31) dX8_plans_31 rfl ?_
        refine aw_i2l (pc := 33) dX8_plans_33 (by first | omega | exact z_bl_r _) ?_
        refine aw_lload_n (pc := 34) dX8_plans_34 rfl ?_
        refine aw_lcmp_ge (pc := 35) (tgt := 65) dX8_plans_35 dX8_plans_36 rfl (by omega) (by omega) (fun h35 => ?_) (fun h35 => absurd h35 (by omega))
        refine aw_iload_n (pc := 65) dX8_plans_65 rfl ?_
        refine aw_ireturn (pc := 66) dX8_plans_66 rfl ⟨Nat.zero_le _, Nat.zero_le _⟩ ?_
        exact z_PCr ((if_neg (by omega)).trans (by rw [show (z_np (z_clM I J)).toNat = x by omega])) (hI.frame (fun a k q => z_s1_o (by omega)) (fun _ => rfl)) ⟨fun a k q => z_s1_o (by omega), fun _ _ _ => rfl⟩
      | succ k ih =>
        intro x ch sm he g0 g1
        refine aw_iload (pc := 31) dX8_plans_31 rfl ?_
        refine aw_i2l (pc := 33) dX8_plans_33 (by first | omega | exact z_bl_r _) ?_
        refine aw_lload_n (pc := 34) dX8_plans_34 rfl ?_
        refine aw_lcmp_ge (pc := 35) (tgt := 65) dX8_plans_35 dX8_plans_36 rfl (by omega) (by omega) (fun h35 => absurd h35 (by omega)) (fun h35 => ?_)
        have hb : ∀ n, n < (I 1 5).toNat → I 2 n ≤ ch n ∧ ch n ≤ I 3 n := (fun n hn => by have q := z_it_in hlh x n hn; rw [g1 n hn]; rw [z_clM_lo hn, z_clM_hi hn] at q; exact q)
        refine aw_aload_n (pc := 39) dX8_plans_39 rfl ?_
        refine aw_getR (pc := 40) dX8_plans_40 k_fl_X8_58 rfl (by omega) (by first | rfl | exact z_shr _ (by omega) | exact z_shc0 (by omega) | exact z_shc1 (by omega) | exact z_shc2 (by omega) | exact z_shc3 (by omega) | exact z_shc4 (by omega)) (by first | rfl | exact z_Rc0 _ (by omega) | exact z_Rc1 _ (by omega) | exact z_Rc2 _ (by omega) | exact z_Rc3 _ (by omega)) ?_
        refine aw_qV (pc := 43) (d := m_X1_isPlan) (c_X1_isPlan h g0 hb) k_X1_isPlan dX8_plans_43 k_ml_X8_189 rfl ⟨rfl, rfl⟩ (by omega) (by first | rfl | exact z_shr _ (by omega) | exact z_shc0 (by omega) | exact z_shc1 (by omega) | exact z_shc2 (by omega) | exact z_shc3 (by omega) | exact z_shc4 (by omega)) rfl ⟨Nat.le_of_ble_eq_true rfl, Nat.le_of_ble_eq_true rfl⟩ ⟨Nat.zero_le _, Nat.zero_le _⟩ rfl (Nat.le_of_ble_eq_true rfl) (z_Pk ?_)
        refine aw_if_eq (pc := 46) (tgt := 52) dX8_plans_46 rfl (by first | omega | exact z_bl_r _) (fun h46 => ?_) (fun h46 => ?_)
        · refine aw_aload_n (pc := 52) dX8_plans_52 rfl ?_
          refine aw_getR (pc := 53) dX8_plans_53 k_fl_X8_58 rfl (by omega) (by first | rfl | exact z_shr _ (by omega) | exact z_shc0 (by omega) | exact z_shc1 (by omega) | exact z_shc2 (by omega) | exact z_shc3 (by omega) | exact z_shc4 (by omega)) (by first | rfl | exact z_Rc0 _ (by omega) | exact z_Rc1 _ (by omega) | exact z_Rc2 _ (by omega) | exact z_Rc3 _ (by omega)) ?_
          refine aw_qV (pc := 56) (d := m_X1_advance) (c_X1_advance h g0 hb) k_X1_advance dX8_plans_56 k_ml_X8_196 rfl ⟨rfl, rfl⟩ (by omega) (by first | rfl | exact z_shr _ (by omega) | exact z_shc0 (by omega) | exact z_shc1 (by omega) | exact z_shc2 (by omega) | exact z_shc3 (by omega) | exact z_shc4 (by omega)) rfl ⟨Nat.le_of_ble_eq_true rfl, Nat.le_of_ble_eq_true rfl⟩ ⟨Nat.zero_le _, Nat.zero_le _⟩ rfl (Nat.le_of_ble_eq_true rfl) ?_
          rintro q9 sz2 I2 J R2 ⟨rfl, rfl, rfl, rfl, ch2, sm2, rfl, e1, e2⟩
          refine aw_iinc (pc := 59) (lv' := [_, _, _, _, _]) dX8_plans_59 (Nat.le_of_ble_eq_true rfl) rfl rfl ?_
          refine aw_goto (pc := 62) (tgt := 31) dX8_plans_62 rfl ?_
          have ex : z_cP (z_clM I J) (x + 1) = z_cP (z_clM I J) x + 0 := by show z_cP (z_clM I J) x + z_bl _ = _; rw [z_bl_f (fun q => z_bl_0.mp h46 ((z_isP_c g1).mpr q))]
          have K := ih (x + 1) ch2 sm2 (by omega) e1 (fun n hn => (e2 n hn).trans (z_nx_c g1 n hn))
          rw [ex, Int.add_zero] at K
          exact K
        · refine aw_iinc (pc := 49) (lv' := [_, _, _, _, _]) dX8_plans_49 (Nat.le_of_ble_eq_true rfl) rfl rfl ?_
          refine aw_aload_n (pc := 52) dX8_plans_52 rfl ?_
          refine aw_getR (pc := 53) dX8_plans_53 k_fl_X8_58 rfl (by omega) (by first | rfl | exact z_shr _ (by omega) | exact z_shc0 (by omega) | exact z_shc1 (by omega) | exact z_shc2 (by omega) | exact z_shc3 (by omega) | exact z_shc4 (by omega)) (by first | rfl | exact z_Rc0 _ (by omega) | exact z_Rc1 _ (by omega) | exact z_Rc2 _ (by omega) | exact z_Rc3 _ (by omega)) ?_
          refine aw_qV (pc := 56) (d := m_X1_advance) (c_X1_advance h g0 hb) k_X1_advance dX8_plans_56 k_ml_X8_196 rfl ⟨rfl, rfl⟩ (by omega) (by first | rfl | exact z_shr _ (by omega) | exact z_shc0 (by omega) | exact z_shc1 (by omega) | exact z_shc2 (by omega) | exact z_shc3 (by omega) | exact z_shc4 (by omega)) rfl ⟨Nat.le_of_ble_eq_true rfl, Nat.le_of_ble_eq_true rfl⟩ ⟨Nat.zero_le _, Nat.zero_le _⟩ rfl (Nat.le_of_ble_eq_true rfl) ?_
          rintro q9 sz2 I2 J R2 ⟨rfl, rfl, rfl, rfl, ch2, sm2, rfl, e1, e2⟩
          refine aw_iinc (pc := 59) (lv' := [_, _, _, _, _]) dX8_plans_59 (Nat.le_of_ble_eq_true rfl) rfl rfl ?_
          refine aw_goto (pc := 62) (tgt := 31) dX8_plans_62 rfl ?_
          have ex : z_cP (z_clM I J) (x + 1) = z_cP (z_clM I J) x + 1 := by show z_cP (z_clM I J) x + z_bl _ = _; rw [z_bl_t ((z_isP_c g1).mp (z_bl_n.mp h46))]
          have K := ih (x + 1) ch2 sm2 (by omega) e1 (fun n hn => (e2 n hn).trans (z_nx_c g1 n hn))
          rw [ex] at K
          exact K
    refine aw_iconst (pc := 19) dX8_plans_19 ?_
    refine aw_istore_n (pc := 20) (lv' := [_, _, _, _, _]) dX8_plans_20 (Nat.le_of_ble_eq_true rfl) rfl ?_
    refine aw_aload_n (pc := 21) dX8_plans_21 rfl ?_
    refine aw_getR (pc := 22) dX8_plans_22 k_fl_X8_58 rfl (by omega) (by first | rfl | exact z_shr _ (by omega) | exact z_shc0 (by omega) | exact z_shc1 (by omega) | exact z_shc2 (by omega) | exact z_shc3 (by omega) | exact z_shc4 (by omega)) (by first | rfl | exact z_Rc0 _ (by omega) | exact z_Rc1 _ (by omega) | exact z_Rc2 _ (by omega) | exact z_Rc3 _ (by omega)) ?_
    refine aw_qV (pc := 25) (d := m_X1_begin) (hbg) k_X1_begin dX8_plans_25 k_ml_X8_186 rfl ⟨rfl, rfl⟩ (by omega) (by first | rfl | exact z_shr _ (by omega) | exact z_shc0 (by omega) | exact z_shc1 (by omega) | exact z_shc2 (by omega) | exact z_shc3 (by omega) | exact z_shc4 (by omega)) rfl ⟨Nat.le_of_ble_eq_true rfl, Nat.le_of_ble_eq_true rfl⟩ ⟨Nat.zero_le _, Nat.zero_le _⟩ rfl (Nat.le_of_ble_eq_true rfl) ?_
    rintro q9 sz2 I2 J R2 ⟨rfl, rfl, rfl, rfl, ch, sm, rfl, e1, e2⟩
    refine aw_iconst (pc := 28) dX8_plans_28 ?_
    refine aw_istore (pc := 29) (lv' := [_, _, _, _, _]) dX8_plans_29 (Nat.le_of_ble_eq_true rfl) rfl ?_
    exact loop (z_np (z_clM I J)).toNat 0 ch sm (by omega) e1 (fun n hn => (e2 n hn).trans (z_clM_lo hn).symm)
  · refine aw_bipush (pc := 16) dX8_plans_16 rfl ?_
    refine aw_ireturn (pc := 18) dX8_plans_18 rfl ⟨Nat.zero_le _, Nat.zero_le _⟩ ?_
    exact z_PCr (if_pos (by omega)) hI z_FR.rf
