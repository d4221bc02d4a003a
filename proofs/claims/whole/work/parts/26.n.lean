theorem z_cnt_b (s : Nat) : ∀ n, z_cnt s n ≤ n
  | 0 => Nat.le_refl _
  | n + 1 => by
    show z_cnt s n + _ ≤ n + 1
    have := z_cnt_b s n
    split <;> omega
theorem z_cnt_hi {s k : Nat} (h : s < 2 ^ k) : ∀ n, z_cnt s (k + n) = z_cnt s k
  | 0 => rfl
  | n + 1 => by
    show z_cnt s (k + n) + _ = _
    rw [z_cnt_hi h n, if_neg]
    rfl
    show ¬ s.testBit (k + n) = true
    rw [Nat.testBit_lt_two_pow (Nat.lt_of_lt_of_le h (Nat.pow_le_pow_right (by omega) (Nat.le_add_right k n)))]
    decide
theorem z_cnt_1 {s k : Nat} (h : 1 ≤ s) (hk : s < 2 ^ k) : 1 ≤ z_cnt s k := by
  obtain ⟨j, hj, hb⟩ := z_nbit h hk
  have g : ∀ n, j < n → 1 ≤ z_cnt s n := by
    intro n
    induction n with
    | zero => intro q; omega
    | succ n ih =>
      intro q
      show 1 ≤ z_cnt s n + _
      by_cases e : j = n
      · subst e; rw [if_pos hb]; omega
      · have := ih (by omega); omega
  exact g k hj
/-- the sums' weights while alphas are given -/
def z_be (set i : Nat) (al : Nat → Int) : Nat → Int := fun t => z_po (z_ar set i al t)
theorem z_po_b (x : Int) (h : x ≤ 7) : 0 ≤ z_po x ∧ z_po x ≤ 7 := by unfold z_po; split <;> omega
theorem z_ss_64 {β : Nat → Int} {k : Nat} (hk : k ≤ 8) (h : ∀ i, i < k → 0 ≤ β i ∧ β i ≤ 7) (S : Nat → Bool) : z_ss β S k ≤ 64 := by
  have h1 := z_sum_b (f := fun i => if S i then β i else 0) 7 k (fun i hi => by have := h i hi; split <;> omega)
  unfold z_ss
  have h2 : (k : Int) * 7 ≤ 8 * 7 := Int.mul_le_mul_of_nonneg_right (by omega) (by omega)
  omega
theorem z_DP_0 {k : Nat} {w lg : Nat → Int} (hw : ∀ i, i < k → 0 ≤ w i) (h0 : lg 0 = 0) (h1 : ∀ s, 1 ≤ s → s ≤ 64 → lg s = 1000000) : z_DP k w (fun _ => 0) lg := by
  have hz : ∀ S, z_ss (fun _ => 0) S k = 0 := fun S => by
    unfold z_ss
    rw [z_sum_c (g := fun _ => 0) k (fun i hi => by split <;> rfl)]
    exact z_sum_z k
  refine ⟨fun s hs => ?_, fun s hs hl => ?_, fun S _ => ?_⟩
  · by_cases e : s = 0
    · subst e; rw [h0]; omega
    · rw [h1 s (by omega) hs]; omega
  · by_cases e : s = 0
    · subst e
      refine ⟨fun _ => false, hz _, ?_⟩
      rw [h0]
      unfold z_ss
      rw [z_sum_c (g := fun _ => 0) k (fun i hi => by simp), z_sum_z]
      omega
    · rw [h1 s (by omega) hs] at hl; omega
  · rw [hz, show (0 : Int).toNat = 0 from rfl, h0]
    exact z_ss_nn hw
theorem z_fl_lg {I : AwI} {k cap : Int} {ln wt al lg : Nat → Int} {v : Int} : z_fl (z_s3 I k cap ln wt al lg) 230 65 v = z_s3 I k cap ln wt al (fun s => if s < 65 then v else lg s) := by
  funext a j
  unfold z_fl
  by_cases e : a = 230
  · subst e
    rw [z_s3_lg, z_s3_lg]
    by_cases e2 : j < 65
    · rw [if_pos ⟨rfl, e2⟩, if_pos e2]
    · rw [if_neg (fun q => e2 q.2), if_neg e2]
  · rw [if_neg (fun q => e q.1)]
    unfold z_s3
    simp only [e, if_false]
set_option maxHeartbeats 4000000 in
theorem c_X3_lift {π : Nat → Nat} {I J : AwI} {cap : Int} {ln wt al lg : Nat → Int} {k s : Nat} (hk : k ≤ 8) (hw : ∀ j, j < k → 1 ≤ wt j ∧ wt j ≤ 50) (hcap : -100000 ≤ cap ∧ cap ≤ 100000) (hs1 : 1 ≤ s) (hs2 : s < 2 ^ k) : CT m_X3_lift [zr 226, zi (s : Int)] 255 (z_s3 I (k : Int) cap ln wt al lg) J (z_R π) (fun q9 sz' I' J' R' => q9 = none ∧ sz' = 255 ∧ J' = J ∧ R' = z_R π ∧ ∃ al' lg' : Nat → Int, I' = (z_s3 I (k : Int) cap ln wt al' lg') ∧ z_AOK k wt cap s ((z_cnt s 10 : Int) - 1) al' ∧ ∀ j, j < k → -64 ≤ al' j ∧ al' j ≤ 7) := by
  have hk2 : 2 ^ k ≤ 2 ^ 8 := Nat.pow_le_pow_right (by omega) hk
  have hc1 : z_cnt s 10 = z_cnt s k := by have := z_cnt_hi hs2 (10 - k); rw [show k + (10 - k) = 10 by omega] at this; exact this
  have hc2 := z_cnt_b s k
  have hc3 := z_cnt_1 hs1 hs2
  have hw0 : ∀ i, i < k → 0 ≤ wt i := fun i hi => by have := hw i hi; omega
  refine CT.of (by decide) (Nat.le_of_ble_eq_true rfl) ?_
  show AW _ 0 0 _ 0 [some (zr 226), some (zi (s : Int)), none, none] [] _ _ _
  have loop2 : ∀ (n : Nat) (x : Nat) (al lg : Nat → Int), (x : Int) + n = k → (∀ i, i < k → s.testBit i = true → al i = 1) → (∀ i, i < x → s.testBit i = false → ∃ b, z_best wt (z_ar s i al) k (cap - wt i) b ∧ al i = ((z_cnt s 10 : Int) - 1) - b) → (∀ i, i < k → s.testBit i = true ∨ i < x → -64 ≤ al i ∧ al i ≤ 7) → z_DP k wt (z_be s x al) lg → AW (FM m_X3_lift (fun q9 sz' I' J' R' => q9 = none ∧ sz' = 255 ∧ J' = J ∧ R' = z_R π ∧ ∃ al' lg' : Nat → Int, I' = (z_s3 I (k : Int) cap ln wt al' lg') ∧ z_AOK k wt cap s ((z_cnt s 10 : Int) - 1) al' ∧ ∀ j, j < k → -64 ≤ al' j ∧ al' j ≤ 7)) 0 0 255 55 [some (zr 226), some (zi (s : Int)), some (zi ((z_cnt s 10 : Int) - 1)), some (zi (x : Int))] [] (z_s3 I (k : Int) cap ln wt al lg) J (z_R π) := by
    intro n
    induction n with
    | zero =>
      intro x al lg he g1 g2 g3 g4
      refine aw_iload_n (pc := 55) dX3_lift_55 rfl ?_
      refine aw_aload_n (pc := 56) dX3_lift_56 rfl ?_
      refine aw_getV (pc := 57) (v := (k : Int)) dX3_lift_57 k_fl_X3_42 rfl (by omega) (by first | rfl | exact z_shr _ (by omega) | exact z_shc0 (by omega) | exact z_shc1 (by omega) | exact z_shc2 (by omega) | exact z_shc3 (by omega) | exact z_shc4 (by omega)) (z_s3_k) ?_
      refine aw_icmp_ge (pc := 60) (tgt := 99) dX3_lift_60 rfl (by first | omega | exact z_bl_r _) (by first | omega | exact z_bl_r _) (fun h60 => ?_) (fun h60 => absurd h60 (by omega))
      refine aw_return (pc := 99) dX3_lift_99 rfl ⟨Nat.zero_le _, Nat.zero_le _⟩ ?_
      have hxk : x = k := by omega
      subst hxk
      exact ⟨rfl, rfl, rfl, rfl, al, lg, rfl, fun j hj => ⟨g1 j hj, g2 j hj⟩, fun j hj => g3 j hj (Or.inr hj)⟩
    | succ n ih =>
      intro x al lg he g1 g2 g3 g4
      refine aw_iload_n (pc := 55) dX3_lift_55 rfl ?_
      refine aw_aload_n (pc := 56) dX3_lift_56 rfl ?_
      refine aw_getV (pc := 57) (v := (k : Int)) dX3_lift_57 k_fl_X3_42 rfl (by omega) (by first | rfl | exact z_shr _ (by omega) | exact z_shc0 (by omega) | exact z_shc1 (by omega) | exact z_shc2 (by omega) | exact z_shc3 (by omega) | exact z_shc4 (by omega)) (z_s3_k) ?_
      refine aw_icmp_ge (pc := 60) (tgt := 99) dX3_lift_60 rfl (by first | omega | exact z_bl_r _) (by first | omega | exact z_bl_r _) (fun h60 => absurd h60 (by omega)) (fun h60 => ?_)
      refine aw_iload_n (pc := 63) dX3_lift_63 rfl ?_
      refine aw_iload_n (pc := 64) dX3_lift_64 rfl ?_
      refine aw_qN (pc := 65) (d := m_X8_isIn) (c_X8_isIn (s := s) (w := x) (by omega) (by omega)) k_X8_isIn dX3_lift_65 k_nl_X3_80 rfl ⟨rfl, rfl⟩ ⟨Nat.le_of_ble_eq_true rfl, Nat.le_of_ble_eq_true rfl⟩ ⟨Nat.zero_le _, Nat.zero_le _⟩ rfl (Nat.le_of_ble_eq_true rfl) (z_Pk ?_)
      refine aw_if_ne (pc := 68) (tgt := 93) dX3_lift_68 rfl (z_bl_r _) (fun h68 => ?_) (fun h68 => ?_)
      · refine aw_iinc (pc := 93) (lv' := [_, _, _, _]) dX3_lift_93 (Nat.le_of_ble_eq_true rfl) rfl rfl ?_
        refine aw_goto (pc := 96) (tgt := 55) dX3_lift_96 rfl ?_
        have hyb := z_bl_n.mp h68
        have eb : z_be s (x + 1) al = z_be s x al := by
          funext t
          unfold z_be z_ar
          by_cases e : t = x
          · subst e; rw [if_pos (Or.inl hyb), if_pos (Or.inl hyb)]
          · by_cases e2 : s.testBit t = true ∨ t < x
            · rw [if_pos (e2.imp id (fun q => by omega)), if_pos e2]
            · rw [if_neg (fun q => e2 (q.imp id (fun q => by omega))), if_neg e2]
        exact ih (x + 1) al lg (by omega) g1 (fun i hi hf => by by_cases e : i = x; (subst e; rw [hyb] at hf; cases hf); exact g2 i (by omega) hf) (fun i hi hq => by by_cases e : i = x; (subst e; exact g3 i hi (Or.inl hyb)); exact g3 i hi (hq.imp id (fun q => by omega))) (by rw [eb]; exact g4)
      · have hwx := hw x (by omega)
        have hbe : ∀ i, i < k → 0 ≤ z_be s x al i ∧ z_be s x al i ≤ 7 := (fun i hi => by unfold z_be z_ar; split; (rename_i q; exact z_po_b _ (g3 i hi q).2); exact z_po_b 0 (by omega))
        refine aw_aload_n (pc := 71) dX3_lift_71 rfl ?_
        refine aw_iload_n (pc := 72) dX3_lift_72 rfl ?_
        refine aw_iload_n (pc := 73) dX3_lift_73 rfl ?_
        refine aw_aload_n (pc := 74) dX3_lift_74 rfl ?_
        refine aw_aload_n (pc := 75) dX3_lift_75 rfl ?_
        refine aw_getV (pc := 76) (v := cap) dX3_lift_76 k_fl_X3_56 rfl (by omega) (by first | rfl | exact z_shr _ (by omega) | exact z_shc0 (by omega) | exact z_shc1 (by omega) | exact z_shc2 (by omega) | exact z_shc3 (by omega) | exact z_shc4 (by omega)) (z_s3_c) ?_
        refine aw_aload_n (pc := 79) dX3_lift_79 rfl ?_
        refine aw_getR (pc := 80) dX3_lift_80 k_fl_X3_15 rfl (by omega) (by first | rfl | exact z_shr _ (by omega) | exact z_shc0 (by omega) | exact z_shc1 (by omega) | exact z_shc2 (by omega) | exact z_shc3 (by omega) | exact z_shc4 (by omega)) (by first | rfl | exact z_Rc0 _ (by omega) | exact z_Rc1 _ (by omega) | exact z_Rc2 _ (by omega) | exact z_Rc3 _ (by omega)) ?_
        refine aw_iload_n (pc := 83) dX3_lift_83 rfl ?_
        refine aw_ialoadV (pc := 84) (v := wt x) dX3_lift_84 (by omega) (Nat.le_refl _) (by first | rfl | exact z_shr _ (by omega) | exact z_shc0 (by omega) | exact z_shc1 (by omega) | exact z_shc2 (by omega) | exact z_shc3 (by omega) | exact z_shc4 (by omega)) (by first | omega | exact z_bl_r _) (z_s3_wt x) ?_
        refine aw_isub (pc := 85) dX3_lift_85 ?_
        refine aw_qV (pc := 86) (d := m_X3_greatestSum) (c_X3_greatestSum g4.1 (by omega)) k_X3_greatestSum dX3_lift_86 k_ml_X3_124 rfl ⟨rfl, rfl⟩ (by omega) (by first | rfl | exact z_shr _ (by omega) | exact z_shc0 (by omega) | exact z_shc1 (by omega) | exact z_shc2 (by omega) | exact z_shc3 (by omega) | exact z_shc4 (by omega)) rfl ⟨Nat.le_of_ble_eq_true rfl, Nat.le_of_ble_eq_true rfl⟩ ⟨Nat.zero_le _, Nat.zero_le _⟩ rfl (Nat.le_of_ble_eq_true rfl) ?_
        rintro q9 sz2 I2 J2 R2 ⟨rfl, rfl, rfl, rfl, b, rfl, hb1, hb2, hb3⟩
        have hB0 := z_DP_best g4 (fun i hi => (hbe i hi).1) (z_ss_64 hk hbe) hb1 (by omega) hb2 hb3
        have hB : z_best wt (z_ar s x al) k (cap - wt x) b := z_best_pos hw0 (fun i hi => rfl) hB0
        refine aw_isub (pc := 89) dX3_lift_89 ?_
        refine aw_qV (pc := 90) (d := m_X3_giveAlpha) (c_X3_giveAlpha g4.1 (by omega) (by omega) (by omega)) k_X3_giveAlpha dX3_lift_90 k_ml_X3_120 rfl ⟨rfl, rfl⟩ (by omega) (by first | rfl | exact z_shr _ (by omega) | exact z_shc0 (by omega) | exact z_shc1 (by omega) | exact z_shc2 (by omega) | exact z_shc3 (by omega) | exact z_shc4 (by omega)) rfl ⟨Nat.le_of_ble_eq_true rfl, Nat.le_of_ble_eq_true rfl⟩ ⟨Nat.zero_le _, Nat.zero_le _⟩ rfl (Nat.le_of_ble_eq_true rfl) (z_Pk ?_)
        refine aw_iinc (pc := 93) (lv' := [_, _, _, _]) dX3_lift_93 (Nat.le_of_ble_eq_true rfl) rfl rfl ?_
        refine aw_goto (pc := 96) (tgt := 55) dX3_lift_96 rfl ?_
        have hnb : s.testBit x = false := by cases hb : s.testBit x; rfl; exact absurd hb (z_bl_0.mp h68)
        have ear : ∀ i, i ≤ x → z_ar s i (va_up al x (((z_cnt s 10 : Int) - 1) - b)) = z_ar s i al := fun i hi => by
          funext t
          unfold z_ar va_up
          by_cases e : t = x
          · subst e; rw [if_neg (fun q => q.elim (fun q => by rw [hnb] at q; cases q) (fun q => by omega)), if_neg (fun q => q.elim (fun q => by rw [hnb] at q; cases q) (fun q => by omega))]
          · rw [if_neg e]
        have ebe : z_be s (x + 1) (va_up al x (((z_cnt s 10 : Int) - 1) - b)) = va_up (z_be s x al) x (z_po (((z_cnt s 10 : Int) - 1) - b)) := by
          funext t
          unfold z_be z_ar va_up
          by_cases e : t = x
          · subst e; rw [if_pos (Or.inr (by omega)), if_pos rfl, if_pos rfl]
          · rw [if_neg e, if_neg e]
            dsimp only
            by_cases e2 : s.testBit t = true ∨ t < x
            · rw [if_pos (e2.imp id (fun q => by omega)), if_pos e2]
            · rw [if_neg (fun q => e2 (q.imp id (fun q => by omega))), if_neg e2]
        have ex0 : z_be s x al x = 0 := by unfold z_be z_ar; rw [if_neg (fun q => q.elim (fun q => by rw [hnb] at q; cases q) (fun q => by omega))]; rfl
        have hDP : z_DP k wt (va_up (z_be s x al) x (z_po (((z_cnt s 10 : Int) - 1) - b))) (if ((z_cnt s 10 : Int) - 1) - b ≤ 0 then lg else z_dp lg (((z_cnt s 10 : Int) - 1) - b).toNat (wt x)) := by
          by_cases e : ((z_cnt s 10 : Int) - 1) - b ≤ 0
          · rw [if_pos e]
            have e0 : z_po (((z_cnt s 10 : Int) - 1) - b) = 0 := by unfold z_po; rw [if_neg (by omega)]
            exact z_DP_c g4 (fun i hi => by unfold va_up; split; (rename_i q; rw [q, ex0, e0]); rfl)
          · rw [if_neg e]
            have e0 : z_po (((z_cnt s 10 : Int) - 1) - b) = (((((z_cnt s 10 : Int) - 1) - b).toNat : Nat) : Int) := by unfold z_po; rw [if_pos (by omega)]; omega
            rw [e0]
            exact z_DP_step g4 (by omega) ex0 (fun i hi => (hbe i hi).1) hw0 (by omega)
        exact ih (x + 1) _ _ (by omega) (fun i hi hq => by unfold va_up; rw [if_neg (fun e => by subst e; rw [hnb] at hq; cases hq)]; exact g1 i hi hq) (fun i hi hf => by
          by_cases e : i = x
          · subst e; exact ⟨b, by rw [ear i (by omega)]; exact hB, z_vs⟩
          · obtain ⟨b2, q1, q2⟩ := g2 i (by omega) hf
            exact ⟨b2, by rw [ear i (by omega)]; exact q1, by unfold va_up; rw [if_neg e]; exact q2⟩) (fun i hi hq => by
          unfold va_up
          by_cases e : i = x
          · rw [if_pos e]; omega
          · rw [if_neg e]; exact g3 i hi (hq.imp id (fun q => by omega))) (by rw [ebe]; exact hDP)
  have loop1 : ∀ (n : Nat) (x : Nat) (al lg : Nat → Int), (x : Int) + n = k → (∀ i, i < x → s.testBit i = true → al i = 1) → z_DP k wt (fun t => if s.testBit t = true ∧ t < x then 1 else 0) lg → AW (FM m_X3_lift (fun q9 sz' I' J' R' => q9 = none ∧ sz' = 255 ∧ J' = J ∧ R' = z_R π ∧ ∃ al' lg' : Nat → Int, I' = (z_s3 I (k : Int) cap ln wt al' lg') ∧ z_AOK k wt cap s ((z_cnt s 10 : Int) - 1) al' ∧ ∀ j, j < k → -64 ≤ al' j ∧ al' j ≤ 7)) 0 0 255 25 [some (zr 226), some (zi (s : Int)), some (zi ((z_cnt s 10 : Int) - 1)), some (zi (x : Int))] [] (z_s3 I (k : Int) cap ln wt al lg) J (z_R π) := by
    intro n
    induction n with
    | zero =>
      intro x al lg he g1 g2
      refine aw_iload_n (pc := 25) dX3_lift_25 rfl ?_
      refine aw_aload_n (pc := 26) dX3_lift_26 rfl ?_
      refine aw_getV (pc := 27) (v := (k : Int)) dX3_lift_27 k_fl_X3_42 rfl (by omega) (by first | rfl | exact z_shr _ (by omega) | exact z_shc0 (by omega) | exact z_shc1 (by omega) | exact z_shc2 (by omega) | exact z_shc3 (by omega) | exact z_shc4 (by omega)) (z_s3_k) ?_
      refine aw_icmp_ge (pc := 30) (tgt := 53) dX3_lift_30 rfl (by first | omega | exact z_bl_r _) (by first | omega | exact z_bl_r _) (fun h30 => ?_) (fun h30 => absurd h30 (by omega))
      refine aw_iconst (pc := 53) dX3_lift_53 ?_
      refine aw_istore_n (pc := 54) (lv' := [_, _, _, _]) dX3_lift_54 (Nat.le_of_ble_eq_true rfl) rfl ?_
      have hxk : x = k := by omega
      subst hxk
      exact loop2 x 0 al lg (by omega) (fun i hi hq => g1 i hi hq) (fun i hi => absurd hi (by omega)) (fun i hi hq => by rw [g1 i hi (hq.elim id (fun q => absurd q (by omega)))]; omega) (z_DP_c g2 (fun i hi => by
        unfold z_be z_ar
        by_cases e : s.testBit i = true
        · rw [if_pos ⟨e, hi⟩, if_pos (Or.inl e), g1 i hi e]; rfl
        · rw [if_neg (fun q => e q.1), if_neg (fun q => q.elim e (fun q => by omega))]; rfl))
    | succ n ih =>
      intro x al lg he g1 g2
      refine aw_iload_n (pc := 25) dX3_lift_25 rfl ?_
      refine aw_aload_n (pc := 26) dX3_lift_26 rfl ?_
      refine aw_getV (pc := 27) (v := (k : Int)) dX3_lift_27 k_fl_X3_42 rfl (by omega) (by first | rfl | exact z_shr _ (by omega) | exact z_shc0 (by omega) | exact z_shc1 (by omega) | exact z_shc2 (by omega) | exact z_shc3 (by omega) | exact z_shc4 (by omega)) (z_s3_k) ?_
      refine aw_icmp_ge (pc := 30) (tgt := 53) dX3_lift_30 rfl (by first | omega | exact z_bl_r _) (by first | omega | exact z_bl_r _) (fun h30 => absurd h30 (by omega)) (fun h30 => ?_)
      refine aw_iload_n (pc := 33) dX3_lift_33 rfl ?_
      refine aw_iload_n (pc := 34) dX3_lift_34 rfl ?_
      refine aw_qN (pc := 35) (d := m_X8_isIn) (c_X8_isIn (s := s) (w := x) (by omega) (by omega)) k_X8_isIn dX3_lift_35 k_nl_X3_80 rfl ⟨rfl, rfl⟩ ⟨Nat.le_of_ble_eq_true rfl, Nat.le_of_ble_eq_true rfl⟩ ⟨Nat.zero_le _, Nat.zero_le _⟩ rfl (Nat.le_of_ble_eq_true rfl) (z_Pk ?_)
      refine aw_if_eq (pc := 38) (tgt := 47) dX3_lift_38 rfl (z_bl_r _) (fun h38 => ?_) (fun h38 => ?_)
      · refine aw_iinc (pc := 47) (lv' := [_, _, _, _]) dX3_lift_47 (Nat.le_of_ble_eq_true rfl) rfl rfl ?_
        refine aw_goto (pc := 50) (tgt := 25) dX3_lift_50 rfl ?_
        have hnb : ¬ s.testBit x = true := z_bl_0.mp h38
        exact ih (x + 1) al lg (by omega) (fun i hi hq => by by_cases e : i = x; (subst e; exact absurd hq hnb); exact g1 i (by omega) hq) (z_DP_c g2 (fun i hi => by
          by_cases e : s.testBit i = true ∧ i < x
          · rw [if_pos e, if_pos ⟨e.1, by omega⟩]
          · rw [if_neg e, if_neg (fun q => by by_cases e2 : i = x; (subst e2; exact hnb q.1); exact e ⟨q.1, by omega⟩)]))
      · refine aw_aload_n (pc := 41) dX3_lift_41 rfl ?_
        refine aw_iload_n (pc := 42) dX3_lift_42 rfl ?_
        refine aw_iconst (pc := 43) dX3_lift_43 ?_
        refine aw_qV (pc := 44) (d := m_X3_giveAlpha) (c_X3_giveAlpha g2.1 (by omega) (by omega) (by have := hw x (by omega); omega)) k_X3_giveAlpha dX3_lift_44 k_ml_X3_120 rfl ⟨rfl, rfl⟩ (by omega) (by first | rfl | exact z_shr _ (by omega) | exact z_shc0 (by omega) | exact z_shc1 (by omega) | exact z_shc2 (by omega) | exact z_shc3 (by omega) | exact z_shc4 (by omega)) rfl ⟨Nat.le_of_ble_eq_true rfl, Nat.le_of_ble_eq_true rfl⟩ ⟨Nat.zero_le _, Nat.zero_le _⟩ rfl (Nat.le_of_ble_eq_true rfl) (z_Pk ?_)
        refine aw_iinc (pc := 47) (lv' := [_, _, _, _]) dX3_lift_47 (Nat.le_of_ble_eq_true rfl) rfl rfl ?_
        refine aw_goto (pc := 50) (tgt := 25) dX3_lift_50 rfl ?_
        have hyb := z_bl_n.mp h38
        rw [if_neg (by omega)]
        have hD := z_DP_step (a := 1) g2 (j := x) (by omega) (if_neg (fun q => by omega)) (fun i hi => by split <;> omega) hw0 (by omega)
        exact ih (x + 1) _ _ (by omega) (fun i hi hq => by unfold va_up; by_cases e : i = x; (rw [if_pos e]); (rw [if_neg e]; exact g1 i (by omega) hq)) (z_DP_c hD (fun i hi => by
          unfold va_up
          by_cases e : i = x
          · subst e; rw [if_pos rfl, if_pos ⟨hyb, by omega⟩]; rfl
          · rw [if_neg e]
            dsimp only
            by_cases e2 : s.testBit i = true ∧ i < x
            · rw [if_pos e2, if_pos ⟨e2.1, by omega⟩]
            · rw [if_neg e2, if_neg (fun q => e2 ⟨q.1, by omega⟩)]))
  refine aw_iload_n (pc := 0) dX3_lift_0 rfl ?_
  refine aw_qS (pc := 1) (d := m_J6_bitCount_0f7a4) (c_bitCount (by omega)) k_J6_bitCount_0f7a4 dX3_lift_1 k_ml_X3_100 rfl ⟨rfl, rfl⟩ ⟨Nat.le_of_ble_eq_true rfl, Nat.le_of_ble_eq_true rfl⟩ ⟨Nat.zero_le _, Nat.zero_le _⟩ rfl (Nat.le_of_ble_eq_true rfl) (z_Pk ?_)
  refine aw_iconst (pc := 4) dX3_lift_4 ?_
  refine aw_isub (pc := 5) dX3_lift_5 ?_
  refine aw_istore_n (pc := 6) (lv' := [_, _, _, _]) dX3_lift_6 (Nat.le_of_ble_eq_true rfl) rfl ?_
  refine aw_aload_n (pc := 7) dX3_lift_7 rfl ?_
  refine aw_getR (pc := 8) dX3_lift_8 k_fl_X3_21 rfl (by omega) (by first | rfl | exact z_shr _ (by omega) | exact z_shc0 (by omega) | exact z_shc1 (by omega) | exact z_shc2 (by omega) | exact z_shc3 (by omega) | exact z_shc4 (by omega)) (by first | rfl | exact z_Rc0 _ (by omega) | exact z_Rc1 _ (by omega) | exact z_Rc2 _ (by omega) | exact z_Rc3 _ (by omega)) ?_
  refine aw_ldc (pc := 11) (v := 1000000) dX3_lift_11 k_cst_X3_79 ?_
  refine aw_qS (pc := 13) (d := m_J7_fill_53178) (c_fill (n := 65) (by omega) rfl (by omega)) k_J7_fill_53178 dX3_lift_13 k_ml_X3_114 rfl ⟨rfl, rfl⟩ ⟨Nat.le_of_ble_eq_true rfl, Nat.le_of_ble_eq_true rfl⟩ ⟨Nat.zero_le _, Nat.zero_le _⟩ rfl (Nat.le_of_ble_eq_true rfl) (z_Pk ?_)
  refine aw_aload_n (pc := 16) dX3_lift_16 rfl ?_
  refine aw_getR (pc := 17) dX3_lift_17 k_fl_X3_21 rfl (by omega) (by first | rfl | exact z_shr _ (by omega) | exact z_shc0 (by omega) | exact z_shc1 (by omega) | exact z_shc2 (by omega) | exact z_shc3 (by omega) | exact z_shc4 (by omega)) (by first | rfl | exact z_Rc0 _ (by omega) | exact z_Rc1 _ (by omega) | exact z_Rc2 _ (by omega) | exact z_Rc3 _ (by omega)) ?_
  refine aw_iconst (pc := 20) dX3_lift_20 ?_
  refine aw_iconst (pc := 21) dX3_lift_21 ?_
  refine aw_iastore (pc := 22) dX3_lift_22 (by omega) (Nat.le_refl _) (by first | rfl | exact z_shr _ (by omega) | exact z_shc0 (by omega) | exact z_shc1 (by omega) | exact z_shc2 (by omega) | exact z_shc3 (by omega) | exact z_shc4 (by omega)) (by first | omega | exact z_bl_r _) ?_
  rw [z_fl_lg, z_s3_ulg]
  refine aw_iconst (pc := 23) dX3_lift_23 ?_
  refine aw_istore_n (pc := 24) (lv' := [_, _, _, _]) dX3_lift_24 (Nat.le_of_ble_eq_true rfl) rfl ?_
  exact loop1 k 0 al _ (by omega) (fun i hi => absurd hi (by omega)) (z_DP_c (z_DP_0 hw0 (show va_up _ 0 0 0 = 0 from if_pos rfl) (fun s h1 h2 => by unfold va_up; rw [if_neg (by show ¬ s = 0; omega)]; exact if_pos (by omega))) (fun i hi => (if_neg (fun q => by omega)).symm))
