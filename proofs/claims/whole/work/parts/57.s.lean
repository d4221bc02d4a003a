/-- the references while the list of cuts is filled -/
def z_RL (R1 : AwR) (c : Nat) : AwR := fun b k => if b = 18 then (if k < c then some (19 + 5 * k) else none) else if 19 ≤ b ∧ b < 19 + 5 * c then z_R id b k else R1 b k
theorem z_RLs (R1 : AwR) (c : Nat) : z_up (z_mR (19 + 5 * c) (19 + 5 * c + 5) (z_RL R1 c)) 18 c (some (19 + 5 * c)) = z_RL R1 (c + 1) := by
  funext b k
  unfold z_RL z_mR
  by_cases h : b = 18
  · subst h
    rw [if_pos rfl]
    by_cases hk : k = c
    · subst hk
      rw [z_up_s, if_pos (by omega)]
    · rw [z_up_k _ _ hk, if_neg (by omega)]
      dsimp only
      rw [if_pos rfl]
      by_cases h2 : k < c
      · rw [if_pos h2, if_pos (by omega)]
      · rw [if_neg h2, if_neg (by omega)]
  · rw [z_up_a _ _ h, if_neg h]
    dsimp only
    rw [if_neg h]
    by_cases h1 : 19 + 5 * c ≤ b ∧ b < 19 + 5 * c + 5
    · rw [if_pos h1, if_pos (by omega)]
    · rw [if_neg h1]
      by_cases h2 : 19 ≤ b ∧ b < 19 + 5 * c
      · rw [if_pos h2, if_pos (by omega)]
      · rw [if_neg h2, if_neg (by omega)]
theorem z_RL0 (R1 : AwR) (h : ∀ k, R1 18 k = none) : z_RL R1 0 = R1 := by
  funext b k
  unfold z_RL
  by_cases h1 : b = 18
  · subst h1
    rw [if_pos rfl, if_neg (by omega), h]
  · rw [if_neg h1, if_neg (by omega)]
theorem z_RLz {I J : AwI} {R1 : AwR} (hz : z_Z 19 I J R1) (c : Nat) : z_Z (19 + 5 * c) I J (z_RL R1 c) := by
  intro b hb k
  obtain ⟨h1, h2, h3⟩ := hz b (by omega) k
  refine ⟨h1, h2, ?_⟩
  unfold z_RL
  rw [if_neg (by omega), if_neg (by omega)]
  exact h3
set_option maxHeartbeats 4000000 in
theorem c_X5_init {I J : AwI} {R : AwR} (hz : z_Z 18 I J R) : CE z_E0 m_X5_init [zr 17, zr 1] 18 I J R (z_P none 224 (z_up I 17 2 1) J (z_mR 17 224 R)) := by
  have hz0 := hz
  refine CE.of (by decide) (Nat.le_of_ble_eq_true rfl) ?_
  show AV _ _ 0 0 _ 0 [some (zr 17), some (zr 1), none] [] _ _ _
  refine av_aload_n (pc := 0) dX5_init_0 rfl ?_
  refine av_obj (pc := 1) dX5_init_1 k_oi_X5 k_oi1 k_oi2 (Nat.le_of_ble_eq_true rfl) ⟨Nat.le_of_ble_eq_true rfl, Nat.le_of_ble_eq_true rfl⟩ ?_
  refine av_aload_n (pc := 4) dX5_init_4 rfl ?_
  refine av_bipush (pc := 5) dX5_init_5 rfl ?_
  refine av_newQ (pc := 7) (n := 41) (sz' := 19) dX5_init_7 k_clQ (fun _ _ _ _ _ h => h.1) (by omega) rfl hz (by omega) ⟨Nat.le_of_ble_eq_true rfl, Nat.le_of_ble_eq_true rfl⟩ rfl (fun hz => ?_)
  refine av_putR (pc := 10) dX5_init_10 k_fl_X5_11 rfl (fun _ => ⟨rfl, rfl⟩) rfl rfl (by omega) rfl hz (fun hz => ?_)
  refine av_aload_n (pc := 13) dX5_init_13 rfl ?_
  refine av_iconst (pc := 14) dX5_init_14 ?_
  refine av_putZ (pc := 15) dX5_init_15 k_fl_X5_17 rfl (by omega) rfl (Or.inr rfl) ?_
  have hz := hz.upI (a := 17) (k := 2) (x := 1) (by omega)
  refine av_aload_n (pc := 18) dX5_init_18 rfl ?_
  refine av_aload_n (pc := 19) dX5_init_19 rfl ?_
  refine av_putR (pc := 20) dX5_init_20 k_fl_X5_21 rfl (fun _ => ⟨rfl, rfl⟩) rfl rfl (by omega) rfl hz (fun hz => ?_)
  refine av_iconst (pc := 23) dX5_init_23 ?_
  refine av_istore_n (pc := 24) (lv' := [_, _, _]) dX5_init_24 (Nat.le_of_ble_eq_true rfl) rfl ?_
  have h17 : z_up (z_up R 17 0 (some 18)) 17 3 (some 1) 17 0 = some 18 := rfl
  have h18 : ∀ k, z_up (z_up R 17 0 (some 18)) 17 3 (some 1) 18 k = none := fun k => (hz0 18 (by omega) k).2.2
  have hlo : ∀ a, a < 17 → ∀ k, z_up (z_up R 17 0 (some 18)) 17 3 (some 1) a k = R a k := fun a ha k => by rw [z_up_a _ _ (by omega), z_up_a _ _ (by omega)]
  have h173 : z_up (z_up R 17 0 (some 18)) 17 3 (some 1) 17 3 = some 1 := rfl
  generalize z_up (z_up R 17 0 (some 18)) 17 3 (some 1) = R1 at hz h17 h18 hlo h173 ⊢
  rw [← z_RL0 R1 h18]
  suffices loop : ∀ (k c : Nat), c + k = 41 → AV (z_EX z_E0) (FM m_X5_init (z_P none 224 (z_up I 17 2 1) J (z_mR 17 224 R))) (1 + 5 * c) (41 + 43 * c) (19 + 5 * c) 25 [some (zr 17), some (zr 1), some (zi (c : Int))] [] (z_up I 17 2 1) J (z_RL R1 c) from loop 41 0 rfl
  intro k
  induction k with
  | zero =>
    intro c hc
    have hc : c = 41 := by omega
    subst hc
    refine av_iload_n (pc := 25) dX5_init_25 rfl ?_
    refine av_aload_n (pc := 26) dX5_init_26 rfl ?_
    refine av_getR (pc := 27) dX5_init_27 k_fl_X5_11 rfl (by omega) rfl (b := 18) h17 ?_
    refine av_alen (pc := 30) dX5_init_30 (by omega) (by omega) (by rfl) (Or.inr rfl) ?_
    refine av_icmp_ge (pc := 31) (tgt := 53) dX5_init_31 rfl (by omega) (by omega) (fun _ => ?_) (fun h => absurd h (by omega))
    refine av_cg (z_Rc9.of (R' := z_mR 17 224 R) fun b hb k hr => ?_) (av_return (pc := 53) dX5_init_53 rfl ⟨Nat.le_of_ble_eq_true rfl, Nat.le_of_ble_eq_true rfl⟩ ⟨rfl, rfl, rfl, rfl, rfl⟩)
    unfold z_RL z_mR
    by_cases e18 : b = 18
    · subst e18
      have hk : k < 41 := hr.1
      rw [if_pos rfl, if_pos hk, if_pos (by omega)]
      rfl
    · rw [if_neg e18]
      by_cases e19 : 19 ≤ b
      · rw [if_pos (by omega), if_pos (by omega)]
      · rw [if_neg (by omega)]
        by_cases e17 : b = 17
        · subst e17
          rw [if_pos (by omega)]
          rcases z_rel17 hr with rfl | rfl
          · rw [h17]; rfl
          · rw [h173]; rfl
        · rw [if_neg (by omega), hlo b (by omega)]
  | succ k ih =>
    intro c hc
    have hzc := z_RLz hz c
    refine av_iload_n (pc := 25) dX5_init_25 rfl ?_
    refine av_aload_n (pc := 26) dX5_init_26 rfl ?_
    have hR17 : z_RL R1 c 17 0 = some 18 := by unfold z_RL; rw [if_neg (by omega), if_neg (by omega)]; exact h17
    refine av_getR (pc := 27) dX5_init_27 k_fl_X5_11 rfl (by omega) rfl (b := 18) hR17 ?_
    refine av_alen (pc := 30) dX5_init_30 (by omega) (by omega) (by rfl) (Or.inr rfl) ?_
    refine av_icmp_ge (pc := 31) (tgt := 53) dX5_init_31 rfl (by omega) (by omega) (fun h => absurd h (by omega)) (fun _ => ?_)
    refine av_aload_n (pc := 34) dX5_init_34 rfl ?_
    refine av_getR (pc := 35) dX5_init_35 k_fl_X5_11 rfl (by omega) rfl (b := 18) hR17 ?_
    refine av_iload_n (pc := 38) dX5_init_38 rfl ?_
    refine av_new (pc := 39) (sz' := 19 + 5 * c + 1) dX5_init_39 k_nw_X5_9 (by omega) (z_shc0 (by omega)) hzc ⟨by show 1 + 5 * c + 1 ≤ 206; omega, by show 41 + 43 * c + 9 ≤ 1804; omega⟩ rfl (fun hz9 => ?_)
    refine av_dup (pc := 42) dX5_init_42 (fun _ h => by cases h) ?_
    refine av_init z_E0k (pc := 43) (As := []) (c_X4_init (c := c) (by omega) hz9) k_X4_init dX5_init_43 (Or.inr ⟨_, k_nX4⟩) rfl ⟨Nat.le_of_ble_eq_true rfl, Nat.le_of_ble_eq_true rfl⟩ ⟨by show 1 + 5 * c + 1 + 4 ≤ 206; omega, by show 41 + 43 * c + 9 + 34 ≤ 1804; omega⟩ rfl (Nat.le_of_ble_eq_true rfl) ?_
    refine av_aastoreQ (pc := 46) dX5_init_46 (by omega) (by omega) rfl (by omega) (by omega) (z_shc0 (by omega)) ?_
    rw [Int.toNat_natCast, z_RLs]
    refine av_iinc (pc := 47) (lv' := [_, _, _]) dX5_init_47 (Nat.le_of_ble_eq_true rfl) rfl rfl ?_
    refine av_goto (pc := 50) (tgt := 25) dX5_init_50 rfl ?_
    have K := ih (c + 1) (by omega)
    rw [show 19 + 5 * (c + 1) = 19 + 5 * c + 5 by omega, show 1 + 5 * (c + 1) = 1 + 5 * c + 1 + 4 by omega, show 41 + 43 * (c + 1) = 41 + 43 * c + 9 + 34 by omega] at K
    exact K
theorem z_mZ (lo : Nat) {hi s : Nat} {I J : AwI} {R : AwR} (hz : z_Z s I J R) (hs : s ≤ hi := by omega) : z_Z hi I J (z_mR lo hi R) := by
  intro b hb k
  obtain ⟨h1, h2, h3⟩ := hz b (by omega) k
  refine ⟨h1, h2, ?_⟩
  unfold z_mR
  rw [if_neg (by omega)]
  exact h3
set_option maxHeartbeats 4000000 in
theorem c_X8_init {I J : AwI} {R : AwR} (hz : z_Z 1 I J R) : CE z_E0 m_X8_init [zr 0] 1 I J R (z_P none 237 (z_up I 17 2 1) J (z_mR 0 237 R)) := by
  refine CE.of (by decide) (Nat.le_of_ble_eq_true rfl) ?_
  show AV _ _ 0 0 _ 0 [some (zr 0)] [] _ _ _
  refine av_aload_n (pc := 0) dX8_init_0 rfl ?_
  refine av_obj (pc := 1) dX8_init_1 k_oi_X8 k_oi1 k_oi2 (Nat.le_of_ble_eq_true rfl) ⟨Nat.le_of_ble_eq_true rfl, Nat.le_of_ble_eq_true rfl⟩ ?_
  refine av_aload_n (pc := 4) dX8_init_4 rfl ?_
  refine av_new (pc := 5) (sz' := 2) dX8_init_5 k_nw_X8_7 (by omega) rfl hz ⟨Nat.le_of_ble_eq_true rfl, Nat.le_of_ble_eq_true rfl⟩ rfl (fun hz => ?_)
  refine av_dup (pc := 8) dX8_init_8 (fun _ h => by cases h) ?_
  refine av_init z_E0k (pc := 9) (As := []) (c_X6_init hz) k_X6_init dX8_init_9 (Or.inr ⟨_, k_nX6⟩) rfl ⟨Nat.le_of_ble_eq_true rfl, Nat.le_of_ble_eq_true rfl⟩ ⟨Nat.le_of_ble_eq_true rfl, Nat.le_of_ble_eq_true rfl⟩ rfl (Nat.le_of_ble_eq_true rfl) ?_
  have hz := z_mZ 1 (hi := 17) hz
  refine av_putR (pc := 12) dX8_init_12 k_fl_X8_10 rfl (fun _ => ⟨rfl, rfl⟩) rfl rfl (by omega) rfl hz (fun hz => ?_)
  refine av_aload_n (pc := 15) dX8_init_15 rfl ?_
  refine av_new (pc := 16) (sz' := 18) dX8_init_16 k_nw_X8_16 (by omega) rfl hz ⟨Nat.le_of_ble_eq_true rfl, Nat.le_of_ble_eq_true rfl⟩ rfl (fun hz => ?_)
  refine av_dup (pc := 19) dX8_init_19 (fun _ h => by cases h) ?_
  refine av_aload_n (pc := 20) dX8_init_20 rfl ?_
  refine av_getR (pc := 21) dX8_init_21 k_fl_X8_10 rfl (by omega) rfl (b := 1) rfl ?_
  refine av_init z_E0k (pc := 24) (As := [zr 1]) (c_X5_init hz) k_X5_init dX8_init_24 (Or.inl k_ml_X8_18) rfl ⟨Nat.le_of_ble_eq_true rfl, Nat.le_of_ble_eq_true rfl⟩ ⟨Nat.le_of_ble_eq_true rfl, Nat.le_of_ble_eq_true rfl⟩ rfl (Nat.le_of_ble_eq_true rfl) ?_
  have hz := z_mZ 17 (hi := 224) (hz.upI (a := 17) (k := 2) (x := 1) (by omega))
  refine av_putR (pc := 27) dX8_init_27 k_fl_X8_21 rfl (fun _ => ⟨rfl, rfl⟩) rfl rfl (by omega) rfl hz (fun hz => ?_)
  refine av_aload_n (pc := 30) dX8_init_30 rfl ?_
  refine av_new (pc := 31) (sz' := 225) dX8_init_31 k_nw_X8_25 (by omega) rfl hz ⟨Nat.le_of_ble_eq_true rfl, Nat.le_of_ble_eq_true rfl⟩ rfl (fun hz => ?_)
  refine av_dup (pc := 34) dX8_init_34 (fun _ h => by cases h) ?_
  refine av_aload_n (pc := 35) dX8_init_35 rfl ?_
  refine av_getR (pc := 36) dX8_init_36 k_fl_X8_10 rfl (by omega) rfl (b := 1) rfl ?_
  refine av_aload_n (pc := 39) dX8_init_39 rfl ?_
  refine av_getR (pc := 40) dX8_init_40 k_fl_X8_21 rfl (by omega) rfl (b := 17) rfl ?_
  refine av_init z_E0k (pc := 43) (As := [zr 1, zr 17]) (c_X7_init hz) k_X7_init dX8_init_43 (Or.inl k_ml_X8_27) rfl ⟨Nat.le_of_ble_eq_true rfl, Nat.le_of_ble_eq_true rfl⟩ ⟨Nat.le_of_ble_eq_true rfl, Nat.le_of_ble_eq_true rfl⟩ rfl (Nat.le_of_ble_eq_true rfl) ?_
  have hz := z_mZ 224 (hi := 226) hz
  refine av_putR (pc := 46) dX8_init_46 k_fl_X8_30 rfl (fun _ => ⟨rfl, rfl⟩) rfl rfl (by omega) rfl hz (fun hz => ?_)
  refine av_aload_n (pc := 49) dX8_init_49 rfl ?_
  refine av_new (pc := 50) (sz' := 227) dX8_init_50 k_nw_X8_34 (by omega) rfl hz ⟨Nat.le_of_ble_eq_true rfl, Nat.le_of_ble_eq_true rfl⟩ rfl (fun hz => ?_)
  refine av_dup (pc := 53) dX8_init_53 (fun _ h => by cases h) ?_
  refine av_aload_n (pc := 54) dX8_init_54 rfl ?_
  refine av_getR (pc := 55) dX8_init_55 k_fl_X8_10 rfl (by omega) rfl (b := 1) rfl ?_
  refine av_aload_n (pc := 58) dX8_init_58 rfl ?_
  refine av_getR (pc := 59) dX8_init_59 k_fl_X8_21 rfl (by omega) rfl (b := 17) rfl ?_
  refine av_init z_E0k (pc := 62) (As := [zr 1, zr 17]) (c_X3_init hz) k_X3_init dX8_init_62 (Or.inl k_ml_X8_36) rfl ⟨Nat.le_of_ble_eq_true rfl, Nat.le_of_ble_eq_true rfl⟩ ⟨Nat.le_of_ble_eq_true rfl, Nat.le_of_ble_eq_true rfl⟩ rfl (Nat.le_of_ble_eq_true rfl) ?_
  have hz := z_mZ 226 (hi := 231) hz
  refine av_putR (pc := 65) dX8_init_65 k_fl_X8_37 rfl (fun _ => ⟨rfl, rfl⟩) rfl rfl (by omega) rfl hz (fun hz => ?_)
  refine av_aload_n (pc := 68) dX8_init_68 rfl ?_
  refine av_new (pc := 69) (sz' := 232) dX8_init_69 k_nw_X8_41 (by omega) rfl hz ⟨Nat.le_of_ble_eq_true rfl, Nat.le_of_ble_eq_true rfl⟩ rfl (fun hz => ?_)
  refine av_dup (pc := 72) dX8_init_72 (fun _ h => by cases h) ?_
  refine av_aload_n (pc := 73) dX8_init_73 rfl ?_
  refine av_getR (pc := 74) dX8_init_74 k_fl_X8_10 rfl (by omega) rfl (b := 1) rfl ?_
  refine av_aload_n (pc := 77) dX8_init_77 rfl ?_
  refine av_getR (pc := 78) dX8_init_78 k_fl_X8_21 rfl (by omega) rfl (b := 17) rfl ?_
  refine av_init z_E0k (pc := 81) (As := [zr 1, zr 17]) (c_X2_init hz) k_X2_init dX8_init_81 (Or.inl k_ml_X8_43) rfl ⟨Nat.le_of_ble_eq_true rfl, Nat.le_of_ble_eq_true rfl⟩ ⟨Nat.le_of_ble_eq_true rfl, Nat.le_of_ble_eq_true rfl⟩ rfl (Nat.le_of_ble_eq_true rfl) ?_
  have hz := z_mZ 231 (hi := 233) hz
  refine av_putR (pc := 84) dX8_init_84 k_fl_X8_44 rfl (fun _ => ⟨rfl, rfl⟩) rfl rfl (by omega) rfl hz (fun hz => ?_)
  refine av_aload_n (pc := 87) dX8_init_87 rfl ?_
  refine av_new (pc := 88) (sz' := 234) dX8_init_88 k_nw_X8_48 (by omega) rfl hz ⟨Nat.le_of_ble_eq_true rfl, Nat.le_of_ble_eq_true rfl⟩ rfl (fun hz => ?_)
  refine av_dup (pc := 91) dX8_init_91 (fun _ h => by cases h) ?_
  refine av_aload_n (pc := 92) dX8_init_92 rfl ?_
  refine av_getR (pc := 93) dX8_init_93 k_fl_X8_10 rfl (by omega) rfl (b := 1) rfl ?_
  refine av_init z_E0k (pc := 96) (As := [zr 1]) (c_X0_init hz) k_X0_init dX8_init_96 (Or.inl k_ml_X8_50) rfl ⟨Nat.le_of_ble_eq_true rfl, Nat.le_of_ble_eq_true rfl⟩ ⟨Nat.le_of_ble_eq_true rfl, Nat.le_of_ble_eq_true rfl⟩ rfl (Nat.le_of_ble_eq_true rfl) ?_
  have hz := z_mZ 233 (hi := 234) hz
  refine av_putR (pc := 99) dX8_init_99 k_fl_X8_51 rfl (fun _ => ⟨rfl, rfl⟩) rfl rfl (by omega) rfl hz (fun hz => ?_)
  refine av_aload_n (pc := 102) dX8_init_102 rfl ?_
  refine av_new (pc := 103) (sz' := 235) dX8_init_103 k_nw_X8_55 (by omega) rfl hz ⟨Nat.le_of_ble_eq_true rfl, Nat.le_of_ble_eq_true rfl⟩ rfl (fun hz => ?_)
  refine av_dup (pc := 106) dX8_init_106 (fun _ h => by cases h) ?_
  refine av_aload_n (pc := 107) dX8_init_107 rfl ?_
  refine av_getR (pc := 108) dX8_init_108 k_fl_X8_10 rfl (by omega) rfl (b := 1) rfl ?_
  refine av_init z_E0k (pc := 111) (As := [zr 1]) (c_X1_init hz) k_X1_init dX8_init_111 (Or.inl k_ml_X8_57) rfl ⟨Nat.le_of_ble_eq_true rfl, Nat.le_of_ble_eq_true rfl⟩ ⟨Nat.le_of_ble_eq_true rfl, Nat.le_of_ble_eq_true rfl⟩ rfl (Nat.le_of_ble_eq_true rfl) ?_
  have hz := z_mZ 234 (hi := 237) hz
  refine av_putR (pc := 114) dX8_init_114 k_fl_X8_58 rfl (fun _ => ⟨rfl, rfl⟩) rfl rfl (by omega) rfl hz (fun hz => ?_)
  refine av_cg (z_Rc9.of (R' := z_mR 0 237 R) fun b hb k hr => ?_) (av_return (pc := 117) dX8_init_117 rfl ⟨Nat.le_of_ble_eq_true rfl, Nat.le_of_ble_eq_true rfl⟩ ⟨rfl, rfl, rfl, rfl, rfl⟩)
  rcases z_relC (by omega) hr with rfl | rfl | rfl | rfl | rfl | rfl | rfl | rfl | rfl | rfl | rfl | h
  · rcases z_rel0 hr with rfl | rfl | rfl | rfl | rfl | rfl | rfl
    all_goals rfl
  · rfl
  · rfl
  · rfl
  · rfl
  · rfl
  · rfl
  · rfl
  · rfl
  · rfl
  · exfalso; omega
  · unfold z_mR
    simp only [z_up_a _ _ (show b ≠ 0 by omega)]
    rw [if_neg (by omega), if_neg (by omega), if_neg (by omega), if_neg (by omega), if_neg (by omega), if_pos (by omega), if_pos (by omega)]
