def z_C (I : AwI) (c : Nat) : Prop := (∀ n, -1000 ≤ I (19 + 5 * c + 1) n ∧ I (19 + 5 * c + 1) n ≤ 1000) ∧ (∀ n, -1000 ≤ I (19 + 5 * c + 2) n ∧ I (19 + 5 * c + 2) n ≤ 1000) ∧ (∀ n, -1000 ≤ I (19 + 5 * c + 3) n ∧ I (19 + 5 * c + 3) n ≤ 1000) ∧ (∀ n, -1000 ≤ I (19 + 5 * c + 4) n ∧ I (19 + 5 * c + 4) n ≤ 1000) ∧ (-200000 ≤ I (19 + 5 * c) 4 ∧ I (19 + 5 * c) 4 ≤ 200000) ∧ (0 ≤ I (19 + 5 * c) 5 ∧ I (19 + 5 * c) 5 ≤ 3) ∧ (0 ≤ I (19 + 5 * c) 6 ∧ I (19 + 5 * c) 6 ≤ 3) ∧ (-1000 ≤ I (19 + 5 * c) 7 ∧ I (19 + 5 * c) 7 ≤ 1000) ∧ (-1000 ≤ I (19 + 5 * c) 8 ∧ I (19 + 5 * c) 8 ≤ 1000)
theorem z_C.f {I : AwI} {c : Nat} (h : z_C I c) (n : Nat) : -1000 ≤ I (19 + 5 * c + 1) n ∧ I (19 + 5 * c + 1) n ≤ 1000 := h.1 n
theorem z_C.rt {I : AwI} {c : Nat} (h : z_C I c) (n : Nat) : -1000 ≤ I (19 + 5 * c + 2) n ∧ I (19 + 5 * c + 2) n ≤ 1000 := h.2.1 n
theorem z_C.lt {I : AwI} {c : Nat} (h : z_C I c) (n : Nat) : -1000 ≤ I (19 + 5 * c + 3) n ∧ I (19 + 5 * c + 3) n ≤ 1000 := h.2.2.1 n
theorem z_C.ht {I : AwI} {c : Nat} (h : z_C I c) (n : Nat) : -1000 ≤ I (19 + 5 * c + 4) n ∧ I (19 + 5 * c + 4) n ≤ 1000 := h.2.2.2.1 n
theorem z_C.r {I : AwI} {c : Nat} (h : z_C I c) : -200000 ≤ I (19 + 5 * c) 4 ∧ I (19 + 5 * c) 4 ≤ 200000 := h.2.2.2.2.1
theorem z_C.kd {I : AwI} {c : Nat} (h : z_C I c) : 0 ≤ I (19 + 5 * c) 5 ∧ I (19 + 5 * c) 5 ≤ 3 := h.2.2.2.2.2.1
theorem z_C.ag {I : AwI} {c : Nat} (h : z_C I c) : 0 ≤ I (19 + 5 * c) 6 ∧ I (19 + 5 * c) 6 ≤ 3 := h.2.2.2.2.2.2.1
theorem z_C.dv {I : AwI} {c : Nat} (h : z_C I c) : -1000 ≤ I (19 + 5 * c) 7 ∧ I (19 + 5 * c) 7 ≤ 1000 := h.2.2.2.2.2.2.2.1
theorem z_C.cr {I : AwI} {c : Nat} (h : z_C I c) : -1000 ≤ I (19 + 5 * c) 8 ∧ I (19 + 5 * c) 8 ≤ 1000 := h.2.2.2.2.2.2.2.2
/-- the strength of the cut in cell c, times the scale -/
def z_cst (I J : AwI) (c : Nat) : Int := z_sm (fun n => I (19 + 5 * c + 1) n * J 4 n) (I 1 5) - I (19 + 5 * c) 4 * 27720
theorem z_cst_b {I J : AwI} {c : Nat} (h : z_M I J) (hc : z_C I c) : -100000000000 ≤ z_cst I J c ∧ z_cst I J c ≤ 100000000000 := by
  have h1 := z_sm_b (f := fun n => I (19 + 5 * c + 1) n * J 4 n) (1000 * 11088000) (I 1 5) 8 (by have := h.nm; omega) (by omega) (fun k => z_mulb (hc.f k) (h.pt k))
  have h2 := hc.r
  unfold z_cst
  omega
set_option maxHeartbeats 4000000 in
theorem c_X6_clashAnywhere {π : Nat → Nat} {I J : AwI} {a b : Int} (h : z_M I J) (ha : 0 ≤ a ∧ a < 8) (hb : 0 ≤ b ∧ b < 8) : CT m_X6_clashAnywhere [zr 1, zi a, zi b] 255 I J (z_R π) (z_P (some (zi (z_bl (z_cn2 I a.toNat b.toNat)))) 255 I J (z_R π)) := by
  refine CT.of (by decide) (Nat.le_of_ble_eq_true rfl) ?_
  show AW _ 0 0 _ 0 [some (zr 1), some (zi a), some (zi b), none] [] _ _ _
  have hrw := h.rw
  have loop : ∀ (k : Nat) (x : Int), 0 ≤ x → x + k = I 1 6 → (∀ r : Nat, (r : Int) < x → ¬ z_ci I r a.toNat b.toNat) → AW (FM m_X6_clashAnywhere (z_P (some (zi (z_bl (z_cn2 I a.toNat b.toNat)))) 255 I J (z_R π))) 0 0 255 2 [some (zr 1), some (zi a), some (zi b), some (zi x)] [] I J (z_R π) := by
    intro k
    induction k with
    | zero =>
      intro x hx he hi
      refine aw_iload_n (pc := 2) dX6_clashAnywhere_2 rfl ?_
      refine aw_aload_n (pc := 3) dX6_clashAnywhere_3 rfl ?_
      refine aw_getI (pc := 4) dX6_clashAnywhere_4 k_fl_X6_34 rfl (by omega) (by first | rfl | exact z_shr _ (by omega) | exact z_shc0 (by omega) | exact z_shc1 (by omega) | exact z_shc2 (by omega) | exact z_shc3 (by omega) | exact z_shc4 (by omega)) ?_
      refine aw_icmp_ge (pc := 7) (tgt := 28) dX6_clashAnywhere_7 rfl (by first | omega | exact z_bl_r _) (by first | omega | exact z_bl_r _) (fun h7 => ?_) (fun h7 => absurd h7 (by omega))
      refine aw_iconst (pc := 28) dX6_clashAnywhere_28 ?_
      exact aw_zreturn (pc := 29) dX6_clashAnywhere_29 rfl (by first | exact Or.inl rfl | exact Or.inr rfl | omega) ⟨Nat.zero_le _, Nat.zero_le _⟩ (⟨z_r0 (fun q => by obtain ⟨r, h1, h2⟩ := q; exact hi r (by omega) h2), rfl, rfl, rfl, rfl⟩)
    | succ k ih =>
      intro x hx he hi
      refine aw_iload_n (pc := 2) dX6_clashAnywhere_2 rfl ?_
      refine aw_aload_n (pc := 3) dX6_clashAnywhere_3 rfl ?_
      refine aw_getI (pc := 4) dX6_clashAnywhere_4 k_fl_X6_34 rfl (by omega) (by first | rfl | exact z_shr _ (by omega) | exact z_shc0 (by omega) | exact z_shc1 (by omega) | exact z_shc2 (by omega) | exact z_shc3 (by omega) | exact z_shc4 (by omega)) ?_
      refine aw_icmp_ge (pc := 7) (tgt := 28) dX6_clashAnywhere_7 rfl (by first | omega | exact z_bl_r _) (by first | omega | exact z_bl_r _) (fun h7 => absurd h7 (by omega)) (fun h7 => ?_)
      refine aw_aload_n (pc := 10) dX6_clashAnywhere_10 rfl ?_
      refine aw_iload_n (pc := 11) dX6_clashAnywhere_11 rfl ?_
      refine aw_iload_n (pc := 12) dX6_clashAnywhere_12 rfl ?_
      refine aw_iload_n (pc := 13) dX6_clashAnywhere_13 rfl ?_
      refine aw_qV (pc := 14) (d := m_X6_clashIn) (c_X6_clashIn h (by omega) ha hb) k_X6_clashIn dX6_clashAnywhere_14 k_ml_X6_43 rfl ⟨rfl, rfl⟩ (by omega) (by first | rfl | exact z_shr _ (by omega) | exact z_shc0 (by omega) | exact z_shc1 (by omega) | exact z_shc2 (by omega) | exact z_shc3 (by omega) | exact z_shc4 (by omega)) rfl ⟨Nat.le_of_ble_eq_true rfl, Nat.le_of_ble_eq_true rfl⟩ ⟨Nat.zero_le _, Nat.zero_le _⟩ rfl (Nat.le_of_ble_eq_true rfl) (z_Pk ?_)
      refine aw_if_eq (pc := 17) (tgt := 22) dX6_clashAnywhere_17 rfl (by first | omega | exact z_bl_r _) (fun h17 => ?_) (fun h17 => ?_)
      · refine aw_iinc (pc := 22) (lv' := [_, _, _, _]) dX6_clashAnywhere_22 (Nat.le_of_ble_eq_true rfl) rfl rfl ?_
        refine aw_goto (pc := 25) (tgt := 2) dX6_clashAnywhere_25 rfl ?_
        exact ih (x + 1) (by omega) (by omega) (fun r h1 => by
          by_cases e : (r : Int) < x
          · exact hi r e
          · rw [show r = x.toNat by omega]
            exact z_bl_0.mp h17)
      · refine aw_iconst (pc := 20) dX6_clashAnywhere_20 ?_
        exact aw_zreturn (pc := 21) dX6_clashAnywhere_21 rfl (by first | exact Or.inl rfl | exact Or.inr rfl | omega) ⟨Nat.zero_le _, Nat.zero_le _⟩ (⟨z_r1 ⟨x.toNat, by omega, z_bl_n.mp h17⟩, rfl, rfl, rfl, rfl⟩)
  refine aw_iconst (pc := 0) dX6_clashAnywhere_0 ?_
  refine aw_istore_n (pc := 1) (lv' := [_, _, _, _]) dX6_clashAnywhere_1 (Nat.le_of_ble_eq_true rfl) rfl ?_
  exact loop (I 1 6).toNat 0 (by omega) (by omega) (fun r h => by omega)
set_option maxHeartbeats 4000000 in
theorem c_X6_choices {π : Nat → Nat} {I J : AwI} (h : z_M I J) : CT m_X6_choices [zr 1] 255 I J (z_R π) (z_P (some (zl (z_pm (fun n => I 3 n - I 2 n + 1) (I 1 5)))) 255 I J (z_R π)) := by
  refine CT.of (by decide) (Nat.le_of_ble_eq_true rfl) ?_
  show AW _ 0 0 _ 0 [some (zr 1), none, none, none] [] _ _ _
  have hnm := h.nm
  have loop : ∀ (k : Nat) (x : Int), 0 ≤ x → x + k = I 1 5 → AW (FM m_X6_choices (z_P (some (zl (z_pm (fun n => I 3 n - I 2 n + 1) (I 1 5)))) 255 I J (z_R π))) 0 0 255 4 [some (zr 1), some (zl (z_pm (fun n => I 3 n - I 2 n + 1) x)), none, some (zi x)] [] I J (z_R π) := by
    intro k
    induction k with
    | zero =>
      intro x hx he
      have he : x = I 1 5 := by omega
      refine aw_iload_n (pc := 4) dX6_choices_4 rfl ?_
      refine aw_aload_n (pc := 5) dX6_choices_5 rfl ?_
      refine aw_getI (pc := 6) dX6_choices_6 k_fl_X6_30 rfl (by omega) (by first | rfl | exact z_shr _ (by omega) | exact z_shc0 (by omega) | exact z_shc1 (by omega) | exact z_shc2 (by omega) | exact z_shc3 (by omega) | exact z_shc4 (by omega)) ?_
      refine aw_icmp_ge (pc := 9) (tgt := 37) dX6_choices_9 rfl (by first | omega | exact z_bl_r _) (by first | omega | exact z_bl_r _) (fun h9 => ?_) (fun h9 => absurd h9 (by omega))
      refine aw_lload_n (pc := 37) dX6_choices_37 rfl ?_
      exact aw_lreturn (pc := 38) dX6_choices_38 rfl ⟨Nat.zero_le _, Nat.zero_le _⟩ (⟨by rw [he], rfl, rfl, rfl, rfl⟩)
    | succ k ih =>
      intro x hx he
      refine aw_iload_n (pc := 4) dX6_choices_4 rfl ?_
      refine aw_aload_n (pc := 5) dX6_choices_5 rfl ?_
      refine aw_getI (pc := 6) dX6_choices_6 k_fl_X6_30 rfl (by omega) (by first | rfl | exact z_shr _ (by omega) | exact z_shc0 (by omega) | exact z_shc1 (by omega) | exact z_shc2 (by omega) | exact z_shc3 (by omega) | exact z_shc4 (by omega)) ?_
      refine aw_icmp_ge (pc := 9) (tgt := 37) dX6_choices_9 rfl (by first | omega | exact z_bl_r _) (by first | omega | exact z_bl_r _) (fun h9 => absurd h9 (by omega)) (fun h9 => ?_)
      have h1 := h.lo x.toNat
      have h2 := h.hi x.toNat
      refine aw_lload_n (pc := 12) dX6_choices_12 rfl ?_
      refine aw_aload_n (pc := 13) dX6_choices_13 rfl ?_
      refine aw_getR (pc := 14) dX6_choices_14 k_fl_X6_15 rfl (by omega) (by first | rfl | exact z_shr _ (by omega) | exact z_shc0 (by omega) | exact z_shc1 (by omega) | exact z_shc2 (by omega) | exact z_shc3 (by omega) | exact z_shc4 (by omega)) (by first | rfl | exact z_Rc0 _ (by omega) | exact z_Rc1 _ (by omega) | exact z_Rc2 _ (by omega) | exact z_Rc3 _ (by omega)) ?_
      refine aw_iload_n (pc := 17) dX6_choices_17 rfl ?_
      refine aw_iaload (pc := 18) dX6_choices_18 (by omega) (Nat.le_refl _) (by first | rfl | exact z_shr _ (by omega) | exact z_shc0 (by omega) | exact z_shc1 (by omega) | exact z_shc2 (by omega) | exact z_shc3 (by omega) | exact z_shc4 (by omega)) (by first | omega | exact z_bl_r _) ?_
      refine aw_aload_n (pc := 19) dX6_choices_19 rfl ?_
      refine aw_getR (pc := 20) dX6_choices_20 k_fl_X6_9 rfl (by omega) (by first | rfl | exact z_shr _ (by omega) | exact z_shc0 (by omega) | exact z_shc1 (by omega) | exact z_shc2 (by omega) | exact z_shc3 (by omega) | exact z_shc4 (by omega)) (by first | rfl | exact z_Rc0 _ (by omega) | exact z_Rc1 _ (by omega) | exact z_Rc2 _ (by omega) | exact z_Rc3 _ (by omega)) ?_
      refine aw_iload_n (pc := 23) dX6_choices_23 rfl ?_
      refine aw_iaload (pc := 24) dX6_choices_24 (by omega) (Nat.le_refl _) (by first | rfl | exact z_shr _ (by omega) | exact z_shc0 (by omega) | exact z_shc1 (by omega) | exact z_shc2 (by omega) | exact z_shc3 (by omega) | exact z_shc4 (by omega)) (by first | omega | exact z_bl_r _) ?_
      refine aw_isub (pc := 25) dX6_choices_25 ?_
      refine aw_iconst (pc := 26) dX6_choices_26 ?_
      refine aw_iadd (pc := 27) dX6_choices_27 ?_
      refine aw_i2l (pc := 28) dX6_choices_28 (by first | omega | exact z_bl_r _) ?_
      refine aw_lmul (pc := 29) dX6_choices_29 ?_
      refine aw_lstore_n (pc := 30) (lv' := [_, _, _, _]) dX6_choices_30 (Nat.le_of_ble_eq_true rfl) rfl ?_
      refine aw_iinc (pc := 31) (lv' := [_, _, _, _]) dX6_choices_31 (Nat.le_of_ble_eq_true rfl) rfl rfl ?_
      refine aw_goto (pc := 34) (tgt := 4) dX6_choices_34 rfl ?_
      rw [← z_pm_s (fun n => I 3 n - I 2 n + 1) hx]
      exact ih (x + 1) (by omega) (by omega)
  refine aw_lconst (pc := 0) (v := 1) dX6_choices_0 rfl ?_
  refine aw_lstore_n (pc := 1) (lv' := [_, _, _, _]) dX6_choices_1 (Nat.le_of_ble_eq_true rfl) rfl ?_
  refine aw_iconst (pc := 2) dX6_choices_2 ?_
  refine aw_istore_n (pc := 3) (lv' := [_, _, _, _]) dX6_choices_3 (Nat.le_of_ble_eq_true rfl) rfl ?_
  exact loop (I 1 5).toNat 0 (by omega) (by omega)
set_option maxHeartbeats 4000000 in
theorem c_X6_scaledStrength {π : Nat → Nat} {I J : AwI} {c : Nat} (h : z_M I J) (hk : c < 41) (hc : z_C I c) : CT m_X6_scaledStrength [zr 1, zr (19 + 5 * c)] 255 I J (z_R π) (z_P (some (zl (z_cst I J c))) 255 I J (z_R π)) := by
  refine CT.of (by decide) (Nat.le_of_ble_eq_true rfl) ?_
  show AW _ 0 0 _ 0 [some (zr 1), some (zr (19 + 5 * c)), none, none, none] [] _ _ _
  have hnm := h.nm
  have loop : ∀ (k : Nat) (x : Int), 0 ≤ x → x + k = I 1 5 → AW (FM m_X6_scaledStrength (z_P (some (zl (z_cst I J c))) 255 I J (z_R π))) 0 0 255 5 [some (zr 1), some (zr (19 + 5 * c)), some (zl (z_sm (fun n => I (19 + 5 * c + 1) n * J 4 n) x)), none, some (zi x)] [] I J (z_R π) := by
    intro k
    induction k with
    | zero =>
      intro x hx he
      have he : x = I 1 5 := by omega
      refine aw_iload (pc := 5) dX6_scaledStrength_5 rfl ?_
      refine aw_aload_n (pc := 7) dX6_scaledStrength_7 rfl ?_
      refine aw_getI (pc := 8) dX6_scaledStrength_8 k_fl_X6_30 rfl (by omega) (by first | rfl | exact z_shr _ (by omega) | exact z_shc0 (by omega) | exact z_shc1 (by omega) | exact z_shc2 (by omega) | exact z_shc3 (by omega) | exact z_shc4 (by omega)) ?_
      refine aw_icmp_ge (pc := 11) (tgt := 39) dX6_scaledStrength_11 rfl (by first | omega | exact z_bl_r _) (by first | omega | exact z_bl_r _) (fun h11 => ?_) (fun h11 => absurd h11 (by omega))
      have h2 := hc.r
      refine aw_lload_n (pc := 39) dX6_scaledStrength_39 rfl ?_
      refine aw_aload_n (pc := 40) dX6_scaledStrength_40 rfl ?_
      refine aw_getI (pc := 41) dX6_scaledStrength_41 k_fl_X6_55 rfl (by omega) (by first | rfl | exact z_shr _ (by omega) | exact z_shc0 (by omega) | exact z_shc1 (by omega) | exact z_shc2 (by omega) | exact z_shc3 (by omega) | exact z_shc4 (by omega)) ?_
      refine aw_i2l (pc := 44) dX6_scaledStrength_44 (by first | omega | exact z_bl_r _) ?_
      refine aw_ldc2 (pc := 45) (v := 27720) dX6_scaledStrength_45 k_cst_X6_58 ?_
      refine aw_lmul (pc := 48) dX6_scaledStrength_48 ?_
      refine aw_lsub (pc := 49) dX6_scaledStrength_49 ?_
      exact aw_lreturn (pc := 50) dX6_scaledStrength_50 rfl ⟨Nat.zero_le _, Nat.zero_le _⟩ (⟨by unfold z_cst; rw [he], rfl, rfl, rfl, rfl⟩)
    | succ k ih =>
      intro x hx he
      refine aw_iload (pc := 5) dX6_scaledStrength_5 rfl ?_
      refine aw_aload_n (pc := 7) dX6_scaledStrength_7 rfl ?_
      refine aw_getI (pc := 8) dX6_scaledStrength_8 k_fl_X6_30 rfl (by omega) (by first | rfl | exact z_shr _ (by omega) | exact z_shc0 (by omega) | exact z_shc1 (by omega) | exact z_shc2 (by omega) | exact z_shc3 (by omega) | exact z_shc4 (by omega)) ?_
      refine aw_icmp_ge (pc := 11) (tgt := 39) dX6_scaledStrength_11 rfl (by first | omega | exact z_bl_r _) (by first | omega | exact z_bl_r _) (fun h11 => absurd h11 (by omega)) (fun h11 => ?_)
      have h1 := hc.f x.toNat
      refine aw_lload_n (pc := 14) dX6_scaledStrength_14 rfl ?_
      refine aw_aload_n (pc := 15) dX6_scaledStrength_15 rfl ?_
      refine aw_getR (pc := 16) dX6_scaledStrength_16 k_fl_X6_51 rfl (by omega) (by first | rfl | exact z_shr _ (by omega) | exact z_shc0 (by omega) | exact z_shc1 (by omega) | exact z_shc2 (by omega) | exact z_shc3 (by omega) | exact z_shc4 (by omega)) (by first | rfl | exact z_Rc0 _ (by omega) | exact z_Rc1 _ (by omega) | exact z_Rc2 _ (by omega) | exact z_Rc3 _ (by omega)) ?_
      refine aw_iload (pc := 19) dX6_scaledStrength_19 rfl ?_
      refine aw_iaload (pc := 21) dX6_scaledStrength_21 (by omega) (Nat.le_refl _) (by first | rfl | exact z_shr _ (by omega) | exact z_shc0 (by omega) | exact z_shc1 (by omega) | exact z_shc2 (by omega) | exact z_shc3 (by omega) | exact z_shc4 (by omega)) (by first | omega | exact z_bl_r _) ?_
      refine aw_i2l (pc := 22) dX6_scaledStrength_22 (by first | omega | exact z_bl_r _) ?_
      refine aw_aload_n (pc := 23) dX6_scaledStrength_23 rfl ?_
      refine aw_getR (pc := 24) dX6_scaledStrength_24 k_fl_X6_18 rfl (by omega) (by first | rfl | exact z_shr _ (by omega) | exact z_shc0 (by omega) | exact z_shc1 (by omega) | exact z_shc2 (by omega) | exact z_shc3 (by omega) | exact z_shc4 (by omega)) (by first | rfl | exact z_Rc0 _ (by omega) | exact z_Rc1 _ (by omega) | exact z_Rc2 _ (by omega) | exact z_Rc3 _ (by omega)) ?_
      refine aw_iload (pc := 27) dX6_scaledStrength_27 rfl ?_
      refine aw_laload (pc := 29) dX6_scaledStrength_29 (by omega) (Nat.le_refl _) (by first | rfl | exact z_shr _ (by omega) | exact z_shc0 (by omega) | exact z_shc1 (by omega) | exact z_shc2 (by omega) | exact z_shc3 (by omega) | exact z_shc4 (by omega)) (by first | omega | exact z_bl_r _) ?_
      refine aw_lmul (pc := 30) dX6_scaledStrength_30 ?_
      refine aw_ladd (pc := 31) dX6_scaledStrength_31 ?_
      refine aw_lstore_n (pc := 32) (lv' := [_, _, _, _, _]) dX6_scaledStrength_32 (Nat.le_of_ble_eq_true rfl) rfl ?_
      refine aw_iinc (pc := 33) (lv' := [_, _, _, _, _]) dX6_scaledStrength_33 (Nat.le_of_ble_eq_true rfl) rfl rfl ?_
      refine aw_goto (pc := 36) (tgt := 5) dX6_scaledStrength_36 rfl ?_
      rw [← z_sm_s (fun n => I (19 + 5 * c + 1) n * J 4 n) hx]
      exact ih (x + 1) (by omega) (by omega)
  refine aw_lconst (pc := 0) (v := 0) dX6_scaledStrength_0 rfl ?_
  refine aw_lstore_n (pc := 1) (lv' := [_, _, _, _, _]) dX6_scaledStrength_1 (Nat.le_of_ble_eq_true rfl) rfl ?_
  refine aw_iconst (pc := 2) dX6_scaledStrength_2 ?_
  refine aw_istore (pc := 3) (lv' := [_, _, _, _, _]) dX6_scaledStrength_3 (Nat.le_of_ble_eq_true rfl) rfl ?_
  exact loop (I 1 5).toNat 0 (by omega) (by omega)
set_option maxHeartbeats 4000000 in
theorem c_fill {π : Nat → Nat} {I J : AwI} {a n : Nat} {v : Int} (ha : a < 255) (hs : z_sh a = (0, n)) (hn : n ≤ 2000) : CT m_J7_fill_53178 [zr a, zi v] 255 I J (z_R π) (z_P none 255 (z_fl I a n v) J (z_R π)) := by
  refine CT.of (by decide) (Nat.le_of_ble_eq_true rfl) ?_
  show AW _ 0 0 _ 0 [some (zr a), some (zi v), none, none] [] _ _ _
  have loop : ∀ (k : Nat) (x : Int), 0 ≤ x → x + k = n → AW (FM m_J7_fill_53178 (z_P none 255 (z_fl I a n v) J (z_R π))) 0 0 255 5 [some (zr a), some (zi v), some (zi x), some (zi (n : Int))] [] (z_fl I a x.toNat v) J (z_R π) := by
    intro k
    induction k with
    | zero =>
      intro x hx he
      refine aw_iload_n (pc := 5) dJ7_fill_53178_5 rfl ?_
      refine aw_iload_n (pc := 6) dJ7_fill_53178_6 rfl ?_
      refine aw_icmp_ge (pc := 7) (tgt := 20) dJ7_fill_53178_7 rfl (by first | omega | exact z_bl_r _) (by first | omega | exact z_bl_r _) (fun h7 => ?_) (fun h7 => absurd h7 (by omega))
      exact aw_return (pc := 20) dJ7_fill_53178_20 rfl ⟨Nat.zero_le _, Nat.zero_le _⟩ (⟨rfl, rfl, by rw [show x.toNat = n by omega], rfl, rfl⟩)
    | succ k ih =>
      intro x hx he
      refine aw_iload_n (pc := 5) dJ7_fill_53178_5 rfl ?_
      refine aw_iload_n (pc := 6) dJ7_fill_53178_6 rfl ?_
      refine aw_icmp_ge (pc := 7) (tgt := 20) dJ7_fill_53178_7 rfl (by first | omega | exact z_bl_r _) (by first | omega | exact z_bl_r _) (fun h7 => absurd h7 (by omega)) (fun h7 => ?_)
      refine aw_aload_n (pc := 10) dJ7_fill_53178_10 rfl ?_
      refine aw_iload_n (pc := 11) dJ7_fill_53178_11 rfl ?_
      refine aw_iload_n (pc := 12) dJ7_fill_53178_12 rfl ?_
      refine aw_iastore (pc := 13) dJ7_fill_53178_13 (by omega) (Nat.le_refl _) hs (by first | omega | exact z_bl_r _) ?_
      refine aw_iinc (pc := 14) (lv' := [_, _, _, _]) dJ7_fill_53178_14 (Nat.le_of_ble_eq_true rfl) rfl rfl ?_
      refine aw_goto (pc := 17) (tgt := 5) dJ7_fill_53178_17 rfl ?_
      rw [z_fl_s _ _ _ hx]
      exact ih (x + 1) (by omega) (by omega)
  refine aw_iconst (pc := 0) dJ7_fill_53178_0 ?_
  refine aw_istore_n (pc := 1) (lv' := [_, _, _, _]) dJ7_fill_53178_1 (Nat.le_of_ble_eq_true rfl) rfl ?_
  refine aw_aload_n (pc := 2) dJ7_fill_53178_2 rfl ?_
  refine aw_alen (pc := 3) dJ7_fill_53178_3 (by omega) (Nat.le_refl _) hs (by omega) ?_
  refine aw_istore_n (pc := 4) (lv' := [_, _, _, _]) dJ7_fill_53178_4 (Nat.le_of_ble_eq_true rfl) rfl ?_
  have e := loop n 0 (by omega) (by omega)
  rw [show (0 : Int).toNat = 0 from rfl, z_fl_0] at e
  exact e
set_option maxHeartbeats 4000000 in
theorem c_X8_isIn {R : AwR} {I J : AwI} {s w : Nat} (hs : s < 2147483648) (hw : w < 31) : CT m_X8_isIn [zi (s : Int), zi (w : Int)] 255 I J R (z_P (some (zi (z_bl (s.testBit w = true)))) 255 I J R) := by
  refine CT.of (by decide) (Nat.le_of_ble_eq_true rfl) ?_
  show AW _ 0 0 _ 0 [some (zi (s : Int)), some (zi (w : Int))] [] _ _ _
  refine aw_iload_n (pc := 0) dX8_isIn_0 rfl ?_
  refine aw_iload_n (pc := 1) dX8_isIn_1 rfl ?_
  refine aw_shr (pc := 2) dX8_isIn_2 rfl rfl (by omega) (by omega) ?_
  refine aw_iconst (pc := 3) dX8_isIn_3 ?_
  refine aw_iand (pc := 4) dX8_isIn_4 rfl (b := 1) rfl ?_
  refine aw_iconst (pc := 5) dX8_isIn_5 ?_
  refine aw_icmp_ne (pc := 6) (tgt := 13) dX8_isIn_6 rfl (by rw [Nat.and_one_is_mod]; omega) (by omega) (fun h6 => ?_) (fun h6 => ?_)
  · refine aw_iconst (pc := 13) dX8_isIn_13 ?_
    exact aw_zreturn (pc := 14) dX8_isIn_14 rfl (by first | exact Or.inl rfl | exact Or.inr rfl | omega) ⟨Nat.zero_le _, Nat.zero_le _⟩ (⟨by first | exact z_r1 (by rw [Nat.testBit_eq_decide_div_mod_eq, decide_eq_true_eq]; rw [Nat.and_one_is_mod] at h6; omega) | exact z_r0 (by rw [Nat.testBit_eq_decide_div_mod_eq, decide_eq_true_eq]; rw [Nat.and_one_is_mod] at h6; omega), rfl, rfl, rfl, rfl⟩)
  · refine aw_iconst (pc := 9) dX8_isIn_9 ?_
    refine aw_goto (pc := 10) (tgt := 14) dX8_isIn_10 rfl ?_
    exact aw_zreturn (pc := 14) dX8_isIn_14 rfl (by first | exact Or.inl rfl | exact Or.inr rfl | omega) ⟨Nat.zero_le _, Nat.zero_le _⟩ (⟨by first | exact z_r1 (by rw [Nat.testBit_eq_decide_div_mod_eq, decide_eq_true_eq]; rw [Nat.and_one_is_mod] at h6; omega) | exact z_r0 (by rw [Nat.testBit_eq_decide_div_mod_eq, decide_eq_true_eq]; rw [Nat.and_one_is_mod] at h6; omega), rfl, rfl, rfl, rfl⟩)
set_option maxHeartbeats 4000000 in
theorem c_X8_isBeyond {R : AwR} {I J : AwI} {v t : Int} (hv : -2147483648 ≤ v ∧ v ≤ 2147483647) (ht : 0 ≤ t ∧ t ≤ 20000) : CT m_X8_isBeyond [zi v, zi t] 255 I J R (z_P (some (zi (z_bl (v < -t ∨ t < v)))) 255 I J R) := by
  refine CT.of (by decide) (Nat.le_of_ble_eq_true rfl) ?_
  show AW _ 0 0 _ 0 [some (zi v), some (zi t)] [] _ _ _
  refine aw_iload_n (pc := 0) dX8_isBeyond_0 rfl ?_
  refine aw_iload_n (pc := 1) dX8_isBeyond_1 rfl ?_
  refine aw_ineg (pc := 2) dX8_isBeyond_2 ?_
  refine aw_icmp_lt (pc := 3) (tgt := 11) dX8_isBeyond_3 rfl (by first | omega | exact z_bl_r _) (by first | omega | exact z_bl_r _) (fun h3 => ?_) (fun h3 => ?_)
  · refine aw_iconst (pc := 11) dX8_isBeyond_11 ?_
    refine aw_goto (pc := 12) (tgt := 16) dX8_isBeyond_12 rfl ?_
    exact aw_zreturn (pc := 16) dX8_isBeyond_16 rfl (by first | exact Or.inl rfl | exact Or.inr rfl | omega) ⟨Nat.zero_le _, Nat.zero_le _⟩ (⟨by first | exact z_r1 (by omega) | exact z_r0 (by omega), rfl, rfl, rfl, rfl⟩)
  · refine aw_iload_n (pc := 6) dX8_isBeyond_6 rfl ?_
    refine aw_iload_n (pc := 7) dX8_isBeyond_7 rfl ?_
    refine aw_icmp_le (pc := 8) (tgt := 15) dX8_isBeyond_8 rfl (by first | omega | exact z_bl_r _) (by first | omega | exact z_bl_r _) (fun h8 => ?_) (fun h8 => ?_)
    · refine aw_iconst (pc := 15) dX8_isBeyond_15 ?_
      exact aw_zreturn (pc := 16) dX8_isBeyond_16 rfl (by first | exact Or.inl rfl | exact Or.inr rfl | omega) ⟨Nat.zero_le _, Nat.zero_le _⟩ (⟨by first | exact z_r1 (by omega) | exact z_r0 (by omega), rfl, rfl, rfl, rfl⟩)
    · refine aw_iconst (pc := 11) dX8_isBeyond_11 ?_
      refine aw_goto (pc := 12) (tgt := 16) dX8_isBeyond_12 rfl ?_
      exact aw_zreturn (pc := 16) dX8_isBeyond_16 rfl (by first | exact Or.inl rfl | exact Or.inr rfl | omega) ⟨Nat.zero_le _, Nat.zero_le _⟩ (⟨by first | exact z_r1 (by omega) | exact z_r0 (by omega), rfl, rfl, rfl, rfl⟩)
