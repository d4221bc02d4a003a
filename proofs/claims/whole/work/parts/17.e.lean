def z_aa (J : AwI) (q : Nat × (Nat → Nat) × AwI) (k : Nat) : Int := if z_cst q.2.2 J (q.2.1 k) < 0 then q.2.2 (19 + 5 * q.2.1 k) 6 + 1 else 0
theorem z_ag_1 {J : AwI} {π : Nat → Nat} {I : AwI} {k : Nat} (h : z_aa J (z_ag J π I k) k < 3) : z_ag J π I (k + 1) = ((z_ag J π I k).1 + 1, va_up (va_up (z_ag J π I k).2.1 k ((z_ag J π I k).2.1 (z_ag J π I k).1)) (z_ag J π I k).1 ((z_ag J π I k).2.1 k), z_up (z_ag J π I k).2.2 (19 + 5 * (z_ag J π I k).2.1 k) 6 (z_aa J (z_ag J π I k) k)) := by
  show (if z_aa J (z_ag J π I k) k < 3 then _ else _) = _
  rw [if_pos h]
  rfl
theorem z_ag_0 {J : AwI} {π : Nat → Nat} {I : AwI} {k : Nat} (h : ¬ z_aa J (z_ag J π I k) k < 3) : z_ag J π I (k + 1) = ((z_ag J π I k).1, (z_ag J π I k).2.1, z_up (z_ag J π I k).2.2 (19 + 5 * (z_ag J π I k).2.1 k) 6 (z_aa J (z_ag J π I k) k)) := by
  show (if z_aa J (z_ag J π I k) k < 3 then _ else _) = _
  rw [if_neg h]
  rfl
theorem z_C.age {I : AwI} {c d : Nat} {v : Int} (h : z_C I d) (hv : 0 ≤ v ∧ v ≤ 3) : z_C (z_up I (19 + 5 * c) 6 v) d := by
  refine ⟨fun n => ?_, fun n => ?_, fun n => ?_, fun n => ?_, ?_, ?_, ?_, ?_, ?_⟩
  · rw [z_up_a _ _ (by omega)]; exact h.f n
  · rw [z_up_a _ _ (by omega)]; exact h.rt n
  · rw [z_up_a _ _ (by omega)]; exact h.lt n
  · rw [z_up_a _ _ (by omega)]; exact h.ht n
  · rw [z_up_k _ _ (by omega)]; exact h.r
  · rw [z_up_k _ _ (by omega)]; exact h.kd
  · by_cases e : d = c
    · subst e; rw [z_up_s]; exact hv
    · rw [z_up_a _ _ (by omega)]; exact h.ag
  · rw [z_up_k _ _ (by omega)]; exact h.dv
  · rw [z_up_k _ _ (by omega)]; exact h.cr
theorem z_Pi.swap {π : Nat → Nat} (h : z_Pi π) {i j : Nat} (hi : i < 41) (hj : j < 41) : z_Pi (va_up (va_up π i (π j)) j (π i)) := by
  have e : ∀ k, va_up (va_up π i (π j)) j (π i) k = if k = j then π i else if k = i then π j else π k := fun k => rfl
  refine ⟨fun k hk => ?_, fun a b ha hb hab => ?_⟩
  · rw [e]
    split
    · exact h.1 i hi
    · split
      · exact h.1 j hj
      · exact h.1 k hk
  · rw [e, e] at hab
    by_cases a1 : a = j <;> by_cases b1 : b = j
    · omega
    · rw [if_pos a1, if_neg b1] at hab
      by_cases b2 : b = i
      · rw [if_pos b2] at hab
        have := h.2 i j hi hj hab
        omega
      · rw [if_neg b2] at hab
        have := h.2 i b hi hb hab
        omega
    · rw [if_neg a1, if_pos b1] at hab
      by_cases a2 : a = i
      · rw [if_pos a2] at hab
        have := h.2 j i hj hi hab
        omega
      · rw [if_neg a2] at hab
        have := h.2 a i ha hi hab
        omega
    · rw [if_neg a1, if_neg b1] at hab
      by_cases a2 : a = i <;> by_cases b2 : b = i
      · omega
      · rw [if_pos a2, if_neg b2] at hab
        have := h.2 j b hj hb hab
        omega
      · rw [if_neg a2, if_pos b2] at hab
        have := h.2 a j ha hj hab
        omega
      · rw [if_neg a2, if_neg b2] at hab
        exact h.2 a b ha hb hab
/-- what stands while the slots are gone through -/
theorem z_ag_ok {I J : AwI} {π : Nat → Nat} (hL : z_L I π) (hA : ∀ k : Nat, (k : Int) < I 17 1 → I (19 + 5 * π k) 6 ≤ 2) : ∀ n : Nat, (n : Int) ≤ I 17 1 →
    (z_ag J π I n).1 ≤ n ∧ (∀ j, n ≤ j → (z_ag J π I n).2.1 j = π j) ∧ z_Pi (z_ag J π I n).2.1 ∧ (∀ a k, (k ≠ 6 ∨ ∀ j, j < n → a ≠ 19 + 5 * π j) → (z_ag J π I n).2.2 a k = I a k) ∧ (∀ c, c < 41 → z_C (z_ag J π I n).2.2 c) := by
  intro n
  induction n with
  | zero => intro _; exact ⟨Nat.le_refl _, fun _ _ => rfl, hL.2.1, fun _ _ _ => rfl, hL.2.2⟩
  | succ n ih =>
    intro hn
    obtain ⟨h1, h2, h3, h4, h5⟩ := ih (by omega)
    have hn4 := hL.n
    have hpn : (z_ag J π I n).2.1 n = π n := h2 n (Nat.le_refl _)
    have hp41 : π n < 41 := hL.p (by omega)
    have ha : (z_ag J π I n).2.2 (19 + 5 * π n) 6 = I (19 + 5 * π n) 6 := h4 _ _ (Or.inr (fun j hj e => by
      have := hL.2.1.2 n j (by omega) (by omega) (by omega)
      omega))
    have hag := hA n (by omega)
    have hag2 := (hL.c hp41).ag
    have haa : 0 ≤ z_aa J (z_ag J π I n) n ∧ z_aa J (z_ag J π I n) n ≤ 3 := by
      unfold z_aa
      rw [hpn, ha]
      split <;> omega
    have hfr : ∀ a k, (k ≠ 6 ∨ ∀ j, j < n + 1 → a ≠ 19 + 5 * π j) → z_up (z_ag J π I n).2.2 (19 + 5 * (z_ag J π I n).2.1 n) 6 (z_aa J (z_ag J π I n) n) a k = I a k := by
      intro a k hk
      have e1 : z_up (z_ag J π I n).2.2 (19 + 5 * (z_ag J π I n).2.1 n) 6 (z_aa J (z_ag J π I n) n) a k = (z_ag J π I n).2.2 a k := by
        rcases hk with hk | hk
        · exact z_up_k _ _ hk
        · exact z_up_a _ _ (by rw [hpn]; exact hk n (by omega))
      rw [e1]
      exact h4 a k (hk.elim Or.inl (fun q => Or.inr (fun j hj => q j (by omega))))
    by_cases hc : z_aa J (z_ag J π I n) n < 3
    · rw [z_ag_1 hc]
      refine ⟨by show _ + 1 ≤ _; omega, fun j hj => ?_, ?_, hfr, fun c hcc => (h5 c hcc).age haa⟩
      · show va_up (va_up _ _ _) _ _ j = π j
        unfold va_up
        rw [if_neg (by omega), if_neg (by omega)]
        exact h2 j (by omega)
      · exact h3.swap (by omega) (by omega)
    · rw [z_ag_0 hc]
      exact ⟨by show _ ≤ _; omega, fun j hj => h2 j (by omega), h3, hfr, fun c hcc => (h5 c hcc).age haa⟩
set_option maxHeartbeats 4000000 in
theorem c_X5_ageAll {π : Nat → Nat} {I J : AwI} (h : z_M I J) (hL : z_L I π) (hA : ∀ k : Nat, (k : Int) < I 17 1 → I (19 + 5 * π k) 6 ≤ 2) : CT m_X5_ageAll [zr 17] 255 I J (z_R π) (z_P (some (zi (I 17 1 - ((z_ag J π I (I 17 1).toNat).1 : Int)))) 255 (z_up (z_ag J π I (I 17 1).toNat).2.2 17 1 ((z_ag J π I (I 17 1).toNat).1 : Int)) J (z_R (z_ag J π I (I 17 1).toNat).2.1)) := by
  refine CT.of (by decide) (Nat.le_of_ble_eq_true rfl) ?_
  show AW _ 0 0 _ 0 [some (zr 17), none, none, none, none] [] _ _ _
  have hn4 := hL.n
  have loop : ∀ (k : Nat) (n : Nat) (v : Option AwV), (n : Int) ≤ I 17 1 → (n : Int) + k = I 17 1 → AW (FM m_X5_ageAll (z_P (some (zi (I 17 1 - ((z_ag J π I (I 17 1).toNat).1 : Int)))) 255 (z_up (z_ag J π I (I 17 1).toNat).2.2 17 1 ((z_ag J π I (I 17 1).toNat).1 : Int)) J (z_R (z_ag J π I (I 17 1).toNat).2.1))) 0 0 255 9 [some (zr 17), some (zi ((z_ag J π I n).1 : Int)), some (zi (I 17 1)), some (zi (n : Int)), v] [] (z_ag J π I n).2.2 J (z_R (z_ag J π I n).2.1) := by
    intro k
    induction k with
    | zero =>
      intro n v hn0 he
      have hnn : (I 17 1).toNat = n := by omega
      rw [hnn]
      refine aw_iload_n (pc := 9) dX5_ageAll_9 rfl ?_
      refine aw_iload_n (pc := 10) dX5_ageAll_10 rfl ?_
      refine aw_icmp_ge (pc := 11) (tgt := 93) dX5_ageAll_11 rfl (by first | omega | exact z_bl_r _) (by first | omega | exact z_bl_r _) (fun h11 => ?_) (fun h11 => absurd h11 (by omega))
      refine aw_aload_n (pc := 93) dX5_ageAll_93 rfl ?_
      refine aw_iload_n (pc := 94) dX5_ageAll_94 rfl ?_
      refine aw_putI (pc := 95) dX5_ageAll_95 k_fl_X5_26 rfl (by omega) (by first | rfl | exact z_shr _ (by omega) | exact z_shc0 (by omega) | exact z_shc1 (by omega) | exact z_shc2 (by omega) | exact z_shc3 (by omega) | exact z_shc4 (by omega)) ?_
      refine aw_iload_n (pc := 98) dX5_ageAll_98 rfl ?_
      refine aw_iload_n (pc := 99) dX5_ageAll_99 rfl ?_
      refine aw_isub (pc := 100) dX5_ageAll_100 ?_
      exact aw_ireturn (pc := 101) dX5_ageAll_101 rfl ⟨Nat.zero_le _, Nat.zero_le _⟩ (⟨rfl, rfl, rfl, rfl, rfl⟩)
    | succ k ih =>
      intro n v hn0 he
      refine aw_iload_n (pc := 9) dX5_ageAll_9 rfl ?_
      refine aw_iload_n (pc := 10) dX5_ageAll_10 rfl ?_
      refine aw_icmp_ge (pc := 11) (tgt := 93) dX5_ageAll_11 rfl (by first | omega | exact z_bl_r _) (by first | omega | exact z_bl_r _) (fun h11 => absurd h11 (by omega)) (fun h11 => ?_)
      have hle : (n : Int) ≤ I 17 1 := by omega
      obtain ⟨h1, h2, h3, h4, h5⟩ := z_ag_ok (J := J) hL hA n hle
      have hp : (z_ag J π I n).2.1 n < 41 := h3.1 n (by omega)
      have hM : z_M (z_ag J π I n).2.2 J := h.congr (fun a k ha => h4 a k (Or.inr (fun j _ e => by omega))) (fun _ => rfl)
      have hb := z_cst_b hM (h5 _ hp)
      have hag := (h5 _ hp).ag
      have hk1 := h3.1 (z_ag J π I n).1 (by omega)
      refine aw_aload_n (pc := 14) dX5_ageAll_14 rfl ?_
      refine aw_getR (pc := 15) dX5_ageAll_15 k_fl_X5_11 rfl (by omega) (by first | rfl | exact z_shr _ (by omega) | exact z_shc0 (by omega) | exact z_shc1 (by omega) | exact z_shc2 (by omega) | exact z_shc3 (by omega) | exact z_shc4 (by omega)) (by first | rfl | exact z_Rc0 _ (by omega) | exact z_Rc1 _ (by omega) | exact z_Rc2 _ (by omega) | exact z_Rc3 _ (by omega)) ?_
      refine aw_iload_n (pc := 18) dX5_ageAll_18 rfl ?_
      refine aw_aaloadQ (b := 19 + 5 * (z_ag J π I n).2.1 n) (pc := 19) dX5_ageAll_19 (by omega) (Nat.le_refl _) rfl (by omega) (by rfl) ?_
      refine aw_astore (pc := 20) (lv' := [_, _, _, _, _]) dX5_ageAll_20 (Nat.le_of_ble_eq_true rfl) rfl ?_
      refine aw_aload (pc := 22) dX5_ageAll_22 rfl ?_
      refine aw_aload_n (pc := 24) dX5_ageAll_24 rfl ?_
      refine aw_getR (pc := 25) dX5_ageAll_25 k_fl_X5_21 rfl (by omega) (by first | rfl | exact z_shr _ (by omega) | exact z_shc0 (by omega) | exact z_shc1 (by omega) | exact z_shc2 (by omega) | exact z_shc3 (by omega) | exact z_shc4 (by omega)) (by first | rfl | exact z_Rc0 _ (by omega) | exact z_Rc1 _ (by omega) | exact z_Rc2 _ (by omega) | exact z_Rc3 _ (by omega)) ?_
      refine aw_aload (pc := 28) dX5_ageAll_28 rfl ?_
      refine aw_qV (pc := 30) (d := m_X6_scaledStrength) (c_X6_scaledStrength hM hp (h5 _ hp)) k_X6_scaledStrength dX5_ageAll_30 k_ml_X5_34 rfl ⟨rfl, rfl⟩ (by omega) (by first | rfl | exact z_shr _ (by omega) | exact z_shc0 (by omega) | exact z_shc1 (by omega) | exact z_shc2 (by omega) | exact z_shc3 (by omega) | exact z_shc4 (by omega)) rfl ⟨Nat.le_of_ble_eq_true rfl, Nat.le_of_ble_eq_true rfl⟩ ⟨Nat.zero_le _, Nat.zero_le _⟩ rfl (Nat.le_of_ble_eq_true rfl) (z_Pk ?_)
      refine aw_lconst (pc := 33) (v := 0) dX5_ageAll_33 rfl ?_
      refine aw_lcmp_ge (pc := 34) (tgt := 48) dX5_ageAll_34 dX5_ageAll_35 rfl (by omega) (by omega) (fun h34 => ?_) (fun h34 => ?_)
      · refine aw_iconst (pc := 48) dX5_ageAll_48 ?_
        refine aw_putI (pc := 49) dX5_ageAll_49 k_fl_X5_51 rfl (by omega) (by first | rfl | exact z_shr _ (by omega) | exact z_shc0 (by omega) | exact z_shc1 (by omega) | exact z_shc2 (by omega) | exact z_shc3 (by omega) | exact z_shc4 (by omega)) ?_
        have hag2 : z_aa J (z_ag J π I n) n = _ := rfl
        refine aw_aload (pc := 52) dX5_ageAll_52 rfl ?_
        refine aw_getI (pc := 54) dX5_ageAll_54 k_fl_X5_51 rfl (by omega) (by first | rfl | exact z_shr _ (by omega) | exact z_shc0 (by omega) | exact z_shc1 (by omega) | exact z_shc2 (by omega) | exact z_shc3 (by omega) | exact z_shc4 (by omega)) ?_
        rw [z_up_s]
        refine aw_iconst (pc := 57) dX5_ageAll_57 ?_
        refine aw_icmp_lt (pc := 58) (tgt := 64) dX5_ageAll_58 rfl (by first | omega | exact z_bl_r _) (by first | omega | exact z_bl_r _) (fun h58 => ?_) (fun h58 => ?_)
        · refine aw_aload_n (pc := 64) dX5_ageAll_64 rfl ?_
          refine aw_getR (pc := 65) dX5_ageAll_65 k_fl_X5_11 rfl (by omega) (by first | rfl | exact z_shr _ (by omega) | exact z_shc0 (by omega) | exact z_shc1 (by omega) | exact z_shc2 (by omega) | exact z_shc3 (by omega) | exact z_shc4 (by omega)) (by first | rfl | exact z_Rc0 _ (by omega) | exact z_Rc1 _ (by omega) | exact z_Rc2 _ (by omega) | exact z_Rc3 _ (by omega)) ?_
          refine aw_iload_n (pc := 68) dX5_ageAll_68 rfl ?_
          refine aw_aload_n (pc := 69) dX5_ageAll_69 rfl ?_
          refine aw_getR (pc := 70) dX5_ageAll_70 k_fl_X5_11 rfl (by omega) (by first | rfl | exact z_shr _ (by omega) | exact z_shc0 (by omega) | exact z_shc1 (by omega) | exact z_shc2 (by omega) | exact z_shc3 (by omega) | exact z_shc4 (by omega)) (by first | rfl | exact z_Rc0 _ (by omega) | exact z_Rc1 _ (by omega) | exact z_Rc2 _ (by omega) | exact z_Rc3 _ (by omega)) ?_
          refine aw_iload_n (pc := 73) dX5_ageAll_73 rfl ?_
          refine aw_aaloadQ (b := 19 + 5 * (z_ag J π I n).2.1 (z_ag J π I n).1) (pc := 74) dX5_ageAll_74 (by omega) (Nat.le_refl _) rfl (by omega) (by rfl) ?_
          refine aw_aastoreQ (pc := 75) dX5_ageAll_75 (by omega) (Nat.le_refl _) rfl (by omega) (by omega) (z_shc0 (by omega)) ?_
          rw [z_R_up]
          refine aw_aload_n (pc := 76) dX5_ageAll_76 rfl ?_
          refine aw_getR (pc := 77) dX5_ageAll_77 k_fl_X5_11 rfl (by omega) (by first | rfl | exact z_shr _ (by omega) | exact z_shc0 (by omega) | exact z_shc1 (by omega) | exact z_shc2 (by omega) | exact z_shc3 (by omega) | exact z_shc4 (by omega)) (by first | rfl | exact z_Rc0 _ (by omega) | exact z_Rc1 _ (by omega) | exact z_Rc2 _ (by omega) | exact z_Rc3 _ (by omega)) ?_
          refine aw_iload_n (pc := 80) dX5_ageAll_80 rfl ?_
          refine aw_aload (pc := 81) dX5_ageAll_81 rfl ?_
          refine aw_aastoreQ (pc := 83) dX5_ageAll_83 (by omega) (Nat.le_refl _) rfl (by omega) (by omega) (z_shc0 (by omega)) ?_
          rw [z_R_up]
          refine aw_iinc (pc := 84) (lv' := [_, _, _, _, _]) dX5_ageAll_84 (Nat.le_of_ble_eq_true rfl) rfl rfl ?_
          refine aw_iinc (pc := 87) (lv' := [_, _, _, _, _]) dX5_ageAll_87 (Nat.le_of_ble_eq_true rfl) rfl rfl ?_
          refine aw_goto (pc := 90) (tgt := 9) dX5_ageAll_90 rfl ?_
          have ea : z_aa J (z_ag J π I n) n = 0 := by unfold z_aa; rw [if_neg (by omega)]
          have es := z_ag_1 (J := J) (π := π) (I := I) (k := n) (by rw [ea]; omega)
          have K := ih (n + 1) (some (zr (19 + 5 * (z_ag J π I n).2.1 n))) (by omega) (by omega)
          rw [es, ea] at K
          exact K
        · refine aw_goto (pc := 61) (tgt := 87) dX5_ageAll_61 rfl ?_
          refine aw_iinc (pc := 87) (lv' := [_, _, _, _, _]) dX5_ageAll_87 (Nat.le_of_ble_eq_true rfl) rfl rfl ?_
          refine aw_goto (pc := 90) (tgt := 9) dX5_ageAll_90 rfl ?_
          have ea : z_aa J (z_ag J π I n) n = 0 := by unfold z_aa; rw [if_neg (by omega)]
          have es := z_ag_0 (J := J) (π := π) (I := I) (k := n) (by rw [ea]; omega)
          have K := ih (n + 1) (some (zr (19 + 5 * (z_ag J π I n).2.1 n))) (by omega) (by omega)
          rw [es, ea] at K
          exact K
      · refine aw_aload (pc := 38) dX5_ageAll_38 rfl ?_
        refine aw_getI (pc := 40) dX5_ageAll_40 k_fl_X5_51 rfl (by omega) (by first | rfl | exact z_shr _ (by omega) | exact z_shc0 (by omega) | exact z_shc1 (by omega) | exact z_shc2 (by omega) | exact z_shc3 (by omega) | exact z_shc4 (by omega)) ?_
        refine aw_iconst (pc := 43) dX5_ageAll_43 ?_
        refine aw_iadd (pc := 44) dX5_ageAll_44 ?_
        refine aw_goto (pc := 45) (tgt := 49) dX5_ageAll_45 rfl ?_
        refine aw_putI (pc := 49) dX5_ageAll_49 k_fl_X5_51 rfl (by omega) (by first | rfl | exact z_shr _ (by omega) | exact z_shc0 (by omega) | exact z_shc1 (by omega) | exact z_shc2 (by omega) | exact z_shc3 (by omega) | exact z_shc4 (by omega)) ?_
        have hag2 : z_aa J (z_ag J π I n) n = _ := rfl
        refine aw_aload (pc := 52) dX5_ageAll_52 rfl ?_
        refine aw_getI (pc := 54) dX5_ageAll_54 k_fl_X5_51 rfl (by omega) (by first | rfl | exact z_shr _ (by omega) | exact z_shc0 (by omega) | exact z_shc1 (by omega) | exact z_shc2 (by omega) | exact z_shc3 (by omega) | exact z_shc4 (by omega)) ?_
        rw [z_up_s]
        refine aw_iconst (pc := 57) dX5_ageAll_57 ?_
        refine aw_icmp_lt (pc := 58) (tgt := 64) dX5_ageAll_58 rfl (by first | omega | exact z_bl_r _) (by first | omega | exact z_bl_r _) (fun h58 => ?_) (fun h58 => ?_)
        · refine aw_aload_n (pc := 64) dX5_ageAll_64 rfl ?_
          refine aw_getR (pc := 65) dX5_ageAll_65 k_fl_X5_11 rfl (by omega) (by first | rfl | exact z_shr _ (by omega) | exact z_shc0 (by omega) | exact z_shc1 (by omega) | exact z_shc2 (by omega) | exact z_shc3 (by omega) | exact z_shc4 (by omega)) (by first | rfl | exact z_Rc0 _ (by omega) | exact z_Rc1 _ (by omega) | exact z_Rc2 _ (by omega) | exact z_Rc3 _ (by omega)) ?_
          refine aw_iload_n (pc := 68) dX5_ageAll_68 rfl ?_
          refine aw_aload_n (pc := 69) dX5_ageAll_69 rfl ?_
          refine aw_getR (pc := 70) dX5_ageAll_70 k_fl_X5_11 rfl (by omega) (by first | rfl | exact z_shr _ (by omega) | exact z_shc0 (by omega) | exact z_shc1 (by omega) | exact z_shc2 (by omega) | exact z_shc3 (by omega) | exact z_shc4 (by omega)) (by first | rfl | exact z_Rc0 _ (by omega) | exact z_Rc1 _ (by omega) | exact z_Rc2 _ (by omega) | exact z_Rc3 _ (by omega)) ?_
          refine aw_iload_n (pc := 73) dX5_ageAll_73 rfl ?_
          refine aw_aaloadQ (b := 19 + 5 * (z_ag J π I n).2.1 (z_ag J π I n).1) (pc := 74) dX5_ageAll_74 (by omega) (Nat.le_refl _) rfl (by omega) (by rfl) ?_
          refine aw_aastoreQ (pc := 75) dX5_ageAll_75 (by omega) (Nat.le_refl _) rfl (by omega) (by omega) (z_shc0 (by omega)) ?_
          rw [z_R_up]
          refine aw_aload_n (pc := 76) dX5_ageAll_76 rfl ?_
          refine aw_getR (pc := 77) dX5_ageAll_77 k_fl_X5_11 rfl (by omega) (by first | rfl | exact z_shr _ (by omega) | exact z_shc0 (by omega) | exact z_shc1 (by omega) | exact z_shc2 (by omega) | exact z_shc3 (by omega) | exact z_shc4 (by omega)) (by first | rfl | exact z_Rc0 _ (by omega) | exact z_Rc1 _ (by omega) | exact z_Rc2 _ (by omega) | exact z_Rc3 _ (by omega)) ?_
          refine aw_iload_n (pc := 80) dX5_ageAll_80 rfl ?_
          refine aw_aload (pc := 81) dX5_ageAll_81 rfl ?_
          refine aw_aastoreQ (pc := 83) dX5_ageAll_83 (by omega) (Nat.le_refl _) rfl (by omega) (by omega) (z_shc0 (by omega)) ?_
          rw [z_R_up]
          refine aw_iinc (pc := 84) (lv' := [_, _, _, _, _]) dX5_ageAll_84 (Nat.le_of_ble_eq_true rfl) rfl rfl ?_
          refine aw_iinc (pc := 87) (lv' := [_, _, _, _, _]) dX5_ageAll_87 (Nat.le_of_ble_eq_true rfl) rfl rfl ?_
          refine aw_goto (pc := 90) (tgt := 9) dX5_ageAll_90 rfl ?_
          have ea : z_aa J (z_ag J π I n) n = (z_ag J π I n).2.2 (19 + 5 * (z_ag J π I n).2.1 n) 6 + 1 := by unfold z_aa; rw [if_pos h34]
          have es := z_ag_1 (J := J) (π := π) (I := I) (k := n) (by rw [ea]; omega)
          have K := ih (n + 1) (some (zr (19 + 5 * (z_ag J π I n).2.1 n))) (by omega) (by omega)
          rw [es, ea] at K
          exact K
        · refine aw_goto (pc := 61) (tgt := 87) dX5_ageAll_61 rfl ?_
          refine aw_iinc (pc := 87) (lv' := [_, _, _, _, _]) dX5_ageAll_87 (Nat.le_of_ble_eq_true rfl) rfl rfl ?_
          refine aw_goto (pc := 90) (tgt := 9) dX5_ageAll_90 rfl ?_
          have ea : z_aa J (z_ag J π I n) n = (z_ag J π I n).2.2 (19 + 5 * (z_ag J π I n).2.1 n) 6 + 1 := by unfold z_aa; rw [if_pos h34]
          have es := z_ag_0 (J := J) (π := π) (I := I) (k := n) (by rw [ea]; omega)
          have K := ih (n + 1) (some (zr (19 + 5 * (z_ag J π I n).2.1 n))) (by omega) (by omega)
          rw [es, ea] at K
          exact K
  refine aw_iconst (pc := 0) dX5_ageAll_0 ?_
  refine aw_istore_n (pc := 1) (lv' := [_, _, _, _, _]) dX5_ageAll_1 (Nat.le_of_ble_eq_true rfl) rfl ?_
  refine aw_aload_n (pc := 2) dX5_ageAll_2 rfl ?_
  refine aw_getI (pc := 3) dX5_ageAll_3 k_fl_X5_26 rfl (by omega) (by first | rfl | exact z_shr _ (by omega) | exact z_shc0 (by omega) | exact z_shc1 (by omega) | exact z_shc2 (by omega) | exact z_shc3 (by omega) | exact z_shc4 (by omega)) ?_
  refine aw_istore_n (pc := 6) (lv' := [_, _, _, _, _]) dX5_ageAll_6 (Nat.le_of_ble_eq_true rfl) rfl ?_
  refine aw_iconst (pc := 7) dX5_ageAll_7 ?_
  refine aw_istore_n (pc := 8) (lv' := [_, _, _, _, _]) dX5_ageAll_8 (Nat.le_of_ble_eq_true rfl) rfl ?_
  exact loop (I 17 1).toNat 0 none (by omega) (by omega)
