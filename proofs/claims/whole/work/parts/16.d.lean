def z_bg (I : AwI) (c : Nat) (kd : Int) : AwI := z_up (z_up (z_up (z_up (z_up (z_fl (z_fl (z_fl (z_fl I (19 + 5 * c + 1) 8 0) (19 + 5 * c + 2) 10 0) (19 + 5 * c + 3) 8 0) (19 + 5 * c + 4) 8 0) (19 + 5 * c) 4 0) (19 + 5 * c) 5 kd) (19 + 5 * c) 6 0) (19 + 5 * c) 7 0) (19 + 5 * c) 8 0
theorem z_bg_o (I : AwI) (c : Nat) (kd : Int) {a k : Nat} (h : a < 19 + 5 * c ∨ 19 + 5 * c + 4 < a) : z_bg I c kd a k = I a k := by
  unfold z_bg
  rw [z_up_a _ _ (by omega), z_up_a _ _ (by omega), z_up_a _ _ (by omega), z_up_a _ _ (by omega), z_up_a _ _ (by omega), z_fl_a _ _ (by omega), z_fl_a _ _ (by omega), z_fl_a _ _ (by omega), z_fl_a _ _ (by omega)]
/-- two cuts say the same -/
def z_sa (I : AwI) (c d : Nat) : Prop := I (19 + 5 * c) 4 = I (19 + 5 * d) 4 ∧ ∀ n : Nat, (n : Int) < I 1 5 → I (19 + 5 * c + 1) n = I (19 + 5 * d + 1) n
def z_shw (I : AwI) (c : Nat) (w i : Int) : Int := if w = 0 then (if I (19 + 5 * c) 5 = 2 then I (19 + 5 * c) 8 else I (19 + 5 * c + 2) i.toNat) else if w = 1 then I (19 + 5 * c + 3) i.toNat else if w = 2 then I (19 + 5 * c + 4) i.toNat else I (19 + 5 * c) 7
def z_sho (I : AwI) (c : Nat) (w i v : Int) : AwI := if w = 0 then (if I (19 + 5 * c) 5 = 2 then z_up I (19 + 5 * c) 8 v else z_up I (19 + 5 * c + 2) i.toNat v) else if w = 1 then z_up I (19 + 5 * c + 3) i.toNat v else if w = 2 then z_up I (19 + 5 * c + 4) i.toNat v else z_up I (19 + 5 * c) 7 v
def z_Pi (π : Nat → Nat) : Prop := (∀ k, k < 41 → π k < 41) ∧ ∀ i j, i < 41 → j < 41 → π i = π j → i = j
def z_L (I : AwI) (π : Nat → Nat) : Prop := (0 ≤ I 17 1 ∧ I 17 1 ≤ 40) ∧ z_Pi π ∧ ∀ c, c < 41 → z_C I c
theorem z_L.n {I : AwI} {π : Nat → Nat} (h : z_L I π) : 0 ≤ I 17 1 ∧ I 17 1 ≤ 40 := h.1
theorem z_L.p {I : AwI} {π : Nat → Nat} (h : z_L I π) {k : Nat} (hk : k < 41) : π k < 41 := h.2.1.1 k hk
theorem z_L.c {I : AwI} {π : Nat → Nat} (h : z_L I π) {c : Nat} (hc : c < 41) : z_C I c := h.2.2 c hc
def z_tl (I : AwI) (π : Nat → Nat) (d : Nat) : Prop := ∃ k : Nat, (k : Int) < I 17 1 ∧ z_sa I (π k) d
noncomputable def z_sd (I J : AwI) (π : Nat → Nat) : Int × AwI := @ite _ (z_cst I J (π (I 17 1).toNat) ≤ 0 ∨ z_tl I π (π (I 17 1).toNat)) (Classical.propDecidable _) (1, I) (if 40 ≤ I 17 1 then (0, z_up I 17 2 0) else (1, z_up I 17 1 (I 17 1 + 1)))
theorem z_R_up (π : Nat → Nat) (k c : Nat) : z_up (z_R π) 18 k (some (19 + 5 * c)) = z_R (va_up π k c) := by
  funext a j
  unfold z_up
  by_cases ha : a = 18
  · subst ha
    by_cases hj : j = k
    · subst hj
      rw [if_pos ⟨rfl, rfl⟩]
      show _ = some (19 + 5 * va_up π j c j)
      unfold va_up
      rw [if_pos rfl]
    · rw [if_neg (fun q => hj q.2)]
      show some (19 + 5 * π j) = some (19 + 5 * va_up π k c j)
      unfold va_up
      rw [if_neg hj]
  · rw [if_neg (fun q => ha q.1)]
    unfold z_R
    simp only [ha, if_false]
/-- one turn of age over the slots: kept, slots, heap -/
def z_ag (J : AwI) (π : Nat → Nat) (I : AwI) : Nat → Nat × (Nat → Nat) × AwI
  | 0 => (0, π, I)
  | k + 1 =>
    let q := z_ag J π I k
    let c := q.2.1 k
    let a := if z_cst q.2.2 J c < 0 then q.2.2 (19 + 5 * c) 6 + 1 else 0
    if a < 3 then (q.1 + 1, va_up (va_up q.2.1 k (q.2.1 q.1)) q.1 c, z_up q.2.2 (19 + 5 * c) 6 a) else (q.1, q.2.1, z_up q.2.2 (19 + 5 * c) 6 a)
set_option maxHeartbeats 4000000 in
theorem c_X4_begin {π : Nat → Nat} {I J : AwI} {c : Nat} {kd : Int} (hc : c < 41) : CT m_X4_begin [zr (19 + 5 * c), zi kd] 255 I J (z_R π) (z_P none 255 (z_bg I c kd) J (z_R π)) := by
  refine CT.of (by decide) (Nat.le_of_ble_eq_true rfl) ?_
  show AW _ 0 0 _ 0 [some (zr (19 + 5 * c)), some (zi kd)] [] _ _ _
  refine aw_aload_n (pc := 0) dX4_begin_0 rfl ?_
  refine aw_getR (pc := 1) dX4_begin_1 k_fl_X4_9 rfl (by omega) (by first | rfl | exact z_shr _ (by omega) | exact z_shc0 (by omega) | exact z_shc1 (by omega) | exact z_shc2 (by omega) | exact z_shc3 (by omega) | exact z_shc4 (by omega)) (by first | rfl | exact z_Rc0 _ (by omega) | exact z_Rc1 _ (by omega) | exact z_Rc2 _ (by omega) | exact z_Rc3 _ (by omega)) ?_
  refine aw_iconst (pc := 4) dX4_begin_4 ?_
  refine aw_qS (pc := 5) (d := m_J7_fill_53178) (c_fill (n := 8) (by omega) (z_shc1 hc) (by omega)) k_J7_fill_53178 dX4_begin_5 k_ml_X4_24 rfl ⟨rfl, rfl⟩ ⟨Nat.le_of_ble_eq_true rfl, Nat.le_of_ble_eq_true rfl⟩ ⟨Nat.zero_le _, Nat.zero_le _⟩ rfl (Nat.le_of_ble_eq_true rfl) (z_Pk ?_)
  refine aw_aload_n (pc := 8) dX4_begin_8 rfl ?_
  refine aw_getR (pc := 9) dX4_begin_9 k_fl_X4_15 rfl (by omega) (by first | rfl | exact z_shr _ (by omega) | exact z_shc0 (by omega) | exact z_shc1 (by omega) | exact z_shc2 (by omega) | exact z_shc3 (by omega) | exact z_shc4 (by omega)) (by first | rfl | exact z_Rc0 _ (by omega) | exact z_Rc1 _ (by omega) | exact z_Rc2 _ (by omega) | exact z_Rc3 _ (by omega)) ?_
  refine aw_iconst (pc := 12) dX4_begin_12 ?_
  refine aw_qS (pc := 13) (d := m_J7_fill_53178) (c_fill (n := 10) (by omega) (z_shc2 hc) (by omega)) k_J7_fill_53178 dX4_begin_13 k_ml_X4_24 rfl ⟨rfl, rfl⟩ ⟨Nat.le_of_ble_eq_true rfl, Nat.le_of_ble_eq_true rfl⟩ ⟨Nat.zero_le _, Nat.zero_le _⟩ rfl (Nat.le_of_ble_eq_true rfl) (z_Pk ?_)
  refine aw_aload_n (pc := 16) dX4_begin_16 rfl ?_
  refine aw_getR (pc := 17) dX4_begin_17 k_fl_X4_18 rfl (by omega) (by first | rfl | exact z_shr _ (by omega) | exact z_shc0 (by omega) | exact z_shc1 (by omega) | exact z_shc2 (by omega) | exact z_shc3 (by omega) | exact z_shc4 (by omega)) (by first | rfl | exact z_Rc0 _ (by omega) | exact z_Rc1 _ (by omega) | exact z_Rc2 _ (by omega) | exact z_Rc3 _ (by omega)) ?_
  refine aw_iconst (pc := 20) dX4_begin_20 ?_
  refine aw_qS (pc := 21) (d := m_J7_fill_53178) (c_fill (n := 8) (by omega) (z_shc3 hc) (by omega)) k_J7_fill_53178 dX4_begin_21 k_ml_X4_24 rfl ⟨rfl, rfl⟩ ⟨Nat.le_of_ble_eq_true rfl, Nat.le_of_ble_eq_true rfl⟩ ⟨Nat.zero_le _, Nat.zero_le _⟩ rfl (Nat.le_of_ble_eq_true rfl) (z_Pk ?_)
  refine aw_aload_n (pc := 24) dX4_begin_24 rfl ?_
  refine aw_getR (pc := 25) dX4_begin_25 k_fl_X4_21 rfl (by omega) (by first | rfl | exact z_shr _ (by omega) | exact z_shc0 (by omega) | exact z_shc1 (by omega) | exact z_shc2 (by omega) | exact z_shc3 (by omega) | exact z_shc4 (by omega)) (by first | rfl | exact z_Rc0 _ (by omega) | exact z_Rc1 _ (by omega) | exact z_Rc2 _ (by omega) | exact z_Rc3 _ (by omega)) ?_
  refine aw_iconst (pc := 28) dX4_begin_28 ?_
  refine aw_qS (pc := 29) (d := m_J7_fill_53178) (c_fill (n := 8) (by omega) (z_shc4 hc) (by omega)) k_J7_fill_53178 dX4_begin_29 k_ml_X4_24 rfl ⟨rfl, rfl⟩ ⟨Nat.le_of_ble_eq_true rfl, Nat.le_of_ble_eq_true rfl⟩ ⟨Nat.zero_le _, Nat.zero_le _⟩ rfl (Nat.le_of_ble_eq_true rfl) (z_Pk ?_)
  refine aw_aload_n (pc := 32) dX4_begin_32 rfl ?_
  refine aw_iconst (pc := 33) dX4_begin_33 ?_
  refine aw_putI (pc := 34) dX4_begin_34 k_fl_X4_30 rfl (by omega) (by first | rfl | exact z_shr _ (by omega) | exact z_shc0 (by omega) | exact z_shc1 (by omega) | exact z_shc2 (by omega) | exact z_shc3 (by omega) | exact z_shc4 (by omega)) ?_
  refine aw_aload_n (pc := 37) dX4_begin_37 rfl ?_
  refine aw_iload_n (pc := 38) dX4_begin_38 rfl ?_
  refine aw_putI (pc := 39) dX4_begin_39 k_fl_X4_34 rfl (by omega) (by first | rfl | exact z_shr _ (by omega) | exact z_shc0 (by omega) | exact z_shc1 (by omega) | exact z_shc2 (by omega) | exact z_shc3 (by omega) | exact z_shc4 (by omega)) ?_
  refine aw_aload_n (pc := 42) dX4_begin_42 rfl ?_
  refine aw_iconst (pc := 43) dX4_begin_43 ?_
  refine aw_putI (pc := 44) dX4_begin_44 k_fl_X4_37 rfl (by omega) (by first | rfl | exact z_shr _ (by omega) | exact z_shc0 (by omega) | exact z_shc1 (by omega) | exact z_shc2 (by omega) | exact z_shc3 (by omega) | exact z_shc4 (by omega)) ?_
  refine aw_aload_n (pc := 47) dX4_begin_47 rfl ?_
  refine aw_iconst (pc := 48) dX4_begin_48 ?_
  refine aw_putI (pc := 49) dX4_begin_49 k_fl_X4_40 rfl (by omega) (by first | rfl | exact z_shr _ (by omega) | exact z_shc0 (by omega) | exact z_shc1 (by omega) | exact z_shc2 (by omega) | exact z_shc3 (by omega) | exact z_shc4 (by omega)) ?_
  refine aw_aload_n (pc := 52) dX4_begin_52 rfl ?_
  refine aw_iconst (pc := 53) dX4_begin_53 ?_
  refine aw_putI (pc := 54) dX4_begin_54 k_fl_X4_43 rfl (by omega) (by first | rfl | exact z_shr _ (by omega) | exact z_shc0 (by omega) | exact z_shc1 (by omega) | exact z_shc2 (by omega) | exact z_shc3 (by omega) | exact z_shc4 (by omega)) ?_
  exact aw_return (pc := 57) dX4_begin_57 rfl ⟨Nat.zero_le _, Nat.zero_le _⟩ (⟨rfl, rfl, rfl, rfl, rfl⟩)
set_option maxHeartbeats 4000000 in
theorem c_X4_saysTheSameAs {π : Nat → Nat} {I J : AwI} {c d : Nat} (h : z_M I J) (hc : c < 41) (hd : d < 41) (hC : z_C I c) (hD : z_C I d) : CT m_X4_saysTheSameAs [zr (19 + 5 * c), zr (19 + 5 * d), zi (I 1 5)] 255 I J (z_R π) (z_P (some (zi (z_bl (z_sa I c d)))) 255 I J (z_R π)) := by
  refine CT.of (by decide) (Nat.le_of_ble_eq_true rfl) ?_
  show AW _ 0 0 _ 0 [some (zr (19 + 5 * c)), some (zr (19 + 5 * d)), some (zi (I 1 5)), none] [] _ _ _
  have hnm := h.nm
  have g1 := hC.r
  have g2 := hD.r
  refine aw_aload_n (pc := 0) dX4_saysTheSameAs_0 rfl ?_
  refine aw_getI (pc := 1) dX4_saysTheSameAs_1 k_fl_X4_30 rfl (by omega) (by first | rfl | exact z_shr _ (by omega) | exact z_shc0 (by omega) | exact z_shc1 (by omega) | exact z_shc2 (by omega) | exact z_shc3 (by omega) | exact z_shc4 (by omega)) ?_
  refine aw_aload_n (pc := 4) dX4_saysTheSameAs_4 rfl ?_
  refine aw_getI (pc := 5) dX4_saysTheSameAs_5 k_fl_X4_30 rfl (by omega) (by first | rfl | exact z_shr _ (by omega) | exact z_shc0 (by omega) | exact z_shc1 (by omega) | exact z_shc2 (by omega) | exact z_shc3 (by omega) | exact z_shc4 (by omega)) ?_
  refine aw_icmp_eq (pc := 8) (tgt := 13) dX4_saysTheSameAs_8 rfl (by first | omega | exact z_bl_r _) (by first | omega | exact z_bl_r _) (fun h8 => ?_) (fun h8 => ?_)
  · have hr : I (19 + 5 * c) 4 = I (19 + 5 * d) 4 := h8
    have loop : ∀ (k : Nat) (x : Int), 0 ≤ x → x + k = I 1 5 → (∀ n : Nat, (n : Int) < x → I (19 + 5 * c + 1) n = I (19 + 5 * d + 1) n) → AW (FM m_X4_saysTheSameAs (z_P (some (zi (z_bl (z_sa I c d)))) 255 I J (z_R π))) 0 0 255 15 [some (zr (19 + 5 * c)), some (zr (19 + 5 * d)), some (zi (I 1 5)), some (zi x)] [] I J (z_R π) := by
      intro k
      induction k with
      | zero =>
        intro x hx he hi
        refine aw_iload_n (pc := 15) dX4_saysTheSameAs_15 rfl ?_
        refine aw_iload_n (pc := 16) dX4_saysTheSameAs_16 rfl ?_
        refine aw_icmp_ge (pc := 17) (tgt := 43) dX4_saysTheSameAs_17 rfl (by first | omega | exact z_bl_r _) (by first | omega | exact z_bl_r _) (fun h17 => ?_) (fun h17 => absurd h17 (by omega))
        refine aw_iconst (pc := 43) dX4_saysTheSameAs_43 ?_
        exact aw_zreturn (pc := 44) dX4_saysTheSameAs_44 rfl (by first | exact Or.inl rfl | exact Or.inr rfl | omega) ⟨Nat.zero_le _, Nat.zero_le _⟩ (⟨z_r1 ⟨hr, fun n h1 => hi n (by omega)⟩, rfl, rfl, rfl, rfl⟩)
      | succ k ih =>
        intro x hx he hi
        refine aw_iload_n (pc := 15) dX4_saysTheSameAs_15 rfl ?_
        refine aw_iload_n (pc := 16) dX4_saysTheSameAs_16 rfl ?_
        refine aw_icmp_ge (pc := 17) (tgt := 43) dX4_saysTheSameAs_17 rfl (by first | omega | exact z_bl_r _) (by first | omega | exact z_bl_r _) (fun h17 => absurd h17 (by omega)) (fun h17 => ?_)
        have h1 := hC.f x.toNat
        have h2 := hD.f x.toNat
        refine aw_aload_n (pc := 20) dX4_saysTheSameAs_20 rfl ?_
        refine aw_getR (pc := 21) dX4_saysTheSameAs_21 k_fl_X4_9 rfl (by omega) (by first | rfl | exact z_shr _ (by omega) | exact z_shc0 (by omega) | exact z_shc1 (by omega) | exact z_shc2 (by omega) | exact z_shc3 (by omega) | exact z_shc4 (by omega)) (by first | rfl | exact z_Rc0 _ (by omega) | exact z_Rc1 _ (by omega) | exact z_Rc2 _ (by omega) | exact z_Rc3 _ (by omega)) ?_
        refine aw_iload_n (pc := 24) dX4_saysTheSameAs_24 rfl ?_
        refine aw_iaload (pc := 25) dX4_saysTheSameAs_25 (by omega) (Nat.le_refl _) (by first | rfl | exact z_shr _ (by omega) | exact z_shc0 (by omega) | exact z_shc1 (by omega) | exact z_shc2 (by omega) | exact z_shc3 (by omega) | exact z_shc4 (by omega)) (by first | omega | exact z_bl_r _) ?_
        refine aw_aload_n (pc := 26) dX4_saysTheSameAs_26 rfl ?_
        refine aw_getR (pc := 27) dX4_saysTheSameAs_27 k_fl_X4_9 rfl (by omega) (by first | rfl | exact z_shr _ (by omega) | exact z_shc0 (by omega) | exact z_shc1 (by omega) | exact z_shc2 (by omega) | exact z_shc3 (by omega) | exact z_shc4 (by omega)) (by first | rfl | exact z_Rc0 _ (by omega) | exact z_Rc1 _ (by omega) | exact z_Rc2 _ (by omega) | exact z_Rc3 _ (by omega)) ?_
        refine aw_iload_n (pc := 30) dX4_saysTheSameAs_30 rfl ?_
        refine aw_iaload (pc := 31) dX4_saysTheSameAs_31 (by omega) (Nat.le_refl _) (by first | rfl | exact z_shr _ (by omega) | exact z_shc0 (by omega) | exact z_shc1 (by omega) | exact z_shc2 (by omega) | exact z_shc3 (by omega) | exact z_shc4 (by omega)) (by first | omega | exact z_bl_r _) ?_
        refine aw_icmp_eq (pc := 32) (tgt := 37) dX4_saysTheSameAs_32 rfl (by first | omega | exact z_bl_r _) (by first | omega | exact z_bl_r _) (fun h32 => ?_) (fun h32 => ?_)
        · refine aw_iinc (pc := 37) (lv' := [_, _, _, _]) dX4_saysTheSameAs_37 (Nat.le_of_ble_eq_true rfl) rfl rfl ?_
          refine aw_goto (pc := 40) (tgt := 15) dX4_saysTheSameAs_40 rfl ?_
          exact ih (x + 1) (by omega) (by omega) (fun r h1 => by
            by_cases e : (r : Int) < x
            · exact hi r e
            · rw [show r = x.toNat by omega]
              exact h32)
        · refine aw_iconst (pc := 35) dX4_saysTheSameAs_35 ?_
          exact aw_zreturn (pc := 36) dX4_saysTheSameAs_36 rfl (by first | exact Or.inl rfl | exact Or.inr rfl | omega) ⟨Nat.zero_le _, Nat.zero_le _⟩ (⟨z_r0 (fun q => h32 (q.2 x.toNat (by omega))), rfl, rfl, rfl, rfl⟩)
    refine aw_iconst (pc := 13) dX4_saysTheSameAs_13 ?_
    refine aw_istore_n (pc := 14) (lv' := [_, _, _, _]) dX4_saysTheSameAs_14 (Nat.le_of_ble_eq_true rfl) rfl ?_
    exact loop (I 1 5).toNat 0 (by omega) (by omega) (fun r h => by omega)
  · refine aw_iconst (pc := 11) dX4_saysTheSameAs_11 ?_
    exact aw_zreturn (pc := 12) dX4_saysTheSameAs_12 rfl (by first | exact Or.inl rfl | exact Or.inr rfl | omega) ⟨Nat.zero_le _, Nat.zero_le _⟩ (⟨z_r0 (fun q => h8 q.1), rfl, rfl, rfl, rfl⟩)
set_option maxHeartbeats 4000000 in
theorem c_X4_shown {π : Nat → Nat} {I J : AwI} {c : Nat} {w i : Int} (hc : c < 41) (hC : z_C I c) (hw : -2147483648 ≤ w ∧ w ≤ 2147483647) (h0 : w = 0 → I (19 + 5 * c) 5 ≠ 2 → 0 ≤ i ∧ i < 10) (h1 : w = 1 ∨ w = 2 → 0 ≤ i ∧ i < 8) : CT m_X4_shown [zr (19 + 5 * c), zi w, zi i] 255 I J (z_R π) (z_P (some (zi (z_shw I c w i))) 255 I J (z_R π)) := by
  refine CT.of (by decide) (Nat.le_of_ble_eq_true rfl) ?_
  show AW _ 0 0 _ 0 [some (zr (19 + 5 * c)), some (zi w), some (zi i)] [] _ _ _
  refine aw_iload_n (pc := 0) dX4_shown_0 rfl ?_
  rcases (show (w < 0 ∨ 2 < w) ∨ w = 0 ∨ w = 1 ∨ w = 2 by omega) with h1 | h1 | h1 | h1
  · refine aw_tbl_out (pc := 1) (tgt := 64) dX4_shown_1 (by omega) h1 rfl ?_
    refine aw_aload_n (pc := 64) dX4_shown_64 rfl ?_
    refine aw_getI (pc := 65) dX4_shown_65 k_fl_X4_40 rfl (by omega) (by first | rfl | exact z_shr _ (by omega) | exact z_shc0 (by omega) | exact z_shc1 (by omega) | exact z_shc2 (by omega) | exact z_shc3 (by omega) | exact z_shc4 (by omega)) ?_
    exact aw_ireturn (pc := 68) dX4_shown_68 rfl ⟨Nat.zero_le _, Nat.zero_le _⟩ (⟨by unfold z_shw; first | rfl | (rw [if_pos rfl, if_pos h33]) | (rw [if_pos rfl, if_neg h33]) | (rw [if_neg (by omega), if_neg (by omega), if_neg (by omega)]), rfl, rfl, rfl, rfl⟩)
  · subst h1
    refine aw_tbl_in (pc := 1) (tgt := 28) (off := 27) dX4_shown_1 (by omega) (by omega) rfl rfl ?_
    have g := hC.kd
    refine aw_aload_n (pc := 28) dX4_shown_28 rfl ?_
    refine aw_getI (pc := 29) dX4_shown_29 k_fl_X4_34 rfl (by omega) (by first | rfl | exact z_shr _ (by omega) | exact z_shc0 (by omega) | exact z_shc1 (by omega) | exact z_shc2 (by omega) | exact z_shc3 (by omega) | exact z_shc4 (by omega)) ?_
    refine aw_iconst (pc := 32) dX4_shown_32 ?_
    refine aw_icmp_ne (pc := 33) (tgt := 43) dX4_shown_33 rfl (by first | omega | exact z_bl_r _) (by first | omega | exact z_bl_r _) (fun h33 => ?_) (fun h33 => ?_)
    · refine aw_aload_n (pc := 43) dX4_shown_43 rfl ?_
      refine aw_getR (pc := 44) dX4_shown_44 k_fl_X4_15 rfl (by omega) (by first | rfl | exact z_shr _ (by omega) | exact z_shc0 (by omega) | exact z_shc1 (by omega) | exact z_shc2 (by omega) | exact z_shc3 (by omega) | exact z_shc4 (by omega)) (by first | rfl | exact z_Rc0 _ (by omega) | exact z_Rc1 _ (by omega) | exact z_Rc2 _ (by omega) | exact z_Rc3 _ (by omega)) ?_
      refine aw_iload_n (pc := 47) dX4_shown_47 rfl ?_
      refine aw_iaload (pc := 48) dX4_shown_48 (by omega) (Nat.le_refl _) (by first | rfl | exact z_shr _ (by omega) | exact z_shc0 (by omega) | exact z_shc1 (by omega) | exact z_shc2 (by omega) | exact z_shc3 (by omega) | exact z_shc4 (by omega)) (by first | omega | exact z_bl_r _) ?_
      exact aw_ireturn (pc := 49) dX4_shown_49 rfl ⟨Nat.zero_le _, Nat.zero_le _⟩ (⟨by unfold z_shw; first | rfl | (rw [if_pos rfl, if_pos h33]) | (rw [if_pos rfl, if_neg h33]) | (rw [if_neg (by omega), if_neg (by omega), if_neg (by omega)]), rfl, rfl, rfl, rfl⟩)
    · refine aw_aload_n (pc := 36) dX4_shown_36 rfl ?_
      refine aw_getI (pc := 37) dX4_shown_37 k_fl_X4_43 rfl (by omega) (by first | rfl | exact z_shr _ (by omega) | exact z_shc0 (by omega) | exact z_shc1 (by omega) | exact z_shc2 (by omega) | exact z_shc3 (by omega) | exact z_shc4 (by omega)) ?_
      refine aw_goto (pc := 40) (tgt := 49) dX4_shown_40 rfl ?_
      exact aw_ireturn (pc := 49) dX4_shown_49 rfl ⟨Nat.zero_le _, Nat.zero_le _⟩ (⟨by unfold z_shw; first | rfl | (rw [if_pos rfl, if_pos h33]) | (rw [if_pos rfl, if_neg h33]) | (rw [if_neg (by omega), if_neg (by omega), if_neg (by omega)]), rfl, rfl, rfl, rfl⟩)
  · subst h1
    refine aw_tbl_in (pc := 1) (tgt := 50) (off := 49) dX4_shown_1 (by omega) (by omega) rfl rfl ?_
    refine aw_aload_n (pc := 50) dX4_shown_50 rfl ?_
    refine aw_getR (pc := 51) dX4_shown_51 k_fl_X4_18 rfl (by omega) (by first | rfl | exact z_shr _ (by omega) | exact z_shc0 (by omega) | exact z_shc1 (by omega) | exact z_shc2 (by omega) | exact z_shc3 (by omega) | exact z_shc4 (by omega)) (by first | rfl | exact z_Rc0 _ (by omega) | exact z_Rc1 _ (by omega) | exact z_Rc2 _ (by omega) | exact z_Rc3 _ (by omega)) ?_
    refine aw_iload_n (pc := 54) dX4_shown_54 rfl ?_
    refine aw_iaload (pc := 55) dX4_shown_55 (by omega) (Nat.le_refl _) (by first | rfl | exact z_shr _ (by omega) | exact z_shc0 (by omega) | exact z_shc1 (by omega) | exact z_shc2 (by omega) | exact z_shc3 (by omega) | exact z_shc4 (by omega)) (by first | omega | exact z_bl_r _) ?_
    exact aw_ireturn (pc := 56) dX4_shown_56 rfl ⟨Nat.zero_le _, Nat.zero_le _⟩ (⟨by unfold z_shw; first | rfl | (rw [if_pos rfl, if_pos h33]) | (rw [if_pos rfl, if_neg h33]) | (rw [if_neg (by omega), if_neg (by omega), if_neg (by omega)]), rfl, rfl, rfl, rfl⟩)
  · subst h1
    refine aw_tbl_in (pc := 1) (tgt := 57) (off := 56) dX4_shown_1 (by omega) (by omega) rfl rfl ?_
    refine aw_aload_n (pc := 57) dX4_shown_57 rfl ?_
    refine aw_getR (pc := 58) dX4_shown_58 k_fl_X4_21 rfl (by omega) (by first | rfl | exact z_shr _ (by omega) | exact z_shc0 (by omega) | exact z_shc1 (by omega) | exact z_shc2 (by omega) | exact z_shc3 (by omega) | exact z_shc4 (by omega)) (by first | rfl | exact z_Rc0 _ (by omega) | exact z_Rc1 _ (by omega) | exact z_Rc2 _ (by omega) | exact z_Rc3 _ (by omega)) ?_
    refine aw_iload_n (pc := 61) dX4_shown_61 rfl ?_
    refine aw_iaload (pc := 62) dX4_shown_62 (by omega) (Nat.le_refl _) (by first | rfl | exact z_shr _ (by omega) | exact z_shc0 (by omega) | exact z_shc1 (by omega) | exact z_shc2 (by omega) | exact z_shc3 (by omega) | exact z_shc4 (by omega)) (by first | omega | exact z_bl_r _) ?_
    exact aw_ireturn (pc := 63) dX4_shown_63 rfl ⟨Nat.zero_le _, Nat.zero_le _⟩ (⟨by unfold z_shw; first | rfl | (rw [if_pos rfl, if_pos h33]) | (rw [if_pos rfl, if_neg h33]) | (rw [if_neg (by omega), if_neg (by omega), if_neg (by omega)]), rfl, rfl, rfl, rfl⟩)
set_option maxHeartbeats 4000000 in
theorem c_X4_showOtherwise {π : Nat → Nat} {I J : AwI} {c : Nat} {w i v : Int} (hc : c < 41) (hC : z_C I c) (hw : -2147483648 ≤ w ∧ w ≤ 2147483647) (h0 : w = 0 → I (19 + 5 * c) 5 ≠ 2 → 0 ≤ i ∧ i < 10) (h1 : w = 1 ∨ w = 2 → 0 ≤ i ∧ i < 8) : CT m_X4_showOtherwise [zr (19 + 5 * c), zi w, zi i, zi v] 255 I J (z_R π) (z_P none 255 (z_sho I c w i v) J (z_R π)) := by
  refine CT.of (by decide) (Nat.le_of_ble_eq_true rfl) ?_
  show AW _ 0 0 _ 0 [some (zr (19 + 5 * c)), some (zi w), some (zi i), some (zi v)] [] _ _ _
  refine aw_iload_n (pc := 0) dX4_showOtherwise_0 rfl ?_
  rcases (show (w < 0 ∨ 2 < w) ∨ w = 0 ∨ w = 1 ∨ w = 2 by omega) with h1 | h1 | h1 | h1
  · refine aw_tbl_out (pc := 1) (tgt := 74) dX4_showOtherwise_1 (by omega) h1 rfl ?_
    refine aw_aload_n (pc := 74) dX4_showOtherwise_74 rfl ?_
    refine aw_iload_n (pc := 75) dX4_showOtherwise_75 rfl ?_
    refine aw_putI (pc := 76) dX4_showOtherwise_76 k_fl_X4_40 rfl (by omega) (by first | rfl | exact z_shr _ (by omega) | exact z_shc0 (by omega) | exact z_shc1 (by omega) | exact z_shc2 (by omega) | exact z_shc3 (by omega) | exact z_shc4 (by omega)) ?_
    exact aw_return (pc := 79) dX4_showOtherwise_79 rfl ⟨Nat.zero_le _, Nat.zero_le _⟩ (⟨rfl, rfl, by unfold z_sho; first | rfl | (rw [if_pos rfl, if_pos h33]) | (rw [if_pos rfl, if_neg h33]) | (rw [if_neg (by omega), if_neg (by omega), if_neg (by omega)]), rfl, rfl⟩)
  · subst h1
    refine aw_tbl_in (pc := 1) (tgt := 28) (off := 27) dX4_showOtherwise_1 (by omega) (by omega) rfl rfl ?_
    have g := hC.kd
    refine aw_aload_n (pc := 28) dX4_showOtherwise_28 rfl ?_
    refine aw_getI (pc := 29) dX4_showOtherwise_29 k_fl_X4_34 rfl (by omega) (by first | rfl | exact z_shr _ (by omega) | exact z_shc0 (by omega) | exact z_shc1 (by omega) | exact z_shc2 (by omega) | exact z_shc3 (by omega) | exact z_shc4 (by omega)) ?_
    refine aw_iconst (pc := 32) dX4_showOtherwise_32 ?_
    refine aw_icmp_ne (pc := 33) (tgt := 44) dX4_showOtherwise_33 rfl (by first | omega | exact z_bl_r _) (by first | omega | exact z_bl_r _) (fun h33 => ?_) (fun h33 => ?_)
    · refine aw_aload_n (pc := 44) dX4_showOtherwise_44 rfl ?_
      refine aw_getR (pc := 45) dX4_showOtherwise_45 k_fl_X4_15 rfl (by omega) (by first | rfl | exact z_shr _ (by omega) | exact z_shc0 (by omega) | exact z_shc1 (by omega) | exact z_shc2 (by omega) | exact z_shc3 (by omega) | exact z_shc4 (by omega)) (by first | rfl | exact z_Rc0 _ (by omega) | exact z_Rc1 _ (by omega) | exact z_Rc2 _ (by omega) | exact z_Rc3 _ (by omega)) ?_
      refine aw_iload_n (pc := 48) dX4_showOtherwise_48 rfl ?_
      refine aw_iload_n (pc := 49) dX4_showOtherwise_49 rfl ?_
      refine aw_iastore (pc := 50) dX4_showOtherwise_50 (by omega) (Nat.le_refl _) (by first | rfl | exact z_shr _ (by omega) | exact z_shc0 (by omega) | exact z_shc1 (by omega) | exact z_shc2 (by omega) | exact z_shc3 (by omega) | exact z_shc4 (by omega)) (by first | omega | exact z_bl_r _) ?_
      refine aw_goto (pc := 51) (tgt := 79) dX4_showOtherwise_51 rfl ?_
      exact aw_return (pc := 79) dX4_showOtherwise_79 rfl ⟨Nat.zero_le _, Nat.zero_le _⟩ (⟨rfl, rfl, by unfold z_sho; first | rfl | (rw [if_pos rfl, if_pos h33]) | (rw [if_pos rfl, if_neg h33]) | (rw [if_neg (by omega), if_neg (by omega), if_neg (by omega)]), rfl, rfl⟩)
    · refine aw_aload_n (pc := 36) dX4_showOtherwise_36 rfl ?_
      refine aw_iload_n (pc := 37) dX4_showOtherwise_37 rfl ?_
      refine aw_putI (pc := 38) dX4_showOtherwise_38 k_fl_X4_43 rfl (by omega) (by first | rfl | exact z_shr _ (by omega) | exact z_shc0 (by omega) | exact z_shc1 (by omega) | exact z_shc2 (by omega) | exact z_shc3 (by omega) | exact z_shc4 (by omega)) ?_
      refine aw_goto (pc := 41) (tgt := 79) dX4_showOtherwise_41 rfl ?_
      exact aw_return (pc := 79) dX4_showOtherwise_79 rfl ⟨Nat.zero_le _, Nat.zero_le _⟩ (⟨rfl, rfl, by unfold z_sho; first | rfl | (rw [if_pos rfl, if_pos h33]) | (rw [if_pos rfl, if_neg h33]) | (rw [if_neg (by omega), if_neg (by omega), if_neg (by omega)]), rfl, rfl⟩)
  · subst h1
    refine aw_tbl_in (pc := 1) (tgt := 54) (off := 53) dX4_showOtherwise_1 (by omega) (by omega) rfl rfl ?_
    refine aw_aload_n (pc := 54) dX4_showOtherwise_54 rfl ?_
    refine aw_getR (pc := 55) dX4_showOtherwise_55 k_fl_X4_18 rfl (by omega) (by first | rfl | exact z_shr _ (by omega) | exact z_shc0 (by omega) | exact z_shc1 (by omega) | exact z_shc2 (by omega) | exact z_shc3 (by omega) | exact z_shc4 (by omega)) (by first | rfl | exact z_Rc0 _ (by omega) | exact z_Rc1 _ (by omega) | exact z_Rc2 _ (by omega) | exact z_Rc3 _ (by omega)) ?_
    refine aw_iload_n (pc := 58) dX4_showOtherwise_58 rfl ?_
    refine aw_iload_n (pc := 59) dX4_showOtherwise_59 rfl ?_
    refine aw_iastore (pc := 60) dX4_showOtherwise_60 (by omega) (Nat.le_refl _) (by first | rfl | exact z_shr _ (by omega) | exact z_shc0 (by omega) | exact z_shc1 (by omega) | exact z_shc2 (by omega) | exact z_shc3 (by omega) | exact z_shc4 (by omega)) (by first | omega | exact z_bl_r _) ?_
    refine aw_goto (pc := 61) (tgt := 79) dX4_showOtherwise_61 rfl ?_
    exact aw_return (pc := 79) dX4_showOtherwise_79 rfl ⟨Nat.zero_le _, Nat.zero_le _⟩ (⟨rfl, rfl, by unfold z_sho; first | rfl | (rw [if_pos rfl, if_pos h33]) | (rw [if_pos rfl, if_neg h33]) | (rw [if_neg (by omega), if_neg (by omega), if_neg (by omega)]), rfl, rfl⟩)
  · subst h1
    refine aw_tbl_in (pc := 1) (tgt := 64) (off := 63) dX4_showOtherwise_1 (by omega) (by omega) rfl rfl ?_
    refine aw_aload_n (pc := 64) dX4_showOtherwise_64 rfl ?_
    refine aw_getR (pc := 65) dX4_showOtherwise_65 k_fl_X4_21 rfl (by omega) (by first | rfl | exact z_shr _ (by omega) | exact z_shc0 (by omega) | exact z_shc1 (by omega) | exact z_shc2 (by omega) | exact z_shc3 (by omega) | exact z_shc4 (by omega)) (by first | rfl | exact z_Rc0 _ (by omega) | exact z_Rc1 _ (by omega) | exact z_Rc2 _ (by omega) | exact z_Rc3 _ (by omega)) ?_
    refine aw_iload_n (pc := 68) dX4_showOtherwise_68 rfl ?_
    refine aw_iload_n (pc := 69) dX4_showOtherwise_69 rfl ?_
    refine aw_iastore (pc := 70) dX4_showOtherwise_70 (by omega) (Nat.le_refl _) (by first | rfl | exact z_shr _ (by omega) | exact z_shc0 (by omega) | exact z_shc1 (by omega) | exact z_shc2 (by omega) | exact z_shc3 (by omega) | exact z_shc4 (by omega)) (by first | omega | exact z_bl_r _) ?_
    refine aw_goto (pc := 71) (tgt := 79) dX4_showOtherwise_71 rfl ?_
    exact aw_return (pc := 79) dX4_showOtherwise_79 rfl ⟨Nat.zero_le _, Nat.zero_le _⟩ (⟨rfl, rfl, by unfold z_sho; first | rfl | (rw [if_pos rfl, if_pos h33]) | (rw [if_pos rfl, if_neg h33]) | (rw [if_neg (by omega), if_neg (by omega), if_neg (by omega)]), rfl, rfl⟩)
set_option maxHeartbeats 4000000 in
theorem c_X5_has {π : Nat → Nat} {I J : AwI} {x : Int} (h : z_L I π) (hx : -2147483648 ≤ x ∧ x ≤ 2147483647) : CT m_X5_has [zr 17, zi x] 255 I J (z_R π) (z_P (some (zi (z_bl (0 ≤ x ∧ x < I 17 1)))) 255 I J (z_R π)) := by
  refine CT.of (by decide) (Nat.le_of_ble_eq_true rfl) ?_
  show AW _ 0 0 _ 0 [some (zr 17), some (zi x)] [] _ _ _
  have hn := h.n
  refine aw_iload_n (pc := 0) dX5_has_0 rfl ?_
  refine aw_if_lt (pc := 1) (tgt := 16) dX5_has_1 rfl (by first | omega | exact z_bl_r _) (fun h1 => ?_) (fun h1 => ?_)
  · refine aw_iconst (pc := 16) dX5_has_16 ?_
    exact aw_zreturn (pc := 17) dX5_has_17 rfl (by first | exact Or.inl rfl | exact Or.inr rfl | omega) ⟨Nat.zero_le _, Nat.zero_le _⟩ (⟨by first | exact z_r1 (by omega) | exact z_r0 (by omega), rfl, rfl, rfl, rfl⟩)
  · refine aw_iload_n (pc := 4) dX5_has_4 rfl ?_
    refine aw_aload_n (pc := 5) dX5_has_5 rfl ?_
    refine aw_getI (pc := 6) dX5_has_6 k_fl_X5_26 rfl (by omega) (by first | rfl | exact z_shr _ (by omega) | exact z_shc0 (by omega) | exact z_shc1 (by omega) | exact z_shc2 (by omega) | exact z_shc3 (by omega) | exact z_shc4 (by omega)) ?_
    refine aw_icmp_ge (pc := 9) (tgt := 16) dX5_has_9 rfl (by first | omega | exact z_bl_r _) (by first | omega | exact z_bl_r _) (fun h9 => ?_) (fun h9 => ?_)
    · refine aw_iconst (pc := 16) dX5_has_16 ?_
      exact aw_zreturn (pc := 17) dX5_has_17 rfl (by first | exact Or.inl rfl | exact Or.inr rfl | omega) ⟨Nat.zero_le _, Nat.zero_le _⟩ (⟨by first | exact z_r1 (by omega) | exact z_r0 (by omega), rfl, rfl, rfl, rfl⟩)
    · refine aw_iconst (pc := 12) dX5_has_12 ?_
      refine aw_goto (pc := 13) (tgt := 17) dX5_has_13 rfl ?_
      exact aw_zreturn (pc := 17) dX5_has_17 rfl (by first | exact Or.inl rfl | exact Or.inr rfl | omega) ⟨Nat.zero_le _, Nat.zero_le _⟩ (⟨by first | exact z_r1 (by omega) | exact z_r0 (by omega), rfl, rfl, rfl, rfl⟩)
set_option maxHeartbeats 4000000 in
theorem c_X5_newDraft {π : Nat → Nat} {I J : AwI} {kd : Int} (h : z_L I π) : CT m_X5_newDraft [zr 17, zi kd] 255 I J (z_R π) (z_P (some (zr (19 + 5 * π (I 17 1).toNat))) 255 (z_bg I (π (I 17 1).toNat) kd) J (z_R π)) := by
  refine CT.of (by decide) (Nat.le_of_ble_eq_true rfl) ?_
  show AW _ 0 0 _ 0 [some (zr 17), some (zi kd), none] [] _ _ _
  have hn := h.n
  have hp := h.p (k := (I 17 1).toNat) (by omega)
  refine aw_aload_n (pc := 0) dX5_newDraft_0 rfl ?_
  refine aw_getR (pc := 1) dX5_newDraft_1 k_fl_X5_11 rfl (by omega) (by first | rfl | exact z_shr _ (by omega) | exact z_shc0 (by omega) | exact z_shc1 (by omega) | exact z_shc2 (by omega) | exact z_shc3 (by omega) | exact z_shc4 (by omega)) (by first | rfl | exact z_Rc0 _ (by omega) | exact z_Rc1 _ (by omega) | exact z_Rc2 _ (by omega) | exact z_Rc3 _ (by omega)) ?_
  refine aw_aload_n (pc := 4) dX5_newDraft_4 rfl ?_
  refine aw_getI (pc := 5) dX5_newDraft_5 k_fl_X5_26 rfl (by omega) (by first | rfl | exact z_shr _ (by omega) | exact z_shc0 (by omega) | exact z_shc1 (by omega) | exact z_shc2 (by omega) | exact z_shc3 (by omega) | exact z_shc4 (by omega)) ?_
  refine aw_aaloadQ (pc := 8) dX5_newDraft_8 (by omega) (Nat.le_refl _) rfl (by omega) (by rfl) ?_
  refine aw_astore_n (pc := 9) (lv' := [_, _, _]) dX5_newDraft_9 (Nat.le_of_ble_eq_true rfl) rfl ?_
  refine aw_aload_n (pc := 10) dX5_newDraft_10 rfl ?_
  refine aw_iload_n (pc := 11) dX5_newDraft_11 rfl ?_
  refine aw_qV (pc := 12) (d := m_X4_begin) (c_X4_begin hp) k_X4_begin dX5_newDraft_12 k_ml_X5_30 rfl ⟨rfl, rfl⟩ (by omega) (by first | rfl | exact z_shr _ (by omega) | exact z_shc0 (by omega) | exact z_shc1 (by omega) | exact z_shc2 (by omega) | exact z_shc3 (by omega) | exact z_shc4 (by omega)) rfl ⟨Nat.le_of_ble_eq_true rfl, Nat.le_of_ble_eq_true rfl⟩ ⟨Nat.zero_le _, Nat.zero_le _⟩ rfl (Nat.le_of_ble_eq_true rfl) (z_Pk ?_)
  refine aw_aload_n (pc := 15) dX5_newDraft_15 rfl ?_
  exact aw_areturn (pc := 16) dX5_newDraft_16 rfl ⟨Nat.zero_le _, Nat.zero_le _⟩ (⟨rfl, rfl, rfl, rfl, rfl⟩)
set_option maxHeartbeats 4000000 in
theorem c_X5_isToldAlready {π : Nat → Nat} {I J : AwI} {d : Nat} (h : z_M I J) (hL : z_L I π) (hd : d < 41) : CT m_X5_isToldAlready [zr 17, zr (19 + 5 * d)] 255 I J (z_R π) (z_P (some (zi (z_bl (z_tl I π d)))) 255 I J (z_R π)) := by
  refine CT.of (by decide) (Nat.le_of_ble_eq_true rfl) ?_
  show AW _ 0 0 _ 0 [some (zr 17), some (zr (19 + 5 * d)), none] [] _ _ _
  have hn := hL.n
  have loop : ∀ (k : Nat) (x : Int), 0 ≤ x → x + k = I 17 1 → (∀ r : Nat, (r : Int) < x → ¬ z_sa I (π r) d) → AW (FM m_X5_isToldAlready (z_P (some (zi (z_bl (z_tl I π d)))) 255 I J (z_R π))) 0 0 255 2 [some (zr 17), some (zr (19 + 5 * d)), some (zi x)] [] I J (z_R π) := by
    intro k
    induction k with
    | zero =>
      intro x hx he hi
      refine aw_iload_n (pc := 2) dX5_isToldAlready_2 rfl ?_
      refine aw_aload_n (pc := 3) dX5_isToldAlready_3 rfl ?_
      refine aw_getI (pc := 4) dX5_isToldAlready_4 k_fl_X5_26 rfl (by omega) (by first | rfl | exact z_shr _ (by omega) | exact z_shc0 (by omega) | exact z_shc1 (by omega) | exact z_shc2 (by omega) | exact z_shc3 (by omega) | exact z_shc4 (by omega)) ?_
      refine aw_icmp_ge (pc := 7) (tgt := 38) dX5_isToldAlready_7 rfl (by first | omega | exact z_bl_r _) (by first | omega | exact z_bl_r _) (fun h7 => ?_) (fun h7 => absurd h7 (by omega))
      refine aw_iconst (pc := 38) dX5_isToldAlready_38 ?_
      exact aw_zreturn (pc := 39) dX5_isToldAlready_39 rfl (by first | exact Or.inl rfl | exact Or.inr rfl | omega) ⟨Nat.zero_le _, Nat.zero_le _⟩ (⟨z_r0 (fun q => by obtain ⟨r, h1, h2⟩ := q; exact hi r (by omega) h2), rfl, rfl, rfl, rfl⟩)
    | succ k ih =>
      intro x hx he hi
      refine aw_iload_n (pc := 2) dX5_isToldAlready_2 rfl ?_
      refine aw_aload_n (pc := 3) dX5_isToldAlready_3 rfl ?_
      refine aw_getI (pc := 4) dX5_isToldAlready_4 k_fl_X5_26 rfl (by omega) (by first | rfl | exact z_shr _ (by omega) | exact z_shc0 (by omega) | exact z_shc1 (by omega) | exact z_shc2 (by omega) | exact z_shc3 (by omega) | exact z_shc4 (by omega)) ?_
      refine aw_icmp_ge (pc := 7) (tgt := 38) dX5_isToldAlready_7 rfl (by first | omega | exact z_bl_r _) (by first | omega | exact z_bl_r _) (fun h7 => absurd h7 (by omega)) (fun h7 => ?_)
      have hp := hL.p (k := x.toNat) (by omega)
      refine aw_aload_n (pc := 10) dX5_isToldAlready_10 rfl ?_
      refine aw_getR (pc := 11) dX5_isToldAlready_11 k_fl_X5_11 rfl (by omega) (by first | rfl | exact z_shr _ (by omega) | exact z_shc0 (by omega) | exact z_shc1 (by omega) | exact z_shc2 (by omega) | exact z_shc3 (by omega) | exact z_shc4 (by omega)) (by first | rfl | exact z_Rc0 _ (by omega) | exact z_Rc1 _ (by omega) | exact z_Rc2 _ (by omega) | exact z_Rc3 _ (by omega)) ?_
      refine aw_iload_n (pc := 14) dX5_isToldAlready_14 rfl ?_
      refine aw_aaloadQ (pc := 15) dX5_isToldAlready_15 (by omega) (Nat.le_refl _) rfl (by omega) (by rfl) ?_
      refine aw_aload_n (pc := 16) dX5_isToldAlready_16 rfl ?_
      refine aw_aload_n (pc := 17) dX5_isToldAlready_17 rfl ?_
      refine aw_getR (pc := 18) dX5_isToldAlready_18 k_fl_X5_21 rfl (by omega) (by first | rfl | exact z_shr _ (by omega) | exact z_shc0 (by omega) | exact z_shc1 (by omega) | exact z_shc2 (by omega) | exact z_shc3 (by omega) | exact z_shc4 (by omega)) (by first | rfl | exact z_Rc0 _ (by omega) | exact z_Rc1 _ (by omega) | exact z_Rc2 _ (by omega) | exact z_Rc3 _ (by omega)) ?_
      refine aw_getI (pc := 21) dX5_isToldAlready_21 k_fl_X5_44 rfl (by omega) (by first | rfl | exact z_shr _ (by omega) | exact z_shc0 (by omega) | exact z_shc1 (by omega) | exact z_shc2 (by omega) | exact z_shc3 (by omega) | exact z_shc4 (by omega)) ?_
      refine aw_qV (pc := 24) (d := m_X4_saysTheSameAs) (c_X4_saysTheSameAs h hp hd (hL.c hp) (hL.c hd)) k_X4_saysTheSameAs dX5_isToldAlready_24 k_ml_X5_47 rfl ⟨rfl, rfl⟩ (by omega) (by first | rfl | exact z_shr _ (by omega) | exact z_shc0 (by omega) | exact z_shc1 (by omega) | exact z_shc2 (by omega) | exact z_shc3 (by omega) | exact z_shc4 (by omega)) rfl ⟨Nat.le_of_ble_eq_true rfl, Nat.le_of_ble_eq_true rfl⟩ ⟨Nat.zero_le _, Nat.zero_le _⟩ rfl (Nat.le_of_ble_eq_true rfl) (z_Pk ?_)
      refine aw_if_eq (pc := 27) (tgt := 32) dX5_isToldAlready_27 rfl (by first | omega | exact z_bl_r _) (fun h27 => ?_) (fun h27 => ?_)
      · refine aw_iinc (pc := 32) (lv' := [_, _, _]) dX5_isToldAlready_32 (Nat.le_of_ble_eq_true rfl) rfl rfl ?_
        refine aw_goto (pc := 35) (tgt := 2) dX5_isToldAlready_35 rfl ?_
        exact ih (x + 1) (by omega) (by omega) (fun r h1 => by
          by_cases e : (r : Int) < x
          · exact hi r e
          · rw [show r = x.toNat by omega]
            exact z_bl_0.mp h27)
      · refine aw_iconst (pc := 30) dX5_isToldAlready_30 ?_
        exact aw_zreturn (pc := 31) dX5_isToldAlready_31 rfl (by first | exact Or.inl rfl | exact Or.inr rfl | omega) ⟨Nat.zero_le _, Nat.zero_le _⟩ (⟨z_r1 ⟨x.toNat, by omega, z_bl_n.mp h27⟩, rfl, rfl, rfl, rfl⟩)
  refine aw_iconst (pc := 0) dX5_isToldAlready_0 ?_
  refine aw_istore_n (pc := 1) (lv' := [_, _, _]) dX5_isToldAlready_1 (Nat.le_of_ble_eq_true rfl) rfl ?_
  exact loop (I 17 1).toNat 0 (by omega) (by omega) (fun r h => by omega)
set_option maxHeartbeats 4000000 in
theorem c_X5_settleDraft {π : Nat → Nat} {I J : AwI} (h : z_M I J) (hL : z_L I π) : CT m_X5_settleDraft [zr 17] 255 I J (z_R π) (z_P (some (zi (z_sd I J π).1)) 255 (z_sd I J π).2 J (z_R π)) := by
  refine CT.of (by decide) (Nat.le_of_ble_eq_true rfl) ?_
  show AW _ 0 0 _ 0 [some (zr 17)] [] _ _ _
  have hn := hL.n
  have hp := hL.p (k := (I 17 1).toNat) (by omega)
  have hb := z_cst_b h (hL.c hp)
  refine aw_aload_n (pc := 0) dX5_settleDraft_0 rfl ?_
  refine aw_getR (pc := 1) dX5_settleDraft_1 k_fl_X5_21 rfl (by omega) (by first | rfl | exact z_shr _ (by omega) | exact z_shc0 (by omega) | exact z_shc1 (by omega) | exact z_shc2 (by omega) | exact z_shc3 (by omega) | exact z_shc4 (by omega)) (by first | rfl | exact z_Rc0 _ (by omega) | exact z_Rc1 _ (by omega) | exact z_Rc2 _ (by omega) | exact z_Rc3 _ (by omega)) ?_
  refine aw_aload_n (pc := 4) dX5_settleDraft_4 rfl ?_
  refine aw_getR (pc := 5) dX5_settleDraft_5 k_fl_X5_11 rfl (by omega) (by first | rfl | exact z_shr _ (by omega) | exact z_shc0 (by omega) | exact z_shc1 (by omega) | exact z_shc2 (by omega) | exact z_shc3 (by omega) | exact z_shc4 (by omega)) (by first | rfl | exact z_Rc0 _ (by omega) | exact z_Rc1 _ (by omega) | exact z_Rc2 _ (by omega) | exact z_Rc3 _ (by omega)) ?_
  refine aw_aload_n (pc := 8) dX5_settleDraft_8 rfl ?_
  refine aw_getI (pc := 9) dX5_settleDraft_9 k_fl_X5_26 rfl (by omega) (by first | rfl | exact z_shr _ (by omega) | exact z_shc0 (by omega) | exact z_shc1 (by omega) | exact z_shc2 (by omega) | exact z_shc3 (by omega) | exact z_shc4 (by omega)) ?_
  refine aw_aaloadQ (pc := 12) dX5_settleDraft_12 (by omega) (Nat.le_refl _) rfl (by omega) (by rfl) ?_
  refine aw_qV (pc := 13) (d := m_X6_scaledStrength) (c_X6_scaledStrength h hp (hL.c hp)) k_X6_scaledStrength dX5_settleDraft_13 k_ml_X5_34 rfl ⟨rfl, rfl⟩ (by omega) (by first | rfl | exact z_shr _ (by omega) | exact z_shc0 (by omega) | exact z_shc1 (by omega) | exact z_shc2 (by omega) | exact z_shc3 (by omega) | exact z_shc4 (by omega)) rfl ⟨Nat.le_of_ble_eq_true rfl, Nat.le_of_ble_eq_true rfl⟩ ⟨Nat.zero_le _, Nat.zero_le _⟩ rfl (Nat.le_of_ble_eq_true rfl) (z_Pk ?_)
  refine aw_lconst (pc := 16) (v := 0) dX5_settleDraft_16 rfl ?_
  refine aw_lcmp_le (pc := 17) (tgt := 37) dX5_settleDraft_17 dX5_settleDraft_18 rfl (by omega) (by omega) (fun h17 => ?_) (fun h17 => ?_)
  · refine aw_iconst (pc := 37) dX5_settleDraft_37 ?_
    refine aw_zreturn (pc := 38) dX5_settleDraft_38 rfl (by first | exact Or.inl rfl | exact Or.inr rfl | omega) ⟨Nat.zero_le _, Nat.zero_le _⟩ ?_
    have e : z_sd I J π = (1, I) := by unfold z_sd; exact if_pos (by first | exact Or.inl h17 | exact Or.inr (z_bl_n.mp h34))
    rw [e]
    exact ⟨rfl, rfl, rfl, rfl, rfl⟩
  · refine aw_aload_n (pc := 21) dX5_settleDraft_21 rfl ?_
    refine aw_aload_n (pc := 22) dX5_settleDraft_22 rfl ?_
    refine aw_getR (pc := 23) dX5_settleDraft_23 k_fl_X5_11 rfl (by omega) (by first | rfl | exact z_shr _ (by omega) | exact z_shc0 (by omega) | exact z_shc1 (by omega) | exact z_shc2 (by omega) | exact z_shc3 (by omega) | exact z_shc4 (by omega)) (by first | rfl | exact z_Rc0 _ (by omega) | exact z_Rc1 _ (by omega) | exact z_Rc2 _ (by omega) | exact z_Rc3 _ (by omega)) ?_
    refine aw_aload_n (pc := 26) dX5_settleDraft_26 rfl ?_
    refine aw_getI (pc := 27) dX5_settleDraft_27 k_fl_X5_26 rfl (by omega) (by first | rfl | exact z_shr _ (by omega) | exact z_shc0 (by omega) | exact z_shc1 (by omega) | exact z_shc2 (by omega) | exact z_shc3 (by omega) | exact z_shc4 (by omega)) ?_
    refine aw_aaloadQ (pc := 30) dX5_settleDraft_30 (by omega) (Nat.le_refl _) rfl (by omega) (by rfl) ?_
    refine aw_qV (pc := 31) (d := m_X5_isToldAlready) (c_X5_isToldAlready h hL hp) k_X5_isToldAlready dX5_settleDraft_31 k_ml_X5_40 rfl ⟨rfl, rfl⟩ (by omega) (by first | rfl | exact z_shr _ (by omega) | exact z_shc0 (by omega) | exact z_shc1 (by omega) | exact z_shc2 (by omega) | exact z_shc3 (by omega) | exact z_shc4 (by omega)) rfl ⟨Nat.le_of_ble_eq_true rfl, Nat.le_of_ble_eq_true rfl⟩ ⟨Nat.zero_le _, Nat.zero_le _⟩ rfl (Nat.le_of_ble_eq_true rfl) (z_Pk ?_)
    refine aw_if_eq (pc := 34) (tgt := 39) dX5_settleDraft_34 rfl (by first | omega | exact z_bl_r _) (fun h34 => ?_) (fun h34 => ?_)
    · refine aw_aload_n (pc := 39) dX5_settleDraft_39 rfl ?_
      refine aw_getI (pc := 40) dX5_settleDraft_40 k_fl_X5_26 rfl (by omega) (by first | rfl | exact z_shr _ (by omega) | exact z_shc0 (by omega) | exact z_shc1 (by omega) | exact z_shc2 (by omega) | exact z_shc3 (by omega) | exact z_shc4 (by omega)) ?_
      refine aw_bipush (pc := 43) dX5_settleDraft_43 rfl ?_
      refine aw_icmp_lt (pc := 45) (tgt := 55) dX5_settleDraft_45 rfl (by first | omega | exact z_bl_r _) (by first | omega | exact z_bl_r _) (fun h45 => ?_) (fun h45 => ?_)
      · refine aw_aload_n (pc := 55) dX5_settleDraft_55 rfl ?_
        refine aw_dup (pc := 56) dX5_settleDraft_56 (fun _ h => by cases h) ?_
        refine aw_getI (pc := 57) dX5_settleDraft_57 k_fl_X5_26 rfl (by omega) (by first | rfl | exact z_shr _ (by omega) | exact z_shc0 (by omega) | exact z_shc1 (by omega) | exact z_shc2 (by omega) | exact z_shc3 (by omega) | exact z_shc4 (by omega)) ?_
        refine aw_iconst (pc := 60) dX5_settleDraft_60 ?_
        refine aw_iadd (pc := 61) dX5_settleDraft_61 ?_
        refine aw_putI (pc := 62) dX5_settleDraft_62 k_fl_X5_26 rfl (by omega) (by first | rfl | exact z_shr _ (by omega) | exact z_shc0 (by omega) | exact z_shc1 (by omega) | exact z_shc2 (by omega) | exact z_shc3 (by omega) | exact z_shc4 (by omega)) ?_
        refine aw_iconst (pc := 65) dX5_settleDraft_65 ?_
        refine aw_zreturn (pc := 66) dX5_settleDraft_66 rfl (by first | exact Or.inl rfl | exact Or.inr rfl | omega) ⟨Nat.zero_le _, Nat.zero_le _⟩ ?_
        have e : z_sd I J π = (1, z_up I 17 1 (I 17 1 + 1)) := by unfold z_sd; rw [if_neg (fun q => q.elim (fun q => by omega) (z_bl_0.mp h34)), if_neg (by omega)]
        rw [e]
        exact ⟨rfl, rfl, rfl, rfl, rfl⟩
      · refine aw_aload_n (pc := 48) dX5_settleDraft_48 rfl ?_
        refine aw_iconst (pc := 49) dX5_settleDraft_49 ?_
        refine aw_putZ (pc := 50) dX5_settleDraft_50 k_fl_X5_17 rfl (by omega) (by first | rfl | exact z_shr _ (by omega) | exact z_shc0 (by omega) | exact z_shc1 (by omega) | exact z_shc2 (by omega) | exact z_shc3 (by omega) | exact z_shc4 (by omega)) (by first | omega | exact z_bl_r _) ?_
        refine aw_iconst (pc := 53) dX5_settleDraft_53 ?_
        refine aw_zreturn (pc := 54) dX5_settleDraft_54 rfl (by first | exact Or.inl rfl | exact Or.inr rfl | omega) ⟨Nat.zero_le _, Nat.zero_le _⟩ ?_
        have e : z_sd I J π = (0, z_up I 17 2 0) := by unfold z_sd; rw [if_neg (fun q => q.elim (fun q => by omega) (z_bl_0.mp h34)), if_pos (by omega)]
        rw [e]
        exact ⟨rfl, rfl, rfl, rfl, rfl⟩
    · refine aw_iconst (pc := 37) dX5_settleDraft_37 ?_
      refine aw_zreturn (pc := 38) dX5_settleDraft_38 rfl (by first | exact Or.inl rfl | exact Or.inr rfl | omega) ⟨Nat.zero_le _, Nat.zero_le _⟩ ?_
      have e : z_sd I J π = (1, I) := by unfold z_sd; exact if_pos (by first | exact Or.inl h17 | exact Or.inr (z_bl_n.mp h34))
      rw [e]
      exact ⟨rfl, rfl, rfl, rfl, rfl⟩
