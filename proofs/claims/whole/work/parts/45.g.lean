theorem z_bt_mul {s j : Nat} {v : Int} : z_bt s j * v = if s.testBit j = true then v else 0 := by
  unfold z_bt
  by_cases h : s.testBit j = true
  · rw [if_pos h, if_pos h, Int.one_mul]
  · rw [if_neg h, if_neg h, Int.zero_mul]
theorem z_wsu_ss {w : Nat → Int} {y k : Nat} : z_wsu w y k = z_ss w (fun t => y.testBit t) k := z_sum_c _ (fun j hj => z_bt_mul)
theorem z_wal_b {al : Nat → Int} {s k : Nat} (hk : k ≤ 8) (hw : ∀ j, j < k → -64 ≤ al j ∧ al j ≤ 7) : ∀ x, x ≤ k → -64 * (x : Int) ≤ z_wsu al s x ∧ z_wsu al s x ≤ 7 * (x : Int)
  | 0, _ => ⟨Int.le_refl _, Int.le_refl _⟩
  | x + 1, hx => by
    have a := z_wal_b (s := s) hk hw x (by omega)
    have b := hw x (by omega)
    have e : z_wsu al s (x + 1) = z_wsu al s x + z_bt s x * al x := rfl
    rw [e, z_bt_mul]
    split <;> omega
def z_gM (w al : Nat → Int) (k hv : Nat) (room : Int) (x : Nat) (M : Int) : Prop := (0 ≤ M ∧ M ≤ 56) ∧ (M = 0 ∨ ∃ y, y < x ∧ y &&& hv = y ∧ z_wsu w y k ≤ room ∧ z_wsu al y k = M) ∧ ∀ y, y < x → y &&& hv = y → z_wsu w y k ≤ room → z_wsu al y k ≤ M
theorem z_gM_skip {w al : Nat → Int} {k hv x : Nat} {room M : Int} (h : z_gM w al k hv room x M) (hn : ¬ (x &&& hv = x ∧ z_wsu w x k ≤ room)) : z_gM w al k hv room (x + 1) M := by
  obtain ⟨h1, h2, h3⟩ := h
  refine ⟨h1, ?_, fun y hy q1 q2 => ?_⟩
  · rcases h2 with h2 | ⟨y, a, b⟩
    · exact Or.inl h2
    · exact Or.inr ⟨y, by omega, b⟩
  · by_cases e : y = x
    · rw [e] at q1 q2; exact absurd ⟨q1, q2⟩ hn
    · exact h3 y (by omega) q1 q2
theorem z_gM_put {w al : Nat → Int} {k hv x : Nat} {room M : Int} (h : z_gM w al k hv room x M) (h1 : x &&& hv = x) (h2 : z_wsu w x k ≤ room) (hb : z_wsu al x k ≤ 56) : z_gM w al k hv room (x + 1) (z_mx M (z_wsu al x k)) := by
  obtain ⟨g1, g2, g3⟩ := h
  unfold z_mx
  split
  · rename_i q
    exact ⟨by omega, Or.inr ⟨x, by omega, h1, h2, rfl⟩, fun y hy q1 q2 => by
      by_cases e : y = x
      · rw [e]; omega
      · have := g3 y (by omega) q1 q2; omega⟩
  · rename_i q
    refine ⟨g1, ?_, fun y hy q1 q2 => ?_⟩
    · rcases g2 with g2 | ⟨y, a, b⟩
      · exact Or.inl g2
      · exact Or.inr ⟨y, by omega, b⟩
    · by_cases e : y = x
      · rw [e]; omega
      · exact g3 y (by omega) q1 q2
theorem z_gM_best {w al : Nat → Int} {k hv : Nat} {room M : Int} (h : z_gM w al k hv room (2 ^ k) M) (hw : ∀ j, j < k → 0 ≤ w j) : z_best w (fun t => if hv.testBit t = true then al t else 0) k room M := by
  obtain ⟨h1, h2, h3⟩ := h
  refine ⟨h1.1, ?_, fun S hS => ?_⟩
  · rcases h2 with h2 | ⟨y, a, b, c, d⟩
    · exact Or.inl h2
    · refine Or.inr ⟨fun t => y.testBit t, by rw [← z_wsu_ss]; exact c, ?_⟩
      rw [← d, z_wsu_ss]
      refine z_sum_c _ (fun j hj => ?_)
      by_cases e : y.testBit j = true
      · have e2 : hv.testBit j = true := by
          rw [← b, Nat.testBit_and] at e
          exact (Bool.and_eq_true _ _ ▸ e : _ ∧ _).2
        simp [e, e2]
      · simp [e]
  · have hb : ∀ t, (z_um (fun t => if (S t && hv.testBit t) = true then 1 else 0) k).testBit t = true ↔ t < k ∧ (S t && hv.testBit t) = true := fun t => by
      rw [z_um_t]
      refine and_congr_right (fun _ => ?_)
      by_cases e : (S t && hv.testBit t) = true
      · simp [e]
      · simp [e]
    have hlt := z_um_lt (fun t => if (S t && hv.testBit t) = true then 1 else 0) k
    generalize hy : z_um (fun t => if (S t && hv.testBit t) = true then 1 else 0) k = y at hb hlt
    have e1 : ∀ f : Nat → Int, z_wsu f y k = z_ss f (fun t => S t && hv.testBit t) k := fun f => by
      rw [z_wsu_ss]
      refine z_sum_c _ (fun j hj => ?_)
      have := hb j
      by_cases e : (S j && hv.testBit j) = true
      · rw [if_pos e, if_pos (this.mpr ⟨hj, e⟩)]
      · rw [if_neg e, if_neg (fun q => e (this.mp q).2)]
    have e2 : y &&& hv = y := by
      rw [Nat.and_comm]
      refine z_and_eq.mpr (fun i hi => ?_)
      have := ((hb i).mp hi).2
      exact (Bool.and_eq_true _ _ ▸ this : _ ∧ _).2
    have e3 : z_wsu w y k ≤ room := by
      refine Int.le_trans ?_ hS
      rw [e1]
      refine z_sum_le _ (fun j hj => ?_)
      have := hw j hj
      show (if (S j && hv.testBit j) = true then w j else 0) ≤ (if S j = true then w j else 0)
      cases S j <;> cases hv.testBit j <;> simp <;> omega
    have e4 := h3 y hlt e2 e3
    rw [e1] at e4
    refine Int.le_trans (Int.le_of_eq ?_) e4
    refine z_sum_c _ (fun j hj => ?_)
    show (if S j = true then (if hv.testBit j = true then al j else 0) else 0) = (if (S j && hv.testBit j) = true then al j else 0)
    cases S j <;> cases hv.testBit j <;> simp
set_option maxHeartbeats 4000000 in
theorem c_X9_greatest {π : Nat → Nat} {I J : AwI} {k : Nat} {hv : Nat} {room : Int} (hk : I 237 22 = (k : Int)) (hk8 : k ≤ 8) (hhv : hv < 2147483648) (hw : ∀ j, j < k → 1 ≤ I 251 j ∧ I 251 j ≤ 50) (ha : ∀ j, j < k → -64 ≤ I 252 j ∧ I 252 j ≤ 7) (hr : -200000 ≤ room ∧ room ≤ 200000) : CT m_X9_greatest [zr 237, zi (hv : Int), zi room] 255 I J (z_R π) (fun q9 sz' I' J' R' => sz' = 255 ∧ I' = I ∧ J' = J ∧ R' = z_R π ∧ ∃ b : Int, q9 = some (zi b) ∧ (0 ≤ b ∧ b ≤ 56) ∧ z_best (I 251) (fun t => if hv.testBit t = true then I 252 t else 0) k room b) := by
  have hp8 : 2 ^ k ≤ 2 ^ 8 := Nat.pow_le_pow_right (by omega) hk8
  refine CT.of (by decide) (Nat.le_of_ble_eq_true rfl) ?_
  show AW _ 0 0 _ 0 [some (zr 237), some (zi (hv : Int)), some (zi room), none, none, none, none] [] _ _ _
  have loop : ∀ (n : Nat) (x : Nat) (M : Int) (u v : Option AwV), x + n = 2 ^ k → z_gM (I 251) (I 252) k hv room x M → AW (FM m_X9_greatest (fun q9 sz' I' J' R' => sz' = 255 ∧ I' = I ∧ J' = J ∧ R' = z_R π ∧ ∃ b : Int, q9 = some (zi b) ∧ (0 ≤ b ∧ b ≤ 56) ∧ z_best (I 251) (fun t => if hv.testBit t = true then I 252 t else 0) k room b)) 0 0 255 5 [some (zr 237), some (zi (hv : Int)), some (zi room), some (zi M), some (zi (x : Int)), u, v] [] I J (z_R π) := by
    intro n
    induction n with
    | zero =>
      intro x M u v he g
      refine aw_iload (pc := 5) dX9_greatest_5 rfl ?_
      refine aw_iconst (pc := 7) dX9_greatest_7 ?_
      refine aw_aload_n (pc := 8) dX9_greatest_8 rfl ?_
      refine aw_getV (pc := 9) (v := (k : Int)) dX9_greatest_9 k_fl_X9_124 rfl (by omega) (by first | rfl | exact z_shr _ (by omega) | exact z_shc0 (by omega) | exact z_shc1 (by omega) | exact z_shc2 (by omega) | exact z_shc3 (by omega) | exact z_shc4 (by omega)) (hk) ?_
      refine aw_shl1 (pc := 12) dX9_greatest_12 (w := k) rfl (by omega) ?_
      refine aw_icmp_ge (pc := 13) (tgt := 96) dX9_greatest_13 rfl (by omega) (by omega) (fun h13 => ?_) (fun h13 => absurd h13 (by omega))
      refine aw_iload_n (pc := 96) dX9_greatest_96 rfl ?_
      exact aw_ireturn (pc := 97) dX9_greatest_97 rfl ⟨Nat.zero_le _, Nat.zero_le _⟩ (⟨rfl, rfl, rfl, rfl, M, rfl, g.1, z_gM_best (by rw [show 2 ^ k = x by omega]; exact g) (fun j hj => by have := hw j hj; omega)⟩)
    | succ n ih =>
      intro x M u v he g
      refine aw_iload (pc := 5) dX9_greatest_5 rfl ?_
      refine aw_iconst (pc := 7) dX9_greatest_7 ?_
      refine aw_aload_n (pc := 8) dX9_greatest_8 rfl ?_
      refine aw_getV (pc := 9) (v := (k : Int)) dX9_greatest_9 k_fl_X9_124 rfl (by omega) (by first | rfl | exact z_shr _ (by omega) | exact z_shc0 (by omega) | exact z_shc1 (by omega) | exact z_shc2 (by omega) | exact z_shc3 (by omega) | exact z_shc4 (by omega)) (hk) ?_
      refine aw_shl1 (pc := 12) dX9_greatest_12 (w := k) rfl (by omega) ?_
      refine aw_icmp_ge (pc := 13) (tgt := 96) dX9_greatest_13 rfl (by omega) (by omega) (fun h13 => absurd h13 (by omega)) (fun h13 => ?_)
      have hgM := g.1
      refine aw_iload (pc := 16) dX9_greatest_16 rfl ?_
      refine aw_iload_n (pc := 18) dX9_greatest_18 rfl ?_
      refine aw_iand (pc := 19) dX9_greatest_19 (a := x) (b := hv) rfl rfl ?_
      refine aw_iload (pc := 20) dX9_greatest_20 rfl ?_
      refine aw_icmp_ne (pc := 22) (tgt := 90) dX9_greatest_22 rfl (by have := Nat.and_le_left (n := x) (m := hv); omega) (by omega) (fun h22 => ?_) (fun h22 => ?_)
      · refine aw_iinc (pc := 90) (lv' := [_, _, _, _, _, _, _]) dX9_greatest_90 (Nat.le_of_ble_eq_true rfl) rfl rfl ?_
        refine aw_goto (pc := 93) (tgt := 5) dX9_greatest_93 rfl ?_
        exact ih (x + 1) _ _ _ (by omega) (z_gM_skip g (fun q => by omega))
      · refine aw_aload_n (pc := 25) dX9_greatest_25 rfl ?_
        refine aw_iload (pc := 26) dX9_greatest_26 rfl ?_
        refine aw_qV (pc := 28) (d := m_X9_weightOf) (c_X9_weightOf hk hk8 (by omega)) k_X9_weightOf dX9_greatest_28 k_ml_X9_137 rfl ⟨rfl, rfl⟩ (by omega) (by first | rfl | exact z_shr _ (by omega) | exact z_shc0 (by omega) | exact z_shc1 (by omega) | exact z_shc2 (by omega) | exact z_shc3 (by omega) | exact z_shc4 (by omega)) rfl ⟨Nat.le_of_ble_eq_true rfl, Nat.le_of_ble_eq_true rfl⟩ ⟨Nat.zero_le _, Nat.zero_le _⟩ rfl (Nat.le_of_ble_eq_true rfl) (z_Pk ?_)
        have hwb := z_wsu_b (s := x) hk8 hw
        refine aw_iload_n (pc := 31) dX9_greatest_31 rfl ?_
        refine aw_icmp_gt (pc := 32) (tgt := 90) dX9_greatest_32 rfl (by omega) (by omega) (fun h32 => ?_) (fun h32 => ?_)
        · refine aw_iinc (pc := 90) (lv' := [_, _, _, _, _, _, _]) dX9_greatest_90 (Nat.le_of_ble_eq_true rfl) rfl rfl ?_
          refine aw_goto (pc := 93) (tgt := 5) dX9_greatest_93 rfl ?_
          exact ih (x + 1) _ _ _ (by omega) (z_gM_skip g (fun q => by omega))
        · have hA : x &&& hv = x := by omega
          have hB : z_wsu (I 251) x k ≤ room := by omega
          have inner : ∀ (n2 : Nat) (i : Nat), i + n2 = k → AW (FM m_X9_greatest (fun q9 sz' I' J' R' => sz' = 255 ∧ I' = I ∧ J' = J ∧ R' = z_R π ∧ ∃ b : Int, q9 = some (zi b) ∧ (0 ≤ b ∧ b ≤ 56) ∧ z_best (I 251) (fun t => if hv.testBit t = true then I 252 t else 0) k room b)) 0 0 255 41 [some (zr 237), some (zi (hv : Int)), some (zi room), some (zi M), some (zi (x : Int)), some (zi (z_wsu (I 252) x i)), some (zi (i : Int))] [] I J (z_R π) := by
            intro n2
            induction n2 with
            | zero =>
              intro i he2
              refine aw_iload (pc := 41) dX9_greatest_41 rfl ?_
              refine aw_aload_n (pc := 43) dX9_greatest_43 rfl ?_
              refine aw_getV (pc := 44) (v := (k : Int)) dX9_greatest_44 k_fl_X9_124 rfl (by omega) (by first | rfl | exact z_shr _ (by omega) | exact z_shc0 (by omega) | exact z_shc1 (by omega) | exact z_shc2 (by omega) | exact z_shc3 (by omega) | exact z_shc4 (by omega)) (hk) ?_
              refine aw_icmp_ge (pc := 47) (tgt := 83) dX9_greatest_47 rfl (by first | omega | exact z_bl_r _) (by first | omega | exact z_bl_r _) (fun h47 => ?_) (fun h47 => absurd h47 (by omega))
              rw [show i = k by omega]
              have hwb := z_wal_b (s := x) hk8 ha k (Nat.le_refl _)
              refine aw_iload_n (pc := 83) dX9_greatest_83 rfl ?_
              refine aw_iload (pc := 84) dX9_greatest_84 rfl ?_
              refine aw_qS (pc := 86) (d := m_J9_max_7cf53) (c_max (by omega) (by omega)) k_J9_max_7cf53 dX9_greatest_86 k_ml_X9_141 rfl ⟨rfl, rfl⟩ ⟨Nat.le_of_ble_eq_true rfl, Nat.le_of_ble_eq_true rfl⟩ ⟨Nat.zero_le _, Nat.zero_le _⟩ rfl (Nat.le_of_ble_eq_true rfl) (z_Pk ?_)
              refine aw_istore_n (pc := 89) (lv' := [_, _, _, _, _, _, _]) dX9_greatest_89 (Nat.le_of_ble_eq_true rfl) rfl ?_
              refine aw_iinc (pc := 90) (lv' := [_, _, _, _, _, _, _]) dX9_greatest_90 (Nat.le_of_ble_eq_true rfl) rfl rfl ?_
              refine aw_goto (pc := 93) (tgt := 5) dX9_greatest_93 rfl ?_
              exact ih (x + 1) _ _ _ (by omega) (z_gM_put g hA hB (by omega))
            | succ n2 ih2 =>
              intro i he2
              refine aw_iload (pc := 41) dX9_greatest_41 rfl ?_
              refine aw_aload_n (pc := 43) dX9_greatest_43 rfl ?_
              refine aw_getV (pc := 44) (v := (k : Int)) dX9_greatest_44 k_fl_X9_124 rfl (by omega) (by first | rfl | exact z_shr _ (by omega) | exact z_shc0 (by omega) | exact z_shc1 (by omega) | exact z_shc2 (by omega) | exact z_shc3 (by omega) | exact z_shc4 (by omega)) (hk) ?_
              refine aw_icmp_ge (pc := 47) (tgt := 83) dX9_greatest_47 rfl (by first | omega | exact z_bl_r _) (by first | omega | exact z_bl_r _) (fun h47 => absurd h47 (by omega)) (fun h47 => ?_)
              have hbb := z_bt_b x i
              refine aw_iload (pc := 50) dX9_greatest_50 rfl ?_
              refine aw_iload (pc := 52) dX9_greatest_52 rfl ?_
              refine aw_iload (pc := 54) dX9_greatest_54 rfl ?_
              refine aw_shr (pc := 56) dX9_greatest_56 (a := x) (w := i) rfl rfl (by omega) (by omega) ?_
              refine aw_iconst (pc := 57) dX9_greatest_57 ?_
              refine aw_iand (pc := 58) dX9_greatest_58 rfl (b := 1) rfl ?_
              rw [z_btn]
              refine aw_iconst (pc := 59) dX9_greatest_59 ?_
              refine aw_icmp_ne (pc := 60) (tgt := 73) dX9_greatest_60 rfl (by omega) (by omega) (fun h60 => ?_) (fun h60 => ?_)
              · refine aw_iconst (pc := 73) dX9_greatest_73 ?_
                refine aw_iadd (pc := 74) dX9_greatest_74 ?_
                refine aw_istore (pc := 75) (lv' := [_, _, _, _, _, _, _]) dX9_greatest_75 (Nat.le_of_ble_eq_true rfl) rfl ?_
                refine aw_iinc (pc := 77) (lv' := [_, _, _, _, _, _, _]) dX9_greatest_77 (Nat.le_of_ble_eq_true rfl) rfl rfl ?_
                refine aw_goto (pc := 80) (tgt := 41) dX9_greatest_80 rfl ?_
                have K := ih2 (i + 1) (by omega)
                rw [show z_wsu (I 252) x (i + 1) = z_wsu (I 252) x i + 0 by show z_wsu (I 252) x i + z_bt x i * I 252 i = _; rw [show z_bt x i = 0 by omega, Int.zero_mul]] at K
                exact K
              · refine aw_aload_n (pc := 63) dX9_greatest_63 rfl ?_
                refine aw_getR (pc := 64) dX9_greatest_64 k_fl_X9_57 rfl (by omega) (by first | rfl | exact z_shr _ (by omega) | exact z_shc0 (by omega) | exact z_shc1 (by omega) | exact z_shc2 (by omega) | exact z_shc3 (by omega) | exact z_shc4 (by omega)) (by first | rfl | exact z_Rc0 _ (by omega) | exact z_Rc1 _ (by omega) | exact z_Rc2 _ (by omega) | exact z_Rc3 _ (by omega)) ?_
                refine aw_iload (pc := 67) dX9_greatest_67 rfl ?_
                refine aw_ialoadV (pc := 69) (v := I 252 i) dX9_greatest_69 (by omega) (Nat.le_refl _) (by first | rfl | exact z_shr _ (by omega) | exact z_shc0 (by omega) | exact z_shc1 (by omega) | exact z_shc2 (by omega) | exact z_shc3 (by omega) | exact z_shc4 (by omega)) (by first | omega | exact z_bl_r _) (rfl) ?_
                refine aw_goto (pc := 70) (tgt := 74) dX9_greatest_70 rfl ?_
                refine aw_iadd (pc := 74) dX9_greatest_74 ?_
                refine aw_istore (pc := 75) (lv' := [_, _, _, _, _, _, _]) dX9_greatest_75 (Nat.le_of_ble_eq_true rfl) rfl ?_
                refine aw_iinc (pc := 77) (lv' := [_, _, _, _, _, _, _]) dX9_greatest_77 (Nat.le_of_ble_eq_true rfl) rfl rfl ?_
                refine aw_goto (pc := 80) (tgt := 41) dX9_greatest_80 rfl ?_
                have K := ih2 (i + 1) (by omega)
                rw [show z_wsu (I 252) x (i + 1) = z_wsu (I 252) x i + I 252 i by show z_wsu (I 252) x i + z_bt x i * I 252 i = _; rw [show z_bt x i = 1 by omega, Int.one_mul]] at K
                exact K
          refine aw_iconst (pc := 35) dX9_greatest_35 ?_
          refine aw_istore (pc := 36) (lv' := [_, _, _, _, _, _, _]) dX9_greatest_36 (Nat.le_of_ble_eq_true rfl) rfl ?_
          refine aw_iconst (pc := 38) dX9_greatest_38 ?_
          refine aw_istore (pc := 39) (lv' := [_, _, _, _, _, _, _]) dX9_greatest_39 (Nat.le_of_ble_eq_true rfl) rfl ?_
          exact inner k 0 (by omega)
  refine aw_iconst (pc := 0) dX9_greatest_0 ?_
  refine aw_istore_n (pc := 1) (lv' := [_, _, _, _, _, _, _]) dX9_greatest_1 (Nat.le_of_ble_eq_true rfl) rfl ?_
  refine aw_iconst (pc := 2) dX9_greatest_2 ?_
  refine aw_istore (pc := 3) (lv' := [_, _, _, _, _, _, _]) dX9_greatest_3 (Nat.le_of_ble_eq_true rfl) rfl ?_
  exact loop (2 ^ k) 0 0 _ _ (by omega) ⟨by omega, Or.inl rfl, fun y hy => absurd hy (by omega)⟩
theorem z_cnt_s (s x : Nat) : ((z_cnt s (x + 1) : Nat) : Int) = (z_cnt s x : Int) + z_bt s x := by
  show ((z_cnt s x + (if s.testBit x then 1 else 0) : Nat) : Int) = _
  unfold z_bt
  split <;> simp
theorem z_cnt_10 {s k : Nat} (h : s < 2 ^ k) (hk : k ≤ 10) : z_cnt s 10 = z_cnt s k := by
  have := z_cnt_hi h (10 - k)
  rw [show k + (10 - k) = 10 by omega] at this
  exact this
/-- the alphas given so far -/
def z_Ax (k : Nat) (wt : Nat → Int) (cap : Int) (s : Nat) (most : Int) (x : Nat) (al : Nat → Int) : Prop := (∀ j, j < k → s.testBit j = true → al j = 1) ∧ (∀ j, j < x → s.testBit j = false → ∃ b, z_best wt (z_ar s j al) k (cap - wt j) b ∧ al j = most - b) ∧ ∀ j, j < k → -64 ≤ al j ∧ al j ≤ 7
theorem z_Ax_in {k : Nat} {wt : Nat → Int} {cap : Int} {s : Nat} {most : Int} {x : Nat} {al : Nat → Int} (h : z_Ax k wt cap s most x al) (hb : s.testBit x = true) : z_Ax k wt cap s most (x + 1) al := by
  obtain ⟨h1, h2, h3⟩ := h
  refine ⟨h1, fun j hj q => ?_, h3⟩
  by_cases e : j = x
  · rw [e, hb] at q; cases q
  · exact h2 j (by omega) q
theorem z_Ax_put {k : Nat} {wt : Nat → Int} {cap : Int} {s : Nat} {most : Int} {x : Nat} {al : Nat → Int} {b : Int} (h : z_Ax k wt cap s most x al) (hb : s.testBit x = false) (hB : z_best wt (z_ar s x al) k (cap - wt x) b) (hm : most ≤ 7 ∧ 0 ≤ most) (hbb : 0 ≤ b ∧ b ≤ 56) : z_Ax k wt cap s most (x + 1) (va_up al x (most - b)) := by
  obtain ⟨h1, h2, h3⟩ := h
  have ea : ∀ j, j ≤ x → z_ar s j (va_up al x (most - b)) = z_ar s j al := fun j hj => by
    funext t
    unfold z_ar
    by_cases q : s.testBit t = true ∨ t < j
    · rw [if_pos q, if_pos q, z_vn_ne (fun e => by rw [e] at q; rcases q with q | q; (rw [hb] at q; cases q); omega)]
    · rw [if_neg q, if_neg q]
  refine ⟨fun j hj q => ?_, fun j hj q => ?_, fun j hj => ?_⟩
  · rw [z_vn_ne (fun e => by rw [e, hb] at q; cases q)]; exact h1 j hj q
  · rw [ea j (by omega)]
    by_cases e : j = x
    · rw [e, z_vs]; exact ⟨b, hB, rfl⟩
    · rw [z_vn_ne e]; exact h2 j (by omega) q
  · by_cases e : j = x
    · rw [e, z_vs]; omega
    · rw [z_vn_ne e]; exact h3 j hj
theorem z_best_neg {w a : Nat → Int} {k : Nat} {room : Int} (hw : ∀ j, j < k → 0 ≤ w j) (h : room < 0) : z_best w a k room 0 := ⟨Int.le_refl _, Or.inl rfl, fun S hS => by have := z_ss_nn (S := S) hw; omega⟩
set_option maxHeartbeats 4000000 in
theorem c_X9_cover {π : Nat → Nat} {I J : AwI} {k : Nat} {m : z_MM} {L : List z_CC} {t cap : Int} {ln wt al0 : Nat → Int} {q s : Nat} (hI : z_RI I J m L t) (hq : q < mR m) (hk8 : k ≤ 8) (hkq : k = (z_q m q).1) (hcq : cap = (z_q m q).2.2.2) (hlw : ∀ j, j < k → ln j = (z_q m q).2.1 j ∧ wt j = (z_q m q).2.2.1 j) (hlb : ∀ j, j < k → 0 ≤ ln j ∧ ln j < (mN m : Int)) (hw : ∀ j, j < k → 1 ≤ wt j ∧ wt j ≤ 50) (hcap : -100000 ≤ cap ∧ cap ≤ 100000) (hs1 : 1 ≤ s) (hs2 : s < 2 ^ k) : CT m_X9_cover [zr 237, zi (q : Int), zi (s : Int)] 255 (z_l9 I (k : Int) cap ln wt al0) J (z_R π) (fun q9 sz' I' J' R' => q9 = none ∧ sz' = 255 ∧ R' = z_R π ∧ z_RI I' J' m (z_of m (L, t) (z_cV m q s)).1 (z_of m (L, t) (z_cV m q s)).2 ∧ I' 237 14 = I 237 14 + (((z_of m (L, t) (z_cV m q s)).1.length : Int) - (L.length : Int)) ∧ z_FQ I J I' J' ∧ I' 237 22 = (k : Int) ∧ I' 237 23 = cap ∧ (∀ j, I' 250 j = ln j) ∧ ∀ j, I' 251 j = wt j) := by
  obtain ⟨hM1, hm1, e0, e4, elo, ehi, ept, eF, ert, hmb, hptb, hF0⟩ := hI.rds
  have hN8 := hmb.1
  have hR10 := hmb.2.1
  have hcn := z_cnt_1 hs1 hs2
  have hcb := z_cnt_b s k
  have hc10 := z_cnt_10 hs2 (by omega)
  have hmo : ((z_cnt s 10 : Int) - 1) ≤ 7 ∧ 0 ≤ ((z_cnt s 10 : Int) - 1) := by omega
  have hs256 : s < 256 := Nat.lt_of_lt_of_le hs2 (Nat.pow_le_pow_right (by omega) hk8)
  have hnz0 : ∀ j, j < k → mF m q (ln j).toNat ≠ 0 := fun j hj => by rw [(hlw j hj).1]; exact z_rl_nz _ j (by rw [hkq] at hj; exact hj)
  refine CT.of (by decide) (Nat.le_of_ble_eq_true rfl) ?_
  show AW _ 0 0 _ 0 [some (zr 237), some (zi (q : Int)), some (zi (s : Int)), none, none, none, none, none] [] _ _ _
  have tail : ∀ (al : Nat → Int), z_Ax k wt cap s ((z_cnt s 10 : Int) - 1) k al → ∀ (w4 : Int) (w5 w6 w7 : Option AwV), AW (FM m_X9_cover (fun q9 sz' I' J' R' => q9 = none ∧ sz' = 255 ∧ R' = z_R π ∧ z_RI I' J' m (z_of m (L, t) (z_cV m q s)).1 (z_of m (L, t) (z_cV m q s)).2 ∧ I' 237 14 = I 237 14 + (((z_of m (L, t) (z_cV m q s)).1.length : Int) - (L.length : Int)) ∧ z_FQ I J I' J' ∧ I' 237 22 = (k : Int) ∧ I' 237 23 = cap ∧ (∀ j, I' 250 j = ln j) ∧ ∀ j, I' 251 j = wt j)) 0 0 255 126 [some (zr 237), some (zi (q : Int)), some (zi (s : Int)), some (zi (z_cnt s k : Int)), some (zi w4), w5, w6, w7] [] (z_l9 I (k : Int) cap ln wt al) J (z_R π) := by
    intro al g w4 w5 w6 w7
    obtain ⟨s0, hs0⟩ : ∃ s0 : Nat → Int, s0 = I 249 := ⟨_, rfl⟩
    have hm1l : z_rfM (z_l9 I (k : Int) cap ln wt al) J = m := (hI.l9 (k := (k : Int)) (cap := cap) (ln := ln) (wt := wt) (al := al)).2.1
    have loop3 : ∀ (n3 : Nat) (x : Nat) (u v : Option AwV), x + n3 = k → AW (FM m_X9_cover (fun q9 sz' I' J' R' => q9 = none ∧ sz' = 255 ∧ R' = z_R π ∧ z_RI I' J' m (z_of m (L, t) (z_cV m q s)).1 (z_of m (L, t) (z_cV m q s)).2 ∧ I' 237 14 = I 237 14 + (((z_of m (L, t) (z_cV m q s)).1.length : Int) - (L.length : Int)) ∧ z_FQ I J I' J' ∧ I' 237 22 = (k : Int) ∧ I' 237 23 = cap ∧ (∀ j, I' 250 j = ln j) ∧ ∀ j, I' 251 j = wt j)) 0 0 255 141 [some (zr 237), some (zi (q : Int)), some (zi (s : Int)), some (zi (z_cnt s k : Int)), some (zi w4), some (zi (x : Int)), u, v] [] (z_dI (z_l9 I (k : Int) cap ln wt al) (z_pf (fun _ => 0) s0 27)) (z_dJ J (z_cb (mF m q) ln al (z_pf (fun _ => 0) (J 248) 8) ((z_cnt s 10 : Int) - 1) x).1 (z_cb (mF m q) ln al (z_pf (fun _ => 0) (J 248) 8) ((z_cnt s 10 : Int) - 1) x).2) (z_R π) := by
      intro n3
      induction n3 with
      | zero =>
        intro x u v he3
        refine aw_iload (pc := 141) dX9_cover_141 rfl ?_
        refine aw_aload_n (pc := 143) dX9_cover_143 rfl ?_
        refine aw_getV (pc := 144) (v := (k : Int)) dX9_cover_144 k_fl_X9_124 rfl (by omega) (by first | rfl | exact z_shr _ (by omega) | exact z_shc0 (by omega) | exact z_shc1 (by omega) | exact z_shc2 (by omega) | exact z_shc3 (by omega) | exact z_shc4 (by omega)) ((z_dI_o (by omega)).trans z_l9_k) ?_
        refine aw_icmp_ge (pc := 147) (tgt := 245) dX9_cover_147 rfl (by first | omega | exact z_bl_r _) (by first | omega | exact z_bl_r _) (fun h147 => ?_) (fun h147 => absurd h147 (by omega))
        rw [show x = k by omega]
        refine aw_aload_n (pc := 245) dX9_cover_245 rfl ?_
        refine aw_getR (pc := 246) dX9_cover_246 k_fl_X9_48 rfl (by omega) (by first | rfl | exact z_shr _ (by omega) | exact z_shc0 (by omega) | exact z_shc1 (by omega) | exact z_shc2 (by omega) | exact z_shc3 (by omega) | exact z_shc4 (by omega)) (by first | rfl | exact z_Rc0 _ (by omega) | exact z_Rc1 _ (by omega) | exact z_Rc2 _ (by omega) | exact z_Rc3 _ (by omega)) ?_
        refine aw_iconst (pc := 249) dX9_cover_249 ?_
        refine aw_iload_n (pc := 250) dX9_cover_250 rfl ?_
        refine aw_iastore (pc := 251) dX9_cover_251 (by omega) (Nat.le_refl _) (by first | rfl | exact z_shr _ (by omega) | exact z_shc0 (by omega) | exact z_shc1 (by omega) | exact z_shc2 (by omega) | exact z_shc3 (by omega) | exact z_shc4 (by omega)) (by first | omega | exact z_bl_r _) ?_
        rw [show ((0 : Int)).toNat = 0 from rfl, z_dI_u]
        obtain ⟨cb1, cb2⟩ := z_cb_b (F := mF m q) (lit := ln) (al := al) (f0 := fun n => if n < 8 then z_pf (fun _ => 0) (J 248) 8 n else 0) (r0 := ((z_cnt s 10 : Int) - 1)) (fun n => by split <;> (first | (rename_i q8; rw [z_pf_lt q8]; omega) | omega)) k (fun j hj => by have := g.2.2 j hj; omega)
        have cbf : ∀ n, n < 8 → (z_cb (mF m q) ln al (z_pf (fun _ => 0) (J 248) 8) ((z_cnt s 10 : Int) - 1) k).1 n = (z_cb (mF m q) ln al (fun n => if n < 8 then z_pf (fun _ => 0) (J 248) 8 n else 0) ((z_cnt s 10 : Int) - 1) k).1 n := fun n hn => (z_cb_c (by rw [if_pos hn]) k (fun _ _ => ⟨rfl, rfl, rfl⟩)).1
        have cbr : (z_cb (mF m q) ln al (z_pf (fun _ => 0) (J 248) 8) ((z_cnt s 10 : Int) - 1) k).2 = (z_cb (mF m q) ln al (fun n => if n < 8 then z_pf (fun _ => 0) (J 248) 8 n else 0) ((z_cnt s 10 : Int) - 1) k).2 := (z_cb_c (n := 0) (by rw [if_pos (by omega)]) k (fun _ _ => ⟨rfl, rfl, rfl⟩)).2
        have hAK : z_AOK k wt cap s ((z_cnt s 10 : Int) - 1) al := fun j hj => ⟨g.1 j hj, g.2.1 j hj⟩
        have hAQ : z_AOK (z_q m q).1 (z_q m q).2.2.1 (z_q m q).2.2.2 s ((z_cnt s 10 : Int) - 1) al := by rw [← hkq, ← hcq]; exact z_AOK_w hAK (fun j hj => (hlw j hj).2)
        have hal : ∀ j, j < k → al j = z_al m q s j := fun j hj => z_AOK_u hAQ (z_al_ok ⟨al, hAQ⟩) j (by omega)
        have hd : z_dC m (z_cV m q s) (z_cb (mF m q) ln al (z_pf (fun _ => 0) (J 248) 8) ((z_cnt s 10 : Int) - 1) k).1 (z_cb (mF m q) ln al (z_pf (fun _ => 0) (J 248) 8) ((z_cnt s 10 : Int) - 1) k).2 2 (va_up (z_pf (fun _ => 0) s0 27) 0 (q : Int)) := by
          have cc : ∀ n, n < 8 → (z_cb (mF m q) ln al (z_pf (fun _ => 0) (J 248) 8) ((z_cnt s 10 : Int) - 1) k).1 n = cF (z_cV m q s) n ∧ (z_cb (mF m q) ln al (z_pf (fun _ => 0) (J 248) 8) ((z_cnt s 10 : Int) - 1) k).2 = cR (z_cV m q s) := fun n hn => by
            have := z_cb_c (F := mF m q) (F' := mF m q) (lit := ln) (lit' := (z_q m q).2.1) (al := al) (al' := z_al m q s) (f0 := z_pf (fun _ => 0) (J 248) 8) (f0' := fun _ => 0) (r0 := ((z_cnt s 10 : Int) - 1)) (n := n) (z_pf_lt hn) k (fun j hj => ⟨(hlw j hj).1, hal j hj, rfl⟩)
            rw [show z_cV m q s = (_, _, 2, 0, _) from rfl]
            show _ = (z_cb (mF m q) (z_q m q).2.1 (z_al m q s) (fun _ => 0) ((z_cnt s 10 : Int) - 1) (z_q m q).1).1 n ∧ _ = (z_cb (mF m q) (z_q m q).2.1 (z_al m q s) (fun _ => 0) ((z_cnt s 10 : Int) - 1) (z_q m q).1).2
            rw [← hkq]
            exact this
          exact ⟨fun n hn => (cc n (by omega)).1, (cc 0 (by omega)).2, rfl, rfl, fun q => absurd q (by show ¬ ((2 : Int) = 0 ∨ (2 : Int) = 1); omega), fun _ => z_vs⟩
        have K3 := c_X9_offer (π := π) (I := (z_l9 I (k : Int) cap ln wt al)) (J := J) (L := L) (t := t) (C := z_cV m q s) (kd := 2) (f := (z_cb (mF m q) ln al (z_pf (fun _ => 0) (J 248) 8) ((z_cnt s 10 : Int) - 1) k).1) (r := (z_cb (mF m q) ln al (z_pf (fun _ => 0) (J 248) 8) ((z_cnt s 10 : Int) - 1) k).2) (s := (va_up (z_pf (fun _ => 0) s0 27) 0 (q : Int))) (by rw [hm1l]; exact hI.l9) (by rw [hm1l]; exact hd) (fun i hi => by rw [cbf i hi]; exact cb1 i) (by rw [cbr]; omega) (fun j hj => by unfold va_up; split; (omega); (rw [z_pf_lt hj]; omega)) (by omega)
        rw [hm1l] at K3
        refine aw_aload_n (pc := 252) dX9_cover_252 rfl ?_
        refine aw_iconst (pc := 253) dX9_cover_253 ?_
        refine aw_qV (pc := 254) (d := m_X9_offer) (K3) k_X9_offer dX9_cover_254 k_ml_X9_118 rfl ⟨rfl, rfl⟩ (by omega) (by first | rfl | exact z_shr _ (by omega) | exact z_shc0 (by omega) | exact z_shc1 (by omega) | exact z_shc2 (by omega) | exact z_shc3 (by omega) | exact z_shc4 (by omega)) rfl ⟨Nat.le_of_ble_eq_true rfl, Nat.le_of_ble_eq_true rfl⟩ ⟨Nat.zero_le _, Nat.zero_le _⟩ rfl (Nat.le_of_ble_eq_true rfl) ?_
        rintro q9 sz2 I2 J2 R2 ⟨rfl, rfl, rfl, o1, o2, o3, o4⟩
        exact aw_return (pc := 257) dX9_cover_257 rfl ⟨Nat.zero_le _, Nat.zero_le _⟩ (⟨rfl, rfl, rfl, o1, o2, z_FQ.off z_FQ.rf.l9 o3 o4, (o3 237 22 (by omega) (by omega)).trans ((z_dI_o (by omega)).trans z_l9_k), (o3 237 23 (by omega) (by omega)).trans ((z_dI_o (by omega)).trans z_l9_c), fun j => (o3 250 j (by omega) (by omega)).trans ((z_dI_o (by omega)).trans (z_l9_ln j)), fun j => (o3 251 j (by omega) (by omega)).trans ((z_dI_o (by omega)).trans (z_l9_wt j))⟩)
      | succ n3 ih3 =>
        intro x u v he3
        refine aw_iload (pc := 141) dX9_cover_141 rfl ?_
        refine aw_aload_n (pc := 143) dX9_cover_143 rfl ?_
        refine aw_getV (pc := 144) (v := (k : Int)) dX9_cover_144 k_fl_X9_124 rfl (by omega) (by first | rfl | exact z_shr _ (by omega) | exact z_shc0 (by omega) | exact z_shc1 (by omega) | exact z_shc2 (by omega) | exact z_shc3 (by omega) | exact z_shc4 (by omega)) ((z_dI_o (by omega)).trans z_l9_k) ?_
        refine aw_icmp_ge (pc := 147) (tgt := 245) dX9_cover_147 rfl (by first | omega | exact z_bl_r _) (by first | omega | exact z_bl_r _) (fun h147 => absurd h147 (by omega)) (fun h147 => ?_)
        have hlx := hlb x (by omega)
        have hax := g.2.2 x (by omega)
        have hnz := hnz0 x (by omega)
        have hFb := hmb.2.2.2.2.1 q (ln x).toNat
        refine aw_aload_n (pc := 150) dX9_cover_150 rfl ?_
        refine aw_getR (pc := 151) dX9_cover_151 k_fl_X9_51 rfl (by omega) (by first | rfl | exact z_shr _ (by omega) | exact z_shc0 (by omega) | exact z_shc1 (by omega) | exact z_shc2 (by omega) | exact z_shc3 (by omega) | exact z_shc4 (by omega)) (by first | rfl | exact z_Rc0 _ (by omega) | exact z_Rc1 _ (by omega) | exact z_Rc2 _ (by omega) | exact z_Rc3 _ (by omega)) ?_
        refine aw_iload (pc := 154) dX9_cover_154 rfl ?_
        refine aw_ialoadV (pc := 156) (v := ln x) dX9_cover_156 (by omega) (Nat.le_refl _) (by first | rfl | exact z_shr _ (by omega) | exact z_shc0 (by omega) | exact z_shc1 (by omega) | exact z_shc2 (by omega) | exact z_shc3 (by omega) | exact z_shc4 (by omega)) (by first | omega | exact z_bl_r _) ((z_dI_o (by omega)).trans (z_l9_ln x)) ?_
        refine aw_istore (pc := 157) (lv' := [_, _, _, _, _, _, _, _]) dX9_cover_157 (Nat.le_of_ble_eq_true rfl) rfl ?_
        refine aw_aload_n (pc := 159) dX9_cover_159 rfl ?_
        refine aw_getR (pc := 160) dX9_cover_160 k_fl_X9_23 rfl (by omega) (by first | rfl | exact z_shr _ (by omega) | exact z_shc0 (by omega) | exact z_shc1 (by omega) | exact z_shc2 (by omega) | exact z_shc3 (by omega) | exact z_shc4 (by omega)) (by first | rfl | exact z_Rc0 _ (by omega) | exact z_Rc1 _ (by omega) | exact z_Rc2 _ (by omega) | exact z_Rc3 _ (by omega)) ?_
        refine aw_bipush (pc := 163) dX9_cover_163 rfl ?_
        refine aw_iload_n (pc := 165) dX9_cover_165 rfl ?_
        refine aw_imul (pc := 166) dX9_cover_166 ?_
        refine aw_iload (pc := 167) dX9_cover_167 rfl ?_
        refine aw_iadd (pc := 169) dX9_cover_169 ?_
        refine aw_ialoadV (pc := 170) (v := (mF m q (ln x).toNat)) dX9_cover_170 (by omega) (Nat.le_refl _) (by first | rfl | exact z_shr _ (by omega) | exact z_shc0 (by omega) | exact z_shc1 (by omega) | exact z_shc2 (by omega) | exact z_shc3 (by omega) | exact z_shc4 (by omega)) (by omega) (by rw [show ((8 : Int) * (q : Int) + ln x).toNat = 8 * q + (ln x).toNat by omega]; exact (z_dI_o (by omega)).trans ((z_l9_o (by omega) (by omega)).trans (eF q (ln x).toNat hq (by omega)))) ?_
        refine aw_if_ge (pc := 171) (tgt := 178) dX9_cover_171 rfl (by first | omega | exact z_bl_r _) (fun h171 => ?_) (fun h171 => ?_)
        · refine aw_iconst (pc := 178) dX9_cover_178 ?_
          refine aw_istore (pc := 179) (lv' := [_, _, _, _, _, _, _, _]) dX9_cover_179 (Nat.le_of_ble_eq_true rfl) rfl ?_
          refine aw_aload_n (pc := 181) dX9_cover_181 rfl ?_
          refine aw_getR (pc := 182) dX9_cover_182 k_fl_X9_45 rfl (by omega) (by first | rfl | exact z_shr _ (by omega) | exact z_shc0 (by omega) | exact z_shc1 (by omega) | exact z_shc2 (by omega) | exact z_shc3 (by omega) | exact z_shc4 (by omega)) (by first | rfl | exact z_Rc0 _ (by omega) | exact z_Rc1 _ (by omega) | exact z_Rc2 _ (by omega) | exact z_Rc3 _ (by omega)) ?_
          refine aw_iload (pc := 185) dX9_cover_185 rfl ?_
          refine aw_iload (pc := 187) dX9_cover_187 rfl ?_
          refine aw_if_eq (pc := 189) (tgt := 204) dX9_cover_189 rfl (by first | omega | exact z_bl_r _) (fun h189 => ?_) (fun h189 => ?_)
          · refine aw_aload_n (pc := 204) dX9_cover_204 rfl ?_
            refine aw_getR (pc := 205) dX9_cover_205 k_fl_X9_57 rfl (by omega) (by first | rfl | exact z_shr _ (by omega) | exact z_shc0 (by omega) | exact z_shc1 (by omega) | exact z_shc2 (by omega) | exact z_shc3 (by omega) | exact z_shc4 (by omega)) (by first | rfl | exact z_Rc0 _ (by omega) | exact z_Rc1 _ (by omega) | exact z_Rc2 _ (by omega) | exact z_Rc3 _ (by omega)) ?_
            refine aw_iload (pc := 208) dX9_cover_208 rfl ?_
            refine aw_ialoadV (pc := 210) (v := al x) dX9_cover_210 (by omega) (Nat.le_refl _) (by first | rfl | exact z_shr _ (by omega) | exact z_shc0 (by omega) | exact z_shc1 (by omega) | exact z_shc2 (by omega) | exact z_shc3 (by omega) | exact z_shc4 (by omega)) (by first | omega | exact z_bl_r _) ((z_dI_o (by omega)).trans (z_l9_al x)) ?_
            refine aw_i2l (pc := 211) dX9_cover_211 (by omega) ?_
            refine aw_lastore (pc := 212) dX9_cover_212 (by omega) (Nat.le_refl _) (by first | rfl | exact z_shr _ (by omega) | exact z_shc0 (by omega) | exact z_shc1 (by omega) | exact z_shc2 (by omega) | exact z_shc3 (by omega) | exact z_shc4 (by omega)) (by omega) ?_
            rw [z_dJ_uf]
            refine aw_aload_n (pc := 213) dX9_cover_213 rfl ?_
            refine aw_dup (pc := 214) dX9_cover_214 (fun _ h => by cases h) ?_
            refine aw_getW (pc := 215) (v := (z_cb (mF m q) ln al (z_pf (fun _ => 0) (J 248) 8) ((z_cnt s 10 : Int) - 1) x).2) dX9_cover_215 k_fl_X9_84 rfl (by omega) (by first | rfl | exact z_shr _ (by omega) | exact z_shc0 (by omega) | exact z_shc1 (by omega) | exact z_shc2 (by omega) | exact z_shc3 (by omega) | exact z_shc4 (by omega)) (z_dJ_r) ?_
            refine aw_iload (pc := 218) dX9_cover_218 rfl ?_
            refine aw_if_eq (pc := 220) (tgt := 234) dX9_cover_220 rfl (by first | omega | exact z_bl_r _) (fun h220 => ?_) (fun h220 => ?_)
            · refine aw_lconst (pc := 234) (v := 0) dX9_cover_234 rfl ?_
              refine aw_lsub (pc := 235) dX9_cover_235 ?_
              refine aw_putJ (pc := 236) dX9_cover_236 k_fl_X9_84 rfl (by omega) (by first | rfl | exact z_shr _ (by omega) | exact z_shc0 (by omega) | exact z_shc1 (by omega) | exact z_shc2 (by omega) | exact z_shc3 (by omega) | exact z_shc4 (by omega)) ?_
              rw [z_dJ_ur]
              refine aw_iinc (pc := 239) (lv' := [_, _, _, _, _, _, _, _]) dX9_cover_239 (Nat.le_of_ble_eq_true rfl) rfl rfl ?_
              refine aw_goto (pc := 242) (tgt := 141) dX9_cover_242 rfl ?_
              have K := ih3 (x + 1) (some (zi (ln x))) (some (zi 0)) (by omega)
              rw [z_cb_t (F := mF m q) (by omega)] at K
              rw [Int.sub_zero]
              exact K
            · refine aw_aload_n (pc := 223) dX9_cover_223 rfl ?_
              refine aw_getR (pc := 224) dX9_cover_224 k_fl_X9_57 rfl (by omega) (by first | rfl | exact z_shr _ (by omega) | exact z_shc0 (by omega) | exact z_shc1 (by omega) | exact z_shc2 (by omega) | exact z_shc3 (by omega) | exact z_shc4 (by omega)) (by first | rfl | exact z_Rc0 _ (by omega) | exact z_Rc1 _ (by omega) | exact z_Rc2 _ (by omega) | exact z_Rc3 _ (by omega)) ?_
              refine aw_iload (pc := 227) dX9_cover_227 rfl ?_
              refine aw_ialoadV (pc := 229) (v := al x) dX9_cover_229 (by omega) (Nat.le_refl _) (by first | rfl | exact z_shr _ (by omega) | exact z_shc0 (by omega) | exact z_shc1 (by omega) | exact z_shc2 (by omega) | exact z_shc3 (by omega) | exact z_shc4 (by omega)) (by first | omega | exact z_bl_r _) ((z_dI_o (by omega)).trans (z_l9_al x)) ?_
              refine aw_i2l (pc := 230) dX9_cover_230 (by omega) ?_
              refine aw_goto (pc := 231) (tgt := 235) dX9_cover_231 rfl ?_
              refine aw_lsub (pc := 235) dX9_cover_235 ?_
              refine aw_putJ (pc := 236) dX9_cover_236 k_fl_X9_84 rfl (by omega) (by first | rfl | exact z_shr _ (by omega) | exact z_shc0 (by omega) | exact z_shc1 (by omega) | exact z_shc2 (by omega) | exact z_shc3 (by omega) | exact z_shc4 (by omega)) ?_
              rw [z_dJ_ur]
              refine aw_iinc (pc := 239) (lv' := [_, _, _, _, _, _, _, _]) dX9_cover_239 (Nat.le_of_ble_eq_true rfl) rfl rfl ?_
              refine aw_goto (pc := 242) (tgt := 141) dX9_cover_242 rfl ?_
              exfalso; omega
          · refine aw_aload_n (pc := 192) dX9_cover_192 rfl ?_
            refine aw_getR (pc := 193) dX9_cover_193 k_fl_X9_57 rfl (by omega) (by first | rfl | exact z_shr _ (by omega) | exact z_shc0 (by omega) | exact z_shc1 (by omega) | exact z_shc2 (by omega) | exact z_shc3 (by omega) | exact z_shc4 (by omega)) (by first | rfl | exact z_Rc0 _ (by omega) | exact z_Rc1 _ (by omega) | exact z_Rc2 _ (by omega) | exact z_Rc3 _ (by omega)) ?_
            refine aw_iload (pc := 196) dX9_cover_196 rfl ?_
            refine aw_ialoadV (pc := 198) (v := al x) dX9_cover_198 (by omega) (Nat.le_refl _) (by first | rfl | exact z_shr _ (by omega) | exact z_shc0 (by omega) | exact z_shc1 (by omega) | exact z_shc2 (by omega) | exact z_shc3 (by omega) | exact z_shc4 (by omega)) (by first | omega | exact z_bl_r _) ((z_dI_o (by omega)).trans (z_l9_al x)) ?_
            refine aw_ineg (pc := 199) dX9_cover_199 ?_
            refine aw_i2l (pc := 200) dX9_cover_200 (by omega) ?_
            refine aw_goto (pc := 201) (tgt := 212) dX9_cover_201 rfl ?_
            refine aw_lastore (pc := 212) dX9_cover_212 (by omega) (Nat.le_refl _) (by first | rfl | exact z_shr _ (by omega) | exact z_shc0 (by omega) | exact z_shc1 (by omega) | exact z_shc2 (by omega) | exact z_shc3 (by omega) | exact z_shc4 (by omega)) (by omega) ?_
            rw [z_dJ_uf]
            refine aw_aload_n (pc := 213) dX9_cover_213 rfl ?_
            refine aw_dup (pc := 214) dX9_cover_214 (fun _ h => by cases h) ?_
            refine aw_getW (pc := 215) (v := (z_cb (mF m q) ln al (z_pf (fun _ => 0) (J 248) 8) ((z_cnt s 10 : Int) - 1) x).2) dX9_cover_215 k_fl_X9_84 rfl (by omega) (by first | rfl | exact z_shr _ (by omega) | exact z_shc0 (by omega) | exact z_shc1 (by omega) | exact z_shc2 (by omega) | exact z_shc3 (by omega) | exact z_shc4 (by omega)) (z_dJ_r) ?_
            refine aw_iload (pc := 218) dX9_cover_218 rfl ?_
            refine aw_if_eq (pc := 220) (tgt := 234) dX9_cover_220 rfl (by first | omega | exact z_bl_r _) (fun h220 => ?_) (fun h220 => ?_)
            · refine aw_lconst (pc := 234) (v := 0) dX9_cover_234 rfl ?_
              refine aw_lsub (pc := 235) dX9_cover_235 ?_
              refine aw_putJ (pc := 236) dX9_cover_236 k_fl_X9_84 rfl (by omega) (by first | rfl | exact z_shr _ (by omega) | exact z_shc0 (by omega) | exact z_shc1 (by omega) | exact z_shc2 (by omega) | exact z_shc3 (by omega) | exact z_shc4 (by omega)) ?_
              rw [z_dJ_ur]
              refine aw_iinc (pc := 239) (lv' := [_, _, _, _, _, _, _, _]) dX9_cover_239 (Nat.le_of_ble_eq_true rfl) rfl rfl ?_
              refine aw_goto (pc := 242) (tgt := 141) dX9_cover_242 rfl ?_
              exfalso; omega
            · refine aw_aload_n (pc := 223) dX9_cover_223 rfl ?_
              refine aw_getR (pc := 224) dX9_cover_224 k_fl_X9_57 rfl (by omega) (by first | rfl | exact z_shr _ (by omega) | exact z_shc0 (by omega) | exact z_shc1 (by omega) | exact z_shc2 (by omega) | exact z_shc3 (by omega) | exact z_shc4 (by omega)) (by first | rfl | exact z_Rc0 _ (by omega) | exact z_Rc1 _ (by omega) | exact z_Rc2 _ (by omega) | exact z_Rc3 _ (by omega)) ?_
              refine aw_iload (pc := 227) dX9_cover_227 rfl ?_
              refine aw_ialoadV (pc := 229) (v := al x) dX9_cover_229 (by omega) (Nat.le_refl _) (by first | rfl | exact z_shr _ (by omega) | exact z_shc0 (by omega) | exact z_shc1 (by omega) | exact z_shc2 (by omega) | exact z_shc3 (by omega) | exact z_shc4 (by omega)) (by first | omega | exact z_bl_r _) ((z_dI_o (by omega)).trans (z_l9_al x)) ?_
              refine aw_i2l (pc := 230) dX9_cover_230 (by omega) ?_
              refine aw_goto (pc := 231) (tgt := 235) dX9_cover_231 rfl ?_
              refine aw_lsub (pc := 235) dX9_cover_235 ?_
              refine aw_putJ (pc := 236) dX9_cover_236 k_fl_X9_84 rfl (by omega) (by first | rfl | exact z_shr _ (by omega) | exact z_shc0 (by omega) | exact z_shc1 (by omega) | exact z_shc2 (by omega) | exact z_shc3 (by omega) | exact z_shc4 (by omega)) ?_
              rw [z_dJ_ur]
              refine aw_iinc (pc := 239) (lv' := [_, _, _, _, _, _, _, _]) dX9_cover_239 (Nat.le_of_ble_eq_true rfl) rfl rfl ?_
              refine aw_goto (pc := 242) (tgt := 141) dX9_cover_242 rfl ?_
              exfalso; omega
        · refine aw_iconst (pc := 174) dX9_cover_174 ?_
          refine aw_goto (pc := 175) (tgt := 179) dX9_cover_175 rfl ?_
          refine aw_istore (pc := 179) (lv' := [_, _, _, _, _, _, _, _]) dX9_cover_179 (Nat.le_of_ble_eq_true rfl) rfl ?_
          refine aw_aload_n (pc := 181) dX9_cover_181 rfl ?_
          refine aw_getR (pc := 182) dX9_cover_182 k_fl_X9_45 rfl (by omega) (by first | rfl | exact z_shr _ (by omega) | exact z_shc0 (by omega) | exact z_shc1 (by omega) | exact z_shc2 (by omega) | exact z_shc3 (by omega) | exact z_shc4 (by omega)) (by first | rfl | exact z_Rc0 _ (by omega) | exact z_Rc1 _ (by omega) | exact z_Rc2 _ (by omega) | exact z_Rc3 _ (by omega)) ?_
          refine aw_iload (pc := 185) dX9_cover_185 rfl ?_
          refine aw_iload (pc := 187) dX9_cover_187 rfl ?_
          refine aw_if_eq (pc := 189) (tgt := 204) dX9_cover_189 rfl (by first | omega | exact z_bl_r _) (fun h189 => ?_) (fun h189 => ?_)
          · refine aw_aload_n (pc := 204) dX9_cover_204 rfl ?_
            refine aw_getR (pc := 205) dX9_cover_205 k_fl_X9_57 rfl (by omega) (by first | rfl | exact z_shr _ (by omega) | exact z_shc0 (by omega) | exact z_shc1 (by omega) | exact z_shc2 (by omega) | exact z_shc3 (by omega) | exact z_shc4 (by omega)) (by first | rfl | exact z_Rc0 _ (by omega) | exact z_Rc1 _ (by omega) | exact z_Rc2 _ (by omega) | exact z_Rc3 _ (by omega)) ?_
            refine aw_iload (pc := 208) dX9_cover_208 rfl ?_
            refine aw_ialoadV (pc := 210) (v := al x) dX9_cover_210 (by omega) (Nat.le_refl _) (by first | rfl | exact z_shr _ (by omega) | exact z_shc0 (by omega) | exact z_shc1 (by omega) | exact z_shc2 (by omega) | exact z_shc3 (by omega) | exact z_shc4 (by omega)) (by first | omega | exact z_bl_r _) ((z_dI_o (by omega)).trans (z_l9_al x)) ?_
            refine aw_i2l (pc := 211) dX9_cover_211 (by omega) ?_
            refine aw_lastore (pc := 212) dX9_cover_212 (by omega) (Nat.le_refl _) (by first | rfl | exact z_shr _ (by omega) | exact z_shc0 (by omega) | exact z_shc1 (by omega) | exact z_shc2 (by omega) | exact z_shc3 (by omega) | exact z_shc4 (by omega)) (by omega) ?_
            rw [z_dJ_uf]
            refine aw_aload_n (pc := 213) dX9_cover_213 rfl ?_
            refine aw_dup (pc := 214) dX9_cover_214 (fun _ h => by cases h) ?_
            refine aw_getW (pc := 215) (v := (z_cb (mF m q) ln al (z_pf (fun _ => 0) (J 248) 8) ((z_cnt s 10 : Int) - 1) x).2) dX9_cover_215 k_fl_X9_84 rfl (by omega) (by first | rfl | exact z_shr _ (by omega) | exact z_shc0 (by omega) | exact z_shc1 (by omega) | exact z_shc2 (by omega) | exact z_shc3 (by omega) | exact z_shc4 (by omega)) (z_dJ_r) ?_
            refine aw_iload (pc := 218) dX9_cover_218 rfl ?_
            refine aw_if_eq (pc := 220) (tgt := 234) dX9_cover_220 rfl (by first | omega | exact z_bl_r _) (fun h220 => ?_) (fun h220 => ?_)
            · refine aw_lconst (pc := 234) (v := 0) dX9_cover_234 rfl ?_
              refine aw_lsub (pc := 235) dX9_cover_235 ?_
              refine aw_putJ (pc := 236) dX9_cover_236 k_fl_X9_84 rfl (by omega) (by first | rfl | exact z_shr _ (by omega) | exact z_shc0 (by omega) | exact z_shc1 (by omega) | exact z_shc2 (by omega) | exact z_shc3 (by omega) | exact z_shc4 (by omega)) ?_
              rw [z_dJ_ur]
              refine aw_iinc (pc := 239) (lv' := [_, _, _, _, _, _, _, _]) dX9_cover_239 (Nat.le_of_ble_eq_true rfl) rfl rfl ?_
              refine aw_goto (pc := 242) (tgt := 141) dX9_cover_242 rfl ?_
              exfalso; omega
            · refine aw_aload_n (pc := 223) dX9_cover_223 rfl ?_
              refine aw_getR (pc := 224) dX9_cover_224 k_fl_X9_57 rfl (by omega) (by first | rfl | exact z_shr _ (by omega) | exact z_shc0 (by omega) | exact z_shc1 (by omega) | exact z_shc2 (by omega) | exact z_shc3 (by omega) | exact z_shc4 (by omega)) (by first | rfl | exact z_Rc0 _ (by omega) | exact z_Rc1 _ (by omega) | exact z_Rc2 _ (by omega) | exact z_Rc3 _ (by omega)) ?_
              refine aw_iload (pc := 227) dX9_cover_227 rfl ?_
              refine aw_ialoadV (pc := 229) (v := al x) dX9_cover_229 (by omega) (Nat.le_refl _) (by first | rfl | exact z_shr _ (by omega) | exact z_shc0 (by omega) | exact z_shc1 (by omega) | exact z_shc2 (by omega) | exact z_shc3 (by omega) | exact z_shc4 (by omega)) (by first | omega | exact z_bl_r _) ((z_dI_o (by omega)).trans (z_l9_al x)) ?_
              refine aw_i2l (pc := 230) dX9_cover_230 (by omega) ?_
              refine aw_goto (pc := 231) (tgt := 235) dX9_cover_231 rfl ?_
              refine aw_lsub (pc := 235) dX9_cover_235 ?_
              refine aw_putJ (pc := 236) dX9_cover_236 k_fl_X9_84 rfl (by omega) (by first | rfl | exact z_shr _ (by omega) | exact z_shc0 (by omega) | exact z_shc1 (by omega) | exact z_shc2 (by omega) | exact z_shc3 (by omega) | exact z_shc4 (by omega)) ?_
              rw [z_dJ_ur]
              refine aw_iinc (pc := 239) (lv' := [_, _, _, _, _, _, _, _]) dX9_cover_239 (Nat.le_of_ble_eq_true rfl) rfl rfl ?_
              refine aw_goto (pc := 242) (tgt := 141) dX9_cover_242 rfl ?_
              exfalso; omega
          · refine aw_aload_n (pc := 192) dX9_cover_192 rfl ?_
            refine aw_getR (pc := 193) dX9_cover_193 k_fl_X9_57 rfl (by omega) (by first | rfl | exact z_shr _ (by omega) | exact z_shc0 (by omega) | exact z_shc1 (by omega) | exact z_shc2 (by omega) | exact z_shc3 (by omega) | exact z_shc4 (by omega)) (by first | rfl | exact z_Rc0 _ (by omega) | exact z_Rc1 _ (by omega) | exact z_Rc2 _ (by omega) | exact z_Rc3 _ (by omega)) ?_
            refine aw_iload (pc := 196) dX9_cover_196 rfl ?_
            refine aw_ialoadV (pc := 198) (v := al x) dX9_cover_198 (by omega) (Nat.le_refl _) (by first | rfl | exact z_shr _ (by omega) | exact z_shc0 (by omega) | exact z_shc1 (by omega) | exact z_shc2 (by omega) | exact z_shc3 (by omega) | exact z_shc4 (by omega)) (by first | omega | exact z_bl_r _) ((z_dI_o (by omega)).trans (z_l9_al x)) ?_
            refine aw_ineg (pc := 199) dX9_cover_199 ?_
            refine aw_i2l (pc := 200) dX9_cover_200 (by omega) ?_
            refine aw_goto (pc := 201) (tgt := 212) dX9_cover_201 rfl ?_
            refine aw_lastore (pc := 212) dX9_cover_212 (by omega) (Nat.le_refl _) (by first | rfl | exact z_shr _ (by omega) | exact z_shc0 (by omega) | exact z_shc1 (by omega) | exact z_shc2 (by omega) | exact z_shc3 (by omega) | exact z_shc4 (by omega)) (by omega) ?_
            rw [z_dJ_uf]
            refine aw_aload_n (pc := 213) dX9_cover_213 rfl ?_
            refine aw_dup (pc := 214) dX9_cover_214 (fun _ h => by cases h) ?_
            refine aw_getW (pc := 215) (v := (z_cb (mF m q) ln al (z_pf (fun _ => 0) (J 248) 8) ((z_cnt s 10 : Int) - 1) x).2) dX9_cover_215 k_fl_X9_84 rfl (by omega) (by first | rfl | exact z_shr _ (by omega) | exact z_shc0 (by omega) | exact z_shc1 (by omega) | exact z_shc2 (by omega) | exact z_shc3 (by omega) | exact z_shc4 (by omega)) (z_dJ_r) ?_
            refine aw_iload (pc := 218) dX9_cover_218 rfl ?_
            refine aw_if_eq (pc := 220) (tgt := 234) dX9_cover_220 rfl (by first | omega | exact z_bl_r _) (fun h220 => ?_) (fun h220 => ?_)
            · refine aw_lconst (pc := 234) (v := 0) dX9_cover_234 rfl ?_
              refine aw_lsub (pc := 235) dX9_cover_235 ?_
              refine aw_putJ (pc := 236) dX9_cover_236 k_fl_X9_84 rfl (by omega) (by first | rfl | exact z_shr _ (by omega) | exact z_shc0 (by omega) | exact z_shc1 (by omega) | exact z_shc2 (by omega) | exact z_shc3 (by omega) | exact z_shc4 (by omega)) ?_
              rw [z_dJ_ur]
              refine aw_iinc (pc := 239) (lv' := [_, _, _, _, _, _, _, _]) dX9_cover_239 (Nat.le_of_ble_eq_true rfl) rfl rfl ?_
              refine aw_goto (pc := 242) (tgt := 141) dX9_cover_242 rfl ?_
              exfalso; omega
            · refine aw_aload_n (pc := 223) dX9_cover_223 rfl ?_
              refine aw_getR (pc := 224) dX9_cover_224 k_fl_X9_57 rfl (by omega) (by first | rfl | exact z_shr _ (by omega) | exact z_shc0 (by omega) | exact z_shc1 (by omega) | exact z_shc2 (by omega) | exact z_shc3 (by omega) | exact z_shc4 (by omega)) (by first | rfl | exact z_Rc0 _ (by omega) | exact z_Rc1 _ (by omega) | exact z_Rc2 _ (by omega) | exact z_Rc3 _ (by omega)) ?_
              refine aw_iload (pc := 227) dX9_cover_227 rfl ?_
              refine aw_ialoadV (pc := 229) (v := al x) dX9_cover_229 (by omega) (Nat.le_refl _) (by first | rfl | exact z_shr _ (by omega) | exact z_shc0 (by omega) | exact z_shc1 (by omega) | exact z_shc2 (by omega) | exact z_shc3 (by omega) | exact z_shc4 (by omega)) (by first | omega | exact z_bl_r _) ((z_dI_o (by omega)).trans (z_l9_al x)) ?_
              refine aw_i2l (pc := 230) dX9_cover_230 (by omega) ?_
              refine aw_goto (pc := 231) (tgt := 235) dX9_cover_231 rfl ?_
              refine aw_lsub (pc := 235) dX9_cover_235 ?_
              refine aw_putJ (pc := 236) dX9_cover_236 k_fl_X9_84 rfl (by omega) (by first | rfl | exact z_shr _ (by omega) | exact z_shc0 (by omega) | exact z_shc1 (by omega) | exact z_shc2 (by omega) | exact z_shc3 (by omega) | exact z_shc4 (by omega)) ?_
              rw [z_dJ_ur]
              refine aw_iinc (pc := 239) (lv' := [_, _, _, _, _, _, _, _]) dX9_cover_239 (Nat.le_of_ble_eq_true rfl) rfl rfl ?_
              refine aw_goto (pc := 242) (tgt := 141) dX9_cover_242 rfl ?_
              have K := ih3 (x + 1) (some (zi (ln x))) (some (zi 1)) (by omega)
              rw [z_cb_f (F := mF m q) (by omega)] at K
              exact K
    have K1 := c_X9_emptied (π := π) (I := (z_l9 I (k : Int) cap ln wt al)) (J := J) (s := I 249) (f := J 248) (r := J 237 17)
    rw [show z_dI (z_l9 I (k : Int) cap ln wt al) (I 249) = (z_l9 I (k : Int) cap ln wt al) from (show z_dI (z_l9 I (k : Int) cap ln wt al) ((z_l9 I (k : Int) cap ln wt al) 249) = _ from z_dI_id), z_dJ_id, ← hs0] at K1
    refine aw_aload_n (pc := 126) dX9_cover_126 rfl ?_
    refine aw_qV (pc := 127) (d := m_X9_emptied) (K1) k_X9_emptied dX9_cover_127 k_ml_X9_101 rfl ⟨rfl, rfl⟩ (by omega) (by first | rfl | exact z_shr _ (by omega) | exact z_shc0 (by omega) | exact z_shc1 (by omega) | exact z_shc2 (by omega) | exact z_shc3 (by omega) | exact z_shc4 (by omega)) rfl ⟨Nat.le_of_ble_eq_true rfl, Nat.le_of_ble_eq_true rfl⟩ ⟨Nat.zero_le _, Nat.zero_le _⟩ rfl (Nat.le_of_ble_eq_true rfl) (z_Pk ?_)
    refine aw_aload_n (pc := 130) dX9_cover_130 rfl ?_
    refine aw_iload_n (pc := 131) dX9_cover_131 rfl ?_
    refine aw_iconst (pc := 132) dX9_cover_132 ?_
    refine aw_isub (pc := 133) dX9_cover_133 ?_
    refine aw_i2l (pc := 134) dX9_cover_134 (by omega) ?_
    refine aw_putJ (pc := 135) dX9_cover_135 k_fl_X9_84 rfl (by omega) (by first | rfl | exact z_shr _ (by omega) | exact z_shc0 (by omega) | exact z_shc1 (by omega) | exact z_shc2 (by omega) | exact z_shc3 (by omega) | exact z_shc4 (by omega)) ?_
    rw [z_dJ_ur]
    refine aw_iconst (pc := 138) dX9_cover_138 ?_
    refine aw_istore (pc := 139) (lv' := [_, _, _, _, _, _, _, _]) dX9_cover_139 (Nat.le_of_ble_eq_true rfl) rfl ?_
    have K := loop3 k 0 w6 w7 (by omega)
    rw [hc10] at K
    exact K
  have loop2 : ∀ (n2 : Nat) (x : Nat) (al : Nat → Int) (hv : Nat) (u v : Option AwV), x + n2 = k → z_Ax k wt cap s ((z_cnt s 10 : Int) - 1) x al → (∀ t, hv.testBit t = true ↔ s.testBit t = true ∨ t < x) → hv < 2 ^ 8 → AW (FM m_X9_cover (fun q9 sz' I' J' R' => q9 = none ∧ sz' = 255 ∧ R' = z_R π ∧ z_RI I' J' m (z_of m (L, t) (z_cV m q s)).1 (z_of m (L, t) (z_cV m q s)).2 ∧ I' 237 14 = I 237 14 + (((z_of m (L, t) (z_cV m q s)).1.length : Int) - (L.length : Int)) ∧ z_FQ I J I' J' ∧ I' 237 22 = (k : Int) ∧ I' 237 23 = cap ∧ (∀ j, I' 250 j = ln j) ∧ ∀ j, I' 251 j = wt j)) 0 0 255 49 [some (zr 237), some (zi (q : Int)), some (zi (s : Int)), some (zi (z_cnt s k : Int)), some (zi (hv : Int)), some (zi (x : Int)), u, v] [] (z_l9 I (k : Int) cap ln wt al) J (z_R π) := by
    intro n2
    induction n2 with
    | zero =>
      intro x al hv u v he2 g h2 h3
      refine aw_iload (pc := 49) dX9_cover_49 rfl ?_
      refine aw_aload_n (pc := 51) dX9_cover_51 rfl ?_
      refine aw_getV (pc := 52) (v := (k : Int)) dX9_cover_52 k_fl_X9_124 rfl (by omega) (by first | rfl | exact z_shr _ (by omega) | exact z_shc0 (by omega) | exact z_shc1 (by omega) | exact z_shc2 (by omega) | exact z_shc3 (by omega) | exact z_shc4 (by omega)) (z_l9_k) ?_
      refine aw_icmp_ge (pc := 55) (tgt := 126) dX9_cover_55 rfl (by first | omega | exact z_bl_r _) (by first | omega | exact z_bl_r _) (fun h55 => ?_) (fun h55 => absurd h55 (by omega))
      exact tail al (by rw [show x = k by omega] at g; exact g) _ _ _ _
    | succ n2 ih2 =>
      intro x al hv u v he2 g h2 h3
      refine aw_iload (pc := 49) dX9_cover_49 rfl ?_
      refine aw_aload_n (pc := 51) dX9_cover_51 rfl ?_
      refine aw_getV (pc := 52) (v := (k : Int)) dX9_cover_52 k_fl_X9_124 rfl (by omega) (by first | rfl | exact z_shr _ (by omega) | exact z_shc0 (by omega) | exact z_shc1 (by omega) | exact z_shc2 (by omega) | exact z_shc3 (by omega) | exact z_shc4 (by omega)) (z_l9_k) ?_
      refine aw_icmp_ge (pc := 55) (tgt := 126) dX9_cover_55 rfl (by first | omega | exact z_bl_r _) (by first | omega | exact z_bl_r _) (fun h55 => absurd h55 (by omega)) (fun h55 => ?_)
      have hbt := z_bt_b s x
      refine aw_iload_n (pc := 58) dX9_cover_58 rfl ?_
      refine aw_iload (pc := 59) dX9_cover_59 rfl ?_
      refine aw_shr (pc := 61) dX9_cover_61 (a := s) (w := x) rfl rfl (by omega) (by omega) ?_
      refine aw_iconst (pc := 62) dX9_cover_62 ?_
      refine aw_iand (pc := 63) dX9_cover_63 rfl (b := 1) rfl ?_
      rw [z_btn]
      refine aw_if_ne (pc := 64) (tgt := 120) dX9_cover_64 rfl (by omega) (fun h64 => ?_) (fun h64 => ?_)
      · refine aw_iinc (pc := 120) (lv' := [_, _, _, _, _, _, _, _]) dX9_cover_120 (Nat.le_of_ble_eq_true rfl) rfl rfl ?_
        refine aw_goto (pc := 123) (tgt := 49) dX9_cover_123 rfl ?_
        exact ih2 (x + 1) al hv _ _ (by omega) (z_Ax_in g (z_bt1.mp (by omega))) (fun t => by rw [h2 t]; constructor; (rintro (q1 | q1); (exact Or.inl q1); (exact Or.inr (by omega))); (rintro (q1 | q1); (exact Or.inl q1); (by_cases e : t = x; (exact Or.inl (by rw [e]; exact z_bt1.mp (by omega))); (exact Or.inr (by omega))))) h3
      · have hwx := hw x (by omega)
        have hbF : s.testBit x = false := by cases hq2 : s.testBit x; (rfl); (exact absurd (z_bt1.mpr hq2) (by omega))
        refine aw_aload_n (pc := 67) dX9_cover_67 rfl ?_
        refine aw_getV (pc := 68) (v := cap) dX9_cover_68 k_fl_X9_127 rfl (by omega) (by first | rfl | exact z_shr _ (by omega) | exact z_shc0 (by omega) | exact z_shc1 (by omega) | exact z_shc2 (by omega) | exact z_shc3 (by omega) | exact z_shc4 (by omega)) (z_l9_c) ?_
        refine aw_aload_n (pc := 71) dX9_cover_71 rfl ?_
        refine aw_getR (pc := 72) dX9_cover_72 k_fl_X9_54 rfl (by omega) (by first | rfl | exact z_shr _ (by omega) | exact z_shc0 (by omega) | exact z_shc1 (by omega) | exact z_shc2 (by omega) | exact z_shc3 (by omega) | exact z_shc4 (by omega)) (by first | rfl | exact z_Rc0 _ (by omega) | exact z_Rc1 _ (by omega) | exact z_Rc2 _ (by omega) | exact z_Rc3 _ (by omega)) ?_
        refine aw_iload (pc := 75) dX9_cover_75 rfl ?_
        refine aw_ialoadV (pc := 77) (v := wt x) dX9_cover_77 (by omega) (Nat.le_refl _) (by first | rfl | exact z_shr _ (by omega) | exact z_shc0 (by omega) | exact z_shc1 (by omega) | exact z_shc2 (by omega) | exact z_shc3 (by omega) | exact z_shc4 (by omega)) (by first | omega | exact z_bl_r _) (z_l9_wt x) ?_
        refine aw_isub (pc := 78) dX9_cover_78 ?_
        refine aw_istore (pc := 79) (lv' := [_, _, _, _, _, _, _, _]) dX9_cover_79 (Nat.le_of_ble_eq_true rfl) rfl ?_
        refine aw_aload_n (pc := 81) dX9_cover_81 rfl ?_
        refine aw_getR (pc := 82) dX9_cover_82 k_fl_X9_57 rfl (by omega) (by first | rfl | exact z_shr _ (by omega) | exact z_shc0 (by omega) | exact z_shc1 (by omega) | exact z_shc2 (by omega) | exact z_shc3 (by omega) | exact z_shc4 (by omega)) (by first | rfl | exact z_Rc0 _ (by omega) | exact z_Rc1 _ (by omega) | exact z_Rc2 _ (by omega) | exact z_Rc3 _ (by omega)) ?_
        refine aw_iload (pc := 85) dX9_cover_85 rfl ?_
        refine aw_iload (pc := 87) dX9_cover_87 rfl ?_
        refine aw_if_ge (pc := 89) (tgt := 98) dX9_cover_89 rfl (by first | omega | exact z_bl_r _) (fun h89 => ?_) (fun h89 => ?_)
        · refine aw_iload_n (pc := 98) dX9_cover_98 rfl ?_
          refine aw_iconst (pc := 99) dX9_cover_99 ?_
          refine aw_isub (pc := 100) dX9_cover_100 ?_
          refine aw_aload_n (pc := 101) dX9_cover_101 rfl ?_
          refine aw_iload (pc := 102) dX9_cover_102 rfl ?_
          refine aw_iload (pc := 104) dX9_cover_104 rfl ?_
          refine aw_qV (pc := 106) (d := m_X9_greatest) (c_X9_greatest (π := π) (I := (z_l9 I (k : Int) cap ln wt al)) (J := J) (k := k) (hv := hv) (room := cap - wt x) z_l9_k hk8 (by omega) hw (fun j hj => g.2.2 j hj) (by omega)) k_X9_greatest dX9_cover_106 k_ml_X9_144 rfl ⟨rfl, rfl⟩ (by omega) (by first | rfl | exact z_shr _ (by omega) | exact z_shc0 (by omega) | exact z_shc1 (by omega) | exact z_shc2 (by omega) | exact z_shc3 (by omega) | exact z_shc4 (by omega)) rfl ⟨Nat.le_of_ble_eq_true rfl, Nat.le_of_ble_eq_true rfl⟩ ⟨Nat.zero_le _, Nat.zero_le _⟩ rfl (Nat.le_of_ble_eq_true rfl) ?_
          rintro q9 sz2 I2 J2 R2 ⟨rfl, rfl, rfl, rfl, b, rfl, hbb, hB⟩
          refine aw_isub (pc := 109) dX9_cover_109 ?_
          refine aw_iastore (pc := 110) dX9_cover_110 (by omega) (Nat.le_refl _) (by first | rfl | exact z_shr _ (by omega) | exact z_shc0 (by omega) | exact z_shc1 (by omega) | exact z_shc2 (by omega) | exact z_shc3 (by omega) | exact z_shc4 (by omega)) (by first | omega | exact z_bl_r _) ?_
          rw [z_l9_ual, Int.toNat_natCast]
          refine aw_iload (pc := 111) dX9_cover_111 rfl ?_
          refine aw_iconst (pc := 113) dX9_cover_113 ?_
          refine aw_iload (pc := 114) dX9_cover_114 rfl ?_
          refine aw_shl1 (pc := 116) dX9_cover_116 (w := x) rfl (by omega) ?_
          refine aw_ior (pc := 117) dX9_cover_117 (a := hv) (b := 2 ^ x) rfl rfl ?_
          refine aw_istore (pc := 118) (lv' := [_, _, _, _, _, _, _, _]) dX9_cover_118 (Nat.le_of_ble_eq_true rfl) rfl ?_
          refine aw_iinc (pc := 120) (lv' := [_, _, _, _, _, _, _, _]) dX9_cover_120 (Nat.le_of_ble_eq_true rfl) rfl rfl ?_
          refine aw_goto (pc := 123) (tgt := 49) dX9_cover_123 rfl ?_
          have hB2 : z_best wt (z_ar s x al) k (cap - wt x) b := z_best_c hB (fun _ _ => rfl) (fun t ht => by show (if hv.testBit t = true then al t else 0) = z_ar s x al t; unfold z_ar; by_cases q9 : hv.testBit t = true; (rw [if_pos q9, if_pos ((h2 t).mp q9)]); (rw [if_neg q9, if_neg (fun q8 => q9 ((h2 t).mpr q8))]))
          have G := z_Ax_put g hbF hB2 hmo hbb
          rw [show ((z_cnt s 10 : Int) - 1) - b = (z_cnt s k : Int) - 1 - b by rw [z_cnt_10 hs2 (by omega)]] at G
          exact ih2 (x + 1) _ (hv ||| 2 ^ x) _ _ (by omega) G (fun t => by rw [Nat.testBit_or, Bool.or_eq_true, h2 t, z_pt]; constructor; (rintro ((q1 | q1) | q1); (exact Or.inl q1); (exact Or.inr (by omega)); (exact Or.inr (by omega))); (rintro (q1 | q1); (exact Or.inl (Or.inl q1)); (by_cases e : t = x; (exact Or.inr e); (exact Or.inl (Or.inr (by omega)))))) (Nat.or_lt_two_pow h3 (Nat.pow_lt_pow_right (by omega) (by omega)))
        · refine aw_iload_n (pc := 92) dX9_cover_92 rfl ?_
          refine aw_iconst (pc := 93) dX9_cover_93 ?_
          refine aw_isub (pc := 94) dX9_cover_94 ?_
          refine aw_goto (pc := 95) (tgt := 110) dX9_cover_95 rfl ?_
          refine aw_iastore (pc := 110) dX9_cover_110 (by omega) (Nat.le_refl _) (by first | rfl | exact z_shr _ (by omega) | exact z_shc0 (by omega) | exact z_shc1 (by omega) | exact z_shc2 (by omega) | exact z_shc3 (by omega) | exact z_shc4 (by omega)) (by first | omega | exact z_bl_r _) ?_
          rw [z_l9_ual, Int.toNat_natCast]
          refine aw_iload (pc := 111) dX9_cover_111 rfl ?_
          refine aw_iconst (pc := 113) dX9_cover_113 ?_
          refine aw_iload (pc := 114) dX9_cover_114 rfl ?_
          refine aw_shl1 (pc := 116) dX9_cover_116 (w := x) rfl (by omega) ?_
          refine aw_ior (pc := 117) dX9_cover_117 (a := hv) (b := 2 ^ x) rfl rfl ?_
          refine aw_istore (pc := 118) (lv' := [_, _, _, _, _, _, _, _]) dX9_cover_118 (Nat.le_of_ble_eq_true rfl) rfl ?_
          refine aw_iinc (pc := 120) (lv' := [_, _, _, _, _, _, _, _]) dX9_cover_120 (Nat.le_of_ble_eq_true rfl) rfl rfl ?_
          refine aw_goto (pc := 123) (tgt := 49) dX9_cover_123 rfl ?_
          have G := z_Ax_put (b := 0) g hbF (z_best_neg (fun j hj => by have := hw j hj; omega) (by omega)) hmo (by omega)
          rw [show ((z_cnt s 10 : Int) - 1) - 0 = (z_cnt s k : Int) - 1 by rw [z_cnt_10 hs2 (by omega)]; omega] at G
          exact ih2 (x + 1) _ (hv ||| 2 ^ x) _ _ (by omega) G (fun t => by rw [Nat.testBit_or, Bool.or_eq_true, h2 t, z_pt]; constructor; (rintro ((q1 | q1) | q1); (exact Or.inl q1); (exact Or.inr (by omega)); (exact Or.inr (by omega))); (rintro (q1 | q1); (exact Or.inl (Or.inl q1)); (by_cases e : t = x; (exact Or.inr e); (exact Or.inl (Or.inr (by omega)))))) (Nat.or_lt_two_pow h3 (Nat.pow_lt_pow_right (by omega) (by omega)))
  have loop1 : ∀ (n1 : Nat) (x : Nat) (u : Option AwV), x + n1 = k → AW (FM m_X9_cover (fun q9 sz' I' J' R' => q9 = none ∧ sz' = 255 ∧ R' = z_R π ∧ z_RI I' J' m (z_of m (L, t) (z_cV m q s)).1 (z_of m (L, t) (z_cV m q s)).2 ∧ I' 237 14 = I 237 14 + (((z_of m (L, t) (z_cV m q s)).1.length : Int) - (L.length : Int)) ∧ z_FQ I J I' J' ∧ I' 237 22 = (k : Int) ∧ I' 237 23 = cap ∧ (∀ j, I' 250 j = ln j) ∧ ∀ j, I' 251 j = wt j)) 0 0 255 5 [some (zr 237), some (zi (q : Int)), some (zi (s : Int)), some (zi (z_cnt s x : Int)), some (zi (x : Int)), none, none, none] [] (z_l9 I (k : Int) cap ln wt (z_pf (z_bt s) al0 x)) J (z_R π) := by
    intro n1
    induction n1 with
    | zero =>
      intro x u he1
      refine aw_iload (pc := 5) dX9_cover_5 rfl ?_
      refine aw_aload_n (pc := 7) dX9_cover_7 rfl ?_
      refine aw_getV (pc := 8) (v := (k : Int)) dX9_cover_8 k_fl_X9_124 rfl (by omega) (by first | rfl | exact z_shr _ (by omega) | exact z_shc0 (by omega) | exact z_shc1 (by omega) | exact z_shc2 (by omega) | exact z_shc3 (by omega) | exact z_shc4 (by omega)) (z_l9_k) ?_
      refine aw_icmp_ge (pc := 11) (tgt := 43) dX9_cover_11 rfl (by first | omega | exact z_bl_r _) (by first | omega | exact z_bl_r _) (fun h11 => ?_) (fun h11 => absurd h11 (by omega))
      have ex : x = k := by omega
      subst ex
      refine aw_iload_n (pc := 43) dX9_cover_43 rfl ?_
      refine aw_istore (pc := 44) (lv' := [_, _, _, _, _, _, _, _]) dX9_cover_44 (Nat.le_of_ble_eq_true rfl) rfl ?_
      refine aw_iconst (pc := 46) dX9_cover_46 ?_
      refine aw_istore (pc := 47) (lv' := [_, _, _, _, _, _, _, _]) dX9_cover_47 (Nat.le_of_ble_eq_true rfl) rfl ?_
      exact loop2 x 0 _ s _ _ (by omega) ⟨fun j hj q => by rw [z_pf_lt hj]; exact z_bt1.mpr q, fun j hj => absurd hj (by omega), fun j hj => by rw [z_pf_lt hj]; have := z_bt_b s j; omega⟩ (fun t => ⟨Or.inl, fun q => q.elim id (fun q => absurd q (by omega))⟩) (Nat.lt_of_lt_of_le hs2 (Nat.pow_le_pow_right (by omega) hk8))
    | succ n1 ih1 =>
      intro x u he1
      refine aw_iload (pc := 5) dX9_cover_5 rfl ?_
      refine aw_aload_n (pc := 7) dX9_cover_7 rfl ?_
      refine aw_getV (pc := 8) (v := (k : Int)) dX9_cover_8 k_fl_X9_124 rfl (by omega) (by first | rfl | exact z_shr _ (by omega) | exact z_shc0 (by omega) | exact z_shc1 (by omega) | exact z_shc2 (by omega) | exact z_shc3 (by omega) | exact z_shc4 (by omega)) (z_l9_k) ?_
      refine aw_icmp_ge (pc := 11) (tgt := 43) dX9_cover_11 rfl (by first | omega | exact z_bl_r _) (by first | omega | exact z_bl_r _) (fun h11 => absurd h11 (by omega)) (fun h11 => ?_)
      refine aw_aload_n (pc := 14) dX9_cover_14 rfl ?_
      refine aw_getR (pc := 15) dX9_cover_15 k_fl_X9_57 rfl (by omega) (by first | rfl | exact z_shr _ (by omega) | exact z_shc0 (by omega) | exact z_shc1 (by omega) | exact z_shc2 (by omega) | exact z_shc3 (by omega) | exact z_shc4 (by omega)) (by first | rfl | exact z_Rc0 _ (by omega) | exact z_Rc1 _ (by omega) | exact z_Rc2 _ (by omega) | exact z_Rc3 _ (by omega)) ?_
      refine aw_iload (pc := 18) dX9_cover_18 rfl ?_
      refine aw_iload_n (pc := 20) dX9_cover_20 rfl ?_
      refine aw_iload (pc := 21) dX9_cover_21 rfl ?_
      refine aw_shr (pc := 23) dX9_cover_23 (a := s) (w := x) rfl rfl (by omega) (by omega) ?_
      refine aw_iconst (pc := 24) dX9_cover_24 ?_
      refine aw_iand (pc := 25) dX9_cover_25 rfl (b := 1) rfl ?_
      rw [z_btn]
      refine aw_iastore (pc := 26) dX9_cover_26 (by omega) (Nat.le_refl _) (by first | rfl | exact z_shr _ (by omega) | exact z_shc0 (by omega) | exact z_shc1 (by omega) | exact z_shc2 (by omega) | exact z_shc3 (by omega) | exact z_shc4 (by omega)) (by first | omega | exact z_bl_r _) ?_
      refine aw_iload_n (pc := 27) dX9_cover_27 rfl ?_
      refine aw_aload_n (pc := 28) dX9_cover_28 rfl ?_
      refine aw_getR (pc := 29) dX9_cover_29 k_fl_X9_57 rfl (by omega) (by first | rfl | exact z_shr _ (by omega) | exact z_shc0 (by omega) | exact z_shc1 (by omega) | exact z_shc2 (by omega) | exact z_shc3 (by omega) | exact z_shc4 (by omega)) (by first | rfl | exact z_Rc0 _ (by omega) | exact z_Rc1 _ (by omega) | exact z_Rc2 _ (by omega) | exact z_Rc3 _ (by omega)) ?_
      refine aw_iload (pc := 32) dX9_cover_32 rfl ?_
      refine aw_ialoadV (pc := 34) (v := z_bt s x) dX9_cover_34 (by omega) (Nat.le_refl _) (by first | rfl | exact z_shr _ (by omega) | exact z_shc0 (by omega) | exact z_shc1 (by omega) | exact z_shc2 (by omega) | exact z_shc3 (by omega) | exact z_shc4 (by omega)) (by first | omega | exact z_bl_r _) (by rw [Int.toNat_natCast, z_up_s]) ?_
      refine aw_iadd (pc := 35) dX9_cover_35 ?_
      refine aw_istore_n (pc := 36) (lv' := [_, _, _, _, _, _, _, _]) dX9_cover_36 (Nat.le_of_ble_eq_true rfl) rfl ?_
      rw [Int.toNat_natCast, z_l9_ual, z_pf_sn (g := z_bt s) rfl, ← z_cnt_s]
      refine aw_iinc (pc := 37) (lv' := [_, _, _, _, _, _, _, _]) dX9_cover_37 (Nat.le_of_ble_eq_true rfl) rfl rfl ?_
      refine aw_goto (pc := 40) (tgt := 5) dX9_cover_40 rfl ?_
      exact ih1 (x + 1) none (by omega)
  refine aw_iconst (pc := 0) dX9_cover_0 ?_
  refine aw_istore_n (pc := 1) (lv' := [_, _, _, _, _, _, _, _]) dX9_cover_1 (Nat.le_of_ble_eq_true rfl) rfl ?_
  refine aw_iconst (pc := 2) dX9_cover_2 ?_
  refine aw_istore (pc := 3) (lv' := [_, _, _, _, _, _, _, _]) dX9_cover_3 (Nat.le_of_ble_eq_true rfl) rfl ?_
  have K := loop1 k 0 none (by omega)
  rw [z_pf_0] at K
  exact K
