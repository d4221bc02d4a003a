set_option maxHeartbeats 4000000 in
theorem c_X0_sumOver {π : Nat → Nat} {I J : AwI} {a s : Nat} (h : z_M I J) (ha : a < 255) (hs : z_sh a = (0, 8)) (hs2 : s < 2147483648) : CT m_X0_sumOver [zr 233, zr a, zi (s : Int)] 255 I J (z_R π) (z_P (some (zi (z_so I a s))) 255 I J (z_R π)) := by
  have hnm := h.nm
  have hin : ∀ (x : Int), 0 ≤ x → x < 10 → CT m_X8_isIn [zi (s : Int), zi x] 255 I J (z_R π) (z_P (some (zi (z_bl (s.testBit x.toNat = true)))) 255 I J (z_R π)) := fun x h1 h2 => by
    have K := c_X8_isIn (R := z_R π) (I := I) (J := J) (s := s) (w := x.toNat) (by omega) (by omega)
    rw [show ((x.toNat : Nat) : Int) = x by omega] at K
    exact K
  refine CT.of (by decide) (Nat.le_of_ble_eq_true rfl) ?_
  show AW _ 0 0 _ 0 [some (zr 233), some (zr a), some (zi (s : Int)), none, none] [] _ _ _
  have loop : ∀ (k : Nat) (x : Int), 0 ≤ x → x + k = I 1 5 → AW (FM m_X0_sumOver (z_P (some (zi (z_so I a s))) 255 I J (z_R π))) 0 0 255 5 [some (zr 233), some (zr a), some (zi (s : Int)), some (zi (z_sm (fun n => z_bt s n * I a n) x)), some (zi x)] [] I J (z_R π) := by
    intro k
    induction k with
    | zero =>
      intro x hx he
      refine aw_iload (pc := 5) dX0_sumOver_5 rfl ?_
      refine aw_aload_n (pc := 7) dX0_sumOver_7 rfl ?_
      refine aw_getR (pc := 8) dX0_sumOver_8 k_fl_X0_9 rfl (by omega) (by first | rfl | exact z_shr _ (by omega) | exact z_shc0 (by omega) | exact z_shc1 (by omega) | exact z_shc2 (by omega) | exact z_shc3 (by omega) | exact z_shc4 (by omega)) (by first | rfl | exact z_Rc0 _ (by omega) | exact z_Rc1 _ (by omega) | exact z_Rc2 _ (by omega) | exact z_Rc3 _ (by omega)) ?_
      refine aw_getI (pc := 11) dX0_sumOver_11 k_fl_X0_49 rfl (by omega) (by first | rfl | exact z_shr _ (by omega) | exact z_shc0 (by omega) | exact z_shc1 (by omega) | exact z_shc2 (by omega) | exact z_shc3 (by omega) | exact z_shc4 (by omega)) ?_
      refine aw_icmp_ge (pc := 14) (tgt := 39) dX0_sumOver_14 rfl (by first | omega | exact z_bl_r _) (by first | omega | exact z_bl_r _) (fun h14 => ?_) (fun h14 => absurd h14 (by omega))
      refine aw_iload_n (pc := 39) dX0_sumOver_39 rfl ?_
      exact aw_ireturn (pc := 40) dX0_sumOver_40 rfl ⟨Nat.zero_le _, Nat.zero_le _⟩ (⟨by unfold z_so; rw [show x = I 1 5 by omega], rfl, rfl, rfl, rfl⟩)
    | succ k ih =>
      intro x hx he
      refine aw_iload (pc := 5) dX0_sumOver_5 rfl ?_
      refine aw_aload_n (pc := 7) dX0_sumOver_7 rfl ?_
      refine aw_getR (pc := 8) dX0_sumOver_8 k_fl_X0_9 rfl (by omega) (by first | rfl | exact z_shr _ (by omega) | exact z_shc0 (by omega) | exact z_shc1 (by omega) | exact z_shc2 (by omega) | exact z_shc3 (by omega) | exact z_shc4 (by omega)) (by first | rfl | exact z_Rc0 _ (by omega) | exact z_Rc1 _ (by omega) | exact z_Rc2 _ (by omega) | exact z_Rc3 _ (by omega)) ?_
      refine aw_getI (pc := 11) dX0_sumOver_11 k_fl_X0_49 rfl (by omega) (by first | rfl | exact z_shr _ (by omega) | exact z_shc0 (by omega) | exact z_shc1 (by omega) | exact z_shc2 (by omega) | exact z_shc3 (by omega) | exact z_shc4 (by omega)) ?_
      refine aw_icmp_ge (pc := 14) (tgt := 39) dX0_sumOver_14 rfl (by first | omega | exact z_bl_r _) (by first | omega | exact z_bl_r _) (fun h14 => absurd h14 (by omega)) (fun h14 => ?_)
      refine aw_iload_n (pc := 17) dX0_sumOver_17 rfl ?_
      refine aw_iload (pc := 18) dX0_sumOver_18 rfl ?_
      refine aw_qN (pc := 20) (d := m_X8_isIn) (hin x hx (by omega)) k_X8_isIn dX0_sumOver_20 k_nl_X0_101 rfl ⟨rfl, rfl⟩ ⟨Nat.le_of_ble_eq_true rfl, Nat.le_of_ble_eq_true rfl⟩ ⟨Nat.zero_le _, Nat.zero_le _⟩ rfl (Nat.le_of_ble_eq_true rfl) (z_Pk ?_)
      refine aw_if_eq (pc := 23) (tgt := 33) dX0_sumOver_23 rfl (z_bl_r _) (fun h23 => ?_) (fun h23 => ?_)
      · refine aw_iinc (pc := 33) (lv' := [_, _, _, _, _]) dX0_sumOver_33 (Nat.le_of_ble_eq_true rfl) rfl rfl ?_
        refine aw_goto (pc := 36) (tgt := 5) dX0_sumOver_36 rfl ?_
        have K := ih (x + 1) (by omega) (by omega)
        rw [z_sm_s _ hx, show z_bt s x.toNat = 0 by unfold z_bt; rw [if_neg (z_bl_0.mp h23)], Int.zero_mul, Int.add_zero] at K
        exact K
      · refine aw_iload_n (pc := 26) dX0_sumOver_26 rfl ?_
        refine aw_aload_n (pc := 27) dX0_sumOver_27 rfl ?_
        refine aw_iload (pc := 28) dX0_sumOver_28 rfl ?_
        refine aw_iaload (pc := 30) dX0_sumOver_30 (by omega) (Nat.le_refl _) hs (by first | omega | exact z_bl_r _) ?_
        refine aw_iadd (pc := 31) dX0_sumOver_31 ?_
        refine aw_istore_n (pc := 32) (lv' := [_, _, _, _, _]) dX0_sumOver_32 (Nat.le_of_ble_eq_true rfl) rfl ?_
        refine aw_iinc (pc := 33) (lv' := [_, _, _, _, _]) dX0_sumOver_33 (Nat.le_of_ble_eq_true rfl) rfl rfl ?_
        refine aw_goto (pc := 36) (tgt := 5) dX0_sumOver_36 rfl ?_
        have K := ih (x + 1) (by omega) (by omega)
        rw [z_sm_s _ hx, show z_bt s x.toNat = 1 by unfold z_bt; rw [if_pos (z_bl_n.mp h23)], Int.one_mul] at K
        exact K
  refine aw_iconst (pc := 0) dX0_sumOver_0 ?_
  refine aw_istore_n (pc := 1) (lv' := [_, _, _, _, _]) dX0_sumOver_1 (Nat.le_of_ble_eq_true rfl) rfl ?_
  refine aw_iconst (pc := 2) dX0_sumOver_2 ?_
  refine aw_istore (pc := 3) (lv' := [_, _, _, _, _]) dX0_sumOver_3 (Nat.le_of_ble_eq_true rfl) rfl ?_
  exact loop (I 1 5).toNat 0 (by omega) (by omega)
theorem z_so_b {I J : AwI} {a : Nat} {B : Int} (h : z_M I J) (hb : ∀ n, -B ≤ I a n ∧ I a n ≤ B) (s : Nat) : -(8 * B) ≤ z_so I a s ∧ z_so I a s ≤ 8 * B := by
  have hn := h.nm
  have hB : 0 ≤ B := by have := hb 0; omega
  have h1 := z_sm_b (f := fun n => z_bt s n * I a n) B (I 1 5) 8 (by omega) hB (fun n => by have a := z_mulb (a := z_bt s n) (A := 1) (by have := z_bt_b s n; omega) (hb n); omega)
  unfold z_so
  omega
theorem z_ls_b {I J : AwI} {c r : Nat} (h : z_M I J) (hc : z_C I c) (hr : r < 10) : -12000 ≤ z_ls I c r (I 1 5) ∧ z_ls I c r (I 1 5) ≤ 12000 := by
  have hn := h.nm
  have h1 := z_sm_b (f := fun n => if I (19 + 5 * c + 1) n = 0 then z_cl I r n else 0) 1500 (I 1 5) 8 (by omega) (by omega) (fun n => by have := h.cl r n hr; split <;> omega)
  unfold z_ls
  omega
set_option maxHeartbeats 4000000 in
theorem c_X0_acceptsCover {π : Nat → Nat} {I J : AwI} {c : Nat} (h : z_M I J) (hk : c < 41) (hc : z_C I c) : CT m_X0_acceptsCover [zr 233, zr (19 + 5 * c)] 255 I J (z_R π) (z_P (some (zi (z_bl (z_aC I c)))) 255 I J (z_R π)) := by
  have hnm := h.nm
  have hrw := h.rw
  have hcr := hc.cr
  have hcrt := hc.r
  have hul := z_um_lt (fun n => I (19 + 5 * c + 1) n) (I 1 5).toNat
  have hp8 : 2 ^ (I 1 5).toNat ≤ 2 ^ 8 := Nat.pow_le_pow_right (by omega) (by omega)
  have hue : z_ub I c = z_um (fun n => I (19 + 5 * c + 1) n) (I 1 5).toNat := rfl
  refine CT.of (by decide) (Nat.le_of_ble_eq_true rfl) ?_
  show AW _ 0 0 _ 0 [some (zr 233), some (zr (19 + 5 * c)), none, none, none, none, none] [] _ _ _
  have loop3 : (0 ≤ I (19 + 5 * c) 8 ∧ I (19 + 5 * c) 8 < I 1 6) → (∀ n : Nat, (n : Int) < I 1 5 → I (19 + 5 * c + 1) n ≠ 0 → I 2 n = 0 ∧ I 3 n = 1) → ∀ (k s : Nat), (s : Int) + k = ((z_ub I c : Nat) : Int) + 1 → (∀ t : Nat, t < s → z_an t (z_ub I c) = 0 → z_so I (6 + (I (19 + 5 * c) 8).toNat) t ≤ (I 16 (I (19 + 5 * c) 8).toNat - z_ls I c (I (19 + 5 * c) 8).toNat (I 1 5)) → z_so I (19 + 5 * c + 1) t ≤ I (19 + 5 * c) 4) → AW (FM m_X0_acceptsCover (z_P (some (zi (z_bl (z_aC I c)))) 255 I J (z_R π))) 0 0 255 113 [some (zr 233), some (zr (19 + 5 * c)), some (zi (I (19 + 5 * c) 8)), some (zi ((z_ub I c : Nat) : Int)), some (zi (z_ls I c (I (19 + 5 * c) 8).toNat (I 1 5))), some (zi (I 16 (I (19 + 5 * c) 8).toNat - z_ls I c (I (19 + 5 * c) 8).toNat (I 1 5))), some (zi (s : Int))] [] I J (z_R π) := by
    intro hr hb k
    induction k with
    | zero =>
      intro s he g
      refine aw_iload (pc := 113) dX0_acceptsCover_113 rfl ?_
      refine aw_iload_n (pc := 115) dX0_acceptsCover_115 rfl ?_
      refine aw_icmp_gt (pc := 116) (tgt := 176) dX0_acceptsCover_116 rfl (by first | omega | exact z_bl_r _) (by first | omega | exact z_bl_r _) (fun h116 => ?_) (fun h116 => absurd h116 (by omega))
      refine aw_iconst (pc := 176) dX0_acceptsCover_176 ?_
      exact aw_zreturn (pc := 177) dX0_acceptsCover_177 rfl (by first | exact Or.inl rfl | exact Or.inr rfl | omega) ⟨Nat.zero_le _, Nat.zero_le _⟩ (⟨z_r1 ⟨hr, hb, fun t ht => g t (by omega)⟩, rfl, rfl, rfl, rfl⟩)
    | succ k ih =>
      intro s he g
      refine aw_iload (pc := 113) dX0_acceptsCover_113 rfl ?_
      refine aw_iload_n (pc := 115) dX0_acceptsCover_115 rfl ?_
      refine aw_icmp_gt (pc := 116) (tgt := 176) dX0_acceptsCover_116 rfl (by first | omega | exact z_bl_r _) (by first | omega | exact z_bl_r _) (fun h116 => absurd h116 (by omega)) (fun h116 => ?_)
      have q1 := z_an_lt (a := s) (b := z_ub I c) (k := 8) (by omega)
      have q2 := z_so_b (a := 6 + (I (19 + 5 * c) 8).toNat) (B := 50) h (fun n => h.fc _ n (by omega)) s
      have q3 := z_so_b (a := 19 + 5 * c + 1) (B := 1000) h hc.f s
      have q4 := z_ls_b h hc (r := (I (19 + 5 * c) 8).toNat) (by omega)
      have q5 := h.rt (I (19 + 5 * c) 8).toNat
      refine aw_iload (pc := 119) dX0_acceptsCover_119 rfl ?_
      refine aw_iload_n (pc := 121) dX0_acceptsCover_121 rfl ?_
      refine aw_iconst (pc := 122) dX0_acceptsCover_122 ?_
      refine aw_inot (pc := 123) dX0_acceptsCover_123 ?_
      refine aw_iandn (pc := 124) dX0_acceptsCover_124 rfl rfl ?_
      refine aw_if_ne (pc := 125) (tgt := 170) dX0_acceptsCover_125 rfl (by first | omega | exact z_bl_r _) (fun h125 => ?_) (fun h125 => ?_)
      · refine aw_iinc (pc := 170) (lv' := [_, _, _, _, _, _, _]) dX0_acceptsCover_170 (Nat.le_of_ble_eq_true rfl) rfl rfl ?_
        refine aw_goto (pc := 173) (tgt := 113) dX0_acceptsCover_173 rfl ?_
        have K := ih (s + 1) (by omega) (fun t ht w1 w2 => by by_cases e : t = s; (subst e; omega); exact g t (by omega) w1 w2)
        exact K
      · refine aw_aload_n (pc := 128) dX0_acceptsCover_128 rfl ?_
        refine aw_aload_n (pc := 129) dX0_acceptsCover_129 rfl ?_
        refine aw_getR (pc := 130) dX0_acceptsCover_130 k_fl_X0_9 rfl (by omega) (by first | rfl | exact z_shr _ (by omega) | exact z_shc0 (by omega) | exact z_shc1 (by omega) | exact z_shc2 (by omega) | exact z_shc3 (by omega) | exact z_shc4 (by omega)) (by first | rfl | exact z_Rc0 _ (by omega) | exact z_Rc1 _ (by omega) | exact z_Rc2 _ (by omega) | exact z_Rc3 _ (by omega)) ?_
        refine aw_getR (pc := 133) dX0_acceptsCover_133 k_fl_X0_80 rfl (by omega) (by first | rfl | exact z_shr _ (by omega) | exact z_shc0 (by omega) | exact z_shc1 (by omega) | exact z_shc2 (by omega) | exact z_shc3 (by omega) | exact z_shc4 (by omega)) (by first | rfl | exact z_Rc0 _ (by omega) | exact z_Rc1 _ (by omega) | exact z_Rc2 _ (by omega) | exact z_Rc3 _ (by omega)) ?_
        refine aw_iload_n (pc := 136) dX0_acceptsCover_136 rfl ?_
        refine aw_aaloadG (b := 6 + (I (19 + 5 * c) 8).toNat) (pc := 137) dX0_acceptsCover_137 (by omega) (Nat.le_refl _) rfl (by omega) (by rfl) ?_
        refine aw_iload (pc := 138) dX0_acceptsCover_138 rfl ?_
        refine aw_qV (pc := 140) (d := m_X0_sumOver) (c_X0_sumOver h (by omega) (z_shr _ (by omega)) (by omega)) k_X0_sumOver dX0_acceptsCover_140 k_ml_X0_97 rfl ⟨rfl, rfl⟩ (by omega) (by first | rfl | exact z_shr _ (by omega) | exact z_shc0 (by omega) | exact z_shc1 (by omega) | exact z_shc2 (by omega) | exact z_shc3 (by omega) | exact z_shc4 (by omega)) rfl ⟨Nat.le_of_ble_eq_true rfl, Nat.le_of_ble_eq_true rfl⟩ ⟨Nat.zero_le _, Nat.zero_le _⟩ rfl (Nat.le_of_ble_eq_true rfl) (z_Pk ?_)
        refine aw_iload (pc := 143) dX0_acceptsCover_143 rfl ?_
        refine aw_icmp_le (pc := 145) (tgt := 151) dX0_acceptsCover_145 rfl (by first | omega | exact z_bl_r _) (by first | omega | exact z_bl_r _) (fun h145 => ?_) (fun h145 => ?_)
        · refine aw_aload_n (pc := 151) dX0_acceptsCover_151 rfl ?_
          refine aw_aload_n (pc := 152) dX0_acceptsCover_152 rfl ?_
          refine aw_getR (pc := 153) dX0_acceptsCover_153 k_fl_X0_52 rfl (by omega) (by first | rfl | exact z_shr _ (by omega) | exact z_shc0 (by omega) | exact z_shc1 (by omega) | exact z_shc2 (by omega) | exact z_shc3 (by omega) | exact z_shc4 (by omega)) (by first | rfl | exact z_Rc0 _ (by omega) | exact z_Rc1 _ (by omega) | exact z_Rc2 _ (by omega) | exact z_Rc3 _ (by omega)) ?_
          refine aw_iload (pc := 156) dX0_acceptsCover_156 rfl ?_
          refine aw_qV (pc := 158) (d := m_X0_sumOver) (c_X0_sumOver h (by omega) (z_shc1 hk) (by omega)) k_X0_sumOver dX0_acceptsCover_158 k_ml_X0_97 rfl ⟨rfl, rfl⟩ (by omega) (by first | rfl | exact z_shr _ (by omega) | exact z_shc0 (by omega) | exact z_shc1 (by omega) | exact z_shc2 (by omega) | exact z_shc3 (by omega) | exact z_shc4 (by omega)) rfl ⟨Nat.le_of_ble_eq_true rfl, Nat.le_of_ble_eq_true rfl⟩ ⟨Nat.zero_le _, Nat.zero_le _⟩ rfl (Nat.le_of_ble_eq_true rfl) (z_Pk ?_)
          refine aw_aload_n (pc := 161) dX0_acceptsCover_161 rfl ?_
          refine aw_getI (pc := 162) dX0_acceptsCover_162 k_fl_X0_71 rfl (by omega) (by first | rfl | exact z_shr _ (by omega) | exact z_shc0 (by omega) | exact z_shc1 (by omega) | exact z_shc2 (by omega) | exact z_shc3 (by omega) | exact z_shc4 (by omega)) ?_
          refine aw_icmp_le (pc := 165) (tgt := 170) dX0_acceptsCover_165 rfl (by first | omega | exact z_bl_r _) (by first | omega | exact z_bl_r _) (fun h165 => ?_) (fun h165 => ?_)
          · refine aw_iinc (pc := 170) (lv' := [_, _, _, _, _, _, _]) dX0_acceptsCover_170 (Nat.le_of_ble_eq_true rfl) rfl rfl ?_
            refine aw_goto (pc := 173) (tgt := 113) dX0_acceptsCover_173 rfl ?_
            have K := ih (s + 1) (by omega) (fun t ht w1 w2 => by by_cases e : t = s; (subst e; omega); exact g t (by omega) w1 w2)
            exact K
          · refine aw_iconst (pc := 168) dX0_acceptsCover_168 ?_
            exact aw_zreturn (pc := 169) dX0_acceptsCover_169 rfl (by first | exact Or.inl rfl | exact Or.inr rfl | omega) ⟨Nat.zero_le _, Nat.zero_le _⟩ (⟨z_r0 (fun q => by have w := q.2.2 s (by omega) (by omega) (by omega); omega), rfl, rfl, rfl, rfl⟩)
        · refine aw_goto (pc := 148) (tgt := 170) dX0_acceptsCover_148 rfl ?_
          refine aw_iinc (pc := 170) (lv' := [_, _, _, _, _, _, _]) dX0_acceptsCover_170 (Nat.le_of_ble_eq_true rfl) rfl rfl ?_
          refine aw_goto (pc := 173) (tgt := 113) dX0_acceptsCover_173 rfl ?_
          have K := ih (s + 1) (by omega) (fun t ht w1 w2 => by by_cases e : t = s; (subst e; omega); exact g t (by omega) w1 w2)
          exact K
  have loop1 : (0 ≤ I (19 + 5 * c) 8 ∧ I (19 + 5 * c) 8 < I 1 6) → ∀ (k x : Nat) (v : Option AwV), (x : Int) + k = I 1 5 → (∀ n : Nat, n < x → I (19 + 5 * c + 1) n ≠ 0 → I 2 n = 0 ∧ I 3 n = 1) → AW (FM m_X0_acceptsCover (z_P (some (zi (z_bl (z_aC I c)))) 255 I J (z_R π))) 0 0 255 26 [some (zr 233), some (zr (19 + 5 * c)), some (zi (I (19 + 5 * c) 8)), some (zi ((z_um (fun n => I (19 + 5 * c + 1) n) x : Nat) : Int)), some (zi (z_ls I c (I (19 + 5 * c) 8).toNat (x : Int))), some (zi (x : Int)), v] [] I J (z_R π) := by
    intro hr k
    induction k with
    | zero =>
      intro x v he hb
      refine aw_iload (pc := 26) dX0_acceptsCover_26 rfl ?_
      refine aw_aload_n (pc := 28) dX0_acceptsCover_28 rfl ?_
      refine aw_getR (pc := 29) dX0_acceptsCover_29 k_fl_X0_9 rfl (by omega) (by first | rfl | exact z_shr _ (by omega) | exact z_shc0 (by omega) | exact z_shc1 (by omega) | exact z_shc2 (by omega) | exact z_shc3 (by omega) | exact z_shc4 (by omega)) (by first | rfl | exact z_Rc0 _ (by omega) | exact z_Rc1 _ (by omega) | exact z_Rc2 _ (by omega) | exact z_Rc3 _ (by omega)) ?_
      refine aw_getI (pc := 32) dX0_acceptsCover_32 k_fl_X0_49 rfl (by omega) (by first | rfl | exact z_shr _ (by omega) | exact z_shc0 (by omega) | exact z_shc1 (by omega) | exact z_shc2 (by omega) | exact z_shc3 (by omega) | exact z_shc4 (by omega)) ?_
      refine aw_icmp_ge (pc := 35) (tgt := 96) dX0_acceptsCover_35 rfl (by first | omega | exact z_bl_r _) (by first | omega | exact z_bl_r _) (fun h35 => ?_) (fun h35 => absurd h35 (by omega))
      have hxx : (I 1 5).toNat = x := by omega
      have hx5 : I 1 5 = (x : Int) := by omega
      rw [← hxx, show (((I 1 5).toNat : Nat) : Int) = I 1 5 by omega]
      refine aw_aload_n (pc := 96) dX0_acceptsCover_96 rfl ?_
      refine aw_getR (pc := 97) dX0_acceptsCover_97 k_fl_X0_9 rfl (by omega) (by first | rfl | exact z_shr _ (by omega) | exact z_shc0 (by omega) | exact z_shc1 (by omega) | exact z_shc2 (by omega) | exact z_shc3 (by omega) | exact z_shc4 (by omega)) (by first | rfl | exact z_Rc0 _ (by omega) | exact z_Rc1 _ (by omega) | exact z_Rc2 _ (by omega) | exact z_Rc3 _ (by omega)) ?_
      refine aw_getR (pc := 100) dX0_acceptsCover_100 k_fl_X0_46 rfl (by omega) (by first | rfl | exact z_shr _ (by omega) | exact z_shc0 (by omega) | exact z_shc1 (by omega) | exact z_shc2 (by omega) | exact z_shc3 (by omega) | exact z_shc4 (by omega)) (by first | rfl | exact z_Rc0 _ (by omega) | exact z_Rc1 _ (by omega) | exact z_Rc2 _ (by omega) | exact z_Rc3 _ (by omega)) ?_
      refine aw_iload_n (pc := 103) dX0_acceptsCover_103 rfl ?_
      refine aw_iaload (pc := 104) dX0_acceptsCover_104 (by omega) (Nat.le_refl _) (by first | rfl | exact z_shr _ (by omega) | exact z_shc0 (by omega) | exact z_shc1 (by omega) | exact z_shc2 (by omega) | exact z_shc3 (by omega) | exact z_shc4 (by omega)) (by first | omega | exact z_bl_r _) ?_
      refine aw_iload (pc := 105) dX0_acceptsCover_105 rfl ?_
      refine aw_isub (pc := 107) dX0_acceptsCover_107 ?_
      refine aw_istore (pc := 108) (lv' := [_, _, _, _, _, _, _]) dX0_acceptsCover_108 (Nat.le_of_ble_eq_true rfl) rfl ?_
      refine aw_iconst (pc := 110) dX0_acceptsCover_110 ?_
      refine aw_istore (pc := 111) (lv' := [_, _, _, _, _, _, _]) dX0_acceptsCover_111 (Nat.le_of_ble_eq_true rfl) rfl ?_
      exact loop3 hr (fun n hn => hb n (by omega)) (z_ub I c + 1) 0 (by omega) (fun t ht => absurd ht (by omega))
    | succ k ih =>
      intro x v he hb
      refine aw_iload (pc := 26) dX0_acceptsCover_26 rfl ?_
      refine aw_aload_n (pc := 28) dX0_acceptsCover_28 rfl ?_
      refine aw_getR (pc := 29) dX0_acceptsCover_29 k_fl_X0_9 rfl (by omega) (by first | rfl | exact z_shr _ (by omega) | exact z_shc0 (by omega) | exact z_shc1 (by omega) | exact z_shc2 (by omega) | exact z_shc3 (by omega) | exact z_shc4 (by omega)) (by first | rfl | exact z_Rc0 _ (by omega) | exact z_Rc1 _ (by omega) | exact z_Rc2 _ (by omega) | exact z_Rc3 _ (by omega)) ?_
      refine aw_getI (pc := 32) dX0_acceptsCover_32 k_fl_X0_49 rfl (by omega) (by first | rfl | exact z_shr _ (by omega) | exact z_shc0 (by omega) | exact z_shc1 (by omega) | exact z_shc2 (by omega) | exact z_shc3 (by omega) | exact z_shc4 (by omega)) ?_
      refine aw_icmp_ge (pc := 35) (tgt := 96) dX0_acceptsCover_35 rfl (by first | omega | exact z_bl_r _) (by first | omega | exact z_bl_r _) (fun h35 => absurd h35 (by omega)) (fun h35 => ?_)
      have b1 := hc.f x
      refine aw_aload_n (pc := 38) dX0_acceptsCover_38 rfl ?_
      refine aw_getR (pc := 39) dX0_acceptsCover_39 k_fl_X0_52 rfl (by omega) (by first | rfl | exact z_shr _ (by omega) | exact z_shc0 (by omega) | exact z_shc1 (by omega) | exact z_shc2 (by omega) | exact z_shc3 (by omega) | exact z_shc4 (by omega)) (by first | rfl | exact z_Rc0 _ (by omega) | exact z_Rc1 _ (by omega) | exact z_Rc2 _ (by omega) | exact z_Rc3 _ (by omega)) ?_
      refine aw_iload (pc := 42) dX0_acceptsCover_42 rfl ?_
      refine aw_ialoadV (pc := 44) (v := I (19 + 5 * c + 1) x) dX0_acceptsCover_44 (by omega) (Nat.le_refl _) (by first | rfl | exact z_shr _ (by omega) | exact z_shc0 (by omega) | exact z_shc1 (by omega) | exact z_shc2 (by omega) | exact z_shc3 (by omega) | exact z_shc4 (by omega)) (by first | omega | exact z_bl_r _) (rfl) ?_
      refine aw_if_ne (pc := 45) (tgt := 66) dX0_acceptsCover_45 rfl (by first | omega | exact z_bl_r _) (fun h45 => ?_) (fun h45 => ?_)
      · refine aw_aload_n (pc := 66) dX0_acceptsCover_66 rfl ?_
        refine aw_getR (pc := 67) dX0_acceptsCover_67 k_fl_X0_9 rfl (by omega) (by first | rfl | exact z_shr _ (by omega) | exact z_shc0 (by omega) | exact z_shc1 (by omega) | exact z_shc2 (by omega) | exact z_shc3 (by omega) | exact z_shc4 (by omega)) (by first | rfl | exact z_Rc0 _ (by omega) | exact z_Rc1 _ (by omega) | exact z_Rc2 _ (by omega) | exact z_Rc3 _ (by omega)) ?_
        refine aw_iload (pc := 70) dX0_acceptsCover_70 rfl ?_
        refine aw_qV (pc := 72) (d := m_X6_isBinary) (c_X6_isBinary h (by omega)) k_X6_isBinary dX0_acceptsCover_72 k_ml_X0_94 rfl ⟨rfl, rfl⟩ (by omega) (by first | rfl | exact z_shr _ (by omega) | exact z_shc0 (by omega) | exact z_shc1 (by omega) | exact z_shc2 (by omega) | exact z_shc3 (by omega) | exact z_shc4 (by omega)) rfl ⟨Nat.le_of_ble_eq_true rfl, Nat.le_of_ble_eq_true rfl⟩ ⟨Nat.zero_le _, Nat.zero_le _⟩ rfl (Nat.le_of_ble_eq_true rfl) (z_Pk ?_)
        refine aw_if_eq (pc := 75) (tgt := 88) dX0_acceptsCover_75 rfl (z_bl_r _) (fun h75 => ?_) (fun h75 => ?_)
        · refine aw_iconst (pc := 88) dX0_acceptsCover_88 ?_
          exact aw_zreturn (pc := 89) dX0_acceptsCover_89 rfl (by first | exact Or.inl rfl | exact Or.inr rfl | omega) ⟨Nat.zero_le _, Nat.zero_le _⟩ (⟨z_r0 (fun q => z_bl_0.mp h75 (q.2.1 x (by omega) h45)), rfl, rfl, rfl, rfl⟩)
        · refine aw_iload_n (pc := 78) dX0_acceptsCover_78 rfl ?_
          refine aw_iconst (pc := 79) dX0_acceptsCover_79 ?_
          refine aw_iload (pc := 80) dX0_acceptsCover_80 rfl ?_
          refine aw_shl1 (pc := 82) dX0_acceptsCover_82 (w := x) rfl (by omega) ?_
          refine aw_ior (pc := 83) dX0_acceptsCover_83 rfl rfl ?_
          refine aw_istore_n (pc := 84) (lv' := [_, _, _, _, _, _, _]) dX0_acceptsCover_84 (Nat.le_of_ble_eq_true rfl) rfl ?_
          refine aw_goto (pc := 85) (tgt := 90) dX0_acceptsCover_85 rfl ?_
          refine aw_iinc (pc := 90) (lv' := [_, _, _, _, _, _, _]) dX0_acceptsCover_90 (Nat.le_of_ble_eq_true rfl) rfl rfl ?_
          refine aw_goto (pc := 93) (tgt := 26) dX0_acceptsCover_93 rfl ?_
          have eu : z_um (fun n => I (19 + 5 * c + 1) n) (x + 1) = (if I (19 + 5 * c + 1) x = 0 then z_um (fun n => I (19 + 5 * c + 1) n) x else z_um (fun n => I (19 + 5 * c + 1) n) x ||| 2 ^ x) := rfl
          have el : z_ls I c (I (19 + 5 * c) 8).toNat ((x : Int) + 1) = z_ls I c (I (19 + 5 * c) 8).toNat (x : Int) + (if I (19 + 5 * c + 1) x = 0 then z_cl I (I (19 + 5 * c) 8).toNat x else 0) := z_sm_s _ (by omega)
          rw [if_neg h45] at eu el
          rw [Int.add_zero] at el
          have K := ih (x + 1) v (by omega) (fun n hn hq => by by_cases e : n = x; (subst e; exact z_bl_n.mp h75); exact hb n (by omega) hq)
          rw [eu, show ((x + 1 : Nat) : Int) = (x : Int) + 1 from rfl, el] at K
          exact K
      · refine aw_iload (pc := 48) dX0_acceptsCover_48 rfl ?_
        refine aw_aload_n (pc := 50) dX0_acceptsCover_50 rfl ?_
        refine aw_getR (pc := 51) dX0_acceptsCover_51 k_fl_X0_9 rfl (by omega) (by first | rfl | exact z_shr _ (by omega) | exact z_shc0 (by omega) | exact z_shc1 (by omega) | exact z_shc2 (by omega) | exact z_shc3 (by omega) | exact z_shc4 (by omega)) (by first | rfl | exact z_Rc0 _ (by omega) | exact z_Rc1 _ (by omega) | exact z_Rc2 _ (by omega) | exact z_Rc3 _ (by omega)) ?_
        refine aw_iload_n (pc := 54) dX0_acceptsCover_54 rfl ?_
        refine aw_iload (pc := 55) dX0_acceptsCover_55 rfl ?_
        refine aw_qV (pc := 57) (d := m_X6_least) (c_X6_least h (by omega) (by omega)) k_X6_least dX0_acceptsCover_57 k_ml_X0_90 rfl ⟨rfl, rfl⟩ (by omega) (by first | rfl | exact z_shr _ (by omega) | exact z_shc0 (by omega) | exact z_shc1 (by omega) | exact z_shc2 (by omega) | exact z_shc3 (by omega) | exact z_shc4 (by omega)) rfl ⟨Nat.le_of_ble_eq_true rfl, Nat.le_of_ble_eq_true rfl⟩ ⟨Nat.zero_le _, Nat.zero_le _⟩ rfl (Nat.le_of_ble_eq_true rfl) (z_Pk ?_)
        refine aw_iadd (pc := 60) dX0_acceptsCover_60 ?_
        refine aw_istore (pc := 61) (lv' := [_, _, _, _, _, _, _]) dX0_acceptsCover_61 (Nat.le_of_ble_eq_true rfl) rfl ?_
        refine aw_goto (pc := 63) (tgt := 90) dX0_acceptsCover_63 rfl ?_
        refine aw_iinc (pc := 90) (lv' := [_, _, _, _, _, _, _]) dX0_acceptsCover_90 (Nat.le_of_ble_eq_true rfl) rfl rfl ?_
        refine aw_goto (pc := 93) (tgt := 26) dX0_acceptsCover_93 rfl ?_
        have eu : z_um (fun n => I (19 + 5 * c + 1) n) (x + 1) = (if I (19 + 5 * c + 1) x = 0 then z_um (fun n => I (19 + 5 * c + 1) n) x else z_um (fun n => I (19 + 5 * c + 1) n) x ||| 2 ^ x) := rfl
        have el : z_ls I c (I (19 + 5 * c) 8).toNat ((x : Int) + 1) = z_ls I c (I (19 + 5 * c) 8).toNat (x : Int) + (if I (19 + 5 * c + 1) x = 0 then z_cl I (I (19 + 5 * c) 8).toNat x else 0) := z_sm_s _ (by omega)
        rw [if_pos h45] at eu el
        have K := ih (x + 1) v (by omega) (fun n hn hq => by by_cases e : n = x; (subst e; exact absurd h45 hq); exact hb n (by omega) hq)
        rw [eu, show ((x + 1 : Nat) : Int) = (x : Int) + 1 from rfl, el] at K
        exact K
  refine aw_aload_n (pc := 0) dX0_acceptsCover_0 rfl ?_
  refine aw_getI (pc := 1) dX0_acceptsCover_1 k_fl_X0_83 rfl (by omega) (by first | rfl | exact z_shr _ (by omega) | exact z_shc0 (by omega) | exact z_shc1 (by omega) | exact z_shc2 (by omega) | exact z_shc3 (by omega) | exact z_shc4 (by omega)) ?_
  refine aw_istore_n (pc := 4) (lv' := [_, _, _, _, _, _, _]) dX0_acceptsCover_4 (Nat.le_of_ble_eq_true rfl) rfl ?_
  refine aw_aload_n (pc := 5) dX0_acceptsCover_5 rfl ?_
  refine aw_getR (pc := 6) dX0_acceptsCover_6 k_fl_X0_9 rfl (by omega) (by first | rfl | exact z_shr _ (by omega) | exact z_shc0 (by omega) | exact z_shc1 (by omega) | exact z_shc2 (by omega) | exact z_shc3 (by omega) | exact z_shc4 (by omega)) (by first | rfl | exact z_Rc0 _ (by omega) | exact z_Rc1 _ (by omega) | exact z_Rc2 _ (by omega) | exact z_Rc3 _ (by omega)) ?_
  refine aw_iload_n (pc := 9) dX0_acceptsCover_9 rfl ?_
  refine aw_qV (pc := 10) (d := m_X6_hasRow) (c_X6_hasRow h (by omega)) k_X6_hasRow dX0_acceptsCover_10 k_ml_X0_86 rfl ⟨rfl, rfl⟩ (by omega) (by first | rfl | exact z_shr _ (by omega) | exact z_shc0 (by omega) | exact z_shc1 (by omega) | exact z_shc2 (by omega) | exact z_shc3 (by omega) | exact z_shc4 (by omega)) rfl ⟨Nat.le_of_ble_eq_true rfl, Nat.le_of_ble_eq_true rfl⟩ ⟨Nat.zero_le _, Nat.zero_le _⟩ rfl (Nat.le_of_ble_eq_true rfl) (z_Pk ?_)
  refine aw_if_ne (pc := 13) (tgt := 18) dX0_acceptsCover_13 rfl (z_bl_r _) (fun h13 => ?_) (fun h13 => ?_)
  · refine aw_iconst (pc := 18) dX0_acceptsCover_18 ?_
    refine aw_istore_n (pc := 19) (lv' := [_, _, _, _, _, _, _]) dX0_acceptsCover_19 (Nat.le_of_ble_eq_true rfl) rfl ?_
    refine aw_iconst (pc := 20) dX0_acceptsCover_20 ?_
    refine aw_istore (pc := 21) (lv' := [_, _, _, _, _, _, _]) dX0_acceptsCover_21 (Nat.le_of_ble_eq_true rfl) rfl ?_
    refine aw_iconst (pc := 23) dX0_acceptsCover_23 ?_
    refine aw_istore (pc := 24) (lv' := [_, _, _, _, _, _, _]) dX0_acceptsCover_24 (Nat.le_of_ble_eq_true rfl) rfl ?_
    exact loop1 (z_bl_n.mp h13) (I 1 5).toNat 0 none (by omega) (fun n hn => absurd hn (by omega))
  · refine aw_iconst (pc := 16) dX0_acceptsCover_16 ?_
    exact aw_zreturn (pc := 17) dX0_acceptsCover_17 rfl (by first | exact Or.inl rfl | exact Or.inr rfl | omega) ⟨Nat.zero_le _, Nat.zero_le _⟩ (⟨z_r0 (fun q => z_bl_0.mp h13 q.1), rfl, rfl, rfl, rfl⟩)
set_option maxHeartbeats 4000000 in
theorem c_X0_acceptsClique {π : Nat → Nat} {I J : AwI} {c : Nat} (h : z_M I J) (hk : c < 41) (hc : z_C I c) : CT m_X0_acceptsClique [zr 233, zr (19 + 5 * c)] 255 I J (z_R π) (z_P (some (zi (z_bl (z_aQ I c)))) 255 I J (z_R π)) := by
  have hnm := h.nm
  have hcr := hc.r
  refine CT.of (by decide) (Nat.le_of_ble_eq_true rfl) ?_
  show AW _ 0 0 _ 0 [some (zr 233), some (zr (19 + 5 * c)), none, none] [] _ _ _
  have inner : ∀ (x : Nat), (x : Int) < I 1 5 → I (19 + 5 * c + 1) x ≠ 0 → (∀ v : Option AwV, (∀ k, k < x → I (19 + 5 * c + 1) k = 1 → z_cn2 I k x) → AW (FM m_X0_acceptsClique (z_P (some (zi (z_bl (z_aQ I c)))) 255 I J (z_R π))) 0 0 255 95 [some (zr 233), some (zr (19 + 5 * c)), some (zi (x : Int)), v] [] I J (z_R π)) → AW (FM m_X0_acceptsClique (z_P (some (zi (z_bl (z_aQ I c)))) 255 I J (z_R π))) 0 0 255 60 [some (zr 233), some (zr (19 + 5 * c)), some (zi (x : Int)), some (zi 0)] [] I J (z_R π) := by
    intro x hx hx0 hK
    have loop : ∀ (k : Nat) (y : Nat), (y : Int) + k = x → (∀ t, t < y → I (19 + 5 * c + 1) t = 1 → z_cn2 I t x) → AW (FM m_X0_acceptsClique (z_P (some (zi (z_bl (z_aQ I c)))) 255 I J (z_R π))) 0 0 255 60 [some (zr 233), some (zr (19 + 5 * c)), some (zi (x : Int)), some (zi (y : Int))] [] I J (z_R π) := by
      intro k
      induction k with
      | zero =>
        intro y he gi
        refine aw_iload_n (pc := 60) dX0_acceptsClique_60 rfl ?_
        refine aw_iload_n (pc := 61) dX0_acceptsClique_61 rfl ?_
        refine aw_icmp_ge (pc := 62) (tgt := 95) dX0_acceptsClique_62 rfl (by first | omega | exact z_bl_r _) (by first | omega | exact z_bl_r _) (fun h62 => ?_) (fun h62 => absurd h62 (by omega))
        exact hK _ (fun t ht => gi t (by omega))
      | succ k ih =>
        intro y he gi
        refine aw_iload_n (pc := 60) dX0_acceptsClique_60 rfl ?_
        refine aw_iload_n (pc := 61) dX0_acceptsClique_61 rfl ?_
        refine aw_icmp_ge (pc := 62) (tgt := 95) dX0_acceptsClique_62 rfl (by first | omega | exact z_bl_r _) (by first | omega | exact z_bl_r _) (fun h62 => absurd h62 (by omega)) (fun h62 => ?_)
        have b1 := hc.f y
        refine aw_aload_n (pc := 65) dX0_acceptsClique_65 rfl ?_
        refine aw_getR (pc := 66) dX0_acceptsClique_66 k_fl_X0_52 rfl (by omega) (by first | rfl | exact z_shr _ (by omega) | exact z_shc0 (by omega) | exact z_shc1 (by omega) | exact z_shc2 (by omega) | exact z_shc3 (by omega) | exact z_shc4 (by omega)) (by first | rfl | exact z_Rc0 _ (by omega) | exact z_Rc1 _ (by omega) | exact z_Rc2 _ (by omega) | exact z_Rc3 _ (by omega)) ?_
        refine aw_iload_n (pc := 69) dX0_acceptsClique_69 rfl ?_
        refine aw_ialoadV (pc := 70) (v := I (19 + 5 * c + 1) y) dX0_acceptsClique_70 (by omega) (Nat.le_refl _) (by first | rfl | exact z_shr _ (by omega) | exact z_shc0 (by omega) | exact z_shc1 (by omega) | exact z_shc2 (by omega) | exact z_shc3 (by omega) | exact z_shc4 (by omega)) (by first | omega | exact z_bl_r _) (rfl) ?_
        refine aw_iconst (pc := 71) dX0_acceptsClique_71 ?_
        refine aw_icmp_ne (pc := 72) (tgt := 89) dX0_acceptsClique_72 rfl (by first | omega | exact z_bl_r _) (by first | omega | exact z_bl_r _) (fun h72 => ?_) (fun h72 => ?_)
        · refine aw_iinc (pc := 89) (lv' := [_, _, _, _]) dX0_acceptsClique_89 (Nat.le_of_ble_eq_true rfl) rfl rfl ?_
          refine aw_goto (pc := 92) (tgt := 60) dX0_acceptsClique_92 rfl ?_
          have K := ih (y + 1) (by omega) (fun t ht q => by by_cases e : t = y; (subst e; exact absurd q h72); exact gi t (by omega) q)
          exact K
        · refine aw_aload_n (pc := 75) dX0_acceptsClique_75 rfl ?_
          refine aw_getR (pc := 76) dX0_acceptsClique_76 k_fl_X0_9 rfl (by omega) (by first | rfl | exact z_shr _ (by omega) | exact z_shc0 (by omega) | exact z_shc1 (by omega) | exact z_shc2 (by omega) | exact z_shc3 (by omega) | exact z_shc4 (by omega)) (by first | rfl | exact z_Rc0 _ (by omega) | exact z_Rc1 _ (by omega) | exact z_Rc2 _ (by omega) | exact z_Rc3 _ (by omega)) ?_
          refine aw_iload_n (pc := 79) dX0_acceptsClique_79 rfl ?_
          refine aw_iload_n (pc := 80) dX0_acceptsClique_80 rfl ?_
          refine aw_qV (pc := 81) (d := m_X6_clashAnywhere) (c_X6_clashAnywhere h (by omega) (by omega)) k_X6_clashAnywhere dX0_acceptsClique_81 k_ml_X0_105 rfl ⟨rfl, rfl⟩ (by omega) (by first | rfl | exact z_shr _ (by omega) | exact z_shc0 (by omega) | exact z_shc1 (by omega) | exact z_shc2 (by omega) | exact z_shc3 (by omega) | exact z_shc4 (by omega)) rfl ⟨Nat.le_of_ble_eq_true rfl, Nat.le_of_ble_eq_true rfl⟩ ⟨Nat.zero_le _, Nat.zero_le _⟩ rfl (Nat.le_of_ble_eq_true rfl) (z_Pk ?_)
          refine aw_if_ne (pc := 84) (tgt := 89) dX0_acceptsClique_84 rfl (z_bl_r _) (fun h84 => ?_) (fun h84 => ?_)
          · refine aw_iinc (pc := 89) (lv' := [_, _, _, _]) dX0_acceptsClique_89 (Nat.le_of_ble_eq_true rfl) rfl rfl ?_
            refine aw_goto (pc := 92) (tgt := 60) dX0_acceptsClique_92 rfl ?_
            have K := ih (y + 1) (by omega) (fun t ht q => by by_cases e : t = y; (subst e; exact z_bl_n.mp h84); exact gi t (by omega) q)
            exact K
          · refine aw_iconst (pc := 87) dX0_acceptsClique_87 ?_
            exact aw_zreturn (pc := 88) dX0_acceptsClique_88 rfl (by first | exact Or.inl rfl | exact Or.inr rfl | omega) ⟨Nat.zero_le _, Nat.zero_le _⟩ (⟨z_r0 (fun q => z_bl_0.mp h84 ((q.2 x (by omega) hx0).2.2 y (by omega) h72)), rfl, rfl, rfl, rfl⟩)
    exact loop x 0 (by omega) (fun t ht => absurd ht (by omega))
  refine aw_aload_n (pc := 0) dX0_acceptsClique_0 rfl ?_
  refine aw_getI (pc := 1) dX0_acceptsClique_1 k_fl_X0_71 rfl (by omega) (by first | rfl | exact z_shr _ (by omega) | exact z_shc0 (by omega) | exact z_shc1 (by omega) | exact z_shc2 (by omega) | exact z_shc3 (by omega) | exact z_shc4 (by omega)) ?_
  refine aw_iconst (pc := 4) dX0_acceptsClique_4 ?_
  refine aw_icmp_ge (pc := 5) (tgt := 10) dX0_acceptsClique_5 rfl (by first | omega | exact z_bl_r _) (by first | omega | exact z_bl_r _) (fun h5 => ?_) (fun h5 => ?_)
  · have hr1 : 1 ≤ I (19 + 5 * c) 4 := h5
    have outer : ∀ (k : Nat) (x : Nat) (v : Option AwV), (x : Int) + k = I 1 5 → (∀ n : Nat, n < x → (I (19 + 5 * c + 1) n ≠ 0 → I (19 + 5 * c + 1) n = 1 ∧ (I 2 n = 0 ∧ I 3 n = 1) ∧ ∀ k, k < n → I (19 + 5 * c + 1) k = 1 → z_cn2 I k n)) → AW (FM m_X0_acceptsClique (z_P (some (zi (z_bl (z_aQ I c)))) 255 I J (z_R π))) 0 0 255 12 [some (zr 233), some (zr (19 + 5 * c)), some (zi (x : Int)), v] [] I J (z_R π) := by
      intro k
      induction k with
      | zero =>
        intro x v he g
        refine aw_iload_n (pc := 12) dX0_acceptsClique_12 rfl ?_
        refine aw_aload_n (pc := 13) dX0_acceptsClique_13 rfl ?_
        refine aw_getR (pc := 14) dX0_acceptsClique_14 k_fl_X0_9 rfl (by omega) (by first | rfl | exact z_shr _ (by omega) | exact z_shc0 (by omega) | exact z_shc1 (by omega) | exact z_shc2 (by omega) | exact z_shc3 (by omega) | exact z_shc4 (by omega)) (by first | rfl | exact z_Rc0 _ (by omega) | exact z_Rc1 _ (by omega) | exact z_Rc2 _ (by omega) | exact z_Rc3 _ (by omega)) ?_
        refine aw_getI (pc := 17) dX0_acceptsClique_17 k_fl_X0_49 rfl (by omega) (by first | rfl | exact z_shr _ (by omega) | exact z_shc0 (by omega) | exact z_shc1 (by omega) | exact z_shc2 (by omega) | exact z_shc3 (by omega) | exact z_shc4 (by omega)) ?_
        refine aw_icmp_ge (pc := 20) (tgt := 101) dX0_acceptsClique_20 rfl (by first | omega | exact z_bl_r _) (by first | omega | exact z_bl_r _) (fun h20 => ?_) (fun h20 => absurd h20 (by omega))
        refine aw_iconst (pc := 101) dX0_acceptsClique_101 ?_
        exact aw_zreturn (pc := 102) dX0_acceptsClique_102 rfl (by first | exact Or.inl rfl | exact Or.inr rfl | omega) ⟨Nat.zero_le _, Nat.zero_le _⟩ (⟨z_r1 ⟨hr1, fun n hn => g n (by omega)⟩, rfl, rfl, rfl, rfl⟩)
      | succ k ih =>
        intro x v he g
        refine aw_iload_n (pc := 12) dX0_acceptsClique_12 rfl ?_
        refine aw_aload_n (pc := 13) dX0_acceptsClique_13 rfl ?_
        refine aw_getR (pc := 14) dX0_acceptsClique_14 k_fl_X0_9 rfl (by omega) (by first | rfl | exact z_shr _ (by omega) | exact z_shc0 (by omega) | exact z_shc1 (by omega) | exact z_shc2 (by omega) | exact z_shc3 (by omega) | exact z_shc4 (by omega)) (by first | rfl | exact z_Rc0 _ (by omega) | exact z_Rc1 _ (by omega) | exact z_Rc2 _ (by omega) | exact z_Rc3 _ (by omega)) ?_
        refine aw_getI (pc := 17) dX0_acceptsClique_17 k_fl_X0_49 rfl (by omega) (by first | rfl | exact z_shr _ (by omega) | exact z_shc0 (by omega) | exact z_shc1 (by omega) | exact z_shc2 (by omega) | exact z_shc3 (by omega) | exact z_shc4 (by omega)) ?_
        refine aw_icmp_ge (pc := 20) (tgt := 101) dX0_acceptsClique_20 rfl (by first | omega | exact z_bl_r _) (by first | omega | exact z_bl_r _) (fun h20 => absurd h20 (by omega)) (fun h20 => ?_)
        have b1 := hc.f x
        refine aw_aload_n (pc := 23) dX0_acceptsClique_23 rfl ?_
        refine aw_getR (pc := 24) dX0_acceptsClique_24 k_fl_X0_52 rfl (by omega) (by first | rfl | exact z_shr _ (by omega) | exact z_shc0 (by omega) | exact z_shc1 (by omega) | exact z_shc2 (by omega) | exact z_shc3 (by omega) | exact z_shc4 (by omega)) (by first | rfl | exact z_Rc0 _ (by omega) | exact z_Rc1 _ (by omega) | exact z_Rc2 _ (by omega) | exact z_Rc3 _ (by omega)) ?_
        refine aw_iload_n (pc := 27) dX0_acceptsClique_27 rfl ?_
        refine aw_ialoadV (pc := 28) (v := I (19 + 5 * c + 1) x) dX0_acceptsClique_28 (by omega) (Nat.le_refl _) (by first | rfl | exact z_shr _ (by omega) | exact z_shc0 (by omega) | exact z_shc1 (by omega) | exact z_shc2 (by omega) | exact z_shc3 (by omega) | exact z_shc4 (by omega)) (by first | omega | exact z_bl_r _) (rfl) ?_
        refine aw_if_ne (pc := 29) (tgt := 35) dX0_acceptsClique_29 rfl (by first | omega | exact z_bl_r _) (fun h29 => ?_) (fun h29 => ?_)
        · refine aw_aload_n (pc := 35) dX0_acceptsClique_35 rfl ?_
          refine aw_getR (pc := 36) dX0_acceptsClique_36 k_fl_X0_52 rfl (by omega) (by first | rfl | exact z_shr _ (by omega) | exact z_shc0 (by omega) | exact z_shc1 (by omega) | exact z_shc2 (by omega) | exact z_shc3 (by omega) | exact z_shc4 (by omega)) (by first | rfl | exact z_Rc0 _ (by omega) | exact z_Rc1 _ (by omega) | exact z_Rc2 _ (by omega) | exact z_Rc3 _ (by omega)) ?_
          refine aw_iload_n (pc := 39) dX0_acceptsClique_39 rfl ?_
          refine aw_ialoadV (pc := 40) (v := I (19 + 5 * c + 1) x) dX0_acceptsClique_40 (by omega) (Nat.le_refl _) (by first | rfl | exact z_shr _ (by omega) | exact z_shc0 (by omega) | exact z_shc1 (by omega) | exact z_shc2 (by omega) | exact z_shc3 (by omega) | exact z_shc4 (by omega)) (by first | omega | exact z_bl_r _) (rfl) ?_
          refine aw_iconst (pc := 41) dX0_acceptsClique_41 ?_
          refine aw_icmp_ne (pc := 42) (tgt := 56) dX0_acceptsClique_42 rfl (by first | omega | exact z_bl_r _) (by first | omega | exact z_bl_r _) (fun h42 => ?_) (fun h42 => ?_)
          · refine aw_iconst (pc := 56) dX0_acceptsClique_56 ?_
            refine aw_zreturn (pc := 57) dX0_acceptsClique_57 rfl (by first | exact Or.inl rfl | exact Or.inr rfl | omega) ⟨Nat.zero_le _, Nat.zero_le _⟩ ?_
            first
              | exact ⟨z_r0 (fun q => h42 (q.2 x (by omega) h29).1), rfl, rfl, rfl, rfl⟩
              | exact ⟨z_r0 (fun q => z_bl_0.mp h53 (q.2 x (by omega) h29).2.1), rfl, rfl, rfl, rfl⟩
          · refine aw_aload_n (pc := 45) dX0_acceptsClique_45 rfl ?_
            refine aw_getR (pc := 46) dX0_acceptsClique_46 k_fl_X0_9 rfl (by omega) (by first | rfl | exact z_shr _ (by omega) | exact z_shc0 (by omega) | exact z_shc1 (by omega) | exact z_shc2 (by omega) | exact z_shc3 (by omega) | exact z_shc4 (by omega)) (by first | rfl | exact z_Rc0 _ (by omega) | exact z_Rc1 _ (by omega) | exact z_Rc2 _ (by omega) | exact z_Rc3 _ (by omega)) ?_
            refine aw_iload_n (pc := 49) dX0_acceptsClique_49 rfl ?_
            refine aw_qV (pc := 50) (d := m_X6_isBinary) (c_X6_isBinary h (by omega)) k_X6_isBinary dX0_acceptsClique_50 k_ml_X0_94 rfl ⟨rfl, rfl⟩ (by omega) (by first | rfl | exact z_shr _ (by omega) | exact z_shc0 (by omega) | exact z_shc1 (by omega) | exact z_shc2 (by omega) | exact z_shc3 (by omega) | exact z_shc4 (by omega)) rfl ⟨Nat.le_of_ble_eq_true rfl, Nat.le_of_ble_eq_true rfl⟩ ⟨Nat.zero_le _, Nat.zero_le _⟩ rfl (Nat.le_of_ble_eq_true rfl) (z_Pk ?_)
            refine aw_if_ne (pc := 53) (tgt := 58) dX0_acceptsClique_53 rfl (z_bl_r _) (fun h53 => ?_) (fun h53 => ?_)
            · refine aw_iconst (pc := 58) dX0_acceptsClique_58 ?_
              refine aw_istore_n (pc := 59) (lv' := [_, _, _, _]) dX0_acceptsClique_59 (Nat.le_of_ble_eq_true rfl) rfl ?_
              refine inner x (by omega) h29 (fun v9 q9 => ?_)
              refine aw_iinc (pc := 95) (lv' := [_, _, _, _]) dX0_acceptsClique_95 (Nat.le_of_ble_eq_true rfl) rfl rfl ?_
              refine aw_goto (pc := 98) (tgt := 12) dX0_acceptsClique_98 rfl ?_
              have K := ih (x + 1) v9 (by omega) (fun n hn => by by_cases e : n = x; (subst e; exact fun _ => ⟨h42, z_bl_n.mp h53, q9⟩); exact g n (by omega))
              exact K
            · refine aw_iconst (pc := 56) dX0_acceptsClique_56 ?_
              refine aw_zreturn (pc := 57) dX0_acceptsClique_57 rfl (by first | exact Or.inl rfl | exact Or.inr rfl | omega) ⟨Nat.zero_le _, Nat.zero_le _⟩ ?_
              first
                | exact ⟨z_r0 (fun q => h42 (q.2 x (by omega) h29).1), rfl, rfl, rfl, rfl⟩
                | exact ⟨z_r0 (fun q => z_bl_0.mp h53 (q.2 x (by omega) h29).2.1), rfl, rfl, rfl, rfl⟩
        · refine aw_goto (pc := 32) (tgt := 95) dX0_acceptsClique_32 rfl ?_
          refine aw_iinc (pc := 95) (lv' := [_, _, _, _]) dX0_acceptsClique_95 (Nat.le_of_ble_eq_true rfl) rfl rfl ?_
          refine aw_goto (pc := 98) (tgt := 12) dX0_acceptsClique_98 rfl ?_
          have K := ih (x + 1) v (by omega) (fun n hn => by by_cases e : n = x; (subst e; exact fun q => absurd h29 q); exact g n (by omega))
          exact K
    refine aw_iconst (pc := 10) dX0_acceptsClique_10 ?_
    refine aw_istore_n (pc := 11) (lv' := [_, _, _, _]) dX0_acceptsClique_11 (Nat.le_of_ble_eq_true rfl) rfl ?_
    exact outer (I 1 5).toNat 0 none (by omega) (fun n hn => absurd hn (by omega))
  · refine aw_iconst (pc := 8) dX0_acceptsClique_8 ?_
    exact aw_zreturn (pc := 9) dX0_acceptsClique_9 rfl (by first | exact Or.inl rfl | exact Or.inr rfl | omega) ⟨Nat.zero_le _, Nat.zero_le _⟩ (⟨z_r0 (fun q => by have := q.1; omega), rfl, rfl, rfl, rfl⟩)
set_option maxHeartbeats 4000000 in
theorem c_X0_accepts {π : Nat → Nat} {I J : AwI} {c : Nat} (h : z_M I J) (hk : c < 41) (hc : z_C I c) : CT m_X0_accepts [zr 233, zr (19 + 5 * c)] 255 I J (z_R π) (z_P (some (zi (z_bl (z_ac I c)))) 255 I J (z_R π)) := by
  obtain ⟨kd, hkd⟩ : ∃ kd, I (19 + 5 * c) 5 = kd := ⟨_, rfl⟩
  have hkb := hc.kd
  rw [hkd] at hkb
  refine CT.of (by decide) (Nat.le_of_ble_eq_true rfl) ?_
  show AW _ 0 0 _ 0 [some (zr 233), some (zr (19 + 5 * c))] [] _ _ _
  refine aw_aload_n (pc := 0) dX0_accepts_0 rfl ?_
  refine aw_getV (pc := 1) (v := kd) dX0_accepts_1 k_fl_X0_15 rfl (by omega) (by first | rfl | exact z_shr _ (by omega) | exact z_shc0 (by omega) | exact z_shc1 (by omega) | exact z_shc2 (by omega) | exact z_shc3 (by omega) | exact z_shc4 (by omega)) (hkd) ?_
  rcases (show (kd < 0 ∨ 2 < kd) ∨ kd = 0 ∨ kd = 1 ∨ kd = 2 by omega) with h4 | h4 | h4 | h4
  · refine aw_tbl_out (pc := 4) (tgt := 44) dX0_accepts_4 (by omega) h4 rfl ?_
    refine aw_aload_n (pc := 44) dX0_accepts_44 rfl ?_
    refine aw_aload_n (pc := 45) dX0_accepts_45 rfl ?_
    refine aw_qV (pc := 46) (d := m_X0_acceptsClique) (c_X0_acceptsClique h hk hc) k_X0_acceptsClique dX0_accepts_46 k_ml_X0_28 rfl ⟨rfl, rfl⟩ (by omega) (by first | rfl | exact z_shr _ (by omega) | exact z_shc0 (by omega) | exact z_shc1 (by omega) | exact z_shc2 (by omega) | exact z_shc3 (by omega) | exact z_shc4 (by omega)) rfl ⟨Nat.le_of_ble_eq_true rfl, Nat.le_of_ble_eq_true rfl⟩ ⟨Nat.zero_le _, Nat.zero_le _⟩ rfl (Nat.le_of_ble_eq_true rfl) (z_Pk ?_)
    exact aw_zreturn (pc := 49) dX0_accepts_49 rfl (z_bl_01 _) ⟨Nat.zero_le _, Nat.zero_le _⟩ (⟨by unfold z_ac; rw [hkd]; first | rw [if_pos (Or.inl rfl)] | rw [if_pos (Or.inr rfl)] | rw [if_neg (by omega), if_pos rfl] | rw [if_neg (by omega), if_neg (by omega)], rfl, rfl, rfl, rfl⟩)
  · subst h4
    refine aw_tbl_in (pc := 4) (tgt := 32) (off := 28) dX0_accepts_4 (by omega) (by omega) rfl rfl ?_
    refine aw_aload_n (pc := 32) dX0_accepts_32 rfl ?_
    refine aw_aload_n (pc := 33) dX0_accepts_33 rfl ?_
    refine aw_qV (pc := 34) (d := m_X0_acceptsRounding) (c_X0_acceptsRounding h hk hc) k_X0_acceptsRounding dX0_accepts_34 k_ml_X0_21 rfl ⟨rfl, rfl⟩ (by omega) (by first | rfl | exact z_shr _ (by omega) | exact z_shc0 (by omega) | exact z_shc1 (by omega) | exact z_shc2 (by omega) | exact z_shc3 (by omega) | exact z_shc4 (by omega)) rfl ⟨Nat.le_of_ble_eq_true rfl, Nat.le_of_ble_eq_true rfl⟩ ⟨Nat.zero_le _, Nat.zero_le _⟩ rfl (Nat.le_of_ble_eq_true rfl) (z_Pk ?_)
    exact aw_zreturn (pc := 37) dX0_accepts_37 rfl (z_bl_01 _) ⟨Nat.zero_le _, Nat.zero_le _⟩ (⟨by unfold z_ac; rw [hkd]; first | rw [if_pos (Or.inl rfl)] | rw [if_pos (Or.inr rfl)] | rw [if_neg (by omega), if_pos rfl] | rw [if_neg (by omega), if_neg (by omega)], rfl, rfl, rfl, rfl⟩)
  · subst h4
    refine aw_tbl_in (pc := 4) (tgt := 32) (off := 28) dX0_accepts_4 (by omega) (by omega) rfl rfl ?_
    refine aw_aload_n (pc := 32) dX0_accepts_32 rfl ?_
    refine aw_aload_n (pc := 33) dX0_accepts_33 rfl ?_
    refine aw_qV (pc := 34) (d := m_X0_acceptsRounding) (c_X0_acceptsRounding h hk hc) k_X0_acceptsRounding dX0_accepts_34 k_ml_X0_21 rfl ⟨rfl, rfl⟩ (by omega) (by first | rfl | exact z_shr _ (by omega) | exact z_shc0 (by omega) | exact z_shc1 (by omega) | exact z_shc2 (by omega) | exact z_shc3 (by omega) | exact z_shc4 (by omega)) rfl ⟨Nat.le_of_ble_eq_true rfl, Nat.le_of_ble_eq_true rfl⟩ ⟨Nat.zero_le _, Nat.zero_le _⟩ rfl (Nat.le_of_ble_eq_true rfl) (z_Pk ?_)
    exact aw_zreturn (pc := 37) dX0_accepts_37 rfl (z_bl_01 _) ⟨Nat.zero_le _, Nat.zero_le _⟩ (⟨by unfold z_ac; rw [hkd]; first | rw [if_pos (Or.inl rfl)] | rw [if_pos (Or.inr rfl)] | rw [if_neg (by omega), if_pos rfl] | rw [if_neg (by omega), if_neg (by omega)], rfl, rfl, rfl, rfl⟩)
  · subst h4
    refine aw_tbl_in (pc := 4) (tgt := 38) (off := 34) dX0_accepts_4 (by omega) (by omega) rfl rfl ?_
    refine aw_aload_n (pc := 38) dX0_accepts_38 rfl ?_
    refine aw_aload_n (pc := 39) dX0_accepts_39 rfl ?_
    refine aw_qV (pc := 40) (d := m_X0_acceptsCover) (c_X0_acceptsCover h hk hc) k_X0_acceptsCover dX0_accepts_40 k_ml_X0_25 rfl ⟨rfl, rfl⟩ (by omega) (by first | rfl | exact z_shr _ (by omega) | exact z_shc0 (by omega) | exact z_shc1 (by omega) | exact z_shc2 (by omega) | exact z_shc3 (by omega) | exact z_shc4 (by omega)) rfl ⟨Nat.le_of_ble_eq_true rfl, Nat.le_of_ble_eq_true rfl⟩ ⟨Nat.zero_le _, Nat.zero_le _⟩ rfl (Nat.le_of_ble_eq_true rfl) (z_Pk ?_)
    exact aw_zreturn (pc := 43) dX0_accepts_43 rfl (z_bl_01 _) ⟨Nat.zero_le _, Nat.zero_le _⟩ (⟨by unfold z_ac; rw [hkd]; first | rw [if_pos (Or.inl rfl)] | rw [if_pos (Or.inr rfl)] | rw [if_neg (by omega), if_pos rfl] | rw [if_neg (by omega), if_neg (by omega)], rfl, rfl, rfl, rfl⟩)
