def z_cbs (m : z_MM) (C : z_CC) (r x : Nat) : Int := z_sum (fun n => if cF C n = 0 then z_le (mF m r n) (mlo m n) (mhi m n) else 0) x
theorem z_cbs_b {m : z_MM} (h : z_mb m) {C : z_CC} {r : Nat} : -12000 ≤ z_cbs m C r (mN m) ∧ z_cbs m C r (mN m) ≤ 12000 := by
  have g := z_sum_b (f := fun n => if cF C n = 0 then z_le (mF m r n) (mlo m n) (mhi m n) else 0) 1500 (mN m) (fun k hk => by
    have := z_le_b (h.2.2.2.2.1 r k) (h.2.2.1 k) (h.2.2.2.1 k)
    split <;> omega)
  have := h.1
  unfold z_cbs
  omega
theorem z_wsu_bb {f : Nat → Int} {s : Nat} (B : Int) (hB : 0 ≤ B) : ∀ n : Nat, (∀ j, j < n → -B ≤ f j ∧ f j ≤ B) → -(n * B) ≤ z_wsu f s n ∧ z_wsu f s n ≤ n * B := fun n h => z_sum_b B n (fun k hk => by
  have := h k hk
  rw [z_bt_mul]
  split <;> omega)
set_option maxHeartbeats 4000000 in
theorem c_X9_acceptsCover {π : Nat → Nat} {I J : AwI} {m : z_MM} {L : List z_CC} {t : Int} {c : Nat} (hI : z_RI I J m L t) (hcL : c < L.length) (hk2 : cK (z_g L c) = 2) : CT m_X9_acceptsCover [zr 237, zi (c : Int)] 255 I J (z_R π) (z_P (some (zi (z_bl (z_aCM m (z_g L c))))) 255 I J (z_R π)) := by
  obtain ⟨hM1, hm1, e0, e4, elo, ehi, ept, eF, ert, hmb, hptb, hF0⟩ := hI.rds
  have hN8 := hmb.1
  have hR10 := hmb.2.1
  have hC := hI.2.2.2.1
  have hct := hC.n
  have eL := hI.2.2.2.2.1.1
  obtain ⟨d1, d2, d3, d4, d5, d6⟩ := hI.at hcL
  have a0 := d6 hk2
  have hcl : c < 40 := by omega
  have hS0 := hC.s (27 * c)
  rw [a0] at hS0
  have hcf : ∀ n, n < mN m → -1000 ≤ cF (z_g L c) n ∧ cF (z_g L c) n ≤ 1000 := fun n hn => by have := hC.f (8 * c + n); rw [d1 n hn] at this; exact this
  have hcr := hC.r c
  rw [d2] at hcr
  have hbs := z_cbs_b hmb (C := (z_g L c)) (r := (cS (z_g L c) 0).toNat)
  have hp8 : 2 ^ mN m ≤ 2 ^ 8 := Nat.pow_le_pow_right (by omega) hN8
  refine CT.of (by decide) (Nat.le_of_ble_eq_true rfl) ?_
  show AW _ 0 0 _ 0 [some (zr 237), some (zi (c : Int)), none, none, none, none, none, none, none, none, none, none] [] _ _ _
  refine aw_aload_n (pc := 0) dX9_acceptsCover_0 rfl ?_
  refine aw_getR (pc := 1) dX9_acceptsCover_1 k_fl_X9_38 rfl (by omega) (by first | rfl | exact z_shr _ (by omega) | exact z_shc0 (by omega) | exact z_shc1 (by omega) | exact z_shc2 (by omega) | exact z_shc3 (by omega) | exact z_shc4 (by omega)) (by first | rfl | exact z_Rc0 _ (by omega) | exact z_Rc1 _ (by omega) | exact z_Rc2 _ (by omega) | exact z_Rc3 _ (by omega)) ?_
  refine aw_bipush (pc := 4) dX9_acceptsCover_4 rfl ?_
  refine aw_iload_n (pc := 6) dX9_acceptsCover_6 rfl ?_
  refine aw_imul (pc := 7) dX9_acceptsCover_7 ?_
  refine aw_ialoadV (pc := 8) (v := (cS (z_g L c) 0)) dX9_acceptsCover_8 (by omega) (Nat.le_refl _) (by first | rfl | exact z_shr _ (by omega) | exact z_shc0 (by omega) | exact z_shc1 (by omega) | exact z_shc2 (by omega) | exact z_shc3 (by omega) | exact z_shc4 (by omega)) (by omega) (by rw [show ((27 : Int) * (c : Int)).toNat = 27 * c by omega]; exact a0) ?_
  refine aw_istore_n (pc := 9) (lv' := [_, _, _, _, _, _, _, _, _, _, _, _]) dX9_acceptsCover_9 (Nat.le_of_ble_eq_true rfl) rfl ?_
  refine aw_aload_n (pc := 10) dX9_acceptsCover_10 rfl ?_
  refine aw_iload_n (pc := 11) dX9_acceptsCover_11 rfl ?_
  refine aw_qV (pc := 12) (d := m_X9_isRow) (c_X9_isRow (by omega) (by omega)) k_X9_isRow dX9_acceptsCover_12 k_ml_X9_75 rfl ⟨rfl, rfl⟩ (by omega) (by first | rfl | exact z_shr _ (by omega) | exact z_shc0 (by omega) | exact z_shc1 (by omega) | exact z_shc2 (by omega) | exact z_shc3 (by omega) | exact z_shc4 (by omega)) rfl ⟨Nat.le_of_ble_eq_true rfl, Nat.le_of_ble_eq_true rfl⟩ ⟨Nat.zero_le _, Nat.zero_le _⟩ rfl (Nat.le_of_ble_eq_true rfl) (z_Pk ?_)
  refine aw_if_ne (pc := 15) (tgt := 20) dX9_acceptsCover_15 rfl (by first | omega | exact z_bl_r _) (fun h15 => ?_) (fun h15 => ?_)
  · first | rw [z_bl_n] at h15 | rw [z_bl_0] at h15 | skip
    have l1 : ∀ (n1 : Nat) (x : Nat), x + n1 = mN m → (∀ n, n < x → cF (z_g L c) n ≠ 0 → z_bin m n) → AW (FM m_X9_acceptsCover (z_P (some (zi (z_bl (z_aCM m (z_g L c))))) 255 I J (z_R π))) 0 0 255 28 [some (zr 237), some (zi (c : Int)), some (zi (cS (z_g L c) 0)), some (zi ((z_um (cF (z_g L c)) x : Nat) : Int)), some (zl (z_cbs m (z_g L c) (cS (z_g L c) 0).toNat x)), none, some (zi (x : Int)), none, none, none, none, none] [] I J (z_R π) := by
      intro n1
      induction n1 with
      | zero =>
        intro x he1 g
        refine aw_iload (pc := 28) dX9_acceptsCover_28 rfl ?_
        refine aw_aload_n (pc := 30) dX9_acceptsCover_30 rfl ?_
        refine aw_getV (pc := 31) (v := (mN m : Int)) dX9_acceptsCover_31 k_fl_X9_66 rfl (by omega) (by first | rfl | exact z_shr _ (by omega) | exact z_shc0 (by omega) | exact z_shc1 (by omega) | exact z_shc2 (by omega) | exact z_shc3 (by omega) | exact z_shc4 (by omega)) (e0) ?_
        refine aw_icmp_ge (pc := 34) (tgt := 94) dX9_acceptsCover_34 rfl (by first | omega | exact z_bl_r _) (by first | omega | exact z_bl_r _) (fun h34 => ?_) (fun h34 => absurd h34 (by omega))
        have ex : x = mN m := by omega
        subst ex
        have hbin : ∀ n, n < mN m → cF (z_g L c) n ≠ 0 → z_bin m n := g
        have hsub : ∀ {x : Nat}, x &&& (z_um (cF (z_g L c)) (mN m)) = x ↔ ∀ i, x.testBit i = true → i < mN m ∧ cF (z_g L c) i ≠ 0 := fun {x} => by
          rw [Nat.and_comm, z_and_eq]
          exact forall_congr' (fun i => forall_congr' (fun _ => z_um_t _ i _))
        have l2 : ∀ (n : Nat) (x : Nat) (u v w : Option AwV), x + n = 2 ^ mN m → (∀ s, s < x → s &&& (z_um (cF (z_g L c)) (mN m)) = s → (z_cbs m (z_g L c) (cS (z_g L c) 0).toNat (mN m)) + z_wsu (mF m (cS (z_g L c) 0).toNat) s (mN m) ≤ mrt m (cS (z_g L c) 0).toNat → z_wsu (cF (z_g L c)) s (mN m) ≤ cR (z_g L c)) → AW (FM m_X9_acceptsCover (z_P (some (zi (z_bl (z_aCM m (z_g L c))))) 255 I J (z_R π))) 0 0 255 97 [some (zr 237), some (zi (c : Int)), some (zi (cS (z_g L c) 0)), some (zi (((z_um (cF (z_g L c)) (mN m)) : Nat) : Int)), some (zl (z_cbs m (z_g L c) (cS (z_g L c) 0).toNat (mN m))), none, some (zi (x : Int)), u, none, v, none, w] [] I J (z_R π) := by
          intro n
          induction n with
          | zero =>
            intro x u v w he g
            refine aw_iload (pc := 97) dX9_acceptsCover_97 rfl ?_
            refine aw_iconst (pc := 99) dX9_acceptsCover_99 ?_
            refine aw_aload_n (pc := 100) dX9_acceptsCover_100 rfl ?_
            refine aw_getV (pc := 101) (v := (mN m : Int)) dX9_acceptsCover_101 k_fl_X9_66 rfl (by omega) (by first | rfl | exact z_shr _ (by omega) | exact z_shc0 (by omega) | exact z_shc1 (by omega) | exact z_shc2 (by omega) | exact z_shc3 (by omega) | exact z_shc4 (by omega)) (e0) ?_
            refine aw_shl1 (pc := 104) dX9_acceptsCover_104 (w := mN m) rfl (by omega) ?_
            refine aw_icmp_ge (pc := 105) (tgt := 221) dX9_acceptsCover_105 rfl (by omega) (by omega) (fun h105 => ?_) (fun h105 => absurd h105 (by omega))
            refine aw_iconst (pc := 221) dX9_acceptsCover_221 ?_
            refine aw_zreturn (pc := 222) dX9_acceptsCover_222 rfl (by first | exact Or.inl rfl | exact Or.inr rfl | omega) ⟨Nat.zero_le _, Nat.zero_le _⟩ ?_
            refine ⟨z_r1 ⟨by omega, hbin, fun s hs hle => ?_⟩, rfl, rfl, rfl, rfl⟩
            have h1 : s &&& (z_um (cF (z_g L c)) (mN m)) = s := (hsub (x := s)).mpr hs
            have h2 : s < x := by
              have h3 := z_um_lt (cF (z_g L c)) (mN m)
              have h4 := Nat.and_le_right (n := s) (m := (z_um (cF (z_g L c)) (mN m)))
              omega
            exact g s h2 h1 (by have hle : z_wsu (mF m (cS (z_g L c) 0).toNat) s (mN m) ≤ mrt m (cS (z_g L c) 0).toNat - (z_cbs m (z_g L c) (cS (z_g L c) 0).toNat (mN m)) := hle; omega)
          | succ n ih =>
            intro x u v w he g
            refine aw_iload (pc := 97) dX9_acceptsCover_97 rfl ?_
            refine aw_iconst (pc := 99) dX9_acceptsCover_99 ?_
            refine aw_aload_n (pc := 100) dX9_acceptsCover_100 rfl ?_
            refine aw_getV (pc := 101) (v := (mN m : Int)) dX9_acceptsCover_101 k_fl_X9_66 rfl (by omega) (by first | rfl | exact z_shr _ (by omega) | exact z_shc0 (by omega) | exact z_shc1 (by omega) | exact z_shc2 (by omega) | exact z_shc3 (by omega) | exact z_shc4 (by omega)) (e0) ?_
            refine aw_shl1 (pc := 104) dX9_acceptsCover_104 (w := mN m) rfl (by omega) ?_
            refine aw_icmp_ge (pc := 105) (tgt := 221) dX9_acceptsCover_105 rfl (by omega) (by omega) (fun h105 => absurd h105 (by omega)) (fun h105 => ?_)
            refine aw_iload (pc := 108) dX9_acceptsCover_108 rfl ?_
            refine aw_iload_n (pc := 110) dX9_acceptsCover_110 rfl ?_
            refine aw_iand (pc := 111) dX9_acceptsCover_111 (a := x) (b := (z_um (cF (z_g L c)) (mN m))) rfl rfl ?_
            refine aw_iload (pc := 112) dX9_acceptsCover_112 rfl ?_
            refine aw_icmp_ne (pc := 114) (tgt := 215) dX9_acceptsCover_114 rfl (by have := Nat.and_le_left (n := x) (m := (z_um (cF (z_g L c)) (mN m))); omega) (by omega) (fun h114 => ?_) (fun h114 => ?_)
            · refine aw_iinc (pc := 215) (lv' := [_, _, _, _, _, _, _, _, _, _, _, _]) dX9_acceptsCover_215 (Nat.le_of_ble_eq_true rfl) rfl rfl ?_
              refine aw_goto (pc := 218) (tgt := 97) dX9_acceptsCover_218 rfl ?_
              exact ih (x + 1) _ _ _ (by omega) (fun s hs h1 h2 => by by_cases e : s = x; (rw [e] at h1; omega); exact g s (by omega) h1 h2)
            · have hA : x &&& (z_um (cF (z_g L c)) (mN m)) = x := by omega
              have l3 : ∀ (n3 : Nat) (y : Nat), y + n3 = mN m → AW (FM m_X9_acceptsCover (z_P (some (zi (z_bl (z_aCM m (z_g L c))))) 255 I J (z_R π))) 0 0 255 127 [some (zr 237), some (zi (c : Int)), some (zi (cS (z_g L c) 0)), some (zi (((z_um (cF (z_g L c)) (mN m)) : Nat) : Int)), some (zl (z_cbs m (z_g L c) (cS (z_g L c) 0).toNat (mN m))), none, some (zi (x : Int)), some (zl ((z_cbs m (z_g L c) (cS (z_g L c) 0).toNat (mN m)) + (z_wsu (mF m (cS (z_g L c) 0).toNat) x y))), none, some (zl (z_wsu (cF (z_g L c)) x y)), none, some (zi (y : Int))] [] I J (z_R π) := by
                intro n3
                induction n3 with
                | zero =>
                  intro y he3
                  refine aw_iload (pc := 127) dX9_acceptsCover_127 rfl ?_
                  refine aw_aload_n (pc := 129) dX9_acceptsCover_129 rfl ?_
                  refine aw_getV (pc := 130) (v := (mN m : Int)) dX9_acceptsCover_130 k_fl_X9_66 rfl (by omega) (by first | rfl | exact z_shr _ (by omega) | exact z_shc0 (by omega) | exact z_shc1 (by omega) | exact z_shc2 (by omega) | exact z_shc3 (by omega) | exact z_shc4 (by omega)) (e0) ?_
                  refine aw_icmp_ge (pc := 133) (tgt := 188) dX9_acceptsCover_133 rfl (by first | omega | exact z_bl_r _) (by first | omega | exact z_bl_r _) (fun h133 => ?_) (fun h133 => absurd h133 (by omega))
                  rw [show y = mN m by omega]
                  have w1 := z_wsu_bb (f := mF m (cS (z_g L c) 0).toNat) (s := x) 50 (by omega) (mN m) (fun j _ => hmb.2.2.2.2.1 _ j)
                  have w2 := z_wsu_bb (f := cF (z_g L c)) (s := x) 1000 (by omega) (mN m) hcf
                  refine aw_lload (pc := 188) dX9_acceptsCover_188 rfl ?_
                  refine aw_aload_n (pc := 190) dX9_acceptsCover_190 rfl ?_
                  refine aw_getR (pc := 191) dX9_acceptsCover_191 k_fl_X9_20 rfl (by omega) (by first | rfl | exact z_shr _ (by omega) | exact z_shc0 (by omega) | exact z_shc1 (by omega) | exact z_shc2 (by omega) | exact z_shc3 (by omega) | exact z_shc4 (by omega)) (by first | rfl | exact z_Rc0 _ (by omega) | exact z_Rc1 _ (by omega) | exact z_Rc2 _ (by omega) | exact z_Rc3 _ (by omega)) ?_
                  refine aw_iload_n (pc := 194) dX9_acceptsCover_194 rfl ?_
                  refine aw_ialoadV (pc := 195) (v := mrt m (cS (z_g L c) 0).toNat) dX9_acceptsCover_195 (by omega) (Nat.le_refl _) (by first | rfl | exact z_shr _ (by omega) | exact z_shc0 (by omega) | exact z_shc1 (by omega) | exact z_shc2 (by omega) | exact z_shc3 (by omega) | exact z_shc4 (by omega)) (by omega) (ert _ (by omega)) ?_
                  refine aw_i2l (pc := 196) dX9_acceptsCover_196 (by have := hmb.2.2.2.2.2 (cS (z_g L c) 0).toNat; omega) ?_
                  refine aw_lcmp_gt (pc := 197) (tgt := 215) dX9_acceptsCover_197 dX9_acceptsCover_198 rfl (by omega) (by have := hmb.2.2.2.2.2 (cS (z_g L c) 0).toNat; omega) (fun h197 => ?_) (fun h197 => ?_)
                  · refine aw_iinc (pc := 215) (lv' := [_, _, _, _, _, _, _, _, _, _, _, _]) dX9_acceptsCover_215 (Nat.le_of_ble_eq_true rfl) rfl rfl ?_
                    refine aw_goto (pc := 218) (tgt := 97) dX9_acceptsCover_218 rfl ?_
                    exact ih (x + 1) _ _ _ (by omega) (fun s hs h1 h2 => by by_cases e : s = x; (rw [e] at h1 h2 ⊢; omega); exact g s (by omega) h1 h2)
                  · refine aw_lload (pc := 201) dX9_acceptsCover_201 rfl ?_
                    refine aw_aload_n (pc := 203) dX9_acceptsCover_203 rfl ?_
                    refine aw_getR (pc := 204) dX9_acceptsCover_204 k_fl_X9_29 rfl (by omega) (by first | rfl | exact z_shr _ (by omega) | exact z_shc0 (by omega) | exact z_shc1 (by omega) | exact z_shc2 (by omega) | exact z_shc3 (by omega) | exact z_shc4 (by omega)) (by first | rfl | exact z_Rc0 _ (by omega) | exact z_Rc1 _ (by omega) | exact z_Rc2 _ (by omega) | exact z_Rc3 _ (by omega)) ?_
                    refine aw_iload_n (pc := 207) dX9_acceptsCover_207 rfl ?_
                    refine aw_laloadV (pc := 208) (v := cR (z_g L c)) dX9_acceptsCover_208 (by omega) (Nat.le_refl _) (by first | rfl | exact z_shr _ (by omega) | exact z_shc0 (by omega) | exact z_shc1 (by omega) | exact z_shc2 (by omega) | exact z_shc3 (by omega) | exact z_shc4 (by omega)) (by first | omega | exact z_bl_r _) (d2) ?_
                    refine aw_lcmp_le (pc := 209) (tgt := 215) dX9_acceptsCover_209 dX9_acceptsCover_210 rfl (by omega) (by omega) (fun h209 => ?_) (fun h209 => ?_)
                    · refine aw_iinc (pc := 215) (lv' := [_, _, _, _, _, _, _, _, _, _, _, _]) dX9_acceptsCover_215 (Nat.le_of_ble_eq_true rfl) rfl rfl ?_
                      refine aw_goto (pc := 218) (tgt := 97) dX9_acceptsCover_218 rfl ?_
                      exact ih (x + 1) _ _ _ (by omega) (fun s hs h1 h2 => by by_cases e : s = x; (rw [e] at h1 h2 ⊢; omega); exact g s (by omega) h1 h2)
                    · refine aw_iconst (pc := 213) dX9_acceptsCover_213 ?_
                      refine aw_zreturn (pc := 214) dX9_acceptsCover_214 rfl (by first | exact Or.inl rfl | exact Or.inr rfl | omega) ⟨Nat.zero_le _, Nat.zero_le _⟩ ?_
                      refine ⟨z_r0 (fun q => ?_), rfl, rfl, rfl, rfl⟩
                      have := q.2.2 x (hsub.mp hA) (by show z_wsu _ x (mN m) ≤ _ - (z_cbs m (z_g L c) (cS (z_g L c) 0).toNat (mN m)); omega)
                      have : z_wsu (cF (z_g L c)) x (mN m) ≤ _ := this
                      omega
                | succ n3 ih3 =>
                  intro y he3
                  refine aw_iload (pc := 127) dX9_acceptsCover_127 rfl ?_
                  refine aw_aload_n (pc := 129) dX9_acceptsCover_129 rfl ?_
                  refine aw_getV (pc := 130) (v := (mN m : Int)) dX9_acceptsCover_130 k_fl_X9_66 rfl (by omega) (by first | rfl | exact z_shr _ (by omega) | exact z_shc0 (by omega) | exact z_shc1 (by omega) | exact z_shc2 (by omega) | exact z_shc3 (by omega) | exact z_shc4 (by omega)) (e0) ?_
                  refine aw_icmp_ge (pc := 133) (tgt := 188) dX9_acceptsCover_133 rfl (by first | omega | exact z_bl_r _) (by first | omega | exact z_bl_r _) (fun h133 => absurd h133 (by omega)) (fun h133 => ?_)
                  have hbb := z_bt_b x y
                  refine aw_iload (pc := 136) dX9_acceptsCover_136 rfl ?_
                  refine aw_iload (pc := 138) dX9_acceptsCover_138 rfl ?_
                  refine aw_shr (pc := 140) dX9_acceptsCover_140 (a := x) (w := y) rfl rfl (by omega) (by omega) ?_
                  refine aw_iconst (pc := 141) dX9_acceptsCover_141 ?_
                  refine aw_iand (pc := 142) dX9_acceptsCover_142 rfl (b := 1) rfl ?_
                  rw [z_btn]
                  refine aw_iconst (pc := 143) dX9_acceptsCover_143 ?_
                  refine aw_icmp_ne (pc := 144) (tgt := 182) dX9_acceptsCover_144 rfl (by omega) (by omega) (fun h144 => ?_) (fun h144 => ?_)
                  · refine aw_iinc (pc := 182) (lv' := [_, _, _, _, _, _, _, _, _, _, _, _]) dX9_acceptsCover_182 (Nat.le_of_ble_eq_true rfl) rfl rfl ?_
                    refine aw_goto (pc := 185) (tgt := 127) dX9_acceptsCover_185 rfl ?_
                    have K := ih3 (y + 1) (by omega)
                    rw [show z_wsu (mF m (cS (z_g L c) 0).toNat) x (y + 1) = (z_wsu (mF m (cS (z_g L c) 0).toNat) x y) + 0 by show (z_wsu (mF m (cS (z_g L c) 0).toNat) x y) + z_bt x y * _ = _; rw [show z_bt x y = 0 by omega, Int.zero_mul], show z_wsu (cF (z_g L c)) x (y + 1) = (z_wsu (cF (z_g L c)) x y) + 0 by show (z_wsu (cF (z_g L c)) x y) + z_bt x y * _ = _; rw [show z_bt x y = 0 by omega, Int.zero_mul], ← Int.add_assoc] at K
                    rw [Int.add_zero, Int.add_zero] at K
                    exact K
                  · refine aw_lload (pc := 147) dX9_acceptsCover_147 rfl ?_
                    refine aw_aload_n (pc := 149) dX9_acceptsCover_149 rfl ?_
                    refine aw_getR (pc := 150) dX9_acceptsCover_150 k_fl_X9_23 rfl (by omega) (by first | rfl | exact z_shr _ (by omega) | exact z_shc0 (by omega) | exact z_shc1 (by omega) | exact z_shc2 (by omega) | exact z_shc3 (by omega) | exact z_shc4 (by omega)) (by first | rfl | exact z_Rc0 _ (by omega) | exact z_Rc1 _ (by omega) | exact z_Rc2 _ (by omega) | exact z_Rc3 _ (by omega)) ?_
                    refine aw_bipush (pc := 153) dX9_acceptsCover_153 rfl ?_
                    refine aw_iload_n (pc := 155) dX9_acceptsCover_155 rfl ?_
                    refine aw_imul (pc := 156) dX9_acceptsCover_156 ?_
                    refine aw_iload (pc := 157) dX9_acceptsCover_157 rfl ?_
                    refine aw_iadd (pc := 159) dX9_acceptsCover_159 ?_
                    refine aw_ialoadV (pc := 160) (v := mF m (cS (z_g L c) 0).toNat y) dX9_acceptsCover_160 (by omega) (Nat.le_refl _) (by first | rfl | exact z_shr _ (by omega) | exact z_shc0 (by omega) | exact z_shc1 (by omega) | exact z_shc2 (by omega) | exact z_shc3 (by omega) | exact z_shc4 (by omega)) (by omega) (by rw [show ((8 : Int) * (cS (z_g L c) 0) + (y : Int)).toNat = 8 * (cS (z_g L c) 0).toNat + y by omega]; exact eF _ y (by omega) (by omega)) ?_
                    refine aw_i2l (pc := 161) dX9_acceptsCover_161 (by have := hmb.2.2.2.2.1 (cS (z_g L c) 0).toNat y; omega) ?_
                    refine aw_ladd (pc := 162) dX9_acceptsCover_162 ?_
                    refine aw_lstore (pc := 163) (lv' := [_, _, _, _, _, _, _, _, _, _, _, _]) dX9_acceptsCover_163 (Nat.le_of_ble_eq_true rfl) rfl ?_
                    refine aw_lload (pc := 165) dX9_acceptsCover_165 rfl ?_
                    refine aw_aload_n (pc := 167) dX9_acceptsCover_167 rfl ?_
                    refine aw_getR (pc := 168) dX9_acceptsCover_168 k_fl_X9_26 rfl (by omega) (by first | rfl | exact z_shr _ (by omega) | exact z_shc0 (by omega) | exact z_shc1 (by omega) | exact z_shc2 (by omega) | exact z_shc3 (by omega) | exact z_shc4 (by omega)) (by first | rfl | exact z_Rc0 _ (by omega) | exact z_Rc1 _ (by omega) | exact z_Rc2 _ (by omega) | exact z_Rc3 _ (by omega)) ?_
                    refine aw_bipush (pc := 171) dX9_acceptsCover_171 rfl ?_
                    refine aw_iload_n (pc := 173) dX9_acceptsCover_173 rfl ?_
                    refine aw_imul (pc := 174) dX9_acceptsCover_174 ?_
                    refine aw_iload (pc := 175) dX9_acceptsCover_175 rfl ?_
                    refine aw_iadd (pc := 177) dX9_acceptsCover_177 ?_
                    refine aw_laloadV (pc := 178) (v := cF (z_g L c) y) dX9_acceptsCover_178 (by omega) (Nat.le_refl _) (by first | rfl | exact z_shr _ (by omega) | exact z_shc0 (by omega) | exact z_shc1 (by omega) | exact z_shc2 (by omega) | exact z_shc3 (by omega) | exact z_shc4 (by omega)) (by omega) (by rw [show ((8 : Int) * (c : Int) + (y : Int)).toNat = 8 * c + y by omega]; exact d1 y (by omega)) ?_
                    refine aw_ladd (pc := 179) dX9_acceptsCover_179 ?_
                    refine aw_lstore (pc := 180) (lv' := [_, _, _, _, _, _, _, _, _, _, _, _]) dX9_acceptsCover_180 (Nat.le_of_ble_eq_true rfl) rfl ?_
                    refine aw_iinc (pc := 182) (lv' := [_, _, _, _, _, _, _, _, _, _, _, _]) dX9_acceptsCover_182 (Nat.le_of_ble_eq_true rfl) rfl rfl ?_
                    refine aw_goto (pc := 185) (tgt := 127) dX9_acceptsCover_185 rfl ?_
                    have K := ih3 (y + 1) (by omega)
                    rw [show z_wsu (mF m (cS (z_g L c) 0).toNat) x (y + 1) = (z_wsu (mF m (cS (z_g L c) 0).toNat) x y) + mF m (cS (z_g L c) 0).toNat y by show (z_wsu (mF m (cS (z_g L c) 0).toNat) x y) + z_bt x y * _ = _; rw [show z_bt x y = 1 by omega, Int.one_mul], show z_wsu (cF (z_g L c)) x (y + 1) = (z_wsu (cF (z_g L c)) x y) + cF (z_g L c) y by show (z_wsu (cF (z_g L c)) x y) + z_bt x y * _ = _; rw [show z_bt x y = 1 by omega, Int.one_mul], ← Int.add_assoc] at K
                    exact K
              refine aw_lload (pc := 117) dX9_acceptsCover_117 rfl ?_
              refine aw_lstore (pc := 119) (lv' := [_, _, _, _, _, _, _, _, _, _, _, _]) dX9_acceptsCover_119 (Nat.le_of_ble_eq_true rfl) rfl ?_
              refine aw_lconst (pc := 121) (v := 0) dX9_acceptsCover_121 rfl ?_
              refine aw_lstore (pc := 122) (lv' := [_, _, _, _, _, _, _, _, _, _, _, _]) dX9_acceptsCover_122 (Nat.le_of_ble_eq_true rfl) rfl ?_
              refine aw_iconst (pc := 124) dX9_acceptsCover_124 ?_
              refine aw_istore (pc := 125) (lv' := [_, _, _, _, _, _, _, _, _, _, _, _]) dX9_acceptsCover_125 (Nat.le_of_ble_eq_true rfl) rfl ?_
              have K := l3 (mN m) 0 (by omega)
              rw [show (z_cbs m (z_g L c) (cS (z_g L c) 0).toNat (mN m)) + z_wsu (mF m (cS (z_g L c) 0).toNat) x 0 = (z_cbs m (z_g L c) (cS (z_g L c) 0).toNat (mN m)) from Int.add_zero _] at K
              exact K
        refine aw_iconst (pc := 94) dX9_acceptsCover_94 ?_
        refine aw_istore (pc := 95) (lv' := [_, _, _, _, _, _, _, _, _, _, _, _]) dX9_acceptsCover_95 (Nat.le_of_ble_eq_true rfl) rfl ?_
        exact l2 (2 ^ mN m) 0 _ _ _ (by omega) (fun s hs => absurd hs (by omega))
      | succ n1 ih1 =>
        intro x he1 g
        refine aw_iload (pc := 28) dX9_acceptsCover_28 rfl ?_
        refine aw_aload_n (pc := 30) dX9_acceptsCover_30 rfl ?_
        refine aw_getV (pc := 31) (v := (mN m : Int)) dX9_acceptsCover_31 k_fl_X9_66 rfl (by omega) (by first | rfl | exact z_shr _ (by omega) | exact z_shc0 (by omega) | exact z_shc1 (by omega) | exact z_shc2 (by omega) | exact z_shc3 (by omega) | exact z_shc4 (by omega)) (e0) ?_
        refine aw_icmp_ge (pc := 34) (tgt := 94) dX9_acceptsCover_34 rfl (by first | omega | exact z_bl_r _) (by first | omega | exact z_bl_r _) (fun h34 => absurd h34 (by omega)) (fun h34 => ?_)
        refine aw_aload_n (pc := 37) dX9_acceptsCover_37 rfl ?_
        refine aw_getR (pc := 38) dX9_acceptsCover_38 k_fl_X9_26 rfl (by omega) (by first | rfl | exact z_shr _ (by omega) | exact z_shc0 (by omega) | exact z_shc1 (by omega) | exact z_shc2 (by omega) | exact z_shc3 (by omega) | exact z_shc4 (by omega)) (by first | rfl | exact z_Rc0 _ (by omega) | exact z_Rc1 _ (by omega) | exact z_Rc2 _ (by omega) | exact z_Rc3 _ (by omega)) ?_
        refine aw_bipush (pc := 41) dX9_acceptsCover_41 rfl ?_
        refine aw_iload_n (pc := 43) dX9_acceptsCover_43 rfl ?_
        refine aw_imul (pc := 44) dX9_acceptsCover_44 ?_
        refine aw_iload (pc := 45) dX9_acceptsCover_45 rfl ?_
        refine aw_iadd (pc := 47) dX9_acceptsCover_47 ?_
        refine aw_laloadV (pc := 48) (v := cF (z_g L c) x) dX9_acceptsCover_48 (by omega) (Nat.le_refl _) (by first | rfl | exact z_shr _ (by omega) | exact z_shc0 (by omega) | exact z_shc1 (by omega) | exact z_shc2 (by omega) | exact z_shc3 (by omega) | exact z_shc4 (by omega)) (by omega) (by rw [show ((8 : Int) * (c : Int) + (x : Int)).toNat = 8 * c + x by omega]; exact d1 x (by omega)) ?_
        refine aw_lconst (pc := 49) (v := 0) dX9_acceptsCover_49 rfl ?_
        refine aw_lcmp_ne (pc := 50) (tgt := 70) dX9_acceptsCover_50 dX9_acceptsCover_51 rfl (by have := hcf x (by omega); omega) (by omega) (fun h50 => ?_) (fun h50 => ?_)
        · refine aw_aload_n (pc := 70) dX9_acceptsCover_70 rfl ?_
          refine aw_iload (pc := 71) dX9_acceptsCover_71 rfl ?_
          refine aw_qV (pc := 73) (d := m_X9_isBinary) (c_X9_isBinary hM1 (by omega)) k_X9_isBinary dX9_acceptsCover_73 k_ml_X9_130 rfl ⟨rfl, rfl⟩ (by omega) (by first | rfl | exact z_shr _ (by omega) | exact z_shc0 (by omega) | exact z_shc1 (by omega) | exact z_shc2 (by omega) | exact z_shc3 (by omega) | exact z_shc4 (by omega)) rfl ⟨Nat.le_of_ble_eq_true rfl, Nat.le_of_ble_eq_true rfl⟩ ⟨Nat.zero_le _, Nat.zero_le _⟩ rfl (Nat.le_of_ble_eq_true rfl) (z_Pk ?_)
          rw [elo x (by omega), ehi x (by omega)]
          refine aw_if_ne (pc := 76) (tgt := 81) dX9_acceptsCover_76 rfl (z_bl_r _) (fun h76 => ?_) (fun h76 => ?_)
          · refine aw_iload_n (pc := 81) dX9_acceptsCover_81 rfl ?_
            refine aw_iconst (pc := 82) dX9_acceptsCover_82 ?_
            refine aw_iload (pc := 83) dX9_acceptsCover_83 rfl ?_
            refine aw_shl1 (pc := 85) dX9_acceptsCover_85 (w := x) rfl (by omega) ?_
            refine aw_ior (pc := 86) dX9_acceptsCover_86 (a := z_um (cF (z_g L c)) x) (b := 2 ^ x) rfl rfl ?_
            refine aw_istore_n (pc := 87) (lv' := [_, _, _, _, _, _, _, _, _, _, _, _]) dX9_acceptsCover_87 (Nat.le_of_ble_eq_true rfl) rfl ?_
            refine aw_iinc (pc := 88) (lv' := [_, _, _, _, _, _, _, _, _, _, _, _]) dX9_acceptsCover_88 (Nat.le_of_ble_eq_true rfl) rfl rfl ?_
            refine aw_goto (pc := 91) (tgt := 28) dX9_acceptsCover_91 rfl ?_
            have K := ih1 (x + 1) (by omega) (fun n hn hf => by by_cases e : n = x; (rw [e]; exact z_bl_n.mp h76); exact g n (by omega) hf)
            rw [show z_um (cF (z_g L c)) (x + 1) = z_um (cF (z_g L c)) x ||| 2 ^ x from if_neg (by omega), show z_cbs m (z_g L c) (cS (z_g L c) 0).toNat (x + 1) = z_cbs m (z_g L c) (cS (z_g L c) 0).toNat x by show z_cbs m (z_g L c) (cS (z_g L c) 0).toNat x + (if _ then _ else _) = _; rw [if_neg (by omega), Int.add_zero]] at K
            exact K
          · refine aw_iconst (pc := 79) dX9_acceptsCover_79 ?_
            exact aw_zreturn (pc := 80) dX9_acceptsCover_80 rfl (by first | exact Or.inl rfl | exact Or.inr rfl | omega) ⟨Nat.zero_le _, Nat.zero_le _⟩ (⟨z_r0 (fun q => z_bl_0.mp h76 (q.2.1 x (by omega) (by omega))), rfl, rfl, rfl, rfl⟩)
        · have K1 := c_X9_least (π := π) (r := (cS (z_g L c) 0).toNat) (n := x) hM1 (by omega) (by omega)
          rw [show (((cS (z_g L c) 0).toNat : Nat) : Int) = (cS (z_g L c) 0) by omega] at K1
          refine aw_lload (pc := 54) dX9_acceptsCover_54 rfl ?_
          refine aw_aload_n (pc := 56) dX9_acceptsCover_56 rfl ?_
          refine aw_iload_n (pc := 57) dX9_acceptsCover_57 rfl ?_
          refine aw_iload (pc := 58) dX9_acceptsCover_58 rfl ?_
          refine aw_qV (pc := 60) (d := m_X9_least) (K1) k_X9_least dX9_acceptsCover_60 k_ml_X9_133 rfl ⟨rfl, rfl⟩ (by omega) (by first | rfl | exact z_shr _ (by omega) | exact z_shc0 (by omega) | exact z_shc1 (by omega) | exact z_shc2 (by omega) | exact z_shc3 (by omega) | exact z_shc4 (by omega)) rfl ⟨Nat.le_of_ble_eq_true rfl, Nat.le_of_ble_eq_true rfl⟩ ⟨Nat.zero_le _, Nat.zero_le _⟩ rfl (Nat.le_of_ble_eq_true rfl) (z_Pk ?_)
          refine aw_i2l (pc := 63) dX9_acceptsCover_63 (by have := hM1.ql (cS (z_g L c) 0).toNat x; omega) ?_
          refine aw_ladd (pc := 64) dX9_acceptsCover_64 ?_
          refine aw_lstore (pc := 65) (lv' := [_, _, _, _, _, _, _, _, _, _, _, _]) dX9_acceptsCover_65 (Nat.le_of_ble_eq_true rfl) rfl ?_
          refine aw_goto (pc := 67) (tgt := 88) dX9_acceptsCover_67 rfl ?_
          refine aw_iinc (pc := 88) (lv' := [_, _, _, _, _, _, _, _, _, _, _, _]) dX9_acceptsCover_88 (Nat.le_of_ble_eq_true rfl) rfl rfl ?_
          refine aw_goto (pc := 91) (tgt := 28) dX9_acceptsCover_91 rfl ?_
          have K := ih1 (x + 1) (by omega) (fun n hn hf => by by_cases e : n = x; (rw [e] at hf; omega); exact g n (by omega) hf)
          rw [show z_um (cF (z_g L c)) (x + 1) = z_um (cF (z_g L c)) x from if_pos (by omega), show z_cbs m (z_g L c) (cS (z_g L c) 0).toNat (x + 1) = z_cbs m (z_g L c) (cS (z_g L c) 0).toNat x + z_ql I (cS (z_g L c) 0).toNat x by show z_cbs m (z_g L c) (cS (z_g L c) 0).toNat x + (if _ then _ else _) = _; rw [if_pos (by omega)]; unfold z_ql; rw [eF _ x (by omega) (by omega), elo x (by omega), ehi x (by omega)]] at K
          exact K
    refine aw_iconst (pc := 20) dX9_acceptsCover_20 ?_
    refine aw_istore_n (pc := 21) (lv' := [_, _, _, _, _, _, _, _, _, _, _, _]) dX9_acceptsCover_21 (Nat.le_of_ble_eq_true rfl) rfl ?_
    refine aw_lconst (pc := 22) (v := 0) dX9_acceptsCover_22 rfl ?_
    refine aw_lstore (pc := 23) (lv' := [_, _, _, _, _, _, _, _, _, _, _, _]) dX9_acceptsCover_23 (Nat.le_of_ble_eq_true rfl) rfl ?_
    refine aw_iconst (pc := 25) dX9_acceptsCover_25 ?_
    refine aw_istore (pc := 26) (lv' := [_, _, _, _, _, _, _, _, _, _, _, _]) dX9_acceptsCover_26 (Nat.le_of_ble_eq_true rfl) rfl ?_
    exact l1 (mN m) 0 (by omega) (fun n hn => absurd hn (by omega))
  · refine aw_iconst (pc := 18) dX9_acceptsCover_18 ?_
    refine aw_zreturn (pc := 19) dX9_acceptsCover_19 rfl (by first | exact Or.inl rfl | exact Or.inr rfl | omega) ⟨Nat.zero_le _, Nat.zero_le _⟩ ?_
    first | rw [z_bl_n] at h15 | rw [z_bl_0] at h15 | skip
    exact ⟨z_r0 (fun q => by have := q.1; omega), rfl, rfl, rfl, rfl⟩
set_option maxHeartbeats 4000000 in
theorem c_X9_acceptsClique {π : Nat → Nat} {I J : AwI} {m : z_MM} {L : List z_CC} {t : Int} {c : Nat} (hI : z_RI I J m L t) (hcL : c < L.length) : CT m_X9_acceptsClique [zr 237, zi (c : Int)] 255 I J (z_R π) (z_P (some (zi (z_bl (z_aQM m (z_g L c))))) 255 I J (z_R π)) := by
  obtain ⟨hM1, hm1, e0, e4, elo, ehi, ept, eF, ert, hmb, hptb, hF0⟩ := hI.rds
  have hN8 := hmb.1
  have hR10 := hmb.2.1
  have hC := hI.2.2.2.1
  have hct := hC.n
  have eL := hI.2.2.2.2.1.1
  obtain ⟨d1, d2, d3, d4, d5, d6⟩ := hI.at hcL
  have hcl : c < 40 := by omega
  have hcf : ∀ n, n < mN m → -1000 ≤ cF (z_g L c) n ∧ cF (z_g L c) n ≤ 1000 := fun n hn => by have := hC.f (8 * c + n); rw [d1 n hn] at this; exact this
  have hcr := hC.r c
  rw [d2] at hcr
  refine CT.of (by decide) (Nat.le_of_ble_eq_true rfl) ?_
  show AW _ 0 0 _ 0 [some (zr 237), some (zi (c : Int)), none, none, none, none] [] _ _ _
  refine aw_aload_n (pc := 0) dX9_acceptsClique_0 rfl ?_
  refine aw_getR (pc := 1) dX9_acceptsClique_1 k_fl_X9_29 rfl (by omega) (by first | rfl | exact z_shr _ (by omega) | exact z_shc0 (by omega) | exact z_shc1 (by omega) | exact z_shc2 (by omega) | exact z_shc3 (by omega) | exact z_shc4 (by omega)) (by first | rfl | exact z_Rc0 _ (by omega) | exact z_Rc1 _ (by omega) | exact z_Rc2 _ (by omega) | exact z_Rc3 _ (by omega)) ?_
  refine aw_iload_n (pc := 4) dX9_acceptsClique_4 rfl ?_
  refine aw_laloadV (pc := 5) (v := cR (z_g L c)) dX9_acceptsClique_5 (by omega) (Nat.le_refl _) (by first | rfl | exact z_shr _ (by omega) | exact z_shc0 (by omega) | exact z_shc1 (by omega) | exact z_shc2 (by omega) | exact z_shc3 (by omega) | exact z_shc4 (by omega)) (by first | omega | exact z_bl_r _) (d2) ?_
  refine aw_lconst (pc := 6) (v := 1) dX9_acceptsClique_6 rfl ?_
  refine aw_lcmp_ge (pc := 7) (tgt := 13) dX9_acceptsClique_7 dX9_acceptsClique_8 rfl (by omega) (by omega) (fun h7 => ?_) (fun h7 => ?_)
  · have loop : ∀ (n : Nat) (x : Nat) (u v : Option AwV), x + n = mN m → (∀ n, n < x → cF (z_g L c) n ≠ 0 → cF (z_g L c) n = 1 ∧ z_bin m n ∧ ∀ k, k < n → cF (z_g L c) k = 1 → z_kl2 m k n) → AW (FM m_X9_acceptsClique (z_P (some (zi (z_bl (z_aQM m (z_g L c))))) 255 I J (z_R π))) 0 0 255 15 [some (zr 237), some (zi (c : Int)), some (zi (x : Int)), u, none, v] [] I J (z_R π) := by
      intro n
      induction n with
      | zero =>
        intro x u v he g
        refine aw_iload_n (pc := 15) dX9_acceptsClique_15 rfl ?_
        refine aw_aload_n (pc := 16) dX9_acceptsClique_16 rfl ?_
        refine aw_getV (pc := 17) (v := (mN m : Int)) dX9_acceptsClique_17 k_fl_X9_66 rfl (by omega) (by first | rfl | exact z_shr _ (by omega) | exact z_shc0 (by omega) | exact z_shc1 (by omega) | exact z_shc2 (by omega) | exact z_shc3 (by omega) | exact z_shc4 (by omega)) (e0) ?_
        refine aw_icmp_ge (pc := 20) (tgt := 113) dX9_acceptsClique_20 rfl (by first | omega | exact z_bl_r _) (by first | omega | exact z_bl_r _) (fun h20 => ?_) (fun h20 => absurd h20 (by omega))
        refine aw_iconst (pc := 113) dX9_acceptsClique_113 ?_
        exact aw_zreturn (pc := 114) dX9_acceptsClique_114 rfl (by first | exact Or.inl rfl | exact Or.inr rfl | omega) ⟨Nat.zero_le _, Nat.zero_le _⟩ (⟨z_r1 ⟨by omega, fun n hn => g n (by omega)⟩, rfl, rfl, rfl, rfl⟩)
      | succ n ih =>
        intro x u v he g
        refine aw_iload_n (pc := 15) dX9_acceptsClique_15 rfl ?_
        refine aw_aload_n (pc := 16) dX9_acceptsClique_16 rfl ?_
        refine aw_getV (pc := 17) (v := (mN m : Int)) dX9_acceptsClique_17 k_fl_X9_66 rfl (by omega) (by first | rfl | exact z_shr _ (by omega) | exact z_shc0 (by omega) | exact z_shc1 (by omega) | exact z_shc2 (by omega) | exact z_shc3 (by omega) | exact z_shc4 (by omega)) (e0) ?_
        refine aw_icmp_ge (pc := 20) (tgt := 113) dX9_acceptsClique_20 rfl (by first | omega | exact z_bl_r _) (by first | omega | exact z_bl_r _) (fun h20 => absurd h20 (by omega)) (fun h20 => ?_)
        have hfx := hcf x (by omega)
        refine aw_aload_n (pc := 23) dX9_acceptsClique_23 rfl ?_
        refine aw_getR (pc := 24) dX9_acceptsClique_24 k_fl_X9_26 rfl (by omega) (by first | rfl | exact z_shr _ (by omega) | exact z_shc0 (by omega) | exact z_shc1 (by omega) | exact z_shc2 (by omega) | exact z_shc3 (by omega) | exact z_shc4 (by omega)) (by first | rfl | exact z_Rc0 _ (by omega) | exact z_Rc1 _ (by omega) | exact z_Rc2 _ (by omega) | exact z_Rc3 _ (by omega)) ?_
        refine aw_bipush (pc := 27) dX9_acceptsClique_27 rfl ?_
        refine aw_iload_n (pc := 29) dX9_acceptsClique_29 rfl ?_
        refine aw_imul (pc := 30) dX9_acceptsClique_30 ?_
        refine aw_iload_n (pc := 31) dX9_acceptsClique_31 rfl ?_
        refine aw_iadd (pc := 32) dX9_acceptsClique_32 ?_
        refine aw_laloadV (pc := 33) (v := cF (z_g L c) x) dX9_acceptsClique_33 (by omega) (Nat.le_refl _) (by first | rfl | exact z_shr _ (by omega) | exact z_shc0 (by omega) | exact z_shc1 (by omega) | exact z_shc2 (by omega) | exact z_shc3 (by omega) | exact z_shc4 (by omega)) (by omega) (by rw [show ((8 : Int) * (c : Int) + (x : Int)).toNat = 8 * c + x by omega]; exact d1 x (by omega)) ?_
        refine aw_lstore_n (pc := 34) (lv' := [_, _, _, _, _, _]) dX9_acceptsClique_34 (Nat.le_of_ble_eq_true rfl) rfl ?_
        refine aw_lload_n (pc := 35) dX9_acceptsClique_35 rfl ?_
        refine aw_lconst (pc := 36) (v := 0) dX9_acceptsClique_36 rfl ?_
        refine aw_lcmp_eq (pc := 37) (tgt := 57) dX9_acceptsClique_37 dX9_acceptsClique_38 rfl (by omega) (by omega) (fun h37 => ?_) (fun h37 => ?_)
        · refine aw_iconst (pc := 57) dX9_acceptsClique_57 ?_
          refine aw_istore (pc := 58) (lv' := [_, _, _, _, _, _]) dX9_acceptsClique_58 (Nat.le_of_ble_eq_true rfl) rfl ?_
          have hx1 : cF (z_g L c) x ≠ 0 → cF (z_g L c) x = 1 ∧ z_bin m x := fun q => absurd h37 q
          have l2 : ∀ (n2 : Nat) (y : Nat), y + n2 = x → (∀ k, k < y → cF (z_g L c) x = 1 → cF (z_g L c) k = 1 → z_kl2 m k x) → AW (FM m_X9_acceptsClique (z_P (some (zi (z_bl (z_aQM m (z_g L c))))) 255 I J (z_R π))) 0 0 255 60 [some (zr 237), some (zi (c : Int)), some (zi (x : Int)), some (zl (cF (z_g L c) x)), none, some (zi (y : Int))] [] I J (z_R π) := by
            intro n2
            induction n2 with
            | zero =>
              intro y he2 g2
              refine aw_iload (pc := 60) dX9_acceptsClique_60 rfl ?_
              refine aw_iload_n (pc := 62) dX9_acceptsClique_62 rfl ?_
              refine aw_icmp_ge (pc := 63) (tgt := 107) dX9_acceptsClique_63 rfl (by first | omega | exact z_bl_r _) (by first | omega | exact z_bl_r _) (fun h63 => ?_) (fun h63 => absurd h63 (by omega))
              refine aw_iinc (pc := 107) (lv' := [_, _, _, _, _, _]) dX9_acceptsClique_107 (Nat.le_of_ble_eq_true rfl) rfl rfl ?_
              refine aw_goto (pc := 110) (tgt := 15) dX9_acceptsClique_110 rfl ?_
              exact ih (x + 1) _ _ (by omega) (fun n hn hf => by by_cases e : n = x; (rw [e] at hf ⊢; exact ⟨(hx1 hf).1, (hx1 hf).2, fun k hk q => g2 k (by omega) (hx1 hf).1 q⟩); exact g n (by omega) hf)
            | succ n2 ih2 =>
              intro y he2 g2
              refine aw_iload (pc := 60) dX9_acceptsClique_60 rfl ?_
              refine aw_iload_n (pc := 62) dX9_acceptsClique_62 rfl ?_
              refine aw_icmp_ge (pc := 63) (tgt := 107) dX9_acceptsClique_63 rfl (by first | omega | exact z_bl_r _) (by first | omega | exact z_bl_r _) (fun h63 => absurd h63 (by omega)) (fun h63 => ?_)
              refine aw_lload_n (pc := 66) dX9_acceptsClique_66 rfl ?_
              refine aw_lconst (pc := 67) (v := 1) dX9_acceptsClique_67 rfl ?_
              refine aw_lcmp_ne (pc := 68) (tgt := 101) dX9_acceptsClique_68 dX9_acceptsClique_69 rfl (by omega) (by omega) (fun h68 => ?_) (fun h68 => ?_)
              · refine aw_iinc (pc := 101) (lv' := [_, _, _, _, _, _]) dX9_acceptsClique_101 (Nat.le_of_ble_eq_true rfl) rfl rfl ?_
                refine aw_goto (pc := 104) (tgt := 60) dX9_acceptsClique_104 rfl ?_
                exact ih2 (y + 1) (by omega) (fun k hk q1 q2 => by by_cases e : k = y; (omega); exact g2 k (by omega) q1 q2)
              · refine aw_aload_n (pc := 72) dX9_acceptsClique_72 rfl ?_
                refine aw_getR (pc := 73) dX9_acceptsClique_73 k_fl_X9_26 rfl (by omega) (by first | rfl | exact z_shr _ (by omega) | exact z_shc0 (by omega) | exact z_shc1 (by omega) | exact z_shc2 (by omega) | exact z_shc3 (by omega) | exact z_shc4 (by omega)) (by first | rfl | exact z_Rc0 _ (by omega) | exact z_Rc1 _ (by omega) | exact z_Rc2 _ (by omega) | exact z_Rc3 _ (by omega)) ?_
                refine aw_bipush (pc := 76) dX9_acceptsClique_76 rfl ?_
                refine aw_iload_n (pc := 78) dX9_acceptsClique_78 rfl ?_
                refine aw_imul (pc := 79) dX9_acceptsClique_79 ?_
                refine aw_iload (pc := 80) dX9_acceptsClique_80 rfl ?_
                refine aw_iadd (pc := 82) dX9_acceptsClique_82 ?_
                refine aw_laloadV (pc := 83) (v := cF (z_g L c) y) dX9_acceptsClique_83 (by omega) (Nat.le_refl _) (by first | rfl | exact z_shr _ (by omega) | exact z_shc0 (by omega) | exact z_shc1 (by omega) | exact z_shc2 (by omega) | exact z_shc3 (by omega) | exact z_shc4 (by omega)) (by omega) (by rw [show ((8 : Int) * (c : Int) + (y : Int)).toNat = 8 * c + y by omega]; exact d1 y (by omega)) ?_
                refine aw_lconst (pc := 84) (v := 1) dX9_acceptsClique_84 rfl ?_
                refine aw_lcmp_ne (pc := 85) (tgt := 101) dX9_acceptsClique_85 dX9_acceptsClique_86 rfl (by have := hcf y (by omega); omega) (by omega) (fun h85 => ?_) (fun h85 => ?_)
                · refine aw_iinc (pc := 101) (lv' := [_, _, _, _, _, _]) dX9_acceptsClique_101 (Nat.le_of_ble_eq_true rfl) rfl rfl ?_
                  refine aw_goto (pc := 104) (tgt := 60) dX9_acceptsClique_104 rfl ?_
                  exact ih2 (y + 1) (by omega) (fun k hk q1 q2 => by by_cases e : k = y; (rw [e] at q2; omega); exact g2 k (by omega) q1 q2)
                · refine aw_aload_n (pc := 89) dX9_acceptsClique_89 rfl ?_
                  refine aw_iload_n (pc := 90) dX9_acceptsClique_90 rfl ?_
                  refine aw_iload (pc := 91) dX9_acceptsClique_91 rfl ?_
                  refine aw_qV (pc := 93) (d := m_X9_clash) (c_X9_clash hI (by omega) (by omega)) k_X9_clash dX9_acceptsClique_93 k_ml_X9_156 rfl ⟨rfl, rfl⟩ (by omega) (by first | rfl | exact z_shr _ (by omega) | exact z_shc0 (by omega) | exact z_shc1 (by omega) | exact z_shc2 (by omega) | exact z_shc3 (by omega) | exact z_shc4 (by omega)) rfl ⟨Nat.le_of_ble_eq_true rfl, Nat.le_of_ble_eq_true rfl⟩ ⟨Nat.zero_le _, Nat.zero_le _⟩ rfl (Nat.le_of_ble_eq_true rfl) (z_Pk ?_)
                  refine aw_if_ne (pc := 96) (tgt := 101) dX9_acceptsClique_96 rfl (z_bl_r _) (fun h96 => ?_) (fun h96 => ?_)
                  · refine aw_iinc (pc := 101) (lv' := [_, _, _, _, _, _]) dX9_acceptsClique_101 (Nat.le_of_ble_eq_true rfl) rfl rfl ?_
                    refine aw_goto (pc := 104) (tgt := 60) dX9_acceptsClique_104 rfl ?_
                    exact ih2 (y + 1) (by omega) (fun k hk q1 q2 => by by_cases e : k = y; (rw [e]; exact z_kl2_s.mp (z_bl_n.mp h96)); exact g2 k (by omega) q1 q2)
                  · refine aw_iconst (pc := 99) dX9_acceptsClique_99 ?_
                    exact aw_zreturn (pc := 100) dX9_acceptsClique_100 rfl (by first | exact Or.inl rfl | exact Or.inr rfl | omega) ⟨Nat.zero_le _, Nat.zero_le _⟩ (⟨z_r0 (fun q => z_bl_0.mp h96 (z_kl2_s.mp ((q.2 x (by omega) (by omega)).2.2 y (by omega) (by omega)))), rfl, rfl, rfl, rfl⟩)
          exact l2 x 0 (by omega) (fun k hk => absurd hk (by omega))
        · refine aw_lload_n (pc := 41) dX9_acceptsClique_41 rfl ?_
          refine aw_lconst (pc := 42) (v := 1) dX9_acceptsClique_42 rfl ?_
          refine aw_lcmp_ne (pc := 43) (tgt := 55) dX9_acceptsClique_43 dX9_acceptsClique_44 rfl (by omega) (by omega) (fun h43 => ?_) (fun h43 => ?_)
          · refine aw_iconst (pc := 55) dX9_acceptsClique_55 ?_
            refine aw_zreturn (pc := 56) dX9_acceptsClique_56 rfl (by first | exact Or.inl rfl | exact Or.inr rfl | omega) ⟨Nat.zero_le _, Nat.zero_le _⟩ ?_
            refine ⟨z_r0 (fun q => ?_), rfl, rfl, rfl, rfl⟩
            have q2 := q.2 x (by omega) (by omega)
            first | exact z_bl_0.mp h52 q2.2.1 | (have := q2.1; omega)
          · refine aw_aload_n (pc := 47) dX9_acceptsClique_47 rfl ?_
            refine aw_iload_n (pc := 48) dX9_acceptsClique_48 rfl ?_
            refine aw_qV (pc := 49) (d := m_X9_isBinary) (c_X9_isBinary hM1 (by omega)) k_X9_isBinary dX9_acceptsClique_49 k_ml_X9_130 rfl ⟨rfl, rfl⟩ (by omega) (by first | rfl | exact z_shr _ (by omega) | exact z_shc0 (by omega) | exact z_shc1 (by omega) | exact z_shc2 (by omega) | exact z_shc3 (by omega) | exact z_shc4 (by omega)) rfl ⟨Nat.le_of_ble_eq_true rfl, Nat.le_of_ble_eq_true rfl⟩ ⟨Nat.zero_le _, Nat.zero_le _⟩ rfl (Nat.le_of_ble_eq_true rfl) (z_Pk ?_)
            rw [elo x (by omega), ehi x (by omega)]
            refine aw_if_ne (pc := 52) (tgt := 57) dX9_acceptsClique_52 rfl (z_bl_r _) (fun h52 => ?_) (fun h52 => ?_)
            · refine aw_iconst (pc := 57) dX9_acceptsClique_57 ?_
              refine aw_istore (pc := 58) (lv' := [_, _, _, _, _, _]) dX9_acceptsClique_58 (Nat.le_of_ble_eq_true rfl) rfl ?_
              have hx1 : cF (z_g L c) x ≠ 0 → cF (z_g L c) x = 1 ∧ z_bin m x := fun q => ⟨h43, z_bl_n.mp h52⟩
              have l2 : ∀ (n2 : Nat) (y : Nat), y + n2 = x → (∀ k, k < y → cF (z_g L c) x = 1 → cF (z_g L c) k = 1 → z_kl2 m k x) → AW (FM m_X9_acceptsClique (z_P (some (zi (z_bl (z_aQM m (z_g L c))))) 255 I J (z_R π))) 0 0 255 60 [some (zr 237), some (zi (c : Int)), some (zi (x : Int)), some (zl (cF (z_g L c) x)), none, some (zi (y : Int))] [] I J (z_R π) := by
                intro n2
                induction n2 with
                | zero =>
                  intro y he2 g2
                  refine aw_iload (pc := 60) dX9_acceptsClique_60 rfl ?_
                  refine aw_iload_n (pc := 62) dX9_acceptsClique_62 rfl ?_
                  refine aw_icmp_ge (pc := 63) (tgt := 107) dX9_acceptsClique_63 rfl (by first | omega | exact z_bl_r _) (by first | omega | exact z_bl_r _) (fun h63 => ?_) (fun h63 => absurd h63 (by omega))
                  refine aw_iinc (pc := 107) (lv' := [_, _, _, _, _, _]) dX9_acceptsClique_107 (Nat.le_of_ble_eq_true rfl) rfl rfl ?_
                  refine aw_goto (pc := 110) (tgt := 15) dX9_acceptsClique_110 rfl ?_
                  exact ih (x + 1) _ _ (by omega) (fun n hn hf => by by_cases e : n = x; (rw [e] at hf ⊢; exact ⟨(hx1 hf).1, (hx1 hf).2, fun k hk q => g2 k (by omega) (hx1 hf).1 q⟩); exact g n (by omega) hf)
                | succ n2 ih2 =>
                  intro y he2 g2
                  refine aw_iload (pc := 60) dX9_acceptsClique_60 rfl ?_
                  refine aw_iload_n (pc := 62) dX9_acceptsClique_62 rfl ?_
                  refine aw_icmp_ge (pc := 63) (tgt := 107) dX9_acceptsClique_63 rfl (by first | omega | exact z_bl_r _) (by first | omega | exact z_bl_r _) (fun h63 => absurd h63 (by omega)) (fun h63 => ?_)
                  refine aw_lload_n (pc := 66) dX9_acceptsClique_66 rfl ?_
                  refine aw_lconst (pc := 67) (v := 1) dX9_acceptsClique_67 rfl ?_
                  refine aw_lcmp_ne (pc := 68) (tgt := 101) dX9_acceptsClique_68 dX9_acceptsClique_69 rfl (by omega) (by omega) (fun h68 => ?_) (fun h68 => ?_)
                  · refine aw_iinc (pc := 101) (lv' := [_, _, _, _, _, _]) dX9_acceptsClique_101 (Nat.le_of_ble_eq_true rfl) rfl rfl ?_
                    refine aw_goto (pc := 104) (tgt := 60) dX9_acceptsClique_104 rfl ?_
                    exact ih2 (y + 1) (by omega) (fun k hk q1 q2 => by by_cases e : k = y; (omega); exact g2 k (by omega) q1 q2)
                  · refine aw_aload_n (pc := 72) dX9_acceptsClique_72 rfl ?_
                    refine aw_getR (pc := 73) dX9_acceptsClique_73 k_fl_X9_26 rfl (by omega) (by first | rfl | exact z_shr _ (by omega) | exact z_shc0 (by omega) | exact z_shc1 (by omega) | exact z_shc2 (by omega) | exact z_shc3 (by omega) | exact z_shc4 (by omega)) (by first | rfl | exact z_Rc0 _ (by omega) | exact z_Rc1 _ (by omega) | exact z_Rc2 _ (by omega) | exact z_Rc3 _ (by omega)) ?_
                    refine aw_bipush (pc := 76) dX9_acceptsClique_76 rfl ?_
                    refine aw_iload_n (pc := 78) dX9_acceptsClique_78 rfl ?_
                    refine aw_imul (pc := 79) dX9_acceptsClique_79 ?_
                    refine aw_iload (pc := 80) dX9_acceptsClique_80 rfl ?_
                    refine aw_iadd (pc := 82) dX9_acceptsClique_82 ?_
                    refine aw_laloadV (pc := 83) (v := cF (z_g L c) y) dX9_acceptsClique_83 (by omega) (Nat.le_refl _) (by first | rfl | exact z_shr _ (by omega) | exact z_shc0 (by omega) | exact z_shc1 (by omega) | exact z_shc2 (by omega) | exact z_shc3 (by omega) | exact z_shc4 (by omega)) (by omega) (by rw [show ((8 : Int) * (c : Int) + (y : Int)).toNat = 8 * c + y by omega]; exact d1 y (by omega)) ?_
                    refine aw_lconst (pc := 84) (v := 1) dX9_acceptsClique_84 rfl ?_
                    refine aw_lcmp_ne (pc := 85) (tgt := 101) dX9_acceptsClique_85 dX9_acceptsClique_86 rfl (by have := hcf y (by omega); omega) (by omega) (fun h85 => ?_) (fun h85 => ?_)
                    · refine aw_iinc (pc := 101) (lv' := [_, _, _, _, _, _]) dX9_acceptsClique_101 (Nat.le_of_ble_eq_true rfl) rfl rfl ?_
                      refine aw_goto (pc := 104) (tgt := 60) dX9_acceptsClique_104 rfl ?_
                      exact ih2 (y + 1) (by omega) (fun k hk q1 q2 => by by_cases e : k = y; (rw [e] at q2; omega); exact g2 k (by omega) q1 q2)
                    · refine aw_aload_n (pc := 89) dX9_acceptsClique_89 rfl ?_
                      refine aw_iload_n (pc := 90) dX9_acceptsClique_90 rfl ?_
                      refine aw_iload (pc := 91) dX9_acceptsClique_91 rfl ?_
                      refine aw_qV (pc := 93) (d := m_X9_clash) (c_X9_clash hI (by omega) (by omega)) k_X9_clash dX9_acceptsClique_93 k_ml_X9_156 rfl ⟨rfl, rfl⟩ (by omega) (by first | rfl | exact z_shr _ (by omega) | exact z_shc0 (by omega) | exact z_shc1 (by omega) | exact z_shc2 (by omega) | exact z_shc3 (by omega) | exact z_shc4 (by omega)) rfl ⟨Nat.le_of_ble_eq_true rfl, Nat.le_of_ble_eq_true rfl⟩ ⟨Nat.zero_le _, Nat.zero_le _⟩ rfl (Nat.le_of_ble_eq_true rfl) (z_Pk ?_)
                      refine aw_if_ne (pc := 96) (tgt := 101) dX9_acceptsClique_96 rfl (z_bl_r _) (fun h96 => ?_) (fun h96 => ?_)
                      · refine aw_iinc (pc := 101) (lv' := [_, _, _, _, _, _]) dX9_acceptsClique_101 (Nat.le_of_ble_eq_true rfl) rfl rfl ?_
                        refine aw_goto (pc := 104) (tgt := 60) dX9_acceptsClique_104 rfl ?_
                        exact ih2 (y + 1) (by omega) (fun k hk q1 q2 => by by_cases e : k = y; (rw [e]; exact z_kl2_s.mp (z_bl_n.mp h96)); exact g2 k (by omega) q1 q2)
                      · refine aw_iconst (pc := 99) dX9_acceptsClique_99 ?_
                        exact aw_zreturn (pc := 100) dX9_acceptsClique_100 rfl (by first | exact Or.inl rfl | exact Or.inr rfl | omega) ⟨Nat.zero_le _, Nat.zero_le _⟩ (⟨z_r0 (fun q => z_bl_0.mp h96 (z_kl2_s.mp ((q.2 x (by omega) (by omega)).2.2 y (by omega) (by omega)))), rfl, rfl, rfl, rfl⟩)
              exact l2 x 0 (by omega) (fun k hk => absurd hk (by omega))
            · refine aw_iconst (pc := 55) dX9_acceptsClique_55 ?_
              refine aw_zreturn (pc := 56) dX9_acceptsClique_56 rfl (by first | exact Or.inl rfl | exact Or.inr rfl | omega) ⟨Nat.zero_le _, Nat.zero_le _⟩ ?_
              refine ⟨z_r0 (fun q => ?_), rfl, rfl, rfl, rfl⟩
              have q2 := q.2 x (by omega) (by omega)
              first | exact z_bl_0.mp h52 q2.2.1 | (have := q2.1; omega)
    refine aw_iconst (pc := 13) dX9_acceptsClique_13 ?_
    refine aw_istore_n (pc := 14) (lv' := [_, _, _, _, _, _]) dX9_acceptsClique_14 (Nat.le_of_ble_eq_true rfl) rfl ?_
    exact loop (mN m) 0 _ _ (by omega) (fun n hn => absurd hn (by omega))
  · refine aw_iconst (pc := 11) dX9_acceptsClique_11 ?_
    exact aw_zreturn (pc := 12) dX9_acceptsClique_12 rfl (by first | exact Or.inl rfl | exact Or.inr rfl | omega) ⟨Nat.zero_le _, Nat.zero_le _⟩ (⟨z_r0 (fun q => by have := q.1; omega), rfl, rfl, rfl, rfl⟩)
set_option maxHeartbeats 4000000 in
theorem c_X9_accepts {π : Nat → Nat} {I J : AwI} {m : z_MM} {L : List z_CC} {t : Int} {c : Nat} (hI : z_RI I J m L t) (hcL : c < L.length) : CT m_X9_accepts [zr 237, zi (c : Int)] 255 I J (z_R π) (z_P (some (zi (z_bl (z_acM m (z_g L c))))) 255 I J (z_R π)) := by
  obtain ⟨hM1, hm1, e0, e4, elo, ehi, ept, eF, ert, hmb, hptb, hF0⟩ := hI.rds
  have hN8 := hmb.1
  have hR10 := hmb.2.1
  have hC := hI.2.2.2.1
  have hct := hC.n
  have eL := hI.2.2.2.2.1.1
  obtain ⟨d1, d2, d3, d4, d5, d6⟩ := hI.at hcL
  have hkd := hI.kd hcL
  refine CT.of (by decide) (Nat.le_of_ble_eq_true rfl) ?_
  show AW _ 0 0 _ 0 [some (zr 237), some (zi (c : Int))] [] _ _ _
  refine aw_aload_n (pc := 0) dX9_accepts_0 rfl ?_
  refine aw_getR (pc := 1) dX9_accepts_1 k_fl_X9_32 rfl (by omega) (by first | rfl | exact z_shr _ (by omega) | exact z_shc0 (by omega) | exact z_shc1 (by omega) | exact z_shc2 (by omega) | exact z_shc3 (by omega) | exact z_shc4 (by omega)) (by first | rfl | exact z_Rc0 _ (by omega) | exact z_Rc1 _ (by omega) | exact z_Rc2 _ (by omega) | exact z_Rc3 _ (by omega)) ?_
  refine aw_iload_n (pc := 4) dX9_accepts_4 rfl ?_
  refine aw_ialoadV (pc := 5) (v := cK (z_g L c)) dX9_accepts_5 (by omega) (Nat.le_refl _) (by first | rfl | exact z_shr _ (by omega) | exact z_shc0 (by omega) | exact z_shc1 (by omega) | exact z_shc2 (by omega) | exact z_shc3 (by omega) | exact z_shc4 (by omega)) (by first | omega | exact z_bl_r _) (d3) ?_
  refine aw_iconst (pc := 6) dX9_accepts_6 ?_
  refine aw_icmp_ge (pc := 7) (tgt := 18) dX9_accepts_7 rfl (by first | omega | exact z_bl_r _) (by first | omega | exact z_bl_r _) (fun h7 => ?_) (fun h7 => ?_)
  · refine aw_aload_n (pc := 18) dX9_accepts_18 rfl ?_
    refine aw_getR (pc := 19) dX9_accepts_19 k_fl_X9_32 rfl (by omega) (by first | rfl | exact z_shr _ (by omega) | exact z_shc0 (by omega) | exact z_shc1 (by omega) | exact z_shc2 (by omega) | exact z_shc3 (by omega) | exact z_shc4 (by omega)) (by first | rfl | exact z_Rc0 _ (by omega) | exact z_Rc1 _ (by omega) | exact z_Rc2 _ (by omega) | exact z_Rc3 _ (by omega)) ?_
    refine aw_iload_n (pc := 22) dX9_accepts_22 rfl ?_
    refine aw_ialoadV (pc := 23) (v := cK (z_g L c)) dX9_accepts_23 (by omega) (Nat.le_refl _) (by first | rfl | exact z_shr _ (by omega) | exact z_shc0 (by omega) | exact z_shc1 (by omega) | exact z_shc2 (by omega) | exact z_shc3 (by omega) | exact z_shc4 (by omega)) (by first | omega | exact z_bl_r _) (d3) ?_
    refine aw_iconst (pc := 24) dX9_accepts_24 ?_
    refine aw_icmp_ne (pc := 25) (tgt := 36) dX9_accepts_25 rfl (by first | omega | exact z_bl_r _) (by first | omega | exact z_bl_r _) (fun h25 => ?_) (fun h25 => ?_)
    · refine aw_aload_n (pc := 36) dX9_accepts_36 rfl ?_
      refine aw_iload_n (pc := 37) dX9_accepts_37 rfl ?_
      refine aw_qV (pc := 38) (d := m_X9_acceptsClique) (c_X9_acceptsClique hI hcL) k_X9_acceptsClique dX9_accepts_38 k_ml_X9_188 rfl ⟨rfl, rfl⟩ (by omega) (by first | rfl | exact z_shr _ (by omega) | exact z_shc0 (by omega) | exact z_shc1 (by omega) | exact z_shc2 (by omega) | exact z_shc3 (by omega) | exact z_shc4 (by omega)) rfl ⟨Nat.le_of_ble_eq_true rfl, Nat.le_of_ble_eq_true rfl⟩ ⟨Nat.zero_le _, Nat.zero_le _⟩ rfl (Nat.le_of_ble_eq_true rfl) (z_Pk ?_)
      refine aw_zreturn (pc := 41) dX9_accepts_41 rfl (z_bl_01 _) ⟨Nat.zero_le _, Nat.zero_le _⟩ ?_
      refine ⟨?_, rfl, rfl, rfl, rfl⟩
      unfold z_acM
      first | rw [if_pos (by omega)] | rw [if_neg (by omega), if_pos (by omega)] | rw [if_neg (by omega), if_neg (by omega)]
    · refine aw_aload_n (pc := 28) dX9_accepts_28 rfl ?_
      refine aw_iload_n (pc := 29) dX9_accepts_29 rfl ?_
      refine aw_qV (pc := 30) (d := m_X9_acceptsCover) (c_X9_acceptsCover hI hcL (by omega)) k_X9_acceptsCover dX9_accepts_30 k_ml_X9_185 rfl ⟨rfl, rfl⟩ (by omega) (by first | rfl | exact z_shr _ (by omega) | exact z_shc0 (by omega) | exact z_shc1 (by omega) | exact z_shc2 (by omega) | exact z_shc3 (by omega) | exact z_shc4 (by omega)) rfl ⟨Nat.le_of_ble_eq_true rfl, Nat.le_of_ble_eq_true rfl⟩ ⟨Nat.zero_le _, Nat.zero_le _⟩ rfl (Nat.le_of_ble_eq_true rfl) (z_Pk ?_)
      refine aw_goto (pc := 33) (tgt := 41) dX9_accepts_33 rfl ?_
      refine aw_zreturn (pc := 41) dX9_accepts_41 rfl (z_bl_01 _) ⟨Nat.zero_le _, Nat.zero_le _⟩ ?_
      refine ⟨?_, rfl, rfl, rfl, rfl⟩
      unfold z_acM
      first | rw [if_pos (by omega)] | rw [if_neg (by omega), if_pos (by omega)] | rw [if_neg (by omega), if_neg (by omega)]
  · refine aw_aload_n (pc := 10) dX9_accepts_10 rfl ?_
    refine aw_iload_n (pc := 11) dX9_accepts_11 rfl ?_
    refine aw_qV (pc := 12) (d := m_X9_acceptsSum) (c_X9_acceptsSum hI hcL (by omega)) k_X9_acceptsSum dX9_accepts_12 k_ml_X9_182 rfl ⟨rfl, rfl⟩ (by omega) (by first | rfl | exact z_shr _ (by omega) | exact z_shc0 (by omega) | exact z_shc1 (by omega) | exact z_shc2 (by omega) | exact z_shc3 (by omega) | exact z_shc4 (by omega)) rfl ⟨Nat.le_of_ble_eq_true rfl, Nat.le_of_ble_eq_true rfl⟩ ⟨Nat.zero_le _, Nat.zero_le _⟩ rfl (Nat.le_of_ble_eq_true rfl) (z_Pk ?_)
    refine aw_goto (pc := 15) (tgt := 41) dX9_accepts_15 rfl ?_
    refine aw_zreturn (pc := 41) dX9_accepts_41 rfl (z_bl_01 _) ⟨Nat.zero_le _, Nat.zero_le _⟩ ?_
    refine ⟨?_, rfl, rfl, rfl, rfl⟩
    unfold z_acM
    first | rw [if_pos (by omega)] | rw [if_neg (by omega), if_pos (by omega)] | rw [if_neg (by omega), if_neg (by omega)]
set_option maxHeartbeats 4000000 in
theorem c_X9_check {π : Nat → Nat} {I J : AwI} {m : z_MM} {L : List z_CC} {t : Int} {k : Int} (hI : z_RI I J m L t) (hk : -2147483648 ≤ k ∧ k ≤ 2147483647) : CT m_X9_check [zr 237, zi k] 255 I J (z_R π) (z_PR π (z_rCk m L t k) I J) := by
  refine CT.of (by decide) (Nat.le_of_ble_eq_true rfl) ?_
  show AW _ 0 0 _ 0 [some (zr 237), some (zi k)] [] _ _ _
  refine aw_aload_n (pc := 0) dX9_check_0 rfl ?_
  refine aw_iconst (pc := 1) dX9_check_1 ?_
  refine aw_putI (pc := 2) dX9_check_2 k_fl_X9_63 rfl (by omega) (by first | rfl | exact z_shr _ (by omega) | exact z_shc0 (by omega) | exact z_shc1 (by omega) | exact z_shc2 (by omega) | exact z_shc3 (by omega) | exact z_shc4 (by omega)) ?_
  have hIc := hI.code (v := 0)
  have hfc : z_FQ I J (z_up I 237 15 0) J := z_FQ.code
  have c15 : z_up I 237 15 0 237 15 = 0 := z_up_s _ _ _ _
  generalize z_up I 237 15 0 = Ic at hIc hfc c15 ⊢
  obtain ⟨hM1, hm1, e0, e4, elo, ehi, ept, eF, ert, hmb, hptb, hF0⟩ := hIc.rds
  have hN8 := hmb.1
  have hR10 := hmb.2.1
  have hC := hIc.2.2.2.1
  have hct := hC.n
  have eL := hIc.2.2.2.2.1.1
  refine aw_aload_n (pc := 5) dX9_check_5 rfl ?_
  refine aw_iload_n (pc := 6) dX9_check_6 rfl ?_
  refine aw_qV (pc := 7) (d := m_X9_isCut) (c_X9_isCut hct hk) k_X9_isCut dX9_check_7 k_ml_X9_175 rfl ⟨rfl, rfl⟩ (by omega) (by first | rfl | exact z_shr _ (by omega) | exact z_shc0 (by omega) | exact z_shc1 (by omega) | exact z_shc2 (by omega) | exact z_shc3 (by omega) | exact z_shc4 (by omega)) rfl ⟨Nat.le_of_ble_eq_true rfl, Nat.le_of_ble_eq_true rfl⟩ ⟨Nat.zero_le _, Nat.zero_le _⟩ rfl (Nat.le_of_ble_eq_true rfl) (z_Pk ?_)
  refine aw_if_ne (pc := 10) (tgt := 17) dX9_check_10 rfl (by first | omega | exact z_bl_r _) (fun h10 => ?_) (fun h10 => ?_)
  · first | rw [z_bl_n] at h10 | rw [z_bl_0] at h10 | skip
    have K2 := c_X9_accepts (π := π) hIc (c := k.toNat) (by omega)
    rw [show ((k.toNat : Nat) : Int) = k by omega] at K2
    refine aw_aload_n (pc := 17) dX9_check_17 rfl ?_
    refine aw_iload_n (pc := 18) dX9_check_18 rfl ?_
    refine aw_qV (pc := 19) (d := m_X9_accepts) (K2) k_X9_accepts dX9_check_19 k_ml_X9_191 rfl ⟨rfl, rfl⟩ (by omega) (by first | rfl | exact z_shr _ (by omega) | exact z_shc0 (by omega) | exact z_shc1 (by omega) | exact z_shc2 (by omega) | exact z_shc3 (by omega) | exact z_shc4 (by omega)) rfl ⟨Nat.le_of_ble_eq_true rfl, Nat.le_of_ble_eq_true rfl⟩ ⟨Nat.zero_le _, Nat.zero_le _⟩ rfl (Nat.le_of_ble_eq_true rfl) (z_Pk ?_)
    refine aw_if_eq (pc := 22) (tgt := 29) dX9_check_22 rfl (z_bl_r _) (fun h22 => ?_) (fun h22 => ?_)
    · refine aw_iconst (pc := 29) dX9_check_29 ?_
      refine aw_ireturn (pc := 30) dX9_check_30 rfl ⟨Nat.zero_le _, Nat.zero_le _⟩ ?_
      first | rw [z_bl_n] at h10 | rw [z_bl_0] at h10 | skip
      first | exact z_PRr (if_pos (by omega)) hIc hfc | exact z_PRr ((if_neg (by omega)).trans (by rw [z_bl_t (z_bl_n.mp h22)])) hIc hfc | exact z_PRr ((if_neg (by omega)).trans (by rw [z_bl_f (z_bl_0.mp h22)])) hIc hfc
    · refine aw_iconst (pc := 25) dX9_check_25 ?_
      refine aw_goto (pc := 26) (tgt := 30) dX9_check_26 rfl ?_
      refine aw_ireturn (pc := 30) dX9_check_30 rfl ⟨Nat.zero_le _, Nat.zero_le _⟩ ?_
      first | rw [z_bl_n] at h10 | rw [z_bl_0] at h10 | skip
      first | exact z_PRr (if_pos (by omega)) hIc hfc | exact z_PRr ((if_neg (by omega)).trans (by rw [z_bl_t (z_bl_n.mp h22)])) hIc hfc | exact z_PRr ((if_neg (by omega)).trans (by rw [z_bl_f (z_bl_0.mp h22)])) hIc hfc
  · refine aw_iconst (pc := 13) dX9_check_13 ?_
    refine aw_goto (pc := 14) (tgt := 30) dX9_check_14 rfl ?_
    refine aw_ireturn (pc := 30) dX9_check_30 rfl ⟨Nat.zero_le _, Nat.zero_le _⟩ ?_
    first | rw [z_bl_n] at h10 | rw [z_bl_0] at h10 | skip
    first | exact z_PRr (if_pos (by omega)) hIc hfc | exact z_PRr ((if_neg (by omega)).trans (by rw [z_bl_t (z_bl_n.mp h22)])) hIc hfc | exact z_PRr ((if_neg (by omega)).trans (by rw [z_bl_f (z_bl_0.mp h22)])) hIc hfc
set_option maxHeartbeats 4000000 in
theorem c_X9_told {π : Nat → Nat} {I J : AwI} {m : z_MM} {L : List z_CC} {t : Int} {w : Int} (hI : z_RI I J m L t) (hw : -2147483648 ≤ w ∧ w ≤ 2147483647) : CT m_X9_told [zr 237, zi w] 255 I J (z_R π) (z_PR π (z_rT m L t w) I J) := by
  refine CT.of (by decide) (Nat.le_of_ble_eq_true rfl) ?_
  show AW _ 0 0 _ 0 [some (zr 237), some (zi w), none, none] [] _ _ _
  refine aw_aload_n (pc := 0) dX9_told_0 rfl ?_
  refine aw_iconst (pc := 1) dX9_told_1 ?_
  refine aw_putI (pc := 2) dX9_told_2 k_fl_X9_63 rfl (by omega) (by first | rfl | exact z_shr _ (by omega) | exact z_shc0 (by omega) | exact z_shc1 (by omega) | exact z_shc2 (by omega) | exact z_shc3 (by omega) | exact z_shc4 (by omega)) ?_
  have hIc := hI.code (v := 0)
  have hfc : z_FQ I J (z_up I 237 15 0) J := z_FQ.code
  have c15 : z_up I 237 15 0 237 15 = 0 := z_up_s _ _ _ _
  generalize z_up I 237 15 0 = Ic at hIc hfc c15 ⊢
  obtain ⟨hM1, hm1, e0, e4, elo, ehi, ept, eF, ert, hmb, hptb, hF0⟩ := hIc.rds
  have hN8 := hmb.1
  have hR10 := hmb.2.1
  have hC := hIc.2.2.2.1
  have hct := hC.n
  have eL := hIc.2.2.2.2.1.1
  refine aw_iload_n (pc := 5) dX9_told_5 rfl ?_
  refine aw_if_lt (pc := 6) (tgt := 14) dX9_told_6 rfl (by first | omega | exact z_bl_r _) (fun h6 => ?_) (fun h6 => ?_)
  · refine aw_bipush (pc := 14) dX9_told_14 rfl ?_
    refine aw_ireturn (pc := 16) dX9_told_16 rfl ⟨Nat.zero_le _, Nat.zero_le _⟩ ?_
    refine z_PRr ?_ hIc hfc
    unfold z_rT
    rw [if_pos (by omega)]
  · refine aw_iload_n (pc := 9) dX9_told_9 rfl ?_
    refine aw_iconst (pc := 10) dX9_told_10 ?_
    refine aw_icmp_le (pc := 11) (tgt := 17) dX9_told_11 rfl (by first | omega | exact z_bl_r _) (by first | omega | exact z_bl_r _) (fun h11 => ?_) (fun h11 => ?_)
    · refine aw_iload_n (pc := 17) dX9_told_17 rfl ?_
      refine aw_iconst (pc := 18) dX9_told_18 ?_
      refine aw_icmp_ge (pc := 19) (tgt := 50) dX9_told_19 rfl (by first | omega | exact z_bl_r _) (by first | omega | exact z_bl_r _) (fun h19 => ?_) (fun h19 => ?_)
      · by_cases w3 : w = 3
        · have loop3 : ∀ (n : Nat) (x : Nat), x + n = L.length → AW (FM m_X9_told (z_PR π (z_rT m L t w) I J)) 0 0 255 54 [some (zr 237), some (zi w), some (zi (z_cB m L x)), some (zi (x : Int))] [] Ic J (z_R π) := by
            intro n
            induction n with
            | zero =>
              intro x he
              refine aw_iload_n (pc := 54) dX9_told_54 rfl ?_
              refine aw_aload_n (pc := 55) dX9_told_55 rfl ?_
              refine aw_getV (pc := 56) (v := (L.length : Int)) dX9_told_56 k_fl_X9_69 rfl (by omega) (by first | rfl | exact z_shr _ (by omega) | exact z_shc0 (by omega) | exact z_shc1 (by omega) | exact z_shc2 (by omega) | exact z_shc3 (by omega) | exact z_shc4 (by omega)) (eL) ?_
              refine aw_icmp_ge (pc := 59) (tgt := 102) dX9_told_59 rfl (by first | omega | exact z_bl_r _) (by first | omega | exact z_bl_r _) (fun h59 => ?_) (fun h59 => absurd h59 (by omega))
              refine aw_iload_n (pc := 102) dX9_told_102 rfl ?_
              refine aw_ireturn (pc := 103) dX9_told_103 rfl ⟨Nat.zero_le _, Nat.zero_le _⟩ ?_
              refine z_PRr ?_ hIc hfc
              unfold z_rT
              rw [if_neg (by omega), if_neg (by omega), if_neg (by omega), if_neg (by omega), if_pos (by omega), show L.length = x by omega]
            | succ n ih =>
              intro x he
              refine aw_iload_n (pc := 54) dX9_told_54 rfl ?_
              refine aw_aload_n (pc := 55) dX9_told_55 rfl ?_
              refine aw_getV (pc := 56) (v := (L.length : Int)) dX9_told_56 k_fl_X9_69 rfl (by omega) (by first | rfl | exact z_shr _ (by omega) | exact z_shc0 (by omega) | exact z_shc1 (by omega) | exact z_shc2 (by omega) | exact z_shc3 (by omega) | exact z_shc4 (by omega)) (eL) ?_
              refine aw_icmp_ge (pc := 59) (tgt := 102) dX9_told_59 rfl (by first | omega | exact z_bl_r _) (by first | omega | exact z_bl_r _) (fun h59 => absurd h59 (by omega)) (fun h59 => ?_)
              refine aw_iload_n (pc := 62) dX9_told_62 rfl ?_
              refine aw_iload_n (pc := 63) dX9_told_63 rfl ?_
              refine aw_iconst (pc := 64) dX9_told_64 ?_
              refine aw_icmp_ne (pc := 65) (tgt := 81) dX9_told_65 rfl (by omega) (by omega) (fun h65 => absurd h65 (by omega)) (fun h65 => ?_)
              refine aw_aload_n (pc := 68) dX9_told_68 rfl ?_
              refine aw_iload_n (pc := 69) dX9_told_69 rfl ?_
              refine aw_qV (pc := 70) (d := m_X9_over) (c_X9_over hIc (by omega)) k_X9_over dX9_told_70 k_ml_X9_194 rfl ⟨rfl, rfl⟩ (by omega) (by first | rfl | exact z_shr _ (by omega) | exact z_shc0 (by omega) | exact z_shc1 (by omega) | exact z_shc2 (by omega) | exact z_shc3 (by omega) | exact z_shc4 (by omega)) rfl ⟨Nat.le_of_ble_eq_true rfl, Nat.le_of_ble_eq_true rfl⟩ ⟨Nat.zero_le _, Nat.zero_le _⟩ rfl (Nat.le_of_ble_eq_true rfl) (z_Pk ?_)
              refine aw_lconst (pc := 73) (v := 0) dX9_told_73 rfl ?_
              refine aw_lcmp_le (pc := 74) (tgt := 93) dX9_told_74 dX9_told_75 rfl (by have := hIc.strb (k := x) (by omega); omega) (by omega) (fun h74 => ?_) (fun h74 => ?_)
              · refine aw_iconst (pc := 93) dX9_told_93 ?_
                refine aw_iadd (pc := 94) dX9_told_94 ?_
                refine aw_istore_n (pc := 95) (lv' := [_, _, _, _]) dX9_told_95 (Nat.le_of_ble_eq_true rfl) rfl ?_
                refine aw_iinc (pc := 96) (lv' := [_, _, _, _]) dX9_told_96 (Nat.le_of_ble_eq_true rfl) rfl rfl ?_
                refine aw_goto (pc := 99) (tgt := 54) dX9_told_99 rfl ?_
                have ex : z_cB m L (x + 1) = z_cB m L x + 0 := by show z_cB m L x + z_bl _ = _; rw [z_bl_f (by omega)]
                have K := ih (x + 1) (by omega)
                rw [ex] at K
                exact K
              · refine aw_goto (pc := 78) (tgt := 89) dX9_told_78 rfl ?_
                refine aw_iconst (pc := 89) dX9_told_89 ?_
                refine aw_goto (pc := 90) (tgt := 94) dX9_told_90 rfl ?_
                refine aw_iadd (pc := 94) dX9_told_94 ?_
                refine aw_istore_n (pc := 95) (lv' := [_, _, _, _]) dX9_told_95 (Nat.le_of_ble_eq_true rfl) rfl ?_
                refine aw_iinc (pc := 96) (lv' := [_, _, _, _]) dX9_told_96 (Nat.le_of_ble_eq_true rfl) rfl rfl ?_
                refine aw_goto (pc := 99) (tgt := 54) dX9_told_99 rfl ?_
                have ex : z_cB m L (x + 1) = z_cB m L x + 1 := by show z_cB m L x + z_bl _ = _; rw [z_bl_t (by omega)]
                have K := ih (x + 1) (by omega)
                rw [ex] at K
                exact K
          refine aw_iconst (pc := 50) dX9_told_50 ?_
          refine aw_istore_n (pc := 51) (lv' := [_, _, _, _]) dX9_told_51 (Nat.le_of_ble_eq_true rfl) rfl ?_
          refine aw_iconst (pc := 52) dX9_told_52 ?_
          refine aw_istore_n (pc := 53) (lv' := [_, _, _, _]) dX9_told_53 (Nat.le_of_ble_eq_true rfl) rfl ?_
          exact loop3 L.length 0 (by omega)
        · have loop4 : ∀ (n : Nat) (x : Nat), x + n = L.length → AW (FM m_X9_told (z_PR π (z_rT m L t w) I J)) 0 0 255 54 [some (zr 237), some (zi w), some (zi (z_cA m L x)), some (zi (x : Int))] [] Ic J (z_R π) := by
            intro n
            induction n with
            | zero =>
              intro x he
              refine aw_iload_n (pc := 54) dX9_told_54 rfl ?_
              refine aw_aload_n (pc := 55) dX9_told_55 rfl ?_
              refine aw_getV (pc := 56) (v := (L.length : Int)) dX9_told_56 k_fl_X9_69 rfl (by omega) (by first | rfl | exact z_shr _ (by omega) | exact z_shc0 (by omega) | exact z_shc1 (by omega) | exact z_shc2 (by omega) | exact z_shc3 (by omega) | exact z_shc4 (by omega)) (eL) ?_
              refine aw_icmp_ge (pc := 59) (tgt := 102) dX9_told_59 rfl (by first | omega | exact z_bl_r _) (by first | omega | exact z_bl_r _) (fun h59 => ?_) (fun h59 => absurd h59 (by omega))
              refine aw_iload_n (pc := 102) dX9_told_102 rfl ?_
              refine aw_ireturn (pc := 103) dX9_told_103 rfl ⟨Nat.zero_le _, Nat.zero_le _⟩ ?_
              refine z_PRr ?_ hIc hfc
              unfold z_rT
              rw [if_neg (by omega), if_neg (by omega), if_neg (by omega), if_neg (by omega), if_neg (by omega), show L.length = x by omega]
            | succ n ih =>
              intro x he
              refine aw_iload_n (pc := 54) dX9_told_54 rfl ?_
              refine aw_aload_n (pc := 55) dX9_told_55 rfl ?_
              refine aw_getV (pc := 56) (v := (L.length : Int)) dX9_told_56 k_fl_X9_69 rfl (by omega) (by first | rfl | exact z_shr _ (by omega) | exact z_shc0 (by omega) | exact z_shc1 (by omega) | exact z_shc2 (by omega) | exact z_shc3 (by omega) | exact z_shc4 (by omega)) (eL) ?_
              refine aw_icmp_ge (pc := 59) (tgt := 102) dX9_told_59 rfl (by first | omega | exact z_bl_r _) (by first | omega | exact z_bl_r _) (fun h59 => absurd h59 (by omega)) (fun h59 => ?_)
              refine aw_iload_n (pc := 62) dX9_told_62 rfl ?_
              refine aw_iload_n (pc := 63) dX9_told_63 rfl ?_
              refine aw_iconst (pc := 64) dX9_told_64 ?_
              refine aw_icmp_ne (pc := 65) (tgt := 81) dX9_told_65 rfl (by omega) (by omega) (fun h65 => ?_) (fun h65 => absurd h65 (by omega))
              refine aw_aload_n (pc := 81) dX9_told_81 rfl ?_
              refine aw_iload_n (pc := 82) dX9_told_82 rfl ?_
              refine aw_qV (pc := 83) (d := m_X9_accepts) (c_X9_accepts hIc (by omega)) k_X9_accepts dX9_told_83 k_ml_X9_191 rfl ⟨rfl, rfl⟩ (by omega) (by first | rfl | exact z_shr _ (by omega) | exact z_shc0 (by omega) | exact z_shc1 (by omega) | exact z_shc2 (by omega) | exact z_shc3 (by omega) | exact z_shc4 (by omega)) rfl ⟨Nat.le_of_ble_eq_true rfl, Nat.le_of_ble_eq_true rfl⟩ ⟨Nat.zero_le _, Nat.zero_le _⟩ rfl (Nat.le_of_ble_eq_true rfl) (z_Pk ?_)
              refine aw_if_eq (pc := 86) (tgt := 93) dX9_told_86 rfl (z_bl_r _) (fun h86 => ?_) (fun h86 => ?_)
              · refine aw_iconst (pc := 93) dX9_told_93 ?_
                refine aw_iadd (pc := 94) dX9_told_94 ?_
                refine aw_istore_n (pc := 95) (lv' := [_, _, _, _]) dX9_told_95 (Nat.le_of_ble_eq_true rfl) rfl ?_
                refine aw_iinc (pc := 96) (lv' := [_, _, _, _]) dX9_told_96 (Nat.le_of_ble_eq_true rfl) rfl rfl ?_
                refine aw_goto (pc := 99) (tgt := 54) dX9_told_99 rfl ?_
                have ex : z_cA m L (x + 1) = z_cA m L x + 0 := by show z_cA m L x + z_bl _ = _; rw [z_bl_f (z_bl_0.mp h86)]
                have K := ih (x + 1) (by omega)
                rw [ex] at K
                exact K
              · refine aw_iconst (pc := 89) dX9_told_89 ?_
                refine aw_goto (pc := 90) (tgt := 94) dX9_told_90 rfl ?_
                refine aw_iadd (pc := 94) dX9_told_94 ?_
                refine aw_istore_n (pc := 95) (lv' := [_, _, _, _]) dX9_told_95 (Nat.le_of_ble_eq_true rfl) rfl ?_
                refine aw_iinc (pc := 96) (lv' := [_, _, _, _]) dX9_told_96 (Nat.le_of_ble_eq_true rfl) rfl rfl ?_
                refine aw_goto (pc := 99) (tgt := 54) dX9_told_99 rfl ?_
                have ex : z_cA m L (x + 1) = z_cA m L x + 1 := by show z_cA m L x + z_bl _ = _; rw [z_bl_t (z_bl_n.mp h86)]
                have K := ih (x + 1) (by omega)
                rw [ex] at K
                exact K
          refine aw_iconst (pc := 50) dX9_told_50 ?_
          refine aw_istore_n (pc := 51) (lv' := [_, _, _, _]) dX9_told_51 (Nat.le_of_ble_eq_true rfl) rfl ?_
          refine aw_iconst (pc := 52) dX9_told_52 ?_
          refine aw_istore_n (pc := 53) (lv' := [_, _, _, _]) dX9_told_53 (Nat.le_of_ble_eq_true rfl) rfl ?_
          exact loop4 L.length 0 (by omega)
      · refine aw_iload_n (pc := 22) dX9_told_22 rfl ?_
        refine aw_if_ne (pc := 23) (tgt := 33) dX9_told_23 rfl (by first | omega | exact z_bl_r _) (fun h23 => ?_) (fun h23 => ?_)
        · refine aw_iload_n (pc := 33) dX9_told_33 rfl ?_
          refine aw_iconst (pc := 34) dX9_told_34 ?_
          refine aw_icmp_ne (pc := 35) (tgt := 45) dX9_told_35 rfl (by first | omega | exact z_bl_r _) (by first | omega | exact z_bl_r _) (fun h35 => ?_) (fun h35 => ?_)
          · refine aw_aload_n (pc := 45) dX9_told_45 rfl ?_
            refine aw_getV (pc := 46) (v := (L.length : Int)) dX9_told_46 k_fl_X9_69 rfl (by omega) (by first | rfl | exact z_shr _ (by omega) | exact z_shc0 (by omega) | exact z_shc1 (by omega) | exact z_shc2 (by omega) | exact z_shc3 (by omega) | exact z_shc4 (by omega)) (eL) ?_
            refine aw_ireturn (pc := 49) dX9_told_49 rfl ⟨Nat.zero_le _, Nat.zero_le _⟩ ?_
            refine z_PRr ?_ hIc hfc
            unfold z_rT
            rw [if_neg (by omega)]
            first | rw [if_pos (by omega)] | rw [if_neg (by omega), if_pos (by omega)] | rw [if_neg (by omega), if_neg (by omega), if_pos (by omega)]
          · refine aw_aload_n (pc := 38) dX9_told_38 rfl ?_
            refine aw_getV (pc := 39) (v := (mR m : Int)) dX9_told_39 k_fl_X9_72 rfl (by omega) (by first | rfl | exact z_shr _ (by omega) | exact z_shc0 (by omega) | exact z_shc1 (by omega) | exact z_shc2 (by omega) | exact z_shc3 (by omega) | exact z_shc4 (by omega)) (e4) ?_
            refine aw_goto (pc := 42) (tgt := 49) dX9_told_42 rfl ?_
            refine aw_ireturn (pc := 49) dX9_told_49 rfl ⟨Nat.zero_le _, Nat.zero_le _⟩ ?_
            refine z_PRr ?_ hIc hfc
            unfold z_rT
            rw [if_neg (by omega)]
            first | rw [if_pos (by omega)] | rw [if_neg (by omega), if_pos (by omega)] | rw [if_neg (by omega), if_neg (by omega), if_pos (by omega)]
        · refine aw_aload_n (pc := 26) dX9_told_26 rfl ?_
          refine aw_getV (pc := 27) (v := (mN m : Int)) dX9_told_27 k_fl_X9_66 rfl (by omega) (by first | rfl | exact z_shr _ (by omega) | exact z_shc0 (by omega) | exact z_shc1 (by omega) | exact z_shc2 (by omega) | exact z_shc3 (by omega) | exact z_shc4 (by omega)) (e0) ?_
          refine aw_goto (pc := 30) (tgt := 49) dX9_told_30 rfl ?_
          refine aw_ireturn (pc := 49) dX9_told_49 rfl ⟨Nat.zero_le _, Nat.zero_le _⟩ ?_
          refine z_PRr ?_ hIc hfc
          unfold z_rT
          rw [if_neg (by omega)]
          first | rw [if_pos (by omega)] | rw [if_neg (by omega), if_pos (by omega)] | rw [if_neg (by omega), if_neg (by omega), if_pos (by omega)]
    · refine aw_bipush (pc := 14) dX9_told_14 rfl ?_
      refine aw_ireturn (pc := 16) dX9_told_16 rfl ⟨Nat.zero_le _, Nat.zero_le _⟩ ?_
      refine z_PRr ?_ hIc hfc
      unfold z_rT
      rw [if_pos (by omega)]
