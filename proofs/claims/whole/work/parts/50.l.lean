def z_a1 (C : z_CC) (x : Nat) : Prop := 1 ≤ cS C 26 ∧ ∀ r, r < x → 0 ≤ cS C r
def z_af (m : z_MM) (C : z_CC) (n x : Nat) : Int := cS C (18 + n) - cS C (10 + n) + z_sum (fun r => cS C r * mF m r n) x
def z_a2 (m : z_MM) (C : z_CC) (x : Nat) : Prop := z_a1 C (mR m) ∧ ∀ n, n < x → (0 ≤ cS C (10 + n) ∧ 0 ≤ cS C (18 + n)) ∧ z_af m C n (mR m) = cS C 26 * cF C n
def z_s1r (m : z_MM) (C : z_CC) (x : Nat) : Int := z_sum (fun r => cS C r * mrt m r) x
def z_s2r (m : z_MM) (C : z_CC) (x : Nat) : Int := z_sum (fun n => cS C (18 + n) * mhi m n - cS C (10 + n) * mlo m n) x
theorem z_a2_M {m : z_MM} {C : z_CC} : z_aRM m C ↔ z_a2 m C (mN m) ∧ (z_s1r m C (mR m) + z_s2r m C (mN m)) / cS C 26 ≤ cR C := by
  unfold z_aRM z_a2 z_a1
  constructor
  · rintro ⟨h1, h2, h3, h4⟩
    refine ⟨⟨⟨h1, fun r hr => ?_⟩, fun n hn => ⟨⟨?_, ?_⟩, ?_⟩⟩, h4⟩
    · exact Int.not_lt.mp (fun q => h2 (Or.inl ⟨r, hr, q⟩))
    · exact Int.not_lt.mp (fun q => h2 (Or.inr ⟨n, hn, Or.inl q⟩))
    · exact Int.not_lt.mp (fun q => h2 (Or.inr ⟨n, hn, Or.inr q⟩))
    · rw [Int.mul_comm, h3 n hn]; rfl
  · rintro ⟨⟨⟨h1, h2⟩, h3⟩, h4⟩
    refine ⟨h1, ?_, fun n hn => ?_, h4⟩
    · rintro (⟨r, hr, q⟩ | ⟨n, hn, q⟩)
      · have := h2 r hr; omega
      · have := (h3 n hn).1; omega
    · rw [Int.mul_comm, ← (h3 n hn).2]; rfl
set_option maxHeartbeats 4000000 in
theorem c_X9_acceptsSum {π : Nat → Nat} {I J : AwI} {m : z_MM} {L : List z_CC} {t : Int} {c : Nat} (hI : z_RI I J m L t) (hcL : c < L.length) (hk01 : cK (z_g L c) = 0 ∨ cK (z_g L c) = 1) : CT m_X9_acceptsSum [zr 237, zi (c : Int)] 255 I J (z_R π) (z_P (some (zi (z_bl (z_aRM m (z_g L c))))) 255 I J (z_R π)) := by
  obtain ⟨hM1, hm1, e0, e4, elo, ehi, ept, eF, ert, hmb, hptb, hF0⟩ := hI.rds
  have hN8 := hmb.1
  have hR10 := hmb.2.1
  have hC := hI.2.2.2.1
  have hct := hC.n
  have eL := hI.2.2.2.2.1.1
  obtain ⟨d1, d2, d3, d4, d5, d6⟩ := hI.at hcL
  obtain ⟨a1, a2, a3, a4⟩ := d5 hk01
  have hcl : c < 40 := by omega
  have hD26 := hC.s (27 * c + 26)
  rw [a4] at hD26
  have hsb : ∀ r, r < mR m → -1000 ≤ cS (z_g L c) r ∧ cS (z_g L c) r ≤ 1000 := fun r hr => by have := hC.s (27 * c + r); rw [a1 r hr] at this; exact this
  have hsb2 : ∀ j, I 247 (27 * c + j) = cS (z_g L c) j → -1000 ≤ cS (z_g L c) j ∧ cS (z_g L c) j ≤ 1000 := fun j hj => by have := hC.s (27 * c + j); rw [hj] at this; exact this
  have hcf : ∀ n, n < mN m → -1000 ≤ cF (z_g L c) n ∧ cF (z_g L c) n ≤ 1000 := fun n hn => by have := hC.f (8 * c + n); rw [d1 n hn] at this; exact this
  have hcr := hC.r c
  rw [d2] at hcr
  have haf : ∀ n, n < mN m → -1000000 ≤ z_af m (z_g L c) n (mR m) ∧ z_af m (z_g L c) n (mR m) ≤ 1000000 := fun n hn => by
    have p1 := hsb2 (10 + n) (a2 n hn)
    have p2 := hsb2 (18 + n) (a3 n hn)
    have p3 := z_sum_b (f := fun r => cS (z_g L c) r * mF m r n) 50000 (mR m) (fun r hr => by have := z_mulb (hsb r hr) (hmb.2.2.2.2.1 r n); omega)
    unfold z_af
    omega
  have hs1 : -200000000 ≤ (z_s1r m (z_g L c) (mR m)) ∧ (z_s1r m (z_g L c) (mR m)) ≤ 200000000 := by
    have p3 := z_sum_b (f := fun r => cS (z_g L c) r * mrt m r) 9999000 (mR m) (fun r hr => by have := z_mulb (hsb r hr) (hmb.2.2.2.2.2 r); omega)
    unfold z_s1r
    omega
  have hs2 : -2000000 ≤ (z_s2r m (z_g L c) (mN m)) ∧ (z_s2r m (z_g L c) (mN m)) ≤ 2000000 := by
    have p3 := z_sum_b (f := fun n => cS (z_g L c) (18 + n) * mhi m n - cS (z_g L c) (10 + n) * mlo m n) 60000 (mN m) (fun n hn => by
      have p1 := z_mulb (hsb2 (18 + n) (a3 n hn)) (hmb.2.2.2.1 n)
      have p2 := z_mulb (hsb2 (10 + n) (a2 n hn)) (hmb.2.2.1 n)
      omega)
    unfold z_s2r
    omega
  refine CT.of (by decide) (Nat.le_of_ble_eq_true rfl) ?_
  show AW _ 0 0 _ 0 [some (zr 237), some (zi (c : Int)), none, none, none, none, none, none, none, none, none, none, none, none] [] _ _ _
  have l2 : ∀ (n2 : Nat) (x : Nat) (v9 v10 v11 v13 : Option AwV), x + n2 = mN m → AW (FM m_X9_acceptsSum (z_P (some (zi (z_bl (z_aRM m (z_g L c))))) 255 I J (z_R π))) 0 0 255 101 [some (zr 237), some (zi (c : Int)), some (zi (27 * (c : Int))), some (zl (cS (z_g L c) 26)), none, some (zi (z_bl (z_a2 m (z_g L c) x))), some (zl ((z_s1r m (z_g L c) (mR m)) + (z_s2r m (z_g L c) x))), none, some (zi (x : Int)), v9, v10, v11, none, v13] [] I J (z_R π) := by
    intro n2
    induction n2 with
    | zero =>
      intro x v9 v10 v11 v13 he2
      refine aw_iload (pc := 101) dX9_acceptsSum_101 rfl ?_
      refine aw_aload_n (pc := 103) dX9_acceptsSum_103 rfl ?_
      refine aw_getV (pc := 104) (v := (mN m : Int)) dX9_acceptsSum_104 k_fl_X9_66 rfl (by omega) (by first | rfl | exact z_shr _ (by omega) | exact z_shc0 (by omega) | exact z_shc1 (by omega) | exact z_shc2 (by omega) | exact z_shc3 (by omega) | exact z_shc4 (by omega)) (e0) ?_
      refine aw_icmp_ge (pc := 107) (tgt := 285) dX9_acceptsSum_107 rfl (by first | omega | exact z_bl_r _) (by first | omega | exact z_bl_r _) (fun h107 => ?_) (fun h107 => absurd h107 (by omega))
      rw [show x = mN m by omega]
      refine aw_iload (pc := 285) dX9_acceptsSum_285 rfl ?_
      refine aw_if_eq (pc := 287) (tgt := 320) dX9_acceptsSum_287 rfl (z_bl_r _) (fun h287 => ?_) (fun h287 => ?_)
      · refine aw_iconst (pc := 320) dX9_acceptsSum_320 ?_
        refine aw_zreturn (pc := 321) dX9_acceptsSum_321 rfl (by first | exact Or.inl rfl | exact Or.inr rfl | omega) ⟨Nat.zero_le _, Nat.zero_le _⟩ ?_
        refine ⟨?_, rfl, rfl, rfl, rfl⟩
        first | exact z_r0 (fun q => z_bl_0.mp h287 (z_a2_M.mp q).1) | exact z_r0 (fun q => by have := (z_a2_M.mp q).2; omega) | exact z_r1 (z_a2_M.mpr ⟨z_bl_n.mp h287, by omega⟩) | (exfalso; omega)
      · have hA2 := z_bl_n.mp h287
        have hD1 := hA2.1.1
        have hdv := z_edb2 ((z_s1r m (z_g L c) (mR m)) + (z_s2r m (z_g L c) (mN m))) (d := (cS (z_g L c) 26)) (by omega)
        refine aw_aload_n (pc := 290) dX9_acceptsSum_290 rfl ?_
        refine aw_getR (pc := 291) dX9_acceptsSum_291 k_fl_X9_29 rfl (by omega) (by first | rfl | exact z_shr _ (by omega) | exact z_shc0 (by omega) | exact z_shc1 (by omega) | exact z_shc2 (by omega) | exact z_shc3 (by omega) | exact z_shc4 (by omega)) (by first | rfl | exact z_Rc0 _ (by omega) | exact z_Rc1 _ (by omega) | exact z_Rc2 _ (by omega) | exact z_Rc3 _ (by omega)) ?_
        refine aw_iload_n (pc := 294) dX9_acceptsSum_294 rfl ?_
        refine aw_laloadV (pc := 295) (v := cR (z_g L c)) dX9_acceptsSum_295 (by omega) (Nat.le_refl _) (by first | rfl | exact z_shr _ (by omega) | exact z_shc0 (by omega) | exact z_shc1 (by omega) | exact z_shc2 (by omega) | exact z_shc3 (by omega) | exact z_shc4 (by omega)) (by first | omega | exact z_bl_r _) (d2) ?_
        refine aw_lload (pc := 296) dX9_acceptsSum_296 rfl ?_
        refine aw_lload_n (pc := 298) dX9_acceptsSum_298 rfl ?_
        refine aw_lconst (pc := 299) (v := 1) dX9_acceptsSum_299 rfl ?_
        refine aw_lcmp_ge (pc := 300) (tgt := 308) dX9_acceptsSum_300 dX9_acceptsSum_301 rfl (by omega) (by omega) (fun h300 => ?_) (fun h300 => ?_)
        · refine aw_lload_n (pc := 308) dX9_acceptsSum_308 rfl ?_
          refine aw_qS (pc := 309) (d := m_J9_floorDiv_f86c9) (c_floorDivL (by omega) (by omega)) k_J9_floorDiv_f86c9 dX9_acceptsSum_309 k_ml_X9_95 rfl ⟨rfl, rfl⟩ ⟨Nat.le_of_ble_eq_true rfl, Nat.le_of_ble_eq_true rfl⟩ ⟨Nat.zero_le _, Nat.zero_le _⟩ rfl (Nat.le_of_ble_eq_true rfl) (z_Pk ?_)
          refine aw_lcmp_lt (pc := 312) (tgt := 320) dX9_acceptsSum_312 dX9_acceptsSum_313 rfl (by omega) (by omega) (fun h312 => ?_) (fun h312 => ?_)
          · refine aw_iconst (pc := 320) dX9_acceptsSum_320 ?_
            refine aw_zreturn (pc := 321) dX9_acceptsSum_321 rfl (by first | exact Or.inl rfl | exact Or.inr rfl | omega) ⟨Nat.zero_le _, Nat.zero_le _⟩ ?_
            refine ⟨?_, rfl, rfl, rfl, rfl⟩
            first | exact z_r0 (fun q => z_bl_0.mp h287 (z_a2_M.mp q).1) | exact z_r0 (fun q => by have := (z_a2_M.mp q).2; omega) | exact z_r1 (z_a2_M.mpr ⟨z_bl_n.mp h287, by omega⟩) | (exfalso; omega)
          · refine aw_iconst (pc := 316) dX9_acceptsSum_316 ?_
            refine aw_goto (pc := 317) (tgt := 321) dX9_acceptsSum_317 rfl ?_
            refine aw_zreturn (pc := 321) dX9_acceptsSum_321 rfl (by first | exact Or.inl rfl | exact Or.inr rfl | omega) ⟨Nat.zero_le _, Nat.zero_le _⟩ ?_
            refine ⟨?_, rfl, rfl, rfl, rfl⟩
            first | exact z_r0 (fun q => z_bl_0.mp h287 (z_a2_M.mp q).1) | exact z_r0 (fun q => by have := (z_a2_M.mp q).2; omega) | exact z_r1 (z_a2_M.mpr ⟨z_bl_n.mp h287, by omega⟩) | (exfalso; omega)
        · refine aw_lconst (pc := 304) (v := 1) dX9_acceptsSum_304 rfl ?_
          refine aw_goto (pc := 305) (tgt := 309) dX9_acceptsSum_305 rfl ?_
          refine aw_qS (pc := 309) (d := m_J9_floorDiv_f86c9) (c_floorDivL (by omega) (by omega)) k_J9_floorDiv_f86c9 dX9_acceptsSum_309 k_ml_X9_95 rfl ⟨rfl, rfl⟩ ⟨Nat.le_of_ble_eq_true rfl, Nat.le_of_ble_eq_true rfl⟩ ⟨Nat.zero_le _, Nat.zero_le _⟩ rfl (Nat.le_of_ble_eq_true rfl) (z_Pk ?_)
          refine aw_lcmp_lt (pc := 312) (tgt := 320) dX9_acceptsSum_312 dX9_acceptsSum_313 rfl (by omega) (by omega) (fun h312 => ?_) (fun h312 => ?_)
          · refine aw_iconst (pc := 320) dX9_acceptsSum_320 ?_
            refine aw_zreturn (pc := 321) dX9_acceptsSum_321 rfl (by first | exact Or.inl rfl | exact Or.inr rfl | omega) ⟨Nat.zero_le _, Nat.zero_le _⟩ ?_
            refine ⟨?_, rfl, rfl, rfl, rfl⟩
            first | exact z_r0 (fun q => z_bl_0.mp h287 (z_a2_M.mp q).1) | exact z_r0 (fun q => by have := (z_a2_M.mp q).2; omega) | exact z_r1 (z_a2_M.mpr ⟨z_bl_n.mp h287, by omega⟩) | (exfalso; omega)
          · refine aw_iconst (pc := 316) dX9_acceptsSum_316 ?_
            refine aw_goto (pc := 317) (tgt := 321) dX9_acceptsSum_317 rfl ?_
            refine aw_zreturn (pc := 321) dX9_acceptsSum_321 rfl (by first | exact Or.inl rfl | exact Or.inr rfl | omega) ⟨Nat.zero_le _, Nat.zero_le _⟩ ?_
            refine ⟨?_, rfl, rfl, rfl, rfl⟩
            first | exact z_r0 (fun q => z_bl_0.mp h287 (z_a2_M.mp q).1) | exact z_r0 (fun q => by have := (z_a2_M.mp q).2; omega) | exact z_r1 (z_a2_M.mpr ⟨z_bl_n.mp h287, by omega⟩) | (exfalso; omega)
    | succ n2 ih2 =>
      intro x v9 v10 v11 v13 he2
      refine aw_iload (pc := 101) dX9_acceptsSum_101 rfl ?_
      refine aw_aload_n (pc := 103) dX9_acceptsSum_103 rfl ?_
      refine aw_getV (pc := 104) (v := (mN m : Int)) dX9_acceptsSum_104 k_fl_X9_66 rfl (by omega) (by first | rfl | exact z_shr _ (by omega) | exact z_shc0 (by omega) | exact z_shc1 (by omega) | exact z_shc2 (by omega) | exact z_shc3 (by omega) | exact z_shc4 (by omega)) (e0) ?_
      refine aw_icmp_ge (pc := 107) (tgt := 285) dX9_acceptsSum_107 rfl (by first | omega | exact z_bl_r _) (by first | omega | exact z_bl_r _) (fun h107 => absurd h107 (by omega)) (fun h107 => ?_)
      have l1 := hsb2 (10 + x) (a2 x (by omega))
      have l2 := hsb2 (18 + x) (a3 x (by omega))
      refine aw_aload_n (pc := 110) dX9_acceptsSum_110 rfl ?_
      refine aw_getR (pc := 111) dX9_acceptsSum_111 k_fl_X9_38 rfl (by omega) (by first | rfl | exact z_shr _ (by omega) | exact z_shc0 (by omega) | exact z_shc1 (by omega) | exact z_shc2 (by omega) | exact z_shc3 (by omega) | exact z_shc4 (by omega)) (by first | rfl | exact z_Rc0 _ (by omega) | exact z_Rc1 _ (by omega) | exact z_Rc2 _ (by omega) | exact z_Rc3 _ (by omega)) ?_
      refine aw_iload_n (pc := 114) dX9_acceptsSum_114 rfl ?_
      refine aw_bipush (pc := 115) dX9_acceptsSum_115 rfl ?_
      refine aw_iadd (pc := 117) dX9_acceptsSum_117 ?_
      refine aw_iload (pc := 118) dX9_acceptsSum_118 rfl ?_
      refine aw_iadd (pc := 120) dX9_acceptsSum_120 ?_
      refine aw_ialoadV (pc := 121) (v := cS (z_g L c) (10 + x)) dX9_acceptsSum_121 (by omega) (Nat.le_refl _) (by first | rfl | exact z_shr _ (by omega) | exact z_shc0 (by omega) | exact z_shc1 (by omega) | exact z_shc2 (by omega) | exact z_shc3 (by omega) | exact z_shc4 (by omega)) (by omega) (by rw [show ((27 : Int) * (c : Int) + 10 + (x : Int)).toNat = 27 * c + (10 + x) by omega]; exact a2 x (by omega)) ?_
      refine aw_istore (pc := 122) (lv' := [_, _, _, _, _, _, _, _, _, _, _, _, _, _]) dX9_acceptsSum_122 (Nat.le_of_ble_eq_true rfl) rfl ?_
      refine aw_aload_n (pc := 124) dX9_acceptsSum_124 rfl ?_
      refine aw_getR (pc := 125) dX9_acceptsSum_125 k_fl_X9_38 rfl (by omega) (by first | rfl | exact z_shr _ (by omega) | exact z_shc0 (by omega) | exact z_shc1 (by omega) | exact z_shc2 (by omega) | exact z_shc3 (by omega) | exact z_shc4 (by omega)) (by first | rfl | exact z_Rc0 _ (by omega) | exact z_Rc1 _ (by omega) | exact z_Rc2 _ (by omega) | exact z_Rc3 _ (by omega)) ?_
      refine aw_iload_n (pc := 128) dX9_acceptsSum_128 rfl ?_
      refine aw_bipush (pc := 129) dX9_acceptsSum_129 rfl ?_
      refine aw_iadd (pc := 131) dX9_acceptsSum_131 ?_
      refine aw_iload (pc := 132) dX9_acceptsSum_132 rfl ?_
      refine aw_iadd (pc := 134) dX9_acceptsSum_134 ?_
      refine aw_ialoadV (pc := 135) (v := cS (z_g L c) (18 + x)) dX9_acceptsSum_135 (by omega) (Nat.le_refl _) (by first | rfl | exact z_shr _ (by omega) | exact z_shc0 (by omega) | exact z_shc1 (by omega) | exact z_shc2 (by omega) | exact z_shc3 (by omega) | exact z_shc4 (by omega)) (by omega) (by rw [show ((27 : Int) * (c : Int) + 18 + (x : Int)).toNat = 27 * c + (18 + x) by omega]; exact a3 x (by omega)) ?_
      refine aw_istore (pc := 136) (lv' := [_, _, _, _, _, _, _, _, _, _, _, _, _, _]) dX9_acceptsSum_136 (Nat.le_of_ble_eq_true rfl) rfl ?_
      refine aw_iload (pc := 138) dX9_acceptsSum_138 rfl ?_
      refine aw_if_eq (pc := 140) (tgt := 157) dX9_acceptsSum_140 rfl (z_bl_r _) (fun h140 => ?_) (fun h140 => ?_)
      · refine aw_iconst (pc := 157) dX9_acceptsSum_157 ?_
        refine aw_istore (pc := 158) (lv' := [_, _, _, _, _, _, _, _, _, _, _, _, _, _]) dX9_acceptsSum_158 (Nat.le_of_ble_eq_true rfl) rfl ?_
        refine aw_lload (pc := 160) dX9_acceptsSum_160 rfl ?_
        refine aw_iload (pc := 162) dX9_acceptsSum_162 rfl ?_
        refine aw_i2l (pc := 164) dX9_acceptsSum_164 (by omega) ?_
        refine aw_aload_n (pc := 165) dX9_acceptsSum_165 rfl ?_
        refine aw_getR (pc := 166) dX9_acceptsSum_166 k_fl_X9_13 rfl (by omega) (by first | rfl | exact z_shr _ (by omega) | exact z_shc0 (by omega) | exact z_shc1 (by omega) | exact z_shc2 (by omega) | exact z_shc3 (by omega) | exact z_shc4 (by omega)) (by first | rfl | exact z_Rc0 _ (by omega) | exact z_Rc1 _ (by omega) | exact z_Rc2 _ (by omega) | exact z_Rc3 _ (by omega)) ?_
        refine aw_iload (pc := 169) dX9_acceptsSum_169 rfl ?_
        refine aw_ialoadV (pc := 171) (v := mhi m x) dX9_acceptsSum_171 (by omega) (Nat.le_refl _) (by first | rfl | exact z_shr _ (by omega) | exact z_shc0 (by omega) | exact z_shc1 (by omega) | exact z_shc2 (by omega) | exact z_shc3 (by omega) | exact z_shc4 (by omega)) (by first | omega | exact z_bl_r _) (ehi x (by omega)) ?_
        refine aw_i2l (pc := 172) dX9_acceptsSum_172 (by have := hmb.2.2.2.1 x; omega) ?_
        refine aw_lmul (pc := 173) dX9_acceptsSum_173 ?_
        refine aw_iload (pc := 174) dX9_acceptsSum_174 rfl ?_
        refine aw_i2l (pc := 176) dX9_acceptsSum_176 (by omega) ?_
        refine aw_aload_n (pc := 177) dX9_acceptsSum_177 rfl ?_
        refine aw_getR (pc := 178) dX9_acceptsSum_178 k_fl_X9_7 rfl (by omega) (by first | rfl | exact z_shr _ (by omega) | exact z_shc0 (by omega) | exact z_shc1 (by omega) | exact z_shc2 (by omega) | exact z_shc3 (by omega) | exact z_shc4 (by omega)) (by first | rfl | exact z_Rc0 _ (by omega) | exact z_Rc1 _ (by omega) | exact z_Rc2 _ (by omega) | exact z_Rc3 _ (by omega)) ?_
        refine aw_iload (pc := 181) dX9_acceptsSum_181 rfl ?_
        refine aw_ialoadV (pc := 183) (v := mlo m x) dX9_acceptsSum_183 (by omega) (Nat.le_refl _) (by first | rfl | exact z_shr _ (by omega) | exact z_shc0 (by omega) | exact z_shc1 (by omega) | exact z_shc2 (by omega) | exact z_shc3 (by omega) | exact z_shc4 (by omega)) (by first | omega | exact z_bl_r _) (elo x (by omega)) ?_
        refine aw_i2l (pc := 184) dX9_acceptsSum_184 (by have := hmb.2.2.1 x; omega) ?_
        refine aw_lmul (pc := 185) dX9_acceptsSum_185 ?_
        refine aw_lsub (pc := 186) dX9_acceptsSum_186 ?_
        refine aw_ladd (pc := 187) dX9_acceptsSum_187 ?_
        refine aw_lstore (pc := 188) (lv' := [_, _, _, _, _, _, _, _, _, _, _, _, _, _]) dX9_acceptsSum_188 (Nat.le_of_ble_eq_true rfl) rfl ?_
        refine aw_iload (pc := 190) dX9_acceptsSum_190 rfl ?_
        refine aw_i2l (pc := 192) dX9_acceptsSum_192 (by omega) ?_
        refine aw_iload (pc := 193) dX9_acceptsSum_193 rfl ?_
        refine aw_i2l (pc := 195) dX9_acceptsSum_195 (by omega) ?_
        refine aw_lsub (pc := 196) dX9_acceptsSum_196 ?_
        refine aw_lstore (pc := 197) (lv' := [_, _, _, _, _, _, _, _, _, _, _, _, _, _]) dX9_acceptsSum_197 (Nat.le_of_ble_eq_true rfl) rfl ?_
        refine aw_iconst (pc := 199) dX9_acceptsSum_199 ?_
        refine aw_istore (pc := 200) (lv' := [_, _, _, _, _, _, _, _, _, _, _, _, _, _]) dX9_acceptsSum_200 (Nat.le_of_ble_eq_true rfl) rfl ?_
        have l3 : ∀ (n3 : Nat) (y : Nat), y + n3 = mR m → AW (FM m_X9_acceptsSum (z_P (some (zi (z_bl (z_aRM m (z_g L c))))) 255 I J (z_R π))) 0 0 255 202 [some (zr 237), some (zi (c : Int)), some (zi (27 * (c : Int))), some (zl (cS (z_g L c) 26)), none, some (zi (z_bl (z_a2 m (z_g L c) x ∧ 0 ≤ (cS (z_g L c) (10 + x)) ∧ 0 ≤ (cS (z_g L c) (18 + x))))), some (zl ((z_s1r m (z_g L c) (mR m)) + (z_s2r m (z_g L c) x) + ((cS (z_g L c) (18 + x)) * mhi m x - (cS (z_g L c) (10 + x)) * mlo m x))), none, some (zi (x : Int)), some (zi (cS (z_g L c) (10 + x))), some (zi (cS (z_g L c) (18 + x))), some (zl (z_af m (z_g L c) x y)), none, some (zi (y : Int))] [] I J (z_R π) := by
          intro n3
          induction n3 with
          | zero =>
            intro y he3
            refine aw_iload (pc := 202) dX9_acceptsSum_202 rfl ?_
            refine aw_aload_n (pc := 204) dX9_acceptsSum_204 rfl ?_
            refine aw_getV (pc := 205) (v := (mR m : Int)) dX9_acceptsSum_205 k_fl_X9_72 rfl (by omega) (by first | rfl | exact z_shr _ (by omega) | exact z_shc0 (by omega) | exact z_shc1 (by omega) | exact z_shc2 (by omega) | exact z_shc3 (by omega) | exact z_shc4 (by omega)) (e4) ?_
            refine aw_icmp_ge (pc := 208) (tgt := 247) dX9_acceptsSum_208 rfl (by first | omega | exact z_bl_r _) (by first | omega | exact z_bl_r _) (fun h208 => ?_) (fun h208 => absurd h208 (by omega))
            rw [show y = mR m by omega]
            have hfb := haf x (by omega)
            have hdc := z_mulb (a := (cS (z_g L c) 26)) (b := cF (z_g L c) x) (A := 1000) (B := 1000) (by omega) (hcf x (by omega))
            refine aw_iload (pc := 247) dX9_acceptsSum_247 rfl ?_
            refine aw_if_eq (pc := 249) (tgt := 276) dX9_acceptsSum_249 rfl (z_bl_r _) (fun h249 => ?_) (fun h249 => ?_)
            · refine aw_iconst (pc := 276) dX9_acceptsSum_276 ?_
              refine aw_istore (pc := 277) (lv' := [_, _, _, _, _, _, _, _, _, _, _, _, _, _]) dX9_acceptsSum_277 (Nat.le_of_ble_eq_true rfl) rfl ?_
              refine aw_iinc (pc := 279) (lv' := [_, _, _, _, _, _, _, _, _, _, _, _, _, _]) dX9_acceptsSum_279 (Nat.le_of_ble_eq_true rfl) rfl rfl ?_
              refine aw_goto (pc := 282) (tgt := 101) dX9_acceptsSum_282 rfl ?_
              have ex : z_bl (z_a2 m (z_g L c) (x + 1)) = 0 := z_bl_f (fun q => z_bl_0.mp h249 ⟨⟨q.1, fun n hn => q.2 n (by omega)⟩, (q.2 x (by omega)).1.1, (q.2 x (by omega)).1.2⟩)
              have K := ih2 (x + 1) (some (zi (cS (z_g L c) (10 + x)))) (some (zi (cS (z_g L c) (18 + x)))) (some (zl (z_af m (z_g L c) x (mR m)))) (some (zi ((mR m : Nat) : Int))) (by omega)
              rw [ex, show z_s2r m (z_g L c) (x + 1) = (z_s2r m (z_g L c) x) + ((cS (z_g L c) (18 + x)) * mhi m x - (cS (z_g L c) (10 + x)) * mlo m x) from rfl, ← Int.add_assoc] at K
              exact K
            · refine aw_lload (pc := 252) dX9_acceptsSum_252 rfl ?_
              refine aw_lload_n (pc := 254) dX9_acceptsSum_254 rfl ?_
              refine aw_aload_n (pc := 255) dX9_acceptsSum_255 rfl ?_
              refine aw_getR (pc := 256) dX9_acceptsSum_256 k_fl_X9_26 rfl (by omega) (by first | rfl | exact z_shr _ (by omega) | exact z_shc0 (by omega) | exact z_shc1 (by omega) | exact z_shc2 (by omega) | exact z_shc3 (by omega) | exact z_shc4 (by omega)) (by first | rfl | exact z_Rc0 _ (by omega) | exact z_Rc1 _ (by omega) | exact z_Rc2 _ (by omega) | exact z_Rc3 _ (by omega)) ?_
              refine aw_bipush (pc := 259) dX9_acceptsSum_259 rfl ?_
              refine aw_iload_n (pc := 261) dX9_acceptsSum_261 rfl ?_
              refine aw_imul (pc := 262) dX9_acceptsSum_262 ?_
              refine aw_iload (pc := 263) dX9_acceptsSum_263 rfl ?_
              refine aw_iadd (pc := 265) dX9_acceptsSum_265 ?_
              refine aw_laloadV (pc := 266) (v := cF (z_g L c) x) dX9_acceptsSum_266 (by omega) (Nat.le_refl _) (by first | rfl | exact z_shr _ (by omega) | exact z_shc0 (by omega) | exact z_shc1 (by omega) | exact z_shc2 (by omega) | exact z_shc3 (by omega) | exact z_shc4 (by omega)) (by omega) (by rw [show ((8 : Int) * (c : Int) + (x : Int)).toNat = 8 * c + x by omega]; exact d1 x (by omega)) ?_
              refine aw_lmul (pc := 267) dX9_acceptsSum_267 ?_
              refine aw_lcmp_ne (pc := 268) (tgt := 276) dX9_acceptsSum_268 dX9_acceptsSum_269 rfl (by omega) (by omega) (fun h268 => ?_) (fun h268 => ?_)
              · refine aw_iconst (pc := 276) dX9_acceptsSum_276 ?_
                refine aw_istore (pc := 277) (lv' := [_, _, _, _, _, _, _, _, _, _, _, _, _, _]) dX9_acceptsSum_277 (Nat.le_of_ble_eq_true rfl) rfl ?_
                refine aw_iinc (pc := 279) (lv' := [_, _, _, _, _, _, _, _, _, _, _, _, _, _]) dX9_acceptsSum_279 (Nat.le_of_ble_eq_true rfl) rfl rfl ?_
                refine aw_goto (pc := 282) (tgt := 101) dX9_acceptsSum_282 rfl ?_
                have ex : z_bl (z_a2 m (z_g L c) (x + 1)) = 0 := z_bl_f (fun q => h268 (q.2 x (by omega)).2)
                have K := ih2 (x + 1) (some (zi (cS (z_g L c) (10 + x)))) (some (zi (cS (z_g L c) (18 + x)))) (some (zl (z_af m (z_g L c) x (mR m)))) (some (zi ((mR m : Nat) : Int))) (by omega)
                rw [ex, show z_s2r m (z_g L c) (x + 1) = (z_s2r m (z_g L c) x) + ((cS (z_g L c) (18 + x)) * mhi m x - (cS (z_g L c) (10 + x)) * mlo m x) from rfl, ← Int.add_assoc] at K
                exact K
              · refine aw_iconst (pc := 272) dX9_acceptsSum_272 ?_
                refine aw_goto (pc := 273) (tgt := 277) dX9_acceptsSum_273 rfl ?_
                refine aw_istore (pc := 277) (lv' := [_, _, _, _, _, _, _, _, _, _, _, _, _, _]) dX9_acceptsSum_277 (Nat.le_of_ble_eq_true rfl) rfl ?_
                refine aw_iinc (pc := 279) (lv' := [_, _, _, _, _, _, _, _, _, _, _, _, _, _]) dX9_acceptsSum_279 (Nat.le_of_ble_eq_true rfl) rfl rfl ?_
                refine aw_goto (pc := 282) (tgt := 101) dX9_acceptsSum_282 rfl ?_
                have ex : z_bl (z_a2 m (z_g L c) (x + 1)) = 1 := z_bl_t ⟨(z_bl_n.mp h249).1.1, fun n hn => by by_cases e : n = x; (rw [e]; exact ⟨(z_bl_n.mp h249).2, h268⟩); exact (z_bl_n.mp h249).1.2 n (by omega)⟩
                have K := ih2 (x + 1) (some (zi (cS (z_g L c) (10 + x)))) (some (zi (cS (z_g L c) (18 + x)))) (some (zl (z_af m (z_g L c) x (mR m)))) (some (zi ((mR m : Nat) : Int))) (by omega)
                rw [ex, show z_s2r m (z_g L c) (x + 1) = (z_s2r m (z_g L c) x) + ((cS (z_g L c) (18 + x)) * mhi m x - (cS (z_g L c) (10 + x)) * mlo m x) from rfl, ← Int.add_assoc] at K
                exact K
          | succ n3 ih3 =>
            intro y he3
            refine aw_iload (pc := 202) dX9_acceptsSum_202 rfl ?_
            refine aw_aload_n (pc := 204) dX9_acceptsSum_204 rfl ?_
            refine aw_getV (pc := 205) (v := (mR m : Int)) dX9_acceptsSum_205 k_fl_X9_72 rfl (by omega) (by first | rfl | exact z_shr _ (by omega) | exact z_shc0 (by omega) | exact z_shc1 (by omega) | exact z_shc2 (by omega) | exact z_shc3 (by omega) | exact z_shc4 (by omega)) (e4) ?_
            refine aw_icmp_ge (pc := 208) (tgt := 247) dX9_acceptsSum_208 rfl (by first | omega | exact z_bl_r _) (by first | omega | exact z_bl_r _) (fun h208 => absurd h208 (by omega)) (fun h208 => ?_)
            refine aw_lload (pc := 211) dX9_acceptsSum_211 rfl ?_
            refine aw_aload_n (pc := 213) dX9_acceptsSum_213 rfl ?_
            refine aw_getR (pc := 214) dX9_acceptsSum_214 k_fl_X9_38 rfl (by omega) (by first | rfl | exact z_shr _ (by omega) | exact z_shc0 (by omega) | exact z_shc1 (by omega) | exact z_shc2 (by omega) | exact z_shc3 (by omega) | exact z_shc4 (by omega)) (by first | rfl | exact z_Rc0 _ (by omega) | exact z_Rc1 _ (by omega) | exact z_Rc2 _ (by omega) | exact z_Rc3 _ (by omega)) ?_
            refine aw_iload_n (pc := 217) dX9_acceptsSum_217 rfl ?_
            refine aw_iload (pc := 218) dX9_acceptsSum_218 rfl ?_
            refine aw_iadd (pc := 220) dX9_acceptsSum_220 ?_
            refine aw_ialoadV (pc := 221) (v := cS (z_g L c) y) dX9_acceptsSum_221 (by omega) (Nat.le_refl _) (by first | rfl | exact z_shr _ (by omega) | exact z_shc0 (by omega) | exact z_shc1 (by omega) | exact z_shc2 (by omega) | exact z_shc3 (by omega) | exact z_shc4 (by omega)) (by omega) (by rw [show ((27 : Int) * (c : Int) + (y : Int)).toNat = 27 * c + y by omega]; exact a1 y (by omega)) ?_
            refine aw_i2l (pc := 222) dX9_acceptsSum_222 (by have := hsb y (by omega); omega) ?_
            refine aw_aload_n (pc := 223) dX9_acceptsSum_223 rfl ?_
            refine aw_getR (pc := 224) dX9_acceptsSum_224 k_fl_X9_23 rfl (by omega) (by first | rfl | exact z_shr _ (by omega) | exact z_shc0 (by omega) | exact z_shc1 (by omega) | exact z_shc2 (by omega) | exact z_shc3 (by omega) | exact z_shc4 (by omega)) (by first | rfl | exact z_Rc0 _ (by omega) | exact z_Rc1 _ (by omega) | exact z_Rc2 _ (by omega) | exact z_Rc3 _ (by omega)) ?_
            refine aw_bipush (pc := 227) dX9_acceptsSum_227 rfl ?_
            refine aw_iload (pc := 229) dX9_acceptsSum_229 rfl ?_
            refine aw_imul (pc := 231) dX9_acceptsSum_231 ?_
            refine aw_iload (pc := 232) dX9_acceptsSum_232 rfl ?_
            refine aw_iadd (pc := 234) dX9_acceptsSum_234 ?_
            refine aw_ialoadV (pc := 235) (v := mF m y x) dX9_acceptsSum_235 (by omega) (Nat.le_refl _) (by first | rfl | exact z_shr _ (by omega) | exact z_shc0 (by omega) | exact z_shc1 (by omega) | exact z_shc2 (by omega) | exact z_shc3 (by omega) | exact z_shc4 (by omega)) (by omega) (by rw [show ((8 : Int) * (y : Int) + (x : Int)).toNat = 8 * y + x by omega]; exact eF y x (by omega) (by omega)) ?_
            refine aw_i2l (pc := 236) dX9_acceptsSum_236 (by have := hmb.2.2.2.2.1 y x; omega) ?_
            refine aw_lmul (pc := 237) dX9_acceptsSum_237 ?_
            refine aw_ladd (pc := 238) dX9_acceptsSum_238 ?_
            refine aw_lstore (pc := 239) (lv' := [_, _, _, _, _, _, _, _, _, _, _, _, _, _]) dX9_acceptsSum_239 (Nat.le_of_ble_eq_true rfl) rfl ?_
            refine aw_iinc (pc := 241) (lv' := [_, _, _, _, _, _, _, _, _, _, _, _, _, _]) dX9_acceptsSum_241 (Nat.le_of_ble_eq_true rfl) rfl rfl ?_
            refine aw_goto (pc := 244) (tgt := 202) dX9_acceptsSum_244 rfl ?_
            have K := ih3 (y + 1) (by omega)
            rw [show z_af m (z_g L c) x (y + 1) = z_af m (z_g L c) x y + cS (z_g L c) y * mF m y x from (Int.add_assoc _ _ _).symm] at K
            exact K
        have K := l3 (mR m) 0 (by omega)
        rw [show z_bl (z_a2 m (z_g L c) x ∧ 0 ≤ (cS (z_g L c) (10 + x)) ∧ 0 ≤ (cS (z_g L c) (18 + x))) = 0 from z_bl_f (fun q => z_bl_0.mp h140 q.1), show z_af m (z_g L c) x 0 = (cS (z_g L c) (18 + x)) - (cS (z_g L c) (10 + x)) from Int.add_zero _] at K
        exact K
      · refine aw_iload (pc := 143) dX9_acceptsSum_143 rfl ?_
        refine aw_if_lt (pc := 145) (tgt := 157) dX9_acceptsSum_145 rfl (by omega) (fun h145 => ?_) (fun h145 => ?_)
        · refine aw_iconst (pc := 157) dX9_acceptsSum_157 ?_
          refine aw_istore (pc := 158) (lv' := [_, _, _, _, _, _, _, _, _, _, _, _, _, _]) dX9_acceptsSum_158 (Nat.le_of_ble_eq_true rfl) rfl ?_
          refine aw_lload (pc := 160) dX9_acceptsSum_160 rfl ?_
          refine aw_iload (pc := 162) dX9_acceptsSum_162 rfl ?_
          refine aw_i2l (pc := 164) dX9_acceptsSum_164 (by omega) ?_
          refine aw_aload_n (pc := 165) dX9_acceptsSum_165 rfl ?_
          refine aw_getR (pc := 166) dX9_acceptsSum_166 k_fl_X9_13 rfl (by omega) (by first | rfl | exact z_shr _ (by omega) | exact z_shc0 (by omega) | exact z_shc1 (by omega) | exact z_shc2 (by omega) | exact z_shc3 (by omega) | exact z_shc4 (by omega)) (by first | rfl | exact z_Rc0 _ (by omega) | exact z_Rc1 _ (by omega) | exact z_Rc2 _ (by omega) | exact z_Rc3 _ (by omega)) ?_
          refine aw_iload (pc := 169) dX9_acceptsSum_169 rfl ?_
          refine aw_ialoadV (pc := 171) (v := mhi m x) dX9_acceptsSum_171 (by omega) (Nat.le_refl _) (by first | rfl | exact z_shr _ (by omega) | exact z_shc0 (by omega) | exact z_shc1 (by omega) | exact z_shc2 (by omega) | exact z_shc3 (by omega) | exact z_shc4 (by omega)) (by first | omega | exact z_bl_r _) (ehi x (by omega)) ?_
          refine aw_i2l (pc := 172) dX9_acceptsSum_172 (by have := hmb.2.2.2.1 x; omega) ?_
          refine aw_lmul (pc := 173) dX9_acceptsSum_173 ?_
          refine aw_iload (pc := 174) dX9_acceptsSum_174 rfl ?_
          refine aw_i2l (pc := 176) dX9_acceptsSum_176 (by omega) ?_
          refine aw_aload_n (pc := 177) dX9_acceptsSum_177 rfl ?_
          refine aw_getR (pc := 178) dX9_acceptsSum_178 k_fl_X9_7 rfl (by omega) (by first | rfl | exact z_shr _ (by omega) | exact z_shc0 (by omega) | exact z_shc1 (by omega) | exact z_shc2 (by omega) | exact z_shc3 (by omega) | exact z_shc4 (by omega)) (by first | rfl | exact z_Rc0 _ (by omega) | exact z_Rc1 _ (by omega) | exact z_Rc2 _ (by omega) | exact z_Rc3 _ (by omega)) ?_
          refine aw_iload (pc := 181) dX9_acceptsSum_181 rfl ?_
          refine aw_ialoadV (pc := 183) (v := mlo m x) dX9_acceptsSum_183 (by omega) (Nat.le_refl _) (by first | rfl | exact z_shr _ (by omega) | exact z_shc0 (by omega) | exact z_shc1 (by omega) | exact z_shc2 (by omega) | exact z_shc3 (by omega) | exact z_shc4 (by omega)) (by first | omega | exact z_bl_r _) (elo x (by omega)) ?_
          refine aw_i2l (pc := 184) dX9_acceptsSum_184 (by have := hmb.2.2.1 x; omega) ?_
          refine aw_lmul (pc := 185) dX9_acceptsSum_185 ?_
          refine aw_lsub (pc := 186) dX9_acceptsSum_186 ?_
          refine aw_ladd (pc := 187) dX9_acceptsSum_187 ?_
          refine aw_lstore (pc := 188) (lv' := [_, _, _, _, _, _, _, _, _, _, _, _, _, _]) dX9_acceptsSum_188 (Nat.le_of_ble_eq_true rfl) rfl ?_
          refine aw_iload (pc := 190) dX9_acceptsSum_190 rfl ?_
          refine aw_i2l (pc := 192) dX9_acceptsSum_192 (by omega) ?_
          refine aw_iload (pc := 193) dX9_acceptsSum_193 rfl ?_
          refine aw_i2l (pc := 195) dX9_acceptsSum_195 (by omega) ?_
          refine aw_lsub (pc := 196) dX9_acceptsSum_196 ?_
          refine aw_lstore (pc := 197) (lv' := [_, _, _, _, _, _, _, _, _, _, _, _, _, _]) dX9_acceptsSum_197 (Nat.le_of_ble_eq_true rfl) rfl ?_
          refine aw_iconst (pc := 199) dX9_acceptsSum_199 ?_
          refine aw_istore (pc := 200) (lv' := [_, _, _, _, _, _, _, _, _, _, _, _, _, _]) dX9_acceptsSum_200 (Nat.le_of_ble_eq_true rfl) rfl ?_
          have l3 : ∀ (n3 : Nat) (y : Nat), y + n3 = mR m → AW (FM m_X9_acceptsSum (z_P (some (zi (z_bl (z_aRM m (z_g L c))))) 255 I J (z_R π))) 0 0 255 202 [some (zr 237), some (zi (c : Int)), some (zi (27 * (c : Int))), some (zl (cS (z_g L c) 26)), none, some (zi (z_bl (z_a2 m (z_g L c) x ∧ 0 ≤ (cS (z_g L c) (10 + x)) ∧ 0 ≤ (cS (z_g L c) (18 + x))))), some (zl ((z_s1r m (z_g L c) (mR m)) + (z_s2r m (z_g L c) x) + ((cS (z_g L c) (18 + x)) * mhi m x - (cS (z_g L c) (10 + x)) * mlo m x))), none, some (zi (x : Int)), some (zi (cS (z_g L c) (10 + x))), some (zi (cS (z_g L c) (18 + x))), some (zl (z_af m (z_g L c) x y)), none, some (zi (y : Int))] [] I J (z_R π) := by
            intro n3
            induction n3 with
            | zero =>
              intro y he3
              refine aw_iload (pc := 202) dX9_acceptsSum_202 rfl ?_
              refine aw_aload_n (pc := 204) dX9_acceptsSum_204 rfl ?_
              refine aw_getV (pc := 205) (v := (mR m : Int)) dX9_acceptsSum_205 k_fl_X9_72 rfl (by omega) (by first | rfl | exact z_shr _ (by omega) | exact z_shc0 (by omega) | exact z_shc1 (by omega) | exact z_shc2 (by omega) | exact z_shc3 (by omega) | exact z_shc4 (by omega)) (e4) ?_
              refine aw_icmp_ge (pc := 208) (tgt := 247) dX9_acceptsSum_208 rfl (by first | omega | exact z_bl_r _) (by first | omega | exact z_bl_r _) (fun h208 => ?_) (fun h208 => absurd h208 (by omega))
              rw [show y = mR m by omega]
              have hfb := haf x (by omega)
              have hdc := z_mulb (a := (cS (z_g L c) 26)) (b := cF (z_g L c) x) (A := 1000) (B := 1000) (by omega) (hcf x (by omega))
              refine aw_iload (pc := 247) dX9_acceptsSum_247 rfl ?_
              refine aw_if_eq (pc := 249) (tgt := 276) dX9_acceptsSum_249 rfl (z_bl_r _) (fun h249 => ?_) (fun h249 => ?_)
              · refine aw_iconst (pc := 276) dX9_acceptsSum_276 ?_
                refine aw_istore (pc := 277) (lv' := [_, _, _, _, _, _, _, _, _, _, _, _, _, _]) dX9_acceptsSum_277 (Nat.le_of_ble_eq_true rfl) rfl ?_
                refine aw_iinc (pc := 279) (lv' := [_, _, _, _, _, _, _, _, _, _, _, _, _, _]) dX9_acceptsSum_279 (Nat.le_of_ble_eq_true rfl) rfl rfl ?_
                refine aw_goto (pc := 282) (tgt := 101) dX9_acceptsSum_282 rfl ?_
                have ex : z_bl (z_a2 m (z_g L c) (x + 1)) = 0 := z_bl_f (fun q => z_bl_0.mp h249 ⟨⟨q.1, fun n hn => q.2 n (by omega)⟩, (q.2 x (by omega)).1.1, (q.2 x (by omega)).1.2⟩)
                have K := ih2 (x + 1) (some (zi (cS (z_g L c) (10 + x)))) (some (zi (cS (z_g L c) (18 + x)))) (some (zl (z_af m (z_g L c) x (mR m)))) (some (zi ((mR m : Nat) : Int))) (by omega)
                rw [ex, show z_s2r m (z_g L c) (x + 1) = (z_s2r m (z_g L c) x) + ((cS (z_g L c) (18 + x)) * mhi m x - (cS (z_g L c) (10 + x)) * mlo m x) from rfl, ← Int.add_assoc] at K
                exact K
              · refine aw_lload (pc := 252) dX9_acceptsSum_252 rfl ?_
                refine aw_lload_n (pc := 254) dX9_acceptsSum_254 rfl ?_
                refine aw_aload_n (pc := 255) dX9_acceptsSum_255 rfl ?_
                refine aw_getR (pc := 256) dX9_acceptsSum_256 k_fl_X9_26 rfl (by omega) (by first | rfl | exact z_shr _ (by omega) | exact z_shc0 (by omega) | exact z_shc1 (by omega) | exact z_shc2 (by omega) | exact z_shc3 (by omega) | exact z_shc4 (by omega)) (by first | rfl | exact z_Rc0 _ (by omega) | exact z_Rc1 _ (by omega) | exact z_Rc2 _ (by omega) | exact z_Rc3 _ (by omega)) ?_
                refine aw_bipush (pc := 259) dX9_acceptsSum_259 rfl ?_
                refine aw_iload_n (pc := 261) dX9_acceptsSum_261 rfl ?_
                refine aw_imul (pc := 262) dX9_acceptsSum_262 ?_
                refine aw_iload (pc := 263) dX9_acceptsSum_263 rfl ?_
                refine aw_iadd (pc := 265) dX9_acceptsSum_265 ?_
                refine aw_laloadV (pc := 266) (v := cF (z_g L c) x) dX9_acceptsSum_266 (by omega) (Nat.le_refl _) (by first | rfl | exact z_shr _ (by omega) | exact z_shc0 (by omega) | exact z_shc1 (by omega) | exact z_shc2 (by omega) | exact z_shc3 (by omega) | exact z_shc4 (by omega)) (by omega) (by rw [show ((8 : Int) * (c : Int) + (x : Int)).toNat = 8 * c + x by omega]; exact d1 x (by omega)) ?_
                refine aw_lmul (pc := 267) dX9_acceptsSum_267 ?_
                refine aw_lcmp_ne (pc := 268) (tgt := 276) dX9_acceptsSum_268 dX9_acceptsSum_269 rfl (by omega) (by omega) (fun h268 => ?_) (fun h268 => ?_)
                · refine aw_iconst (pc := 276) dX9_acceptsSum_276 ?_
                  refine aw_istore (pc := 277) (lv' := [_, _, _, _, _, _, _, _, _, _, _, _, _, _]) dX9_acceptsSum_277 (Nat.le_of_ble_eq_true rfl) rfl ?_
                  refine aw_iinc (pc := 279) (lv' := [_, _, _, _, _, _, _, _, _, _, _, _, _, _]) dX9_acceptsSum_279 (Nat.le_of_ble_eq_true rfl) rfl rfl ?_
                  refine aw_goto (pc := 282) (tgt := 101) dX9_acceptsSum_282 rfl ?_
                  have ex : z_bl (z_a2 m (z_g L c) (x + 1)) = 0 := z_bl_f (fun q => h268 (q.2 x (by omega)).2)
                  have K := ih2 (x + 1) (some (zi (cS (z_g L c) (10 + x)))) (some (zi (cS (z_g L c) (18 + x)))) (some (zl (z_af m (z_g L c) x (mR m)))) (some (zi ((mR m : Nat) : Int))) (by omega)
                  rw [ex, show z_s2r m (z_g L c) (x + 1) = (z_s2r m (z_g L c) x) + ((cS (z_g L c) (18 + x)) * mhi m x - (cS (z_g L c) (10 + x)) * mlo m x) from rfl, ← Int.add_assoc] at K
                  exact K
                · refine aw_iconst (pc := 272) dX9_acceptsSum_272 ?_
                  refine aw_goto (pc := 273) (tgt := 277) dX9_acceptsSum_273 rfl ?_
                  refine aw_istore (pc := 277) (lv' := [_, _, _, _, _, _, _, _, _, _, _, _, _, _]) dX9_acceptsSum_277 (Nat.le_of_ble_eq_true rfl) rfl ?_
                  refine aw_iinc (pc := 279) (lv' := [_, _, _, _, _, _, _, _, _, _, _, _, _, _]) dX9_acceptsSum_279 (Nat.le_of_ble_eq_true rfl) rfl rfl ?_
                  refine aw_goto (pc := 282) (tgt := 101) dX9_acceptsSum_282 rfl ?_
                  have ex : z_bl (z_a2 m (z_g L c) (x + 1)) = 1 := z_bl_t ⟨(z_bl_n.mp h249).1.1, fun n hn => by by_cases e : n = x; (rw [e]; exact ⟨(z_bl_n.mp h249).2, h268⟩); exact (z_bl_n.mp h249).1.2 n (by omega)⟩
                  have K := ih2 (x + 1) (some (zi (cS (z_g L c) (10 + x)))) (some (zi (cS (z_g L c) (18 + x)))) (some (zl (z_af m (z_g L c) x (mR m)))) (some (zi ((mR m : Nat) : Int))) (by omega)
                  rw [ex, show z_s2r m (z_g L c) (x + 1) = (z_s2r m (z_g L c) x) + ((cS (z_g L c) (18 + x)) * mhi m x - (cS (z_g L c) (10 + x)) * mlo m x) from rfl, ← Int.add_assoc] at K
                  exact K
            | succ n3 ih3 =>
              intro y he3
              refine aw_iload (pc := 202) dX9_acceptsSum_202 rfl ?_
              refine aw_aload_n (pc := 204) dX9_acceptsSum_204 rfl ?_
              refine aw_getV (pc := 205) (v := (mR m : Int)) dX9_acceptsSum_205 k_fl_X9_72 rfl (by omega) (by first | rfl | exact z_shr _ (by omega) | exact z_shc0 (by omega) | exact z_shc1 (by omega) | exact z_shc2 (by omega) | exact z_shc3 (by omega) | exact z_shc4 (by omega)) (e4) ?_
              refine aw_icmp_ge (pc := 208) (tgt := 247) dX9_acceptsSum_208 rfl (by first | omega | exact z_bl_r _) (by first | omega | exact z_bl_r _) (fun h208 => absurd h208 (by omega)) (fun h208 => ?_)
              refine aw_lload (pc := 211) dX9_acceptsSum_211 rfl ?_
              refine aw_aload_n (pc := 213) dX9_acceptsSum_213 rfl ?_
              refine aw_getR (pc := 214) dX9_acceptsSum_214 k_fl_X9_38 rfl (by omega) (by first | rfl | exact z_shr _ (by omega) | exact z_shc0 (by omega) | exact z_shc1 (by omega) | exact z_shc2 (by omega) | exact z_shc3 (by omega) | exact z_shc4 (by omega)) (by first | rfl | exact z_Rc0 _ (by omega) | exact z_Rc1 _ (by omega) | exact z_Rc2 _ (by omega) | exact z_Rc3 _ (by omega)) ?_
              refine aw_iload_n (pc := 217) dX9_acceptsSum_217 rfl ?_
              refine aw_iload (pc := 218) dX9_acceptsSum_218 rfl ?_
              refine aw_iadd (pc := 220) dX9_acceptsSum_220 ?_
              refine aw_ialoadV (pc := 221) (v := cS (z_g L c) y) dX9_acceptsSum_221 (by omega) (Nat.le_refl _) (by first | rfl | exact z_shr _ (by omega) | exact z_shc0 (by omega) | exact z_shc1 (by omega) | exact z_shc2 (by omega) | exact z_shc3 (by omega) | exact z_shc4 (by omega)) (by omega) (by rw [show ((27 : Int) * (c : Int) + (y : Int)).toNat = 27 * c + y by omega]; exact a1 y (by omega)) ?_
              refine aw_i2l (pc := 222) dX9_acceptsSum_222 (by have := hsb y (by omega); omega) ?_
              refine aw_aload_n (pc := 223) dX9_acceptsSum_223 rfl ?_
              refine aw_getR (pc := 224) dX9_acceptsSum_224 k_fl_X9_23 rfl (by omega) (by first | rfl | exact z_shr _ (by omega) | exact z_shc0 (by omega) | exact z_shc1 (by omega) | exact z_shc2 (by omega) | exact z_shc3 (by omega) | exact z_shc4 (by omega)) (by first | rfl | exact z_Rc0 _ (by omega) | exact z_Rc1 _ (by omega) | exact z_Rc2 _ (by omega) | exact z_Rc3 _ (by omega)) ?_
              refine aw_bipush (pc := 227) dX9_acceptsSum_227 rfl ?_
              refine aw_iload (pc := 229) dX9_acceptsSum_229 rfl ?_
              refine aw_imul (pc := 231) dX9_acceptsSum_231 ?_
              refine aw_iload (pc := 232) dX9_acceptsSum_232 rfl ?_
              refine aw_iadd (pc := 234) dX9_acceptsSum_234 ?_
              refine aw_ialoadV (pc := 235) (v := mF m y x) dX9_acceptsSum_235 (by omega) (Nat.le_refl _) (by first | rfl | exact z_shr _ (by omega) | exact z_shc0 (by omega) | exact z_shc1 (by omega) | exact z_shc2 (by omega) | exact z_shc3 (by omega) | exact z_shc4 (by omega)) (by omega) (by rw [show ((8 : Int) * (y : Int) + (x : Int)).toNat = 8 * y + x by omega]; exact eF y x (by omega) (by omega)) ?_
              refine aw_i2l (pc := 236) dX9_acceptsSum_236 (by have := hmb.2.2.2.2.1 y x; omega) ?_
              refine aw_lmul (pc := 237) dX9_acceptsSum_237 ?_
              refine aw_ladd (pc := 238) dX9_acceptsSum_238 ?_
              refine aw_lstore (pc := 239) (lv' := [_, _, _, _, _, _, _, _, _, _, _, _, _, _]) dX9_acceptsSum_239 (Nat.le_of_ble_eq_true rfl) rfl ?_
              refine aw_iinc (pc := 241) (lv' := [_, _, _, _, _, _, _, _, _, _, _, _, _, _]) dX9_acceptsSum_241 (Nat.le_of_ble_eq_true rfl) rfl rfl ?_
              refine aw_goto (pc := 244) (tgt := 202) dX9_acceptsSum_244 rfl ?_
              have K := ih3 (y + 1) (by omega)
              rw [show z_af m (z_g L c) x (y + 1) = z_af m (z_g L c) x y + cS (z_g L c) y * mF m y x from (Int.add_assoc _ _ _).symm] at K
              exact K
          have K := l3 (mR m) 0 (by omega)
          rw [show z_bl (z_a2 m (z_g L c) x ∧ 0 ≤ (cS (z_g L c) (10 + x)) ∧ 0 ≤ (cS (z_g L c) (18 + x))) = 0 from z_bl_f (fun q => by have := q.2; omega), show z_af m (z_g L c) x 0 = (cS (z_g L c) (18 + x)) - (cS (z_g L c) (10 + x)) from Int.add_zero _] at K
          exact K
        · refine aw_iload (pc := 148) dX9_acceptsSum_148 rfl ?_
          refine aw_if_lt (pc := 150) (tgt := 157) dX9_acceptsSum_150 rfl (by omega) (fun h150 => ?_) (fun h150 => ?_)
          · refine aw_iconst (pc := 157) dX9_acceptsSum_157 ?_
            refine aw_istore (pc := 158) (lv' := [_, _, _, _, _, _, _, _, _, _, _, _, _, _]) dX9_acceptsSum_158 (Nat.le_of_ble_eq_true rfl) rfl ?_
            refine aw_lload (pc := 160) dX9_acceptsSum_160 rfl ?_
            refine aw_iload (pc := 162) dX9_acceptsSum_162 rfl ?_
            refine aw_i2l (pc := 164) dX9_acceptsSum_164 (by omega) ?_
            refine aw_aload_n (pc := 165) dX9_acceptsSum_165 rfl ?_
            refine aw_getR (pc := 166) dX9_acceptsSum_166 k_fl_X9_13 rfl (by omega) (by first | rfl | exact z_shr _ (by omega) | exact z_shc0 (by omega) | exact z_shc1 (by omega) | exact z_shc2 (by omega) | exact z_shc3 (by omega) | exact z_shc4 (by omega)) (by first | rfl | exact z_Rc0 _ (by omega) | exact z_Rc1 _ (by omega) | exact z_Rc2 _ (by omega) | exact z_Rc3 _ (by omega)) ?_
            refine aw_iload (pc := 169) dX9_acceptsSum_169 rfl ?_
            refine aw_ialoadV (pc := 171) (v := mhi m x) dX9_acceptsSum_171 (by omega) (Nat.le_refl _) (by first | rfl | exact z_shr _ (by omega) | exact z_shc0 (by omega) | exact z_shc1 (by omega) | exact z_shc2 (by omega) | exact z_shc3 (by omega) | exact z_shc4 (by omega)) (by first | omega | exact z_bl_r _) (ehi x (by omega)) ?_
            refine aw_i2l (pc := 172) dX9_acceptsSum_172 (by have := hmb.2.2.2.1 x; omega) ?_
            refine aw_lmul (pc := 173) dX9_acceptsSum_173 ?_
            refine aw_iload (pc := 174) dX9_acceptsSum_174 rfl ?_
            refine aw_i2l (pc := 176) dX9_acceptsSum_176 (by omega) ?_
            refine aw_aload_n (pc := 177) dX9_acceptsSum_177 rfl ?_
            refine aw_getR (pc := 178) dX9_acceptsSum_178 k_fl_X9_7 rfl (by omega) (by first | rfl | exact z_shr _ (by omega) | exact z_shc0 (by omega) | exact z_shc1 (by omega) | exact z_shc2 (by omega) | exact z_shc3 (by omega) | exact z_shc4 (by omega)) (by first | rfl | exact z_Rc0 _ (by omega) | exact z_Rc1 _ (by omega) | exact z_Rc2 _ (by omega) | exact z_Rc3 _ (by omega)) ?_
            refine aw_iload (pc := 181) dX9_acceptsSum_181 rfl ?_
            refine aw_ialoadV (pc := 183) (v := mlo m x) dX9_acceptsSum_183 (by omega) (Nat.le_refl _) (by first | rfl | exact z_shr _ (by omega) | exact z_shc0 (by omega) | exact z_shc1 (by omega) | exact z_shc2 (by omega) | exact z_shc3 (by omega) | exact z_shc4 (by omega)) (by first | omega | exact z_bl_r _) (elo x (by omega)) ?_
            refine aw_i2l (pc := 184) dX9_acceptsSum_184 (by have := hmb.2.2.1 x; omega) ?_
            refine aw_lmul (pc := 185) dX9_acceptsSum_185 ?_
            refine aw_lsub (pc := 186) dX9_acceptsSum_186 ?_
            refine aw_ladd (pc := 187) dX9_acceptsSum_187 ?_
            refine aw_lstore (pc := 188) (lv' := [_, _, _, _, _, _, _, _, _, _, _, _, _, _]) dX9_acceptsSum_188 (Nat.le_of_ble_eq_true rfl) rfl ?_
            refine aw_iload (pc := 190) dX9_acceptsSum_190 rfl ?_
            refine aw_i2l (pc := 192) dX9_acceptsSum_192 (by omega) ?_
            refine aw_iload (pc := 193) dX9_acceptsSum_193 rfl ?_
            refine aw_i2l (pc := 195) dX9_acceptsSum_195 (by omega) ?_
            refine aw_lsub (pc := 196) dX9_acceptsSum_196 ?_
            refine aw_lstore (pc := 197) (lv' := [_, _, _, _, _, _, _, _, _, _, _, _, _, _]) dX9_acceptsSum_197 (Nat.le_of_ble_eq_true rfl) rfl ?_
            refine aw_iconst (pc := 199) dX9_acceptsSum_199 ?_
            refine aw_istore (pc := 200) (lv' := [_, _, _, _, _, _, _, _, _, _, _, _, _, _]) dX9_acceptsSum_200 (Nat.le_of_ble_eq_true rfl) rfl ?_
            have l3 : ∀ (n3 : Nat) (y : Nat), y + n3 = mR m → AW (FM m_X9_acceptsSum (z_P (some (zi (z_bl (z_aRM m (z_g L c))))) 255 I J (z_R π))) 0 0 255 202 [some (zr 237), some (zi (c : Int)), some (zi (27 * (c : Int))), some (zl (cS (z_g L c) 26)), none, some (zi (z_bl (z_a2 m (z_g L c) x ∧ 0 ≤ (cS (z_g L c) (10 + x)) ∧ 0 ≤ (cS (z_g L c) (18 + x))))), some (zl ((z_s1r m (z_g L c) (mR m)) + (z_s2r m (z_g L c) x) + ((cS (z_g L c) (18 + x)) * mhi m x - (cS (z_g L c) (10 + x)) * mlo m x))), none, some (zi (x : Int)), some (zi (cS (z_g L c) (10 + x))), some (zi (cS (z_g L c) (18 + x))), some (zl (z_af m (z_g L c) x y)), none, some (zi (y : Int))] [] I J (z_R π) := by
              intro n3
              induction n3 with
              | zero =>
                intro y he3
                refine aw_iload (pc := 202) dX9_acceptsSum_202 rfl ?_
                refine aw_aload_n (pc := 204) dX9_acceptsSum_204 rfl ?_
                refine aw_getV (pc := 205) (v := (mR m : Int)) dX9_acceptsSum_205 k_fl_X9_72 rfl (by omega) (by first | rfl | exact z_shr _ (by omega) | exact z_shc0 (by omega) | exact z_shc1 (by omega) | exact z_shc2 (by omega) | exact z_shc3 (by omega) | exact z_shc4 (by omega)) (e4) ?_
                refine aw_icmp_ge (pc := 208) (tgt := 247) dX9_acceptsSum_208 rfl (by first | omega | exact z_bl_r _) (by first | omega | exact z_bl_r _) (fun h208 => ?_) (fun h208 => absurd h208 (by omega))
                rw [show y = mR m by omega]
                have hfb := haf x (by omega)
                have hdc := z_mulb (a := (cS (z_g L c) 26)) (b := cF (z_g L c) x) (A := 1000) (B := 1000) (by omega) (hcf x (by omega))
                refine aw_iload (pc := 247) dX9_acceptsSum_247 rfl ?_
                refine aw_if_eq (pc := 249) (tgt := 276) dX9_acceptsSum_249 rfl (z_bl_r _) (fun h249 => ?_) (fun h249 => ?_)
                · refine aw_iconst (pc := 276) dX9_acceptsSum_276 ?_
                  refine aw_istore (pc := 277) (lv' := [_, _, _, _, _, _, _, _, _, _, _, _, _, _]) dX9_acceptsSum_277 (Nat.le_of_ble_eq_true rfl) rfl ?_
                  refine aw_iinc (pc := 279) (lv' := [_, _, _, _, _, _, _, _, _, _, _, _, _, _]) dX9_acceptsSum_279 (Nat.le_of_ble_eq_true rfl) rfl rfl ?_
                  refine aw_goto (pc := 282) (tgt := 101) dX9_acceptsSum_282 rfl ?_
                  have ex : z_bl (z_a2 m (z_g L c) (x + 1)) = 0 := z_bl_f (fun q => z_bl_0.mp h249 ⟨⟨q.1, fun n hn => q.2 n (by omega)⟩, (q.2 x (by omega)).1.1, (q.2 x (by omega)).1.2⟩)
                  have K := ih2 (x + 1) (some (zi (cS (z_g L c) (10 + x)))) (some (zi (cS (z_g L c) (18 + x)))) (some (zl (z_af m (z_g L c) x (mR m)))) (some (zi ((mR m : Nat) : Int))) (by omega)
                  rw [ex, show z_s2r m (z_g L c) (x + 1) = (z_s2r m (z_g L c) x) + ((cS (z_g L c) (18 + x)) * mhi m x - (cS (z_g L c) (10 + x)) * mlo m x) from rfl, ← Int.add_assoc] at K
                  exact K
                · refine aw_lload (pc := 252) dX9_acceptsSum_252 rfl ?_
                  refine aw_lload_n (pc := 254) dX9_acceptsSum_254 rfl ?_
                  refine aw_aload_n (pc := 255) dX9_acceptsSum_255 rfl ?_
                  refine aw_getR (pc := 256) dX9_acceptsSum_256 k_fl_X9_26 rfl (by omega) (by first | rfl | exact z_shr _ (by omega) | exact z_shc0 (by omega) | exact z_shc1 (by omega) | exact z_shc2 (by omega) | exact z_shc3 (by omega) | exact z_shc4 (by omega)) (by first | rfl | exact z_Rc0 _ (by omega) | exact z_Rc1 _ (by omega) | exact z_Rc2 _ (by omega) | exact z_Rc3 _ (by omega)) ?_
                  refine aw_bipush (pc := 259) dX9_acceptsSum_259 rfl ?_
                  refine aw_iload_n (pc := 261) dX9_acceptsSum_261 rfl ?_
                  refine aw_imul (pc := 262) dX9_acceptsSum_262 ?_
                  refine aw_iload (pc := 263) dX9_acceptsSum_263 rfl ?_
                  refine aw_iadd (pc := 265) dX9_acceptsSum_265 ?_
                  refine aw_laloadV (pc := 266) (v := cF (z_g L c) x) dX9_acceptsSum_266 (by omega) (Nat.le_refl _) (by first | rfl | exact z_shr _ (by omega) | exact z_shc0 (by omega) | exact z_shc1 (by omega) | exact z_shc2 (by omega) | exact z_shc3 (by omega) | exact z_shc4 (by omega)) (by omega) (by rw [show ((8 : Int) * (c : Int) + (x : Int)).toNat = 8 * c + x by omega]; exact d1 x (by omega)) ?_
                  refine aw_lmul (pc := 267) dX9_acceptsSum_267 ?_
                  refine aw_lcmp_ne (pc := 268) (tgt := 276) dX9_acceptsSum_268 dX9_acceptsSum_269 rfl (by omega) (by omega) (fun h268 => ?_) (fun h268 => ?_)
                  · refine aw_iconst (pc := 276) dX9_acceptsSum_276 ?_
                    refine aw_istore (pc := 277) (lv' := [_, _, _, _, _, _, _, _, _, _, _, _, _, _]) dX9_acceptsSum_277 (Nat.le_of_ble_eq_true rfl) rfl ?_
                    refine aw_iinc (pc := 279) (lv' := [_, _, _, _, _, _, _, _, _, _, _, _, _, _]) dX9_acceptsSum_279 (Nat.le_of_ble_eq_true rfl) rfl rfl ?_
                    refine aw_goto (pc := 282) (tgt := 101) dX9_acceptsSum_282 rfl ?_
                    have ex : z_bl (z_a2 m (z_g L c) (x + 1)) = 0 := z_bl_f (fun q => h268 (q.2 x (by omega)).2)
                    have K := ih2 (x + 1) (some (zi (cS (z_g L c) (10 + x)))) (some (zi (cS (z_g L c) (18 + x)))) (some (zl (z_af m (z_g L c) x (mR m)))) (some (zi ((mR m : Nat) : Int))) (by omega)
                    rw [ex, show z_s2r m (z_g L c) (x + 1) = (z_s2r m (z_g L c) x) + ((cS (z_g L c) (18 + x)) * mhi m x - (cS (z_g L c) (10 + x)) * mlo m x) from rfl, ← Int.add_assoc] at K
                    exact K
                  · refine aw_iconst (pc := 272) dX9_acceptsSum_272 ?_
                    refine aw_goto (pc := 273) (tgt := 277) dX9_acceptsSum_273 rfl ?_
                    refine aw_istore (pc := 277) (lv' := [_, _, _, _, _, _, _, _, _, _, _, _, _, _]) dX9_acceptsSum_277 (Nat.le_of_ble_eq_true rfl) rfl ?_
                    refine aw_iinc (pc := 279) (lv' := [_, _, _, _, _, _, _, _, _, _, _, _, _, _]) dX9_acceptsSum_279 (Nat.le_of_ble_eq_true rfl) rfl rfl ?_
                    refine aw_goto (pc := 282) (tgt := 101) dX9_acceptsSum_282 rfl ?_
                    have ex : z_bl (z_a2 m (z_g L c) (x + 1)) = 1 := z_bl_t ⟨(z_bl_n.mp h249).1.1, fun n hn => by by_cases e : n = x; (rw [e]; exact ⟨(z_bl_n.mp h249).2, h268⟩); exact (z_bl_n.mp h249).1.2 n (by omega)⟩
                    have K := ih2 (x + 1) (some (zi (cS (z_g L c) (10 + x)))) (some (zi (cS (z_g L c) (18 + x)))) (some (zl (z_af m (z_g L c) x (mR m)))) (some (zi ((mR m : Nat) : Int))) (by omega)
                    rw [ex, show z_s2r m (z_g L c) (x + 1) = (z_s2r m (z_g L c) x) + ((cS (z_g L c) (18 + x)) * mhi m x - (cS (z_g L c) (10 + x)) * mlo m x) from rfl, ← Int.add_assoc] at K
                    exact K
              | succ n3 ih3 =>
                intro y he3
                refine aw_iload (pc := 202) dX9_acceptsSum_202 rfl ?_
                refine aw_aload_n (pc := 204) dX9_acceptsSum_204 rfl ?_
                refine aw_getV (pc := 205) (v := (mR m : Int)) dX9_acceptsSum_205 k_fl_X9_72 rfl (by omega) (by first | rfl | exact z_shr _ (by omega) | exact z_shc0 (by omega) | exact z_shc1 (by omega) | exact z_shc2 (by omega) | exact z_shc3 (by omega) | exact z_shc4 (by omega)) (e4) ?_
                refine aw_icmp_ge (pc := 208) (tgt := 247) dX9_acceptsSum_208 rfl (by first | omega | exact z_bl_r _) (by first | omega | exact z_bl_r _) (fun h208 => absurd h208 (by omega)) (fun h208 => ?_)
                refine aw_lload (pc := 211) dX9_acceptsSum_211 rfl ?_
                refine aw_aload_n (pc := 213) dX9_acceptsSum_213 rfl ?_
                refine aw_getR (pc := 214) dX9_acceptsSum_214 k_fl_X9_38 rfl (by omega) (by first | rfl | exact z_shr _ (by omega) | exact z_shc0 (by omega) | exact z_shc1 (by omega) | exact z_shc2 (by omega) | exact z_shc3 (by omega) | exact z_shc4 (by omega)) (by first | rfl | exact z_Rc0 _ (by omega) | exact z_Rc1 _ (by omega) | exact z_Rc2 _ (by omega) | exact z_Rc3 _ (by omega)) ?_
                refine aw_iload_n (pc := 217) dX9_acceptsSum_217 rfl ?_
                refine aw_iload (pc := 218) dX9_acceptsSum_218 rfl ?_
                refine aw_iadd (pc := 220) dX9_acceptsSum_220 ?_
                refine aw_ialoadV (pc := 221) (v := cS (z_g L c) y) dX9_acceptsSum_221 (by omega) (Nat.le_refl _) (by first | rfl | exact z_shr _ (by omega) | exact z_shc0 (by omega) | exact z_shc1 (by omega) | exact z_shc2 (by omega) | exact z_shc3 (by omega) | exact z_shc4 (by omega)) (by omega) (by rw [show ((27 : Int) * (c : Int) + (y : Int)).toNat = 27 * c + y by omega]; exact a1 y (by omega)) ?_
                refine aw_i2l (pc := 222) dX9_acceptsSum_222 (by have := hsb y (by omega); omega) ?_
                refine aw_aload_n (pc := 223) dX9_acceptsSum_223 rfl ?_
                refine aw_getR (pc := 224) dX9_acceptsSum_224 k_fl_X9_23 rfl (by omega) (by first | rfl | exact z_shr _ (by omega) | exact z_shc0 (by omega) | exact z_shc1 (by omega) | exact z_shc2 (by omega) | exact z_shc3 (by omega) | exact z_shc4 (by omega)) (by first | rfl | exact z_Rc0 _ (by omega) | exact z_Rc1 _ (by omega) | exact z_Rc2 _ (by omega) | exact z_Rc3 _ (by omega)) ?_
                refine aw_bipush (pc := 227) dX9_acceptsSum_227 rfl ?_
                refine aw_iload (pc := 229) dX9_acceptsSum_229 rfl ?_
                refine aw_imul (pc := 231) dX9_acceptsSum_231 ?_
                refine aw_iload (pc := 232) dX9_acceptsSum_232 rfl ?_
                refine aw_iadd (pc := 234) dX9_acceptsSum_234 ?_
                refine aw_ialoadV (pc := 235) (v := mF m y x) dX9_acceptsSum_235 (by omega) (Nat.le_refl _) (by first | rfl | exact z_shr _ (by omega) | exact z_shc0 (by omega) | exact z_shc1 (by omega) | exact z_shc2 (by omega) | exact z_shc3 (by omega) | exact z_shc4 (by omega)) (by omega) (by rw [show ((8 : Int) * (y : Int) + (x : Int)).toNat = 8 * y + x by omega]; exact eF y x (by omega) (by omega)) ?_
                refine aw_i2l (pc := 236) dX9_acceptsSum_236 (by have := hmb.2.2.2.2.1 y x; omega) ?_
                refine aw_lmul (pc := 237) dX9_acceptsSum_237 ?_
                refine aw_ladd (pc := 238) dX9_acceptsSum_238 ?_
                refine aw_lstore (pc := 239) (lv' := [_, _, _, _, _, _, _, _, _, _, _, _, _, _]) dX9_acceptsSum_239 (Nat.le_of_ble_eq_true rfl) rfl ?_
                refine aw_iinc (pc := 241) (lv' := [_, _, _, _, _, _, _, _, _, _, _, _, _, _]) dX9_acceptsSum_241 (Nat.le_of_ble_eq_true rfl) rfl rfl ?_
                refine aw_goto (pc := 244) (tgt := 202) dX9_acceptsSum_244 rfl ?_
                have K := ih3 (y + 1) (by omega)
                rw [show z_af m (z_g L c) x (y + 1) = z_af m (z_g L c) x y + cS (z_g L c) y * mF m y x from (Int.add_assoc _ _ _).symm] at K
                exact K
            have K := l3 (mR m) 0 (by omega)
            rw [show z_bl (z_a2 m (z_g L c) x ∧ 0 ≤ (cS (z_g L c) (10 + x)) ∧ 0 ≤ (cS (z_g L c) (18 + x))) = 0 from z_bl_f (fun q => by have := q.2; omega), show z_af m (z_g L c) x 0 = (cS (z_g L c) (18 + x)) - (cS (z_g L c) (10 + x)) from Int.add_zero _] at K
            exact K
          · refine aw_iconst (pc := 153) dX9_acceptsSum_153 ?_
            refine aw_goto (pc := 154) (tgt := 158) dX9_acceptsSum_154 rfl ?_
            refine aw_istore (pc := 158) (lv' := [_, _, _, _, _, _, _, _, _, _, _, _, _, _]) dX9_acceptsSum_158 (Nat.le_of_ble_eq_true rfl) rfl ?_
            refine aw_lload (pc := 160) dX9_acceptsSum_160 rfl ?_
            refine aw_iload (pc := 162) dX9_acceptsSum_162 rfl ?_
            refine aw_i2l (pc := 164) dX9_acceptsSum_164 (by omega) ?_
            refine aw_aload_n (pc := 165) dX9_acceptsSum_165 rfl ?_
            refine aw_getR (pc := 166) dX9_acceptsSum_166 k_fl_X9_13 rfl (by omega) (by first | rfl | exact z_shr _ (by omega) | exact z_shc0 (by omega) | exact z_shc1 (by omega) | exact z_shc2 (by omega) | exact z_shc3 (by omega) | exact z_shc4 (by omega)) (by first | rfl | exact z_Rc0 _ (by omega) | exact z_Rc1 _ (by omega) | exact z_Rc2 _ (by omega) | exact z_Rc3 _ (by omega)) ?_
            refine aw_iload (pc := 169) dX9_acceptsSum_169 rfl ?_
            refine aw_ialoadV (pc := 171) (v := mhi m x) dX9_acceptsSum_171 (by omega) (Nat.le_refl _) (by first | rfl | exact z_shr _ (by omega) | exact z_shc0 (by omega) | exact z_shc1 (by omega) | exact z_shc2 (by omega) | exact z_shc3 (by omega) | exact z_shc4 (by omega)) (by first | omega | exact z_bl_r _) (ehi x (by omega)) ?_
            refine aw_i2l (pc := 172) dX9_acceptsSum_172 (by have := hmb.2.2.2.1 x; omega) ?_
            refine aw_lmul (pc := 173) dX9_acceptsSum_173 ?_
            refine aw_iload (pc := 174) dX9_acceptsSum_174 rfl ?_
            refine aw_i2l (pc := 176) dX9_acceptsSum_176 (by omega) ?_
            refine aw_aload_n (pc := 177) dX9_acceptsSum_177 rfl ?_
            refine aw_getR (pc := 178) dX9_acceptsSum_178 k_fl_X9_7 rfl (by omega) (by first | rfl | exact z_shr _ (by omega) | exact z_shc0 (by omega) | exact z_shc1 (by omega) | exact z_shc2 (by omega) | exact z_shc3 (by omega) | exact z_shc4 (by omega)) (by first | rfl | exact z_Rc0 _ (by omega) | exact z_Rc1 _ (by omega) | exact z_Rc2 _ (by omega) | exact z_Rc3 _ (by omega)) ?_
            refine aw_iload (pc := 181) dX9_acceptsSum_181 rfl ?_
            refine aw_ialoadV (pc := 183) (v := mlo m x) dX9_acceptsSum_183 (by omega) (Nat.le_refl _) (by first | rfl | exact z_shr _ (by omega) | exact z_shc0 (by omega) | exact z_shc1 (by omega) | exact z_shc2 (by omega) | exact z_shc3 (by omega) | exact z_shc4 (by omega)) (by first | omega | exact z_bl_r _) (elo x (by omega)) ?_
            refine aw_i2l (pc := 184) dX9_acceptsSum_184 (by have := hmb.2.2.1 x; omega) ?_
            refine aw_lmul (pc := 185) dX9_acceptsSum_185 ?_
            refine aw_lsub (pc := 186) dX9_acceptsSum_186 ?_
            refine aw_ladd (pc := 187) dX9_acceptsSum_187 ?_
            refine aw_lstore (pc := 188) (lv' := [_, _, _, _, _, _, _, _, _, _, _, _, _, _]) dX9_acceptsSum_188 (Nat.le_of_ble_eq_true rfl) rfl ?_
            refine aw_iload (pc := 190) dX9_acceptsSum_190 rfl ?_
            refine aw_i2l (pc := 192) dX9_acceptsSum_192 (by omega) ?_
            refine aw_iload (pc := 193) dX9_acceptsSum_193 rfl ?_
            refine aw_i2l (pc := 195) dX9_acceptsSum_195 (by omega) ?_
            refine aw_lsub (pc := 196) dX9_acceptsSum_196 ?_
            refine aw_lstore (pc := 197) (lv' := [_, _, _, _, _, _, _, _, _, _, _, _, _, _]) dX9_acceptsSum_197 (Nat.le_of_ble_eq_true rfl) rfl ?_
            refine aw_iconst (pc := 199) dX9_acceptsSum_199 ?_
            refine aw_istore (pc := 200) (lv' := [_, _, _, _, _, _, _, _, _, _, _, _, _, _]) dX9_acceptsSum_200 (Nat.le_of_ble_eq_true rfl) rfl ?_
            have l3 : ∀ (n3 : Nat) (y : Nat), y + n3 = mR m → AW (FM m_X9_acceptsSum (z_P (some (zi (z_bl (z_aRM m (z_g L c))))) 255 I J (z_R π))) 0 0 255 202 [some (zr 237), some (zi (c : Int)), some (zi (27 * (c : Int))), some (zl (cS (z_g L c) 26)), none, some (zi (z_bl (z_a2 m (z_g L c) x ∧ 0 ≤ (cS (z_g L c) (10 + x)) ∧ 0 ≤ (cS (z_g L c) (18 + x))))), some (zl ((z_s1r m (z_g L c) (mR m)) + (z_s2r m (z_g L c) x) + ((cS (z_g L c) (18 + x)) * mhi m x - (cS (z_g L c) (10 + x)) * mlo m x))), none, some (zi (x : Int)), some (zi (cS (z_g L c) (10 + x))), some (zi (cS (z_g L c) (18 + x))), some (zl (z_af m (z_g L c) x y)), none, some (zi (y : Int))] [] I J (z_R π) := by
              intro n3
              induction n3 with
              | zero =>
                intro y he3
                refine aw_iload (pc := 202) dX9_acceptsSum_202 rfl ?_
                refine aw_aload_n (pc := 204) dX9_acceptsSum_204 rfl ?_
                refine aw_getV (pc := 205) (v := (mR m : Int)) dX9_acceptsSum_205 k_fl_X9_72 rfl (by omega) (by first | rfl | exact z_shr _ (by omega) | exact z_shc0 (by omega) | exact z_shc1 (by omega) | exact z_shc2 (by omega) | exact z_shc3 (by omega) | exact z_shc4 (by omega)) (e4) ?_
                refine aw_icmp_ge (pc := 208) (tgt := 247) dX9_acceptsSum_208 rfl (by first | omega | exact z_bl_r _) (by first | omega | exact z_bl_r _) (fun h208 => ?_) (fun h208 => absurd h208 (by omega))
                rw [show y = mR m by omega]
                have hfb := haf x (by omega)
                have hdc := z_mulb (a := (cS (z_g L c) 26)) (b := cF (z_g L c) x) (A := 1000) (B := 1000) (by omega) (hcf x (by omega))
                refine aw_iload (pc := 247) dX9_acceptsSum_247 rfl ?_
                refine aw_if_eq (pc := 249) (tgt := 276) dX9_acceptsSum_249 rfl (z_bl_r _) (fun h249 => ?_) (fun h249 => ?_)
                · refine aw_iconst (pc := 276) dX9_acceptsSum_276 ?_
                  refine aw_istore (pc := 277) (lv' := [_, _, _, _, _, _, _, _, _, _, _, _, _, _]) dX9_acceptsSum_277 (Nat.le_of_ble_eq_true rfl) rfl ?_
                  refine aw_iinc (pc := 279) (lv' := [_, _, _, _, _, _, _, _, _, _, _, _, _, _]) dX9_acceptsSum_279 (Nat.le_of_ble_eq_true rfl) rfl rfl ?_
                  refine aw_goto (pc := 282) (tgt := 101) dX9_acceptsSum_282 rfl ?_
                  have ex : z_bl (z_a2 m (z_g L c) (x + 1)) = 0 := z_bl_f (fun q => z_bl_0.mp h249 ⟨⟨q.1, fun n hn => q.2 n (by omega)⟩, (q.2 x (by omega)).1.1, (q.2 x (by omega)).1.2⟩)
                  have K := ih2 (x + 1) (some (zi (cS (z_g L c) (10 + x)))) (some (zi (cS (z_g L c) (18 + x)))) (some (zl (z_af m (z_g L c) x (mR m)))) (some (zi ((mR m : Nat) : Int))) (by omega)
                  rw [ex, show z_s2r m (z_g L c) (x + 1) = (z_s2r m (z_g L c) x) + ((cS (z_g L c) (18 + x)) * mhi m x - (cS (z_g L c) (10 + x)) * mlo m x) from rfl, ← Int.add_assoc] at K
                  exact K
                · refine aw_lload (pc := 252) dX9_acceptsSum_252 rfl ?_
                  refine aw_lload_n (pc := 254) dX9_acceptsSum_254 rfl ?_
                  refine aw_aload_n (pc := 255) dX9_acceptsSum_255 rfl ?_
                  refine aw_getR (pc := 256) dX9_acceptsSum_256 k_fl_X9_26 rfl (by omega) (by first | rfl | exact z_shr _ (by omega) | exact z_shc0 (by omega) | exact z_shc1 (by omega) | exact z_shc2 (by omega) | exact z_shc3 (by omega) | exact z_shc4 (by omega)) (by first | rfl | exact z_Rc0 _ (by omega) | exact z_Rc1 _ (by omega) | exact z_Rc2 _ (by omega) | exact z_Rc3 _ (by omega)) ?_
                  refine aw_bipush (pc := 259) dX9_acceptsSum_259 rfl ?_
                  refine aw_iload_n (pc := 261) dX9_acceptsSum_261 rfl ?_
                  refine aw_imul (pc := 262) dX9_acceptsSum_262 ?_
                  refine aw_iload (pc := 263) dX9_acceptsSum_263 rfl ?_
                  refine aw_iadd (pc := 265) dX9_acceptsSum_265 ?_
                  refine aw_laloadV (pc := 266) (v := cF (z_g L c) x) dX9_acceptsSum_266 (by omega) (Nat.le_refl _) (by first | rfl | exact z_shr _ (by omega) | exact z_shc0 (by omega) | exact z_shc1 (by omega) | exact z_shc2 (by omega) | exact z_shc3 (by omega) | exact z_shc4 (by omega)) (by omega) (by rw [show ((8 : Int) * (c : Int) + (x : Int)).toNat = 8 * c + x by omega]; exact d1 x (by omega)) ?_
                  refine aw_lmul (pc := 267) dX9_acceptsSum_267 ?_
                  refine aw_lcmp_ne (pc := 268) (tgt := 276) dX9_acceptsSum_268 dX9_acceptsSum_269 rfl (by omega) (by omega) (fun h268 => ?_) (fun h268 => ?_)
                  · refine aw_iconst (pc := 276) dX9_acceptsSum_276 ?_
                    refine aw_istore (pc := 277) (lv' := [_, _, _, _, _, _, _, _, _, _, _, _, _, _]) dX9_acceptsSum_277 (Nat.le_of_ble_eq_true rfl) rfl ?_
                    refine aw_iinc (pc := 279) (lv' := [_, _, _, _, _, _, _, _, _, _, _, _, _, _]) dX9_acceptsSum_279 (Nat.le_of_ble_eq_true rfl) rfl rfl ?_
                    refine aw_goto (pc := 282) (tgt := 101) dX9_acceptsSum_282 rfl ?_
                    have ex : z_bl (z_a2 m (z_g L c) (x + 1)) = 0 := z_bl_f (fun q => h268 (q.2 x (by omega)).2)
                    have K := ih2 (x + 1) (some (zi (cS (z_g L c) (10 + x)))) (some (zi (cS (z_g L c) (18 + x)))) (some (zl (z_af m (z_g L c) x (mR m)))) (some (zi ((mR m : Nat) : Int))) (by omega)
                    rw [ex, show z_s2r m (z_g L c) (x + 1) = (z_s2r m (z_g L c) x) + ((cS (z_g L c) (18 + x)) * mhi m x - (cS (z_g L c) (10 + x)) * mlo m x) from rfl, ← Int.add_assoc] at K
                    exact K
                  · refine aw_iconst (pc := 272) dX9_acceptsSum_272 ?_
                    refine aw_goto (pc := 273) (tgt := 277) dX9_acceptsSum_273 rfl ?_
                    refine aw_istore (pc := 277) (lv' := [_, _, _, _, _, _, _, _, _, _, _, _, _, _]) dX9_acceptsSum_277 (Nat.le_of_ble_eq_true rfl) rfl ?_
                    refine aw_iinc (pc := 279) (lv' := [_, _, _, _, _, _, _, _, _, _, _, _, _, _]) dX9_acceptsSum_279 (Nat.le_of_ble_eq_true rfl) rfl rfl ?_
                    refine aw_goto (pc := 282) (tgt := 101) dX9_acceptsSum_282 rfl ?_
                    have ex : z_bl (z_a2 m (z_g L c) (x + 1)) = 1 := z_bl_t ⟨(z_bl_n.mp h249).1.1, fun n hn => by by_cases e : n = x; (rw [e]; exact ⟨(z_bl_n.mp h249).2, h268⟩); exact (z_bl_n.mp h249).1.2 n (by omega)⟩
                    have K := ih2 (x + 1) (some (zi (cS (z_g L c) (10 + x)))) (some (zi (cS (z_g L c) (18 + x)))) (some (zl (z_af m (z_g L c) x (mR m)))) (some (zi ((mR m : Nat) : Int))) (by omega)
                    rw [ex, show z_s2r m (z_g L c) (x + 1) = (z_s2r m (z_g L c) x) + ((cS (z_g L c) (18 + x)) * mhi m x - (cS (z_g L c) (10 + x)) * mlo m x) from rfl, ← Int.add_assoc] at K
                    exact K
              | succ n3 ih3 =>
                intro y he3
                refine aw_iload (pc := 202) dX9_acceptsSum_202 rfl ?_
                refine aw_aload_n (pc := 204) dX9_acceptsSum_204 rfl ?_
                refine aw_getV (pc := 205) (v := (mR m : Int)) dX9_acceptsSum_205 k_fl_X9_72 rfl (by omega) (by first | rfl | exact z_shr _ (by omega) | exact z_shc0 (by omega) | exact z_shc1 (by omega) | exact z_shc2 (by omega) | exact z_shc3 (by omega) | exact z_shc4 (by omega)) (e4) ?_
                refine aw_icmp_ge (pc := 208) (tgt := 247) dX9_acceptsSum_208 rfl (by first | omega | exact z_bl_r _) (by first | omega | exact z_bl_r _) (fun h208 => absurd h208 (by omega)) (fun h208 => ?_)
                refine aw_lload (pc := 211) dX9_acceptsSum_211 rfl ?_
                refine aw_aload_n (pc := 213) dX9_acceptsSum_213 rfl ?_
                refine aw_getR (pc := 214) dX9_acceptsSum_214 k_fl_X9_38 rfl (by omega) (by first | rfl | exact z_shr _ (by omega) | exact z_shc0 (by omega) | exact z_shc1 (by omega) | exact z_shc2 (by omega) | exact z_shc3 (by omega) | exact z_shc4 (by omega)) (by first | rfl | exact z_Rc0 _ (by omega) | exact z_Rc1 _ (by omega) | exact z_Rc2 _ (by omega) | exact z_Rc3 _ (by omega)) ?_
                refine aw_iload_n (pc := 217) dX9_acceptsSum_217 rfl ?_
                refine aw_iload (pc := 218) dX9_acceptsSum_218 rfl ?_
                refine aw_iadd (pc := 220) dX9_acceptsSum_220 ?_
                refine aw_ialoadV (pc := 221) (v := cS (z_g L c) y) dX9_acceptsSum_221 (by omega) (Nat.le_refl _) (by first | rfl | exact z_shr _ (by omega) | exact z_shc0 (by omega) | exact z_shc1 (by omega) | exact z_shc2 (by omega) | exact z_shc3 (by omega) | exact z_shc4 (by omega)) (by omega) (by rw [show ((27 : Int) * (c : Int) + (y : Int)).toNat = 27 * c + y by omega]; exact a1 y (by omega)) ?_
                refine aw_i2l (pc := 222) dX9_acceptsSum_222 (by have := hsb y (by omega); omega) ?_
                refine aw_aload_n (pc := 223) dX9_acceptsSum_223 rfl ?_
                refine aw_getR (pc := 224) dX9_acceptsSum_224 k_fl_X9_23 rfl (by omega) (by first | rfl | exact z_shr _ (by omega) | exact z_shc0 (by omega) | exact z_shc1 (by omega) | exact z_shc2 (by omega) | exact z_shc3 (by omega) | exact z_shc4 (by omega)) (by first | rfl | exact z_Rc0 _ (by omega) | exact z_Rc1 _ (by omega) | exact z_Rc2 _ (by omega) | exact z_Rc3 _ (by omega)) ?_
                refine aw_bipush (pc := 227) dX9_acceptsSum_227 rfl ?_
                refine aw_iload (pc := 229) dX9_acceptsSum_229 rfl ?_
                refine aw_imul (pc := 231) dX9_acceptsSum_231 ?_
                refine aw_iload (pc := 232) dX9_acceptsSum_232 rfl ?_
                refine aw_iadd (pc := 234) dX9_acceptsSum_234 ?_
                refine aw_ialoadV (pc := 235) (v := mF m y x) dX9_acceptsSum_235 (by omega) (Nat.le_refl _) (by first | rfl | exact z_shr _ (by omega) | exact z_shc0 (by omega) | exact z_shc1 (by omega) | exact z_shc2 (by omega) | exact z_shc3 (by omega) | exact z_shc4 (by omega)) (by omega) (by rw [show ((8 : Int) * (y : Int) + (x : Int)).toNat = 8 * y + x by omega]; exact eF y x (by omega) (by omega)) ?_
                refine aw_i2l (pc := 236) dX9_acceptsSum_236 (by have := hmb.2.2.2.2.1 y x; omega) ?_
                refine aw_lmul (pc := 237) dX9_acceptsSum_237 ?_
                refine aw_ladd (pc := 238) dX9_acceptsSum_238 ?_
                refine aw_lstore (pc := 239) (lv' := [_, _, _, _, _, _, _, _, _, _, _, _, _, _]) dX9_acceptsSum_239 (Nat.le_of_ble_eq_true rfl) rfl ?_
                refine aw_iinc (pc := 241) (lv' := [_, _, _, _, _, _, _, _, _, _, _, _, _, _]) dX9_acceptsSum_241 (Nat.le_of_ble_eq_true rfl) rfl rfl ?_
                refine aw_goto (pc := 244) (tgt := 202) dX9_acceptsSum_244 rfl ?_
                have K := ih3 (y + 1) (by omega)
                rw [show z_af m (z_g L c) x (y + 1) = z_af m (z_g L c) x y + cS (z_g L c) y * mF m y x from (Int.add_assoc _ _ _).symm] at K
                exact K
            have K := l3 (mR m) 0 (by omega)
            rw [show z_bl (z_a2 m (z_g L c) x ∧ 0 ≤ (cS (z_g L c) (10 + x)) ∧ 0 ≤ (cS (z_g L c) (18 + x))) = 1 from z_bl_t ⟨z_bl_n.mp h140, by omega, by omega⟩, show z_af m (z_g L c) x 0 = (cS (z_g L c) (18 + x)) - (cS (z_g L c) (10 + x)) from Int.add_zero _] at K
            exact K
  have l1 : ∀ (n1 : Nat) (x : Nat), x + n1 = mR m → AW (FM m_X9_acceptsSum (z_P (some (zi (z_bl (z_aRM m (z_g L c))))) 255 I J (z_R π))) 0 0 255 35 [some (zr 237), some (zi (c : Int)), some (zi (27 * (c : Int))), some (zl (cS (z_g L c) 26)), none, some (zi (z_bl (z_a1 (z_g L c) x))), some (zl (z_s1r m (z_g L c) x)), none, some (zi (x : Int)), none, none, none, none, none] [] I J (z_R π) := by
    intro n1
    induction n1 with
    | zero =>
      intro x he1
      refine aw_iload (pc := 35) dX9_acceptsSum_35 rfl ?_
      refine aw_aload_n (pc := 37) dX9_acceptsSum_37 rfl ?_
      refine aw_getV (pc := 38) (v := (mR m : Int)) dX9_acceptsSum_38 k_fl_X9_72 rfl (by omega) (by first | rfl | exact z_shr _ (by omega) | exact z_shc0 (by omega) | exact z_shc1 (by omega) | exact z_shc2 (by omega) | exact z_shc3 (by omega) | exact z_shc4 (by omega)) (e4) ?_
      refine aw_icmp_ge (pc := 41) (tgt := 98) dX9_acceptsSum_41 rfl (by first | omega | exact z_bl_r _) (by first | omega | exact z_bl_r _) (fun h41 => ?_) (fun h41 => absurd h41 (by omega))
      refine aw_iconst (pc := 98) dX9_acceptsSum_98 ?_
      refine aw_istore (pc := 99) (lv' := [_, _, _, _, _, _, _, _, _, _, _, _, _, _]) dX9_acceptsSum_99 (Nat.le_of_ble_eq_true rfl) rfl ?_
      have ex : x = mR m := by omega
      subst ex
      have K := l2 (mN m) 0 none none none none (by omega)
      rw [show z_bl (z_a2 m (z_g L c) 0) = z_bl (z_a1 (z_g L c) (mR m)) from z_bl_c ⟨fun q => q.1, fun q => ⟨q, fun n hn => absurd hn (by omega)⟩⟩, show (z_s1r m (z_g L c) (mR m)) + (z_s2r m (z_g L c) 0) = (z_s1r m (z_g L c) (mR m)) from Int.add_zero _] at K
      exact K
    | succ n1 ih1 =>
      intro x he1
      refine aw_iload (pc := 35) dX9_acceptsSum_35 rfl ?_
      refine aw_aload_n (pc := 37) dX9_acceptsSum_37 rfl ?_
      refine aw_getV (pc := 38) (v := (mR m : Int)) dX9_acceptsSum_38 k_fl_X9_72 rfl (by omega) (by first | rfl | exact z_shr _ (by omega) | exact z_shc0 (by omega) | exact z_shc1 (by omega) | exact z_shc2 (by omega) | exact z_shc3 (by omega) | exact z_shc4 (by omega)) (e4) ?_
      refine aw_icmp_ge (pc := 41) (tgt := 98) dX9_acceptsSum_41 rfl (by first | omega | exact z_bl_r _) (by first | omega | exact z_bl_r _) (fun h41 => absurd h41 (by omega)) (fun h41 => ?_)
      have l1 := hsb2 x (a1 x (by omega))
      refine aw_iload (pc := 44) dX9_acceptsSum_44 rfl ?_
      refine aw_if_eq (pc := 46) (tgt := 65) dX9_acceptsSum_46 rfl (z_bl_r _) (fun h46 => ?_) (fun h46 => ?_)
      · refine aw_iconst (pc := 65) dX9_acceptsSum_65 ?_
        refine aw_istore (pc := 66) (lv' := [_, _, _, _, _, _, _, _, _, _, _, _, _, _]) dX9_acceptsSum_66 (Nat.le_of_ble_eq_true rfl) rfl ?_
        refine aw_lload (pc := 68) dX9_acceptsSum_68 rfl ?_
        refine aw_aload_n (pc := 70) dX9_acceptsSum_70 rfl ?_
        refine aw_getR (pc := 71) dX9_acceptsSum_71 k_fl_X9_38 rfl (by omega) (by first | rfl | exact z_shr _ (by omega) | exact z_shc0 (by omega) | exact z_shc1 (by omega) | exact z_shc2 (by omega) | exact z_shc3 (by omega) | exact z_shc4 (by omega)) (by first | rfl | exact z_Rc0 _ (by omega) | exact z_Rc1 _ (by omega) | exact z_Rc2 _ (by omega) | exact z_Rc3 _ (by omega)) ?_
        refine aw_iload_n (pc := 74) dX9_acceptsSum_74 rfl ?_
        refine aw_iload (pc := 75) dX9_acceptsSum_75 rfl ?_
        refine aw_iadd (pc := 77) dX9_acceptsSum_77 ?_
        refine aw_ialoadV (pc := 78) (v := cS (z_g L c) x) dX9_acceptsSum_78 (by omega) (Nat.le_refl _) (by first | rfl | exact z_shr _ (by omega) | exact z_shc0 (by omega) | exact z_shc1 (by omega) | exact z_shc2 (by omega) | exact z_shc3 (by omega) | exact z_shc4 (by omega)) (by omega) (by rw [show ((27 : Int) * (c : Int) + (x : Int)).toNat = 27 * c + x by omega]; exact a1 x (by omega)) ?_
        refine aw_i2l (pc := 79) dX9_acceptsSum_79 (by omega) ?_
        refine aw_aload_n (pc := 80) dX9_acceptsSum_80 rfl ?_
        refine aw_getR (pc := 81) dX9_acceptsSum_81 k_fl_X9_20 rfl (by omega) (by first | rfl | exact z_shr _ (by omega) | exact z_shc0 (by omega) | exact z_shc1 (by omega) | exact z_shc2 (by omega) | exact z_shc3 (by omega) | exact z_shc4 (by omega)) (by first | rfl | exact z_Rc0 _ (by omega) | exact z_Rc1 _ (by omega) | exact z_Rc2 _ (by omega) | exact z_Rc3 _ (by omega)) ?_
        refine aw_iload (pc := 84) dX9_acceptsSum_84 rfl ?_
        refine aw_ialoadV (pc := 86) (v := mrt m x) dX9_acceptsSum_86 (by omega) (Nat.le_refl _) (by first | rfl | exact z_shr _ (by omega) | exact z_shc0 (by omega) | exact z_shc1 (by omega) | exact z_shc2 (by omega) | exact z_shc3 (by omega) | exact z_shc4 (by omega)) (by first | omega | exact z_bl_r _) (ert x (by omega)) ?_
        refine aw_i2l (pc := 87) dX9_acceptsSum_87 (by have := hmb.2.2.2.2.2 x; omega) ?_
        refine aw_lmul (pc := 88) dX9_acceptsSum_88 ?_
        refine aw_ladd (pc := 89) dX9_acceptsSum_89 ?_
        refine aw_lstore (pc := 90) (lv' := [_, _, _, _, _, _, _, _, _, _, _, _, _, _]) dX9_acceptsSum_90 (Nat.le_of_ble_eq_true rfl) rfl ?_
        refine aw_iinc (pc := 92) (lv' := [_, _, _, _, _, _, _, _, _, _, _, _, _, _]) dX9_acceptsSum_92 (Nat.le_of_ble_eq_true rfl) rfl rfl ?_
        refine aw_goto (pc := 95) (tgt := 35) dX9_acceptsSum_95 rfl ?_
        have K := ih1 (x + 1) (by omega)
        rw [show z_bl (z_a1 (z_g L c) (x + 1)) = 0 from z_bl_f (fun q => z_bl_0.mp h46 ⟨q.1, fun r hr => q.2 r (by omega)⟩), show z_s1r m (z_g L c) (x + 1) = (z_s1r m (z_g L c) x) + cS (z_g L c) x * mrt m x from rfl] at K
        exact K
      · refine aw_aload_n (pc := 49) dX9_acceptsSum_49 rfl ?_
        refine aw_getR (pc := 50) dX9_acceptsSum_50 k_fl_X9_38 rfl (by omega) (by first | rfl | exact z_shr _ (by omega) | exact z_shc0 (by omega) | exact z_shc1 (by omega) | exact z_shc2 (by omega) | exact z_shc3 (by omega) | exact z_shc4 (by omega)) (by first | rfl | exact z_Rc0 _ (by omega) | exact z_Rc1 _ (by omega) | exact z_Rc2 _ (by omega) | exact z_Rc3 _ (by omega)) ?_
        refine aw_iload_n (pc := 53) dX9_acceptsSum_53 rfl ?_
        refine aw_iload (pc := 54) dX9_acceptsSum_54 rfl ?_
        refine aw_iadd (pc := 56) dX9_acceptsSum_56 ?_
        refine aw_ialoadV (pc := 57) (v := cS (z_g L c) x) dX9_acceptsSum_57 (by omega) (Nat.le_refl _) (by first | rfl | exact z_shr _ (by omega) | exact z_shc0 (by omega) | exact z_shc1 (by omega) | exact z_shc2 (by omega) | exact z_shc3 (by omega) | exact z_shc4 (by omega)) (by omega) (by rw [show ((27 : Int) * (c : Int) + (x : Int)).toNat = 27 * c + x by omega]; exact a1 x (by omega)) ?_
        refine aw_if_lt (pc := 58) (tgt := 65) dX9_acceptsSum_58 rfl (by omega) (fun h58 => ?_) (fun h58 => ?_)
        · refine aw_iconst (pc := 65) dX9_acceptsSum_65 ?_
          refine aw_istore (pc := 66) (lv' := [_, _, _, _, _, _, _, _, _, _, _, _, _, _]) dX9_acceptsSum_66 (Nat.le_of_ble_eq_true rfl) rfl ?_
          refine aw_lload (pc := 68) dX9_acceptsSum_68 rfl ?_
          refine aw_aload_n (pc := 70) dX9_acceptsSum_70 rfl ?_
          refine aw_getR (pc := 71) dX9_acceptsSum_71 k_fl_X9_38 rfl (by omega) (by first | rfl | exact z_shr _ (by omega) | exact z_shc0 (by omega) | exact z_shc1 (by omega) | exact z_shc2 (by omega) | exact z_shc3 (by omega) | exact z_shc4 (by omega)) (by first | rfl | exact z_Rc0 _ (by omega) | exact z_Rc1 _ (by omega) | exact z_Rc2 _ (by omega) | exact z_Rc3 _ (by omega)) ?_
          refine aw_iload_n (pc := 74) dX9_acceptsSum_74 rfl ?_
          refine aw_iload (pc := 75) dX9_acceptsSum_75 rfl ?_
          refine aw_iadd (pc := 77) dX9_acceptsSum_77 ?_
          refine aw_ialoadV (pc := 78) (v := cS (z_g L c) x) dX9_acceptsSum_78 (by omega) (Nat.le_refl _) (by first | rfl | exact z_shr _ (by omega) | exact z_shc0 (by omega) | exact z_shc1 (by omega) | exact z_shc2 (by omega) | exact z_shc3 (by omega) | exact z_shc4 (by omega)) (by omega) (by rw [show ((27 : Int) * (c : Int) + (x : Int)).toNat = 27 * c + x by omega]; exact a1 x (by omega)) ?_
          refine aw_i2l (pc := 79) dX9_acceptsSum_79 (by omega) ?_
          refine aw_aload_n (pc := 80) dX9_acceptsSum_80 rfl ?_
          refine aw_getR (pc := 81) dX9_acceptsSum_81 k_fl_X9_20 rfl (by omega) (by first | rfl | exact z_shr _ (by omega) | exact z_shc0 (by omega) | exact z_shc1 (by omega) | exact z_shc2 (by omega) | exact z_shc3 (by omega) | exact z_shc4 (by omega)) (by first | rfl | exact z_Rc0 _ (by omega) | exact z_Rc1 _ (by omega) | exact z_Rc2 _ (by omega) | exact z_Rc3 _ (by omega)) ?_
          refine aw_iload (pc := 84) dX9_acceptsSum_84 rfl ?_
          refine aw_ialoadV (pc := 86) (v := mrt m x) dX9_acceptsSum_86 (by omega) (Nat.le_refl _) (by first | rfl | exact z_shr _ (by omega) | exact z_shc0 (by omega) | exact z_shc1 (by omega) | exact z_shc2 (by omega) | exact z_shc3 (by omega) | exact z_shc4 (by omega)) (by first | omega | exact z_bl_r _) (ert x (by omega)) ?_
          refine aw_i2l (pc := 87) dX9_acceptsSum_87 (by have := hmb.2.2.2.2.2 x; omega) ?_
          refine aw_lmul (pc := 88) dX9_acceptsSum_88 ?_
          refine aw_ladd (pc := 89) dX9_acceptsSum_89 ?_
          refine aw_lstore (pc := 90) (lv' := [_, _, _, _, _, _, _, _, _, _, _, _, _, _]) dX9_acceptsSum_90 (Nat.le_of_ble_eq_true rfl) rfl ?_
          refine aw_iinc (pc := 92) (lv' := [_, _, _, _, _, _, _, _, _, _, _, _, _, _]) dX9_acceptsSum_92 (Nat.le_of_ble_eq_true rfl) rfl rfl ?_
          refine aw_goto (pc := 95) (tgt := 35) dX9_acceptsSum_95 rfl ?_
          have K := ih1 (x + 1) (by omega)
          rw [show z_bl (z_a1 (z_g L c) (x + 1)) = 0 from z_bl_f (fun q => by have := q.2 x (by omega); omega), show z_s1r m (z_g L c) (x + 1) = (z_s1r m (z_g L c) x) + cS (z_g L c) x * mrt m x from rfl] at K
          exact K
        · refine aw_iconst (pc := 61) dX9_acceptsSum_61 ?_
          refine aw_goto (pc := 62) (tgt := 66) dX9_acceptsSum_62 rfl ?_
          refine aw_istore (pc := 66) (lv' := [_, _, _, _, _, _, _, _, _, _, _, _, _, _]) dX9_acceptsSum_66 (Nat.le_of_ble_eq_true rfl) rfl ?_
          refine aw_lload (pc := 68) dX9_acceptsSum_68 rfl ?_
          refine aw_aload_n (pc := 70) dX9_acceptsSum_70 rfl ?_
          refine aw_getR (pc := 71) dX9_acceptsSum_71 k_fl_X9_38 rfl (by omega) (by first | rfl | exact z_shr _ (by omega) | exact z_shc0 (by omega) | exact z_shc1 (by omega) | exact z_shc2 (by omega) | exact z_shc3 (by omega) | exact z_shc4 (by omega)) (by first | rfl | exact z_Rc0 _ (by omega) | exact z_Rc1 _ (by omega) | exact z_Rc2 _ (by omega) | exact z_Rc3 _ (by omega)) ?_
          refine aw_iload_n (pc := 74) dX9_acceptsSum_74 rfl ?_
          refine aw_iload (pc := 75) dX9_acceptsSum_75 rfl ?_
          refine aw_iadd (pc := 77) dX9_acceptsSum_77 ?_
          refine aw_ialoadV (pc := 78) (v := cS (z_g L c) x) dX9_acceptsSum_78 (by omega) (Nat.le_refl _) (by first | rfl | exact z_shr _ (by omega) | exact z_shc0 (by omega) | exact z_shc1 (by omega) | exact z_shc2 (by omega) | exact z_shc3 (by omega) | exact z_shc4 (by omega)) (by omega) (by rw [show ((27 : Int) * (c : Int) + (x : Int)).toNat = 27 * c + x by omega]; exact a1 x (by omega)) ?_
          refine aw_i2l (pc := 79) dX9_acceptsSum_79 (by omega) ?_
          refine aw_aload_n (pc := 80) dX9_acceptsSum_80 rfl ?_
          refine aw_getR (pc := 81) dX9_acceptsSum_81 k_fl_X9_20 rfl (by omega) (by first | rfl | exact z_shr _ (by omega) | exact z_shc0 (by omega) | exact z_shc1 (by omega) | exact z_shc2 (by omega) | exact z_shc3 (by omega) | exact z_shc4 (by omega)) (by first | rfl | exact z_Rc0 _ (by omega) | exact z_Rc1 _ (by omega) | exact z_Rc2 _ (by omega) | exact z_Rc3 _ (by omega)) ?_
          refine aw_iload (pc := 84) dX9_acceptsSum_84 rfl ?_
          refine aw_ialoadV (pc := 86) (v := mrt m x) dX9_acceptsSum_86 (by omega) (Nat.le_refl _) (by first | rfl | exact z_shr _ (by omega) | exact z_shc0 (by omega) | exact z_shc1 (by omega) | exact z_shc2 (by omega) | exact z_shc3 (by omega) | exact z_shc4 (by omega)) (by first | omega | exact z_bl_r _) (ert x (by omega)) ?_
          refine aw_i2l (pc := 87) dX9_acceptsSum_87 (by have := hmb.2.2.2.2.2 x; omega) ?_
          refine aw_lmul (pc := 88) dX9_acceptsSum_88 ?_
          refine aw_ladd (pc := 89) dX9_acceptsSum_89 ?_
          refine aw_lstore (pc := 90) (lv' := [_, _, _, _, _, _, _, _, _, _, _, _, _, _]) dX9_acceptsSum_90 (Nat.le_of_ble_eq_true rfl) rfl ?_
          refine aw_iinc (pc := 92) (lv' := [_, _, _, _, _, _, _, _, _, _, _, _, _, _]) dX9_acceptsSum_92 (Nat.le_of_ble_eq_true rfl) rfl rfl ?_
          refine aw_goto (pc := 95) (tgt := 35) dX9_acceptsSum_95 rfl ?_
          have K := ih1 (x + 1) (by omega)
          rw [show z_bl (z_a1 (z_g L c) (x + 1)) = 1 from z_bl_t ⟨(z_bl_n.mp h46).1, fun r hr => by by_cases e : r = x; (rw [e]; omega); exact (z_bl_n.mp h46).2 r (by omega)⟩, show z_s1r m (z_g L c) (x + 1) = (z_s1r m (z_g L c) x) + cS (z_g L c) x * mrt m x from rfl] at K
          exact K
  refine aw_bipush (pc := 0) dX9_acceptsSum_0 rfl ?_
  refine aw_iload_n (pc := 2) dX9_acceptsSum_2 rfl ?_
  refine aw_imul (pc := 3) dX9_acceptsSum_3 ?_
  refine aw_istore_n (pc := 4) (lv' := [_, _, _, _, _, _, _, _, _, _, _, _, _, _]) dX9_acceptsSum_4 (Nat.le_of_ble_eq_true rfl) rfl ?_
  refine aw_aload_n (pc := 5) dX9_acceptsSum_5 rfl ?_
  refine aw_getR (pc := 6) dX9_acceptsSum_6 k_fl_X9_38 rfl (by omega) (by first | rfl | exact z_shr _ (by omega) | exact z_shc0 (by omega) | exact z_shc1 (by omega) | exact z_shc2 (by omega) | exact z_shc3 (by omega) | exact z_shc4 (by omega)) (by first | rfl | exact z_Rc0 _ (by omega) | exact z_Rc1 _ (by omega) | exact z_Rc2 _ (by omega) | exact z_Rc3 _ (by omega)) ?_
  refine aw_iload_n (pc := 9) dX9_acceptsSum_9 rfl ?_
  refine aw_bipush (pc := 10) dX9_acceptsSum_10 rfl ?_
  refine aw_iadd (pc := 12) dX9_acceptsSum_12 ?_
  refine aw_ialoadV (pc := 13) (v := cS (z_g L c) 26) dX9_acceptsSum_13 (by omega) (Nat.le_refl _) (by first | rfl | exact z_shr _ (by omega) | exact z_shc0 (by omega) | exact z_shc1 (by omega) | exact z_shc2 (by omega) | exact z_shc3 (by omega) | exact z_shc4 (by omega)) (by omega) (by rw [show ((27 : Int) * (c : Int) + 26).toNat = 27 * c + 26 by omega]; exact a4) ?_
  refine aw_i2l (pc := 14) dX9_acceptsSum_14 (by omega) ?_
  refine aw_lstore_n (pc := 15) (lv' := [_, _, _, _, _, _, _, _, _, _, _, _, _, _]) dX9_acceptsSum_15 (Nat.le_of_ble_eq_true rfl) rfl ?_
  refine aw_lload_n (pc := 16) dX9_acceptsSum_16 rfl ?_
  refine aw_lconst (pc := 17) (v := 1) dX9_acceptsSum_17 rfl ?_
  refine aw_lcmp_lt (pc := 18) (tgt := 26) dX9_acceptsSum_18 dX9_acceptsSum_19 rfl (by omega) (by omega) (fun h18 => ?_) (fun h18 => ?_)
  · refine aw_iconst (pc := 26) dX9_acceptsSum_26 ?_
    refine aw_istore (pc := 27) (lv' := [_, _, _, _, _, _, _, _, _, _, _, _, _, _]) dX9_acceptsSum_27 (Nat.le_of_ble_eq_true rfl) rfl ?_
    refine aw_lconst (pc := 29) (v := 0) dX9_acceptsSum_29 rfl ?_
    refine aw_lstore (pc := 30) (lv' := [_, _, _, _, _, _, _, _, _, _, _, _, _, _]) dX9_acceptsSum_30 (Nat.le_of_ble_eq_true rfl) rfl ?_
    refine aw_iconst (pc := 32) dX9_acceptsSum_32 ?_
    refine aw_istore (pc := 33) (lv' := [_, _, _, _, _, _, _, _, _, _, _, _, _, _]) dX9_acceptsSum_33 (Nat.le_of_ble_eq_true rfl) rfl ?_
    have K := l1 (mR m) 0 (by omega)
    rw [show z_bl (z_a1 (z_g L c) 0) = 0 from z_bl_f (fun q => by have := q.1; omega)] at K
    exact K
  · refine aw_iconst (pc := 22) dX9_acceptsSum_22 ?_
    refine aw_goto (pc := 23) (tgt := 27) dX9_acceptsSum_23 rfl ?_
    refine aw_istore (pc := 27) (lv' := [_, _, _, _, _, _, _, _, _, _, _, _, _, _]) dX9_acceptsSum_27 (Nat.le_of_ble_eq_true rfl) rfl ?_
    refine aw_lconst (pc := 29) (v := 0) dX9_acceptsSum_29 rfl ?_
    refine aw_lstore (pc := 30) (lv' := [_, _, _, _, _, _, _, _, _, _, _, _, _, _]) dX9_acceptsSum_30 (Nat.le_of_ble_eq_true rfl) rfl ?_
    refine aw_iconst (pc := 32) dX9_acceptsSum_32 ?_
    refine aw_istore (pc := 33) (lv' := [_, _, _, _, _, _, _, _, _, _, _, _, _, _]) dX9_acceptsSum_33 (Nat.le_of_ble_eq_true rfl) rfl ?_
    have K := l1 (mR m) 0 (by omega)
    rw [show z_bl (z_a1 (z_g L c) 0) = 1 from z_bl_t ⟨by omega, fun r hr => absurd hr (by omega)⟩] at K
    exact K
