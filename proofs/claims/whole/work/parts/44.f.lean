/-! THE REFERENCE'S COVERS -/
def z_l9 (I : AwI) (k cap : Int) (ln wt al : Nat → Int) : AwI := fun a j => if a = 250 then ln j else if a = 251 then wt j else if a = 252 then al j else if a = 237 ∧ j = 22 then k else if a = 237 ∧ j = 23 then cap else I a j
section L9
variable {I : AwI} {k cap : Int} {ln wt al : Nat → Int}
theorem z_l9_o {a j : Nat} (h : a < 250 ∨ 252 < a) (h2 : a = 237 → j ≠ 22 ∧ j ≠ 23) : z_l9 I k cap ln wt al a j = I a j := by
  unfold z_l9
  rw [if_neg (by omega), if_neg (by omega), if_neg (by omega), if_neg (by omega), if_neg (by omega)]
theorem z_l9_k : z_l9 I k cap ln wt al 237 22 = k := rfl
theorem z_l9_c : z_l9 I k cap ln wt al 237 23 = cap := rfl
theorem z_l9_ln (j : Nat) : z_l9 I k cap ln wt al 250 j = ln j := rfl
theorem z_l9_wt (j : Nat) : z_l9 I k cap ln wt al 251 j = wt j := rfl
theorem z_l9_al (j : Nat) : z_l9 I k cap ln wt al 252 j = al j := rfl
theorem z_l9_id (I : AwI) : z_l9 I (I 237 22) (I 237 23) (I 250) (I 251) (I 252) = I := by
  funext a j
  unfold z_l9
  by_cases e : a = 250
  · subst e; simp
  rw [if_neg e]
  by_cases e1 : a = 251
  · subst e1; simp
  rw [if_neg e1]
  by_cases e2 : a = 252
  · subst e2; simp
  rw [if_neg e2]
  by_cases e3 : a = 237 ∧ j = 22
  · rw [if_pos e3, e3.1, e3.2]
  rw [if_neg e3]
  by_cases e4 : a = 237 ∧ j = 23
  · rw [if_pos e4, e4.1, e4.2]
  rw [if_neg e4]
theorem z_l9_uk {v : Int} : z_up (z_l9 I k cap ln wt al) 237 22 v = z_l9 I v cap ln wt al := by
  funext a j
  unfold z_up z_l9
  by_cases e : a = 237 ∧ j = 22
  · simp [e.1, e.2]
  · rw [if_neg e]; simp only [e, if_false]
theorem z_l9_uc {v : Int} : z_up (z_l9 I k cap ln wt al) 237 23 v = z_l9 I k v ln wt al := by
  funext a j
  unfold z_up z_l9
  by_cases e : a = 237 ∧ j = 23
  · simp [e.1, e.2]
  · rw [if_neg e]; simp only [e, if_false]
theorem z_l9_uln {q : Nat} {v : Int} : z_up (z_l9 I k cap ln wt al) 250 q v = z_l9 I k cap (va_up ln q v) wt al := by
  funext a j
  unfold z_up z_l9 va_up
  by_cases e : a = 250
  · subst e; by_cases e2 : j = q <;> simp [e2]
  · simp [e]
theorem z_l9_uwt {q : Nat} {v : Int} : z_up (z_l9 I k cap ln wt al) 251 q v = z_l9 I k cap ln (va_up wt q v) al := by
  funext a j
  unfold z_up z_l9 va_up
  by_cases e : a = 251
  · subst e; by_cases e2 : j = q <;> simp [e2]
  · simp [e]
theorem z_l9_ual {q : Nat} {v : Int} : z_up (z_l9 I k cap ln wt al) 252 q v = z_l9 I k cap ln wt (va_up al q v) := by
  funext a j
  unfold z_up z_l9 va_up
  by_cases e : a = 252
  · subst e; by_cases e2 : j = q <;> simp [e2]
  · simp [e]
theorem z_RM.l9 {J : AwI} (h : z_RM I J) : z_RM (z_l9 I k cap ln wt al) J := h.congr (fun a j q => z_l9_o (by omega) (by omega)) (fun _ => rfl)
theorem z_RI.l9 {J : AwI} {m : z_MM} {L : List z_CC} {t : Int} (h : z_RI I J m L t) : z_RI (z_l9 I k cap ln wt al) J m L t := h.frame ⟨fun a j q => z_l9_o (by omega) (by omega), fun _ _ _ => rfl⟩
theorem z_FQ.l9 {J I0 J0 : AwI} (h : z_FQ I0 J0 I J) : z_FQ I0 J0 (z_l9 I k cap ln wt al) J := ⟨fun a j q => by rw [z_l9_o (by omega) (by omega)]; exact h.1 a j q, h.2⟩
end L9
theorem z_rl_nz {m : z_MM} {r : Nat} {b1 b2 : Nat → Int} : ∀ x : Nat, ∀ j, j < (z_rl m r b1 b2 x).1 → mF m r ((z_rl m r b1 b2 x).2.1 j).toNat ≠ 0
  | 0, j, h => absurd h (by show ¬ j < 0; omega)
  | x + 1, j, h => by
    by_cases q : mlo m x = 0 ∧ mhi m x = 1
    · by_cases q2 : mF m r x = 0
      · rw [z_rl_z q q2] at h ⊢
        exact z_rl_nz x j h
      · rw [z_rl_y q q2] at h ⊢
        show mF m r (va_up (z_rl m r b1 b2 x).2.1 (z_rl m r b1 b2 x).1 x j).toNat ≠ 0
        have h : j < (z_rl m r b1 b2 x).1 + 1 := h
        by_cases e : j = (z_rl m r b1 b2 x).1
        · rw [e, z_vs, Int.toNat_natCast]; exact q2
        · rw [z_vn_ne e]; exact z_rl_nz x j (by omega)
    · rw [z_rl_n q] at h ⊢
      exact z_rl_nz x j h
set_option maxHeartbeats 4000000 in
theorem c_X9_findLiterals {π : Nat → Nat} {I J : AwI} {m : z_MM} {L : List z_CC} {t : Int} {k0 cap0 : Int} {ln wt al : Nat → Int} {q : Nat} (hI : z_RI I J m L t) (hq : q < mR m) : CT m_X9_findLiterals [zr 237, zi (q : Int)] 255 (z_l9 I k0 cap0 ln wt al) J (z_R π) (z_P none 255 (z_l9 I ((z_rl m q ln wt (mN m)).1 : Int) (z_rl m q ln wt (mN m)).2.2.2 (z_rl m q ln wt (mN m)).2.1 (z_rl m q ln wt (mN m)).2.2.1 al) J (z_R π)) := by
  obtain ⟨hM1, hm1, e0, e4, elo, ehi, ept, eF, ert, hmb, hptb, hF0⟩ := hI.rds
  have hN8 := hmb.1
  have hR10 := hmb.2.1
  refine CT.of (by decide) (Nat.le_of_ble_eq_true rfl) ?_
  show AW _ 0 0 _ 0 [some (zr 237), some (zi (q : Int)), none, none] [] _ _ _
  have loop : ∀ (k : Nat) (x : Nat) (v : Option AwV), (x : Int) + k = (mN m : Int) → AW (FM m_X9_findLiterals (z_P none 255 (z_l9 I ((z_rl m q ln wt (mN m)).1 : Int) (z_rl m q ln wt (mN m)).2.2.2 (z_rl m q ln wt (mN m)).2.1 (z_rl m q ln wt (mN m)).2.2.1 al) J (z_R π))) 0 0 255 17 [some (zr 237), some (zi (q : Int)), some (zi (x : Int)), v] [] (z_l9 I ((z_rl m q ln wt x).1 : Int) (z_rl m q ln wt x).2.2.2 (z_rl m q ln wt x).2.1 (z_rl m q ln wt x).2.2.1 al) J (z_R π) := by
    intro k
    induction k with
    | zero =>
      intro x v he
      refine aw_iload_n (pc := 17) dX9_findLiterals_17 rfl ?_
      refine aw_aload_n (pc := 18) dX9_findLiterals_18 rfl ?_
      refine aw_getV (pc := 19) (v := (mN m : Int)) dX9_findLiterals_19 k_fl_X9_66 rfl (by omega) (by first | rfl | exact z_shr _ (by omega) | exact z_shc0 (by omega) | exact z_shc1 (by omega) | exact z_shc2 (by omega) | exact z_shc3 (by omega) | exact z_shc4 (by omega)) ((z_l9_o (by omega) (by omega)).trans e0) ?_
      refine aw_icmp_ge (pc := 22) (tgt := 131) dX9_findLiterals_22 rfl (by first | omega | exact z_bl_r _) (by first | omega | exact z_bl_r _) (fun h22 => ?_) (fun h22 => absurd h22 (by omega))
      exact aw_return (pc := 131) dX9_findLiterals_131 rfl ⟨Nat.zero_le _, Nat.zero_le _⟩ (⟨rfl, rfl, by rw [show x = mN m by omega], rfl, rfl⟩)
    | succ k ih =>
      intro x v he
      refine aw_iload_n (pc := 17) dX9_findLiterals_17 rfl ?_
      refine aw_aload_n (pc := 18) dX9_findLiterals_18 rfl ?_
      refine aw_getV (pc := 19) (v := (mN m : Int)) dX9_findLiterals_19 k_fl_X9_66 rfl (by omega) (by first | rfl | exact z_shr _ (by omega) | exact z_shc0 (by omega) | exact z_shc1 (by omega) | exact z_shc2 (by omega) | exact z_shc3 (by omega) | exact z_shc4 (by omega)) ((z_l9_o (by omega) (by omega)).trans e0) ?_
      refine aw_icmp_ge (pc := 22) (tgt := 131) dX9_findLiterals_22 rfl (by first | omega | exact z_bl_r _) (by first | omega | exact z_bl_r _) (fun h22 => absurd h22 (by omega)) (fun h22 => ?_)
      have hb := (z_rl_b hmb (r := q) (b1 := ln) (b2 := wt) x).1
      have hfb := hmb.2.2.2.2.1 q x
      have lo1 := (z_l9_o (I := I) (k := ((z_rl m q ln wt x).1 : Int)) (cap := (z_rl m q ln wt x).2.2.2) (ln := (z_rl m q ln wt x).2.1) (wt := (z_rl m q ln wt x).2.2.1) (al := al) (a := 238) (j := x) (by omega) (by omega)).trans (elo x (by omega))
      have hi1 := (z_l9_o (I := I) (k := ((z_rl m q ln wt x).1 : Int)) (cap := (z_rl m q ln wt x).2.2.2) (ln := (z_rl m q ln wt x).2.1) (wt := (z_rl m q ln wt x).2.2.1) (al := al) (a := 239) (j := x) (by omega) (by omega)).trans (ehi x (by omega))
      refine aw_aload_n (pc := 25) dX9_findLiterals_25 rfl ?_
      refine aw_getR (pc := 26) dX9_findLiterals_26 k_fl_X9_23 rfl (by omega) (by first | rfl | exact z_shr _ (by omega) | exact z_shc0 (by omega) | exact z_shc1 (by omega) | exact z_shc2 (by omega) | exact z_shc3 (by omega) | exact z_shc4 (by omega)) (by first | rfl | exact z_Rc0 _ (by omega) | exact z_Rc1 _ (by omega) | exact z_Rc2 _ (by omega) | exact z_Rc3 _ (by omega)) ?_
      refine aw_bipush (pc := 29) dX9_findLiterals_29 rfl ?_
      refine aw_iload_n (pc := 31) dX9_findLiterals_31 rfl ?_
      refine aw_imul (pc := 32) dX9_findLiterals_32 ?_
      refine aw_iload_n (pc := 33) dX9_findLiterals_33 rfl ?_
      refine aw_iadd (pc := 34) dX9_findLiterals_34 ?_
      refine aw_ialoadV (pc := 35) (v := mF m q x) dX9_findLiterals_35 (by omega) (Nat.le_refl _) (by first | rfl | exact z_shr _ (by omega) | exact z_shc0 (by omega) | exact z_shc1 (by omega) | exact z_shc2 (by omega) | exact z_shc3 (by omega) | exact z_shc4 (by omega)) (by omega) (by rw [show ((8 : Int) * (q : Int) + (x : Int)).toNat = 8 * q + x by omega]; exact (z_l9_o (by omega) (by omega)).trans (eF q x hq (by omega))) ?_
      refine aw_istore_n (pc := 36) (lv' := [_, _, _, _]) dX9_findLiterals_36 (Nat.le_of_ble_eq_true rfl) rfl ?_
      refine aw_aload_n (pc := 37) dX9_findLiterals_37 rfl ?_
      refine aw_iload_n (pc := 38) dX9_findLiterals_38 rfl ?_
      refine aw_qV (pc := 39) (d := m_X9_isBinary) (c_X9_isBinary hM1.l9 (by omega)) k_X9_isBinary dX9_findLiterals_39 k_ml_X9_130 rfl ⟨rfl, rfl⟩ (by omega) (by first | rfl | exact z_shr _ (by omega) | exact z_shc0 (by omega) | exact z_shc1 (by omega) | exact z_shc2 (by omega) | exact z_shc3 (by omega) | exact z_shc4 (by omega)) rfl ⟨Nat.le_of_ble_eq_true rfl, Nat.le_of_ble_eq_true rfl⟩ ⟨Nat.zero_le _, Nat.zero_le _⟩ rfl (Nat.le_of_ble_eq_true rfl) (z_Pk ?_)
      rw [lo1, hi1]
      refine aw_if_ne (pc := 42) (tgt := 63) dX9_findLiterals_42 rfl (z_bl_r _) (fun h42 => ?_) (fun h42 => ?_)
      · refine aw_iload_n (pc := 63) dX9_findLiterals_63 rfl ?_
        refine aw_if_eq (pc := 64) (tgt := 125) dX9_findLiterals_64 rfl (by first | omega | exact z_bl_r _) (fun h64 => ?_) (fun h64 => ?_)
        · refine aw_iinc (pc := 125) (lv' := [_, _, _, _]) dX9_findLiterals_125 (Nat.le_of_ble_eq_true rfl) rfl rfl ?_
          refine aw_goto (pc := 128) (tgt := 17) dX9_findLiterals_128 rfl ?_
          have K := ih (x + 1) (some (zi (mF m q x))) (by omega)
          rw [z_rl_z (z_bl_n.mp h42) (by omega)] at K
          exact K
        · refine aw_aload_n (pc := 67) dX9_findLiterals_67 rfl ?_
          refine aw_getR (pc := 68) dX9_findLiterals_68 k_fl_X9_51 rfl (by omega) (by first | rfl | exact z_shr _ (by omega) | exact z_shc0 (by omega) | exact z_shc1 (by omega) | exact z_shc2 (by omega) | exact z_shc3 (by omega) | exact z_shc4 (by omega)) (by first | rfl | exact z_Rc0 _ (by omega) | exact z_Rc1 _ (by omega) | exact z_Rc2 _ (by omega) | exact z_Rc3 _ (by omega)) ?_
          refine aw_aload_n (pc := 71) dX9_findLiterals_71 rfl ?_
          refine aw_getV (pc := 72) (v := ((z_rl m q ln wt x).1 : Int)) dX9_findLiterals_72 k_fl_X9_124 rfl (by omega) (by first | rfl | exact z_shr _ (by omega) | exact z_shc0 (by omega) | exact z_shc1 (by omega) | exact z_shc2 (by omega) | exact z_shc3 (by omega) | exact z_shc4 (by omega)) (z_l9_k) ?_
          refine aw_iload_n (pc := 75) dX9_findLiterals_75 rfl ?_
          refine aw_iastore (pc := 76) dX9_findLiterals_76 (by omega) (Nat.le_refl _) (by first | rfl | exact z_shr _ (by omega) | exact z_shc0 (by omega) | exact z_shc1 (by omega) | exact z_shc2 (by omega) | exact z_shc3 (by omega) | exact z_shc4 (by omega)) (by first | omega | exact z_bl_r _) ?_
          rw [z_l9_uln, Int.toNat_natCast]
          refine aw_aload_n (pc := 77) dX9_findLiterals_77 rfl ?_
          refine aw_getR (pc := 78) dX9_findLiterals_78 k_fl_X9_54 rfl (by omega) (by first | rfl | exact z_shr _ (by omega) | exact z_shc0 (by omega) | exact z_shc1 (by omega) | exact z_shc2 (by omega) | exact z_shc3 (by omega) | exact z_shc4 (by omega)) (by first | rfl | exact z_Rc0 _ (by omega) | exact z_Rc1 _ (by omega) | exact z_Rc2 _ (by omega) | exact z_Rc3 _ (by omega)) ?_
          refine aw_aload_n (pc := 81) dX9_findLiterals_81 rfl ?_
          refine aw_getV (pc := 82) (v := ((z_rl m q ln wt x).1 : Int)) dX9_findLiterals_82 k_fl_X9_124 rfl (by omega) (by first | rfl | exact z_shr _ (by omega) | exact z_shc0 (by omega) | exact z_shc1 (by omega) | exact z_shc2 (by omega) | exact z_shc3 (by omega) | exact z_shc4 (by omega)) (z_l9_k) ?_
          refine aw_iload_n (pc := 85) dX9_findLiterals_85 rfl ?_
          refine aw_if_ge (pc := 86) (tgt := 94) dX9_findLiterals_86 rfl (by first | omega | exact z_bl_r _) (fun h86 => ?_) (fun h86 => ?_)
          · refine aw_iload_n (pc := 94) dX9_findLiterals_94 rfl ?_
            refine aw_iastore (pc := 95) dX9_findLiterals_95 (by omega) (Nat.le_refl _) (by first | rfl | exact z_shr _ (by omega) | exact z_shc0 (by omega) | exact z_shc1 (by omega) | exact z_shc2 (by omega) | exact z_shc3 (by omega) | exact z_shc4 (by omega)) (by first | omega | exact z_bl_r _) ?_
            rw [z_l9_uwt, Int.toNat_natCast]
            refine aw_aload_n (pc := 96) dX9_findLiterals_96 rfl ?_
            refine aw_dup (pc := 97) dX9_findLiterals_97 (fun _ h => by cases h) ?_
            refine aw_getV (pc := 98) (v := (z_rl m q ln wt x).2.2.2) dX9_findLiterals_98 k_fl_X9_127 rfl (by omega) (by first | rfl | exact z_shr _ (by omega) | exact z_shc0 (by omega) | exact z_shc1 (by omega) | exact z_shc2 (by omega) | exact z_shc3 (by omega) | exact z_shc4 (by omega)) (z_l9_c) ?_
            refine aw_iload_n (pc := 101) dX9_findLiterals_101 rfl ?_
            refine aw_if_ge (pc := 102) (tgt := 110) dX9_findLiterals_102 rfl (by first | omega | exact z_bl_r _) (fun h102 => ?_) (fun h102 => ?_)
            · refine aw_iconst (pc := 110) dX9_findLiterals_110 ?_
              refine aw_iadd (pc := 111) dX9_findLiterals_111 ?_
              refine aw_putI (pc := 112) dX9_findLiterals_112 k_fl_X9_127 rfl (by omega) (by first | rfl | exact z_shr _ (by omega) | exact z_shc0 (by omega) | exact z_shc1 (by omega) | exact z_shc2 (by omega) | exact z_shc3 (by omega) | exact z_shc4 (by omega)) ?_
              rw [z_l9_uc]
              refine aw_aload_n (pc := 115) dX9_findLiterals_115 rfl ?_
              refine aw_dup (pc := 116) dX9_findLiterals_116 (fun _ h => by cases h) ?_
              refine aw_getV (pc := 117) (v := ((z_rl m q ln wt x).1 : Int)) dX9_findLiterals_117 k_fl_X9_124 rfl (by omega) (by first | rfl | exact z_shr _ (by omega) | exact z_shc0 (by omega) | exact z_shc1 (by omega) | exact z_shc2 (by omega) | exact z_shc3 (by omega) | exact z_shc4 (by omega)) (z_l9_k) ?_
              refine aw_iconst (pc := 120) dX9_findLiterals_120 ?_
              refine aw_iadd (pc := 121) dX9_findLiterals_121 ?_
              refine aw_putI (pc := 122) dX9_findLiterals_122 k_fl_X9_124 rfl (by omega) (by first | rfl | exact z_shr _ (by omega) | exact z_shc0 (by omega) | exact z_shc1 (by omega) | exact z_shc2 (by omega) | exact z_shc3 (by omega) | exact z_shc4 (by omega)) ?_
              refine aw_iinc (pc := 125) (lv' := [_, _, _, _]) dX9_findLiterals_125 (Nat.le_of_ble_eq_true rfl) rfl rfl ?_
              refine aw_goto (pc := 128) (tgt := 17) dX9_findLiterals_128 rfl ?_
              rw [z_l9_uk]
              have K := ih (x + 1) (some (zi (mF m q x))) (by omega)
              rw [z_rl_y (z_bl_n.mp h42) (by omega)] at K
              unfold z_ab at K
              rw [if_neg (by omega), if_neg (by omega)] at K
              skip
              rw [Int.add_zero]
              exact K
            · refine aw_iload_n (pc := 105) dX9_findLiterals_105 rfl ?_
              refine aw_ineg (pc := 106) dX9_findLiterals_106 ?_
              refine aw_goto (pc := 107) (tgt := 111) dX9_findLiterals_107 rfl ?_
              refine aw_iadd (pc := 111) dX9_findLiterals_111 ?_
              refine aw_putI (pc := 112) dX9_findLiterals_112 k_fl_X9_127 rfl (by omega) (by first | rfl | exact z_shr _ (by omega) | exact z_shc0 (by omega) | exact z_shc1 (by omega) | exact z_shc2 (by omega) | exact z_shc3 (by omega) | exact z_shc4 (by omega)) ?_
              rw [z_l9_uc]
              refine aw_aload_n (pc := 115) dX9_findLiterals_115 rfl ?_
              refine aw_dup (pc := 116) dX9_findLiterals_116 (fun _ h => by cases h) ?_
              refine aw_getV (pc := 117) (v := ((z_rl m q ln wt x).1 : Int)) dX9_findLiterals_117 k_fl_X9_124 rfl (by omega) (by first | rfl | exact z_shr _ (by omega) | exact z_shc0 (by omega) | exact z_shc1 (by omega) | exact z_shc2 (by omega) | exact z_shc3 (by omega) | exact z_shc4 (by omega)) (z_l9_k) ?_
              refine aw_iconst (pc := 120) dX9_findLiterals_120 ?_
              refine aw_iadd (pc := 121) dX9_findLiterals_121 ?_
              refine aw_putI (pc := 122) dX9_findLiterals_122 k_fl_X9_124 rfl (by omega) (by first | rfl | exact z_shr _ (by omega) | exact z_shc0 (by omega) | exact z_shc1 (by omega) | exact z_shc2 (by omega) | exact z_shc3 (by omega) | exact z_shc4 (by omega)) ?_
              refine aw_iinc (pc := 125) (lv' := [_, _, _, _]) dX9_findLiterals_125 (Nat.le_of_ble_eq_true rfl) rfl rfl ?_
              refine aw_goto (pc := 128) (tgt := 17) dX9_findLiterals_128 rfl ?_
              exfalso; omega
          · refine aw_iload_n (pc := 89) dX9_findLiterals_89 rfl ?_
            refine aw_ineg (pc := 90) dX9_findLiterals_90 ?_
            refine aw_goto (pc := 91) (tgt := 95) dX9_findLiterals_91 rfl ?_
            refine aw_iastore (pc := 95) dX9_findLiterals_95 (by omega) (Nat.le_refl _) (by first | rfl | exact z_shr _ (by omega) | exact z_shc0 (by omega) | exact z_shc1 (by omega) | exact z_shc2 (by omega) | exact z_shc3 (by omega) | exact z_shc4 (by omega)) (by first | omega | exact z_bl_r _) ?_
            rw [z_l9_uwt, Int.toNat_natCast]
            refine aw_aload_n (pc := 96) dX9_findLiterals_96 rfl ?_
            refine aw_dup (pc := 97) dX9_findLiterals_97 (fun _ h => by cases h) ?_
            refine aw_getV (pc := 98) (v := (z_rl m q ln wt x).2.2.2) dX9_findLiterals_98 k_fl_X9_127 rfl (by omega) (by first | rfl | exact z_shr _ (by omega) | exact z_shc0 (by omega) | exact z_shc1 (by omega) | exact z_shc2 (by omega) | exact z_shc3 (by omega) | exact z_shc4 (by omega)) (z_l9_c) ?_
            refine aw_iload_n (pc := 101) dX9_findLiterals_101 rfl ?_
            refine aw_if_ge (pc := 102) (tgt := 110) dX9_findLiterals_102 rfl (by first | omega | exact z_bl_r _) (fun h102 => ?_) (fun h102 => ?_)
            · refine aw_iconst (pc := 110) dX9_findLiterals_110 ?_
              refine aw_iadd (pc := 111) dX9_findLiterals_111 ?_
              refine aw_putI (pc := 112) dX9_findLiterals_112 k_fl_X9_127 rfl (by omega) (by first | rfl | exact z_shr _ (by omega) | exact z_shc0 (by omega) | exact z_shc1 (by omega) | exact z_shc2 (by omega) | exact z_shc3 (by omega) | exact z_shc4 (by omega)) ?_
              rw [z_l9_uc]
              refine aw_aload_n (pc := 115) dX9_findLiterals_115 rfl ?_
              refine aw_dup (pc := 116) dX9_findLiterals_116 (fun _ h => by cases h) ?_
              refine aw_getV (pc := 117) (v := ((z_rl m q ln wt x).1 : Int)) dX9_findLiterals_117 k_fl_X9_124 rfl (by omega) (by first | rfl | exact z_shr _ (by omega) | exact z_shc0 (by omega) | exact z_shc1 (by omega) | exact z_shc2 (by omega) | exact z_shc3 (by omega) | exact z_shc4 (by omega)) (z_l9_k) ?_
              refine aw_iconst (pc := 120) dX9_findLiterals_120 ?_
              refine aw_iadd (pc := 121) dX9_findLiterals_121 ?_
              refine aw_putI (pc := 122) dX9_findLiterals_122 k_fl_X9_124 rfl (by omega) (by first | rfl | exact z_shr _ (by omega) | exact z_shc0 (by omega) | exact z_shc1 (by omega) | exact z_shc2 (by omega) | exact z_shc3 (by omega) | exact z_shc4 (by omega)) ?_
              refine aw_iinc (pc := 125) (lv' := [_, _, _, _]) dX9_findLiterals_125 (Nat.le_of_ble_eq_true rfl) rfl rfl ?_
              refine aw_goto (pc := 128) (tgt := 17) dX9_findLiterals_128 rfl ?_
              exfalso; omega
            · refine aw_iload_n (pc := 105) dX9_findLiterals_105 rfl ?_
              refine aw_ineg (pc := 106) dX9_findLiterals_106 ?_
              refine aw_goto (pc := 107) (tgt := 111) dX9_findLiterals_107 rfl ?_
              refine aw_iadd (pc := 111) dX9_findLiterals_111 ?_
              refine aw_putI (pc := 112) dX9_findLiterals_112 k_fl_X9_127 rfl (by omega) (by first | rfl | exact z_shr _ (by omega) | exact z_shc0 (by omega) | exact z_shc1 (by omega) | exact z_shc2 (by omega) | exact z_shc3 (by omega) | exact z_shc4 (by omega)) ?_
              rw [z_l9_uc]
              refine aw_aload_n (pc := 115) dX9_findLiterals_115 rfl ?_
              refine aw_dup (pc := 116) dX9_findLiterals_116 (fun _ h => by cases h) ?_
              refine aw_getV (pc := 117) (v := ((z_rl m q ln wt x).1 : Int)) dX9_findLiterals_117 k_fl_X9_124 rfl (by omega) (by first | rfl | exact z_shr _ (by omega) | exact z_shc0 (by omega) | exact z_shc1 (by omega) | exact z_shc2 (by omega) | exact z_shc3 (by omega) | exact z_shc4 (by omega)) (z_l9_k) ?_
              refine aw_iconst (pc := 120) dX9_findLiterals_120 ?_
              refine aw_iadd (pc := 121) dX9_findLiterals_121 ?_
              refine aw_putI (pc := 122) dX9_findLiterals_122 k_fl_X9_124 rfl (by omega) (by first | rfl | exact z_shr _ (by omega) | exact z_shc0 (by omega) | exact z_shc1 (by omega) | exact z_shc2 (by omega) | exact z_shc3 (by omega) | exact z_shc4 (by omega)) ?_
              refine aw_iinc (pc := 125) (lv' := [_, _, _, _]) dX9_findLiterals_125 (Nat.le_of_ble_eq_true rfl) rfl rfl ?_
              refine aw_goto (pc := 128) (tgt := 17) dX9_findLiterals_128 rfl ?_
              rw [z_l9_uk]
              have K := ih (x + 1) (some (zi (mF m q x))) (by omega)
              rw [z_rl_y (z_bl_n.mp h42) (by omega)] at K
              unfold z_ab at K
              rw [if_pos (by omega), if_pos (by omega)] at K
              rw [Int.sub_eq_add_neg] at K
              exact K
      · refine aw_aload_n (pc := 45) dX9_findLiterals_45 rfl ?_
        refine aw_dup (pc := 46) dX9_findLiterals_46 (fun _ h => by cases h) ?_
        refine aw_getV (pc := 47) (v := (z_rl m q ln wt x).2.2.2) dX9_findLiterals_47 k_fl_X9_127 rfl (by omega) (by first | rfl | exact z_shr _ (by omega) | exact z_shc0 (by omega) | exact z_shc1 (by omega) | exact z_shc2 (by omega) | exact z_shc3 (by omega) | exact z_shc4 (by omega)) (z_l9_c) ?_
        refine aw_aload_n (pc := 50) dX9_findLiterals_50 rfl ?_
        refine aw_iload_n (pc := 51) dX9_findLiterals_51 rfl ?_
        refine aw_iload_n (pc := 52) dX9_findLiterals_52 rfl ?_
        refine aw_qV (pc := 53) (d := m_X9_least) (c_X9_least hM1.l9 (by omega) (by omega)) k_X9_least dX9_findLiterals_53 k_ml_X9_133 rfl ⟨rfl, rfl⟩ (by omega) (by first | rfl | exact z_shr _ (by omega) | exact z_shc0 (by omega) | exact z_shc1 (by omega) | exact z_shc2 (by omega) | exact z_shc3 (by omega) | exact z_shc4 (by omega)) rfl ⟨Nat.le_of_ble_eq_true rfl, Nat.le_of_ble_eq_true rfl⟩ ⟨Nat.zero_le _, Nat.zero_le _⟩ rfl (Nat.le_of_ble_eq_true rfl) (z_Pk ?_)
        refine aw_isub (pc := 56) dX9_findLiterals_56 ?_
        refine aw_putI (pc := 57) dX9_findLiterals_57 k_fl_X9_127 rfl (by omega) (by first | rfl | exact z_shr _ (by omega) | exact z_shc0 (by omega) | exact z_shc1 (by omega) | exact z_shc2 (by omega) | exact z_shc3 (by omega) | exact z_shc4 (by omega)) ?_
        rw [z_l9_uc]
        refine aw_goto (pc := 60) (tgt := 125) dX9_findLiterals_60 rfl ?_
        refine aw_iinc (pc := 125) (lv' := [_, _, _, _]) dX9_findLiterals_125 (Nat.le_of_ble_eq_true rfl) rfl rfl ?_
        refine aw_goto (pc := 128) (tgt := 17) dX9_findLiterals_128 rfl ?_
        have e2 : z_ql (z_l9 I ((z_rl m q ln wt x).1 : Int) (z_rl m q ln wt x).2.2.2 (z_rl m q ln wt x).2.1 (z_rl m q ln wt x).2.2.1 al) q x = z_le (mF m q x) (mlo m x) (mhi m x) := by unfold z_ql; rw [lo1, hi1, z_l9_o (by omega) (by omega), eF q x hq (by omega)]
        rw [e2]
        have K := ih (x + 1) (some (zi (mF m q x))) (by omega)
        rw [z_rl_n (z_bl_0.mp h42)] at K
        exact K
  refine aw_aload_n (pc := 0) dX9_findLiterals_0 rfl ?_
  refine aw_iconst (pc := 1) dX9_findLiterals_1 ?_
  refine aw_putI (pc := 2) dX9_findLiterals_2 k_fl_X9_124 rfl (by omega) (by first | rfl | exact z_shr _ (by omega) | exact z_shc0 (by omega) | exact z_shc1 (by omega) | exact z_shc2 (by omega) | exact z_shc3 (by omega) | exact z_shc4 (by omega)) ?_
  rw [z_l9_uk]
  refine aw_aload_n (pc := 5) dX9_findLiterals_5 rfl ?_
  refine aw_aload_n (pc := 6) dX9_findLiterals_6 rfl ?_
  refine aw_getR (pc := 7) dX9_findLiterals_7 k_fl_X9_20 rfl (by omega) (by first | rfl | exact z_shr _ (by omega) | exact z_shc0 (by omega) | exact z_shc1 (by omega) | exact z_shc2 (by omega) | exact z_shc3 (by omega) | exact z_shc4 (by omega)) (by first | rfl | exact z_Rc0 _ (by omega) | exact z_Rc1 _ (by omega) | exact z_Rc2 _ (by omega) | exact z_Rc3 _ (by omega)) ?_
  refine aw_iload_n (pc := 10) dX9_findLiterals_10 rfl ?_
  refine aw_ialoadV (pc := 11) (v := mrt m q) dX9_findLiterals_11 (by omega) (Nat.le_refl _) (by first | rfl | exact z_shr _ (by omega) | exact z_shc0 (by omega) | exact z_shc1 (by omega) | exact z_shc2 (by omega) | exact z_shc3 (by omega) | exact z_shc4 (by omega)) (by first | omega | exact z_bl_r _) ((z_l9_o (by omega) (by omega)).trans (ert q hq)) ?_
  refine aw_putI (pc := 12) dX9_findLiterals_12 k_fl_X9_127 rfl (by omega) (by first | rfl | exact z_shr _ (by omega) | exact z_shc0 (by omega) | exact z_shc1 (by omega) | exact z_shc2 (by omega) | exact z_shc3 (by omega) | exact z_shc4 (by omega)) ?_
  rw [z_l9_uc]
  refine aw_iconst (pc := 15) dX9_findLiterals_15 ?_
  refine aw_istore_n (pc := 16) (lv' := [_, _, _, _]) dX9_findLiterals_16 (Nat.le_of_ble_eq_true rfl) rfl ?_
  exact loop (mN m) 0 _ (by omega)
set_option maxHeartbeats 4000000 in
theorem c_X9_weightOf {π : Nat → Nat} {I J : AwI} {k : Nat} {s : Nat} (hk : I 237 22 = (k : Int)) (hk8 : k ≤ 8) (hs : s < 2147483648) : CT m_X9_weightOf [zr 237, zi (s : Int)] 255 I J (z_R π) (z_P (some (zi (z_wsu (I 251) s k))) 255 I J (z_R π)) := by
  refine CT.of (by decide) (Nat.le_of_ble_eq_true rfl) ?_
  show AW _ 0 0 _ 0 [some (zr 237), some (zi (s : Int)), none, none] [] _ _ _
  have loop : ∀ (n : Nat) (x : Nat), x + n = k → AW (FM m_X9_weightOf (z_P (some (zi (z_wsu (I 251) s k))) 255 I J (z_R π))) 0 0 255 4 [some (zr 237), some (zi (s : Int)), some (zi (z_wsu (I 251) s x)), some (zi (x : Int))] [] I J (z_R π) := by
    intro n
    induction n with
    | zero =>
      intro x he
      refine aw_iload_n (pc := 4) dX9_weightOf_4 rfl ?_
      refine aw_aload_n (pc := 5) dX9_weightOf_5 rfl ?_
      refine aw_getV (pc := 6) (v := (k : Int)) dX9_weightOf_6 k_fl_X9_124 rfl (by omega) (by first | rfl | exact z_shr _ (by omega) | exact z_shc0 (by omega) | exact z_shc1 (by omega) | exact z_shc2 (by omega) | exact z_shc3 (by omega) | exact z_shc4 (by omega)) (hk) ?_
      refine aw_icmp_ge (pc := 9) (tgt := 40) dX9_weightOf_9 rfl (by first | omega | exact z_bl_r _) (by first | omega | exact z_bl_r _) (fun h9 => ?_) (fun h9 => absurd h9 (by omega))
      refine aw_iload_n (pc := 40) dX9_weightOf_40 rfl ?_
      exact aw_ireturn (pc := 41) dX9_weightOf_41 rfl ⟨Nat.zero_le _, Nat.zero_le _⟩ (⟨by rw [show k = x by omega], rfl, rfl, rfl, rfl⟩)
    | succ n ih =>
      intro x he
      refine aw_iload_n (pc := 4) dX9_weightOf_4 rfl ?_
      refine aw_aload_n (pc := 5) dX9_weightOf_5 rfl ?_
      refine aw_getV (pc := 6) (v := (k : Int)) dX9_weightOf_6 k_fl_X9_124 rfl (by omega) (by first | rfl | exact z_shr _ (by omega) | exact z_shc0 (by omega) | exact z_shc1 (by omega) | exact z_shc2 (by omega) | exact z_shc3 (by omega) | exact z_shc4 (by omega)) (hk) ?_
      refine aw_icmp_ge (pc := 9) (tgt := 40) dX9_weightOf_9 rfl (by first | omega | exact z_bl_r _) (by first | omega | exact z_bl_r _) (fun h9 => absurd h9 (by omega)) (fun h9 => ?_)
      have hbb := z_bt_b s x
      refine aw_iload_n (pc := 12) dX9_weightOf_12 rfl ?_
      refine aw_iload_n (pc := 13) dX9_weightOf_13 rfl ?_
      refine aw_iload_n (pc := 14) dX9_weightOf_14 rfl ?_
      refine aw_shr (pc := 15) dX9_weightOf_15 (a := s) (w := x) rfl rfl (by omega) (by omega) ?_
      refine aw_iconst (pc := 16) dX9_weightOf_16 ?_
      refine aw_iand (pc := 17) dX9_weightOf_17 rfl (b := 1) rfl ?_
      rw [z_btn]
      refine aw_iconst (pc := 18) dX9_weightOf_18 ?_
      refine aw_icmp_ne (pc := 19) (tgt := 31) dX9_weightOf_19 rfl (by omega) (by omega) (fun h19 => ?_) (fun h19 => ?_)
      · refine aw_iconst (pc := 31) dX9_weightOf_31 ?_
        refine aw_iadd (pc := 32) dX9_weightOf_32 ?_
        refine aw_istore_n (pc := 33) (lv' := [_, _, _, _]) dX9_weightOf_33 (Nat.le_of_ble_eq_true rfl) rfl ?_
        refine aw_iinc (pc := 34) (lv' := [_, _, _, _]) dX9_weightOf_34 (Nat.le_of_ble_eq_true rfl) rfl rfl ?_
        refine aw_goto (pc := 37) (tgt := 4) dX9_weightOf_37 rfl ?_
        have K := ih (x + 1) (by omega)
        rw [show z_wsu (I 251) s (x + 1) = z_wsu (I 251) s x + 0 by show z_wsu (I 251) s x + z_bt s x * I 251 x = _; rw [show z_bt s x = 0 by omega, Int.zero_mul]] at K
        exact K
      · refine aw_aload_n (pc := 22) dX9_weightOf_22 rfl ?_
        refine aw_getR (pc := 23) dX9_weightOf_23 k_fl_X9_54 rfl (by omega) (by first | rfl | exact z_shr _ (by omega) | exact z_shc0 (by omega) | exact z_shc1 (by omega) | exact z_shc2 (by omega) | exact z_shc3 (by omega) | exact z_shc4 (by omega)) (by first | rfl | exact z_Rc0 _ (by omega) | exact z_Rc1 _ (by omega) | exact z_Rc2 _ (by omega) | exact z_Rc3 _ (by omega)) ?_
        refine aw_iload_n (pc := 26) dX9_weightOf_26 rfl ?_
        refine aw_ialoadV (pc := 27) (v := I 251 x) dX9_weightOf_27 (by omega) (Nat.le_refl _) (by first | rfl | exact z_shr _ (by omega) | exact z_shc0 (by omega) | exact z_shc1 (by omega) | exact z_shc2 (by omega) | exact z_shc3 (by omega) | exact z_shc4 (by omega)) (by first | omega | exact z_bl_r _) (rfl) ?_
        refine aw_goto (pc := 28) (tgt := 32) dX9_weightOf_28 rfl ?_
        refine aw_iadd (pc := 32) dX9_weightOf_32 ?_
        refine aw_istore_n (pc := 33) (lv' := [_, _, _, _]) dX9_weightOf_33 (Nat.le_of_ble_eq_true rfl) rfl ?_
        refine aw_iinc (pc := 34) (lv' := [_, _, _, _]) dX9_weightOf_34 (Nat.le_of_ble_eq_true rfl) rfl rfl ?_
        refine aw_goto (pc := 37) (tgt := 4) dX9_weightOf_37 rfl ?_
        have K := ih (x + 1) (by omega)
        rw [show z_wsu (I 251) s (x + 1) = z_wsu (I 251) s x + I 251 x by show z_wsu (I 251) s x + z_bt s x * I 251 x = _; rw [show z_bt s x = 1 by omega, Int.one_mul]] at K
        exact K
  refine aw_iconst (pc := 0) dX9_weightOf_0 ?_
  refine aw_istore_n (pc := 1) (lv' := [_, _, _, _]) dX9_weightOf_1 (Nat.le_of_ble_eq_true rfl) rfl ?_
  refine aw_iconst (pc := 2) dX9_weightOf_2 ?_
  refine aw_istore_n (pc := 3) (lv' := [_, _, _, _]) dX9_weightOf_3 (Nat.le_of_ble_eq_true rfl) rfl ?_
  exact loop k 0 (by omega)
theorem z_wsu_b {wt : Nat → Int} {s k : Nat} (hk : k ≤ 8) (hw : ∀ j, j < k → 1 ≤ wt j ∧ wt j ≤ 50) : 0 ≤ z_wsu wt s k ∧ z_wsu wt s k ≤ 400 := by
  have h : ∀ n, n ≤ k → 0 ≤ z_wsu wt s n ∧ z_wsu wt s n ≤ 50 * n := by
    intro n
    induction n with
    | zero => intro _; exact ⟨Int.le_refl _, Int.le_refl _⟩
    | succ n ih =>
      intro hn
      have a := ih (by omega)
      have b := hw n (by omega)
      have e : z_wsu wt s (n + 1) = z_wsu wt s n + z_bt s n * wt n := rfl
      have c := z_bt_b s n
      rcases (show z_bt s n = 0 ∨ z_bt s n = 1 by omega) with q | q
      · rw [e, q, Int.zero_mul]; omega
      · rw [e, q, Int.one_mul]; omega
  have := h k (Nat.le_refl _)
  omega
def z_cvx (k : Nat) (wt : Nat → Int) (cap : Int) (s x : Nat) : Prop := cap < z_wsu wt s k ∧ ∀ j, j < x → s.testBit j = true → z_wsu wt s k - wt j ≤ cap
theorem z_bt1 {s x : Nat} : z_bt s x = 1 ↔ s.testBit x = true := by
  unfold z_bt
  split
  · rename_i h; exact ⟨fun _ => h, fun _ => rfl⟩
  · rename_i h; exact ⟨fun q => absurd q (by omega), fun q => absurd q h⟩
theorem z_bt0 {s x : Nat} : z_bt s x = 0 ↔ ¬ s.testBit x = true := by
  rw [← z_bt1]
  have := z_bt_b s x
  omega
set_option maxHeartbeats 4000000 in
theorem c_X9_isCover {π : Nat → Nat} {I J : AwI} {k : Nat} {s : Nat} (hk : I 237 22 = (k : Int)) (hk8 : k ≤ 8) (hs : s < 2147483648) (hw : ∀ j, j < k → 1 ≤ I 251 j ∧ I 251 j ≤ 50) (hcap : -100000 ≤ I 237 23 ∧ I 237 23 ≤ 100000) : CT m_X9_isCover [zr 237, zi (s : Int)] 255 I J (z_R π) (z_P (some (zi (z_bl (z_cov k (I 251) (I 237 23) s)))) 255 I J (z_R π)) := by
  have hwb := z_wsu_b (s := s) hk8 hw
  refine CT.of (by decide) (Nat.le_of_ble_eq_true rfl) ?_
  show AW _ 0 0 _ 0 [some (zr 237), some (zi (s : Int)), none, none, none] [] _ _ _
  have loop : ∀ (n : Nat) (x : Nat), x + n = k → AW (FM m_X9_isCover (z_P (some (zi (z_bl (z_cov k (I 251) (I 237 23) s)))) 255 I J (z_R π))) 0 0 255 23 [some (zr 237), some (zi (s : Int)), some (zi (z_wsu (I 251) s k)), some (zi (z_bl (z_cvx k (I 251) (I 237 23) s x))), some (zi (x : Int))] [] I J (z_R π) := by
    intro n
    induction n with
    | zero =>
      intro x he
      refine aw_iload (pc := 23) dX9_isCover_23 rfl ?_
      refine aw_aload_n (pc := 25) dX9_isCover_25 rfl ?_
      refine aw_getV (pc := 26) (v := (k : Int)) dX9_isCover_26 k_fl_X9_124 rfl (by omega) (by first | rfl | exact z_shr _ (by omega) | exact z_shc0 (by omega) | exact z_shc1 (by omega) | exact z_shc2 (by omega) | exact z_shc3 (by omega) | exact z_shc4 (by omega)) (hk) ?_
      refine aw_icmp_ge (pc := 29) (tgt := 73) dX9_isCover_29 rfl (by first | omega | exact z_bl_r _) (by first | omega | exact z_bl_r _) (fun h29 => ?_) (fun h29 => absurd h29 (by omega))
      refine aw_iload_n (pc := 73) dX9_isCover_73 rfl ?_
      exact aw_zreturn (pc := 74) dX9_isCover_74 rfl (z_bl_01 _) ⟨Nat.zero_le _, Nat.zero_le _⟩ (⟨by rw [show x = k by omega]; rfl, rfl, rfl, rfl, rfl⟩)
    | succ n ih =>
      intro x he
      refine aw_iload (pc := 23) dX9_isCover_23 rfl ?_
      refine aw_aload_n (pc := 25) dX9_isCover_25 rfl ?_
      refine aw_getV (pc := 26) (v := (k : Int)) dX9_isCover_26 k_fl_X9_124 rfl (by omega) (by first | rfl | exact z_shr _ (by omega) | exact z_shc0 (by omega) | exact z_shc1 (by omega) | exact z_shc2 (by omega) | exact z_shc3 (by omega) | exact z_shc4 (by omega)) (hk) ?_
      refine aw_icmp_ge (pc := 29) (tgt := 73) dX9_isCover_29 rfl (by first | omega | exact z_bl_r _) (by first | omega | exact z_bl_r _) (fun h29 => absurd h29 (by omega)) (fun h29 => ?_)
      refine aw_iload_n (pc := 32) dX9_isCover_32 rfl ?_
      refine aw_if_eq (pc := 33) (tgt := 65) dX9_isCover_33 rfl (z_bl_r _) (fun h33 => ?_) (fun h33 => ?_)
      · refine aw_iconst (pc := 65) dX9_isCover_65 ?_
        refine aw_istore_n (pc := 66) (lv' := [_, _, _, _, _]) dX9_isCover_66 (Nat.le_of_ble_eq_true rfl) rfl ?_
        refine aw_iinc (pc := 67) (lv' := [_, _, _, _, _]) dX9_isCover_67 (Nat.le_of_ble_eq_true rfl) rfl rfl ?_
        refine aw_goto (pc := 70) (tgt := 23) dX9_isCover_70 rfl ?_
        have ex : z_bl (z_cvx k (I 251) (I 237 23) s (x + 1)) = 0 := z_bl_f (fun q => z_bl_0.mp h33 ⟨q.1, fun j hj => q.2 j (by omega)⟩)
        have K := ih (x + 1) (by omega)
        rw [ex] at K
        exact K
      · have hbb := z_bt_b s x
        refine aw_iload_n (pc := 36) dX9_isCover_36 rfl ?_
        refine aw_iload (pc := 37) dX9_isCover_37 rfl ?_
        refine aw_shr (pc := 39) dX9_isCover_39 (a := s) (w := x) rfl rfl (by omega) (by omega) ?_
        refine aw_iconst (pc := 40) dX9_isCover_40 ?_
        refine aw_iand (pc := 41) dX9_isCover_41 rfl (b := 1) rfl ?_
        rw [z_btn]
        refine aw_if_eq (pc := 42) (tgt := 61) dX9_isCover_42 rfl (by omega) (fun h42 => ?_) (fun h42 => ?_)
        · refine aw_iconst (pc := 61) dX9_isCover_61 ?_
          refine aw_goto (pc := 62) (tgt := 66) dX9_isCover_62 rfl ?_
          refine aw_istore_n (pc := 66) (lv' := [_, _, _, _, _]) dX9_isCover_66 (Nat.le_of_ble_eq_true rfl) rfl ?_
          refine aw_iinc (pc := 67) (lv' := [_, _, _, _, _]) dX9_isCover_67 (Nat.le_of_ble_eq_true rfl) rfl rfl ?_
          refine aw_goto (pc := 70) (tgt := 23) dX9_isCover_70 rfl ?_
          have ex : z_bl (z_cvx k (I 251) (I 237 23) s (x + 1)) = 1 := z_bl_t ⟨(z_bl_n.mp h33).1, fun j hj hb => by by_cases e : j = x; (rw [e] at hb; exact absurd hb (z_bt0.mp h42)); exact (z_bl_n.mp h33).2 j (by omega) hb⟩
          have K := ih (x + 1) (by omega)
          rw [ex] at K
          exact K
        · refine aw_iload_n (pc := 45) dX9_isCover_45 rfl ?_
          refine aw_aload_n (pc := 46) dX9_isCover_46 rfl ?_
          refine aw_getR (pc := 47) dX9_isCover_47 k_fl_X9_54 rfl (by omega) (by first | rfl | exact z_shr _ (by omega) | exact z_shc0 (by omega) | exact z_shc1 (by omega) | exact z_shc2 (by omega) | exact z_shc3 (by omega) | exact z_shc4 (by omega)) (by first | rfl | exact z_Rc0 _ (by omega) | exact z_Rc1 _ (by omega) | exact z_Rc2 _ (by omega) | exact z_Rc3 _ (by omega)) ?_
          refine aw_iload (pc := 50) dX9_isCover_50 rfl ?_
          refine aw_ialoadV (pc := 52) (v := I 251 x) dX9_isCover_52 (by omega) (Nat.le_refl _) (by first | rfl | exact z_shr _ (by omega) | exact z_shc0 (by omega) | exact z_shc1 (by omega) | exact z_shc2 (by omega) | exact z_shc3 (by omega) | exact z_shc4 (by omega)) (by first | omega | exact z_bl_r _) (rfl) ?_
          refine aw_isub (pc := 53) dX9_isCover_53 ?_
          refine aw_aload_n (pc := 54) dX9_isCover_54 rfl ?_
          refine aw_getI (pc := 55) dX9_isCover_55 k_fl_X9_127 rfl (by omega) (by first | rfl | exact z_shr _ (by omega) | exact z_shc0 (by omega) | exact z_shc1 (by omega) | exact z_shc2 (by omega) | exact z_shc3 (by omega) | exact z_shc4 (by omega)) ?_
          refine aw_icmp_gt (pc := 58) (tgt := 65) dX9_isCover_58 rfl (by have := hw x (by omega); omega) (by omega) (fun h58 => ?_) (fun h58 => ?_)
          · refine aw_iconst (pc := 65) dX9_isCover_65 ?_
            refine aw_istore_n (pc := 66) (lv' := [_, _, _, _, _]) dX9_isCover_66 (Nat.le_of_ble_eq_true rfl) rfl ?_
            refine aw_iinc (pc := 67) (lv' := [_, _, _, _, _]) dX9_isCover_67 (Nat.le_of_ble_eq_true rfl) rfl rfl ?_
            refine aw_goto (pc := 70) (tgt := 23) dX9_isCover_70 rfl ?_
            have ex : z_bl (z_cvx k (I 251) (I 237 23) s (x + 1)) = 0 := z_bl_f (fun q => by have := q.2 x (by omega) (z_bt1.mp (by omega)); omega)
            have K := ih (x + 1) (by omega)
            rw [ex] at K
            exact K
          · refine aw_iconst (pc := 61) dX9_isCover_61 ?_
            refine aw_goto (pc := 62) (tgt := 66) dX9_isCover_62 rfl ?_
            refine aw_istore_n (pc := 66) (lv' := [_, _, _, _, _]) dX9_isCover_66 (Nat.le_of_ble_eq_true rfl) rfl ?_
            refine aw_iinc (pc := 67) (lv' := [_, _, _, _, _]) dX9_isCover_67 (Nat.le_of_ble_eq_true rfl) rfl rfl ?_
            refine aw_goto (pc := 70) (tgt := 23) dX9_isCover_70 rfl ?_
            have ex : z_bl (z_cvx k (I 251) (I 237 23) s (x + 1)) = 1 := z_bl_t ⟨(z_bl_n.mp h33).1, fun j hj hb => by by_cases e : j = x; (rw [e]; omega); exact (z_bl_n.mp h33).2 j (by omega) hb⟩
            have K := ih (x + 1) (by omega)
            rw [ex] at K
            exact K
  refine aw_aload_n (pc := 0) dX9_isCover_0 rfl ?_
  refine aw_iload_n (pc := 1) dX9_isCover_1 rfl ?_
  refine aw_qV (pc := 2) (d := m_X9_weightOf) (c_X9_weightOf hk hk8 hs) k_X9_weightOf dX9_isCover_2 k_ml_X9_137 rfl ⟨rfl, rfl⟩ (by omega) (by first | rfl | exact z_shr _ (by omega) | exact z_shc0 (by omega) | exact z_shc1 (by omega) | exact z_shc2 (by omega) | exact z_shc3 (by omega) | exact z_shc4 (by omega)) rfl ⟨Nat.le_of_ble_eq_true rfl, Nat.le_of_ble_eq_true rfl⟩ ⟨Nat.zero_le _, Nat.zero_le _⟩ rfl (Nat.le_of_ble_eq_true rfl) (z_Pk ?_)
  refine aw_istore_n (pc := 5) (lv' := [_, _, _, _, _]) dX9_isCover_5 (Nat.le_of_ble_eq_true rfl) rfl ?_
  refine aw_iload_n (pc := 6) dX9_isCover_6 rfl ?_
  refine aw_aload_n (pc := 7) dX9_isCover_7 rfl ?_
  refine aw_getI (pc := 8) dX9_isCover_8 k_fl_X9_127 rfl (by omega) (by first | rfl | exact z_shr _ (by omega) | exact z_shc0 (by omega) | exact z_shc1 (by omega) | exact z_shc2 (by omega) | exact z_shc3 (by omega) | exact z_shc4 (by omega)) ?_
  refine aw_icmp_le (pc := 11) (tgt := 18) dX9_isCover_11 rfl (by omega) (by omega) (fun h11 => ?_) (fun h11 => ?_)
  · refine aw_iconst (pc := 18) dX9_isCover_18 ?_
    refine aw_istore_n (pc := 19) (lv' := [_, _, _, _, _]) dX9_isCover_19 (Nat.le_of_ble_eq_true rfl) rfl ?_
    refine aw_iconst (pc := 20) dX9_isCover_20 ?_
    refine aw_istore (pc := 21) (lv' := [_, _, _, _, _]) dX9_isCover_21 (Nat.le_of_ble_eq_true rfl) rfl ?_
    have K := loop k 0 (by omega)
    rw [show z_bl (z_cvx k (I 251) (I 237 23) s 0) = 0 from z_bl_f (fun q => by have := q.1; omega)] at K
    exact K
  · refine aw_iconst (pc := 14) dX9_isCover_14 ?_
    refine aw_goto (pc := 15) (tgt := 19) dX9_isCover_15 rfl ?_
    refine aw_istore_n (pc := 19) (lv' := [_, _, _, _, _]) dX9_isCover_19 (Nat.le_of_ble_eq_true rfl) rfl ?_
    refine aw_iconst (pc := 20) dX9_isCover_20 ?_
    refine aw_istore (pc := 21) (lv' := [_, _, _, _, _]) dX9_isCover_21 (Nat.le_of_ble_eq_true rfl) rfl ?_
    have K := loop k 0 (by omega)
    rw [show z_bl (z_cvx k (I 251) (I 237 23) s 0) = 1 from z_bl_t ⟨by omega, fun j hj => absurd hj (by omega)⟩] at K
    exact K
