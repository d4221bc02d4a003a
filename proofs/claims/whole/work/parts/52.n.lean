/-! the choices are counted by their index -/
def z_wd (m : z_MM) (n : Nat) : Int := mhi m n - mlo m n + 1
def z_ix (m : z_MM) (p : Nat → Int) : Nat → Int
  | 0 => 0
  | n + 1 => z_ix m p n + (p n - mlo m n) * z_pr (z_wd m) n
theorem z_ix_b {m : z_MM} {p : Nat → Int} (hl : ∀ n, n < mN m → mlo m n ≤ mhi m n) (h : z_inb m p) : ∀ n, n ≤ mN m → 1 ≤ z_pr (z_wd m) n ∧ 0 ≤ z_ix m p n ∧ z_ix m p n ≤ z_pr (z_wd m) n - 1 ∧ (z_ix m p n = z_pr (z_wd m) n - 1 ↔ ∀ i, i < n → p i = mhi m i)
  | 0, _ => ⟨by show (1 : Int) ≤ 1; omega, by show (0 : Int) ≤ 0; omega, by show (0 : Int) ≤ 1 - 1; omega, ⟨fun _ i hi => absurd hi (by omega), fun _ => by show (0 : Int) = 1 - 1; omega⟩⟩
  | n + 1, hn => by
    obtain ⟨g0, g1, g2, g3⟩ := z_ix_b hl h n (by omega)
    have hb := h n (by omega)
    have hlh := hl n (by omega)
    have e1 : z_ix m p (n + 1) = z_ix m p n + (p n - mlo m n) * z_pr (z_wd m) n := rfl
    have e2 : z_pr (z_wd m) (n + 1) = z_pr (z_wd m) n * z_wd m n := rfl
    have e3 : z_pr (z_wd m) n * z_wd m n = (mhi m n - mlo m n) * z_pr (z_wd m) n + z_pr (z_wd m) n := by
      unfold z_wd
      rw [Int.mul_add, Int.mul_one, Int.mul_comm]
    have a1 : 0 ≤ (p n - mlo m n) * z_pr (z_wd m) n := Int.mul_nonneg (by omega) (by omega)
    have a2 : (p n - mlo m n) * z_pr (z_wd m) n ≤ (mhi m n - mlo m n) * z_pr (z_wd m) n := Int.mul_le_mul_of_nonneg_right (by omega) (by omega)
    have a3 : 0 ≤ (mhi m n - mlo m n) * z_pr (z_wd m) n := Int.mul_nonneg (by omega) (by omega)
    rw [e1, e2, e3]
    refine ⟨by omega, by omega, by omega, ?_⟩
    constructor
    · intro q i hi
      have q2 : p n = mhi m n := by
        rcases (show p n = mhi m n ∨ p n + 1 ≤ mhi m n by omega) with q3 | q3
        · exact q3
        · have a4 : (p n + 1 - mlo m n) * z_pr (z_wd m) n ≤ (mhi m n - mlo m n) * z_pr (z_wd m) n := Int.mul_le_mul_of_nonneg_right (by omega) (by omega)
          rw [show p n + 1 - mlo m n = (p n - mlo m n) + 1 by omega, Int.add_mul, Int.one_mul] at a4
          omega
      by_cases e : i = n
      · rw [e]; exact q2
      · rw [q2] at q
        exact g3.mp (by omega) i (by omega)
    · intro q
      have q1 := g3.mpr (fun i hi => q i (by omega))
      rw [q n (by omega), q1]
      omega
theorem z_ix_nx {m : z_MM} {p : Nat → Int} (hl : ∀ n, n < mN m → mlo m n ≤ mhi m n) (h : z_inb m p) : ∀ n, n ≤ mN m → ((∀ i, i < n → p i = mhi m i) → z_ix m (z_nx m p) n = 0) ∧ (¬ (∀ i, i < n → p i = mhi m i) → z_ix m (z_nx m p) n = z_ix m p n + 1)
  | 0, _ => ⟨fun _ => rfl, fun q => absurd (fun i hi => absurd hi (by omega)) q⟩
  | n + 1, hn => by
    obtain ⟨g1, g2⟩ := z_ix_nx hl h n (by omega)
    have e1 : z_ix m (z_nx m p) (n + 1) = z_ix m (z_nx m p) n + (z_nx m p n - mlo m n) * z_pr (z_wd m) n := rfl
    have e2 : z_ix m p (n + 1) = z_ix m p n + (p n - mlo m n) * z_pr (z_wd m) n := rfl
    by_cases q : ∀ i, i < n → p i = mhi m i
    · have k1 := g1 q
      have k2 := (z_ix_b hl h n (by omega)).2.2.2.mpr q
      by_cases q2 : p n = mhi m n
      · refine ⟨fun _ => ?_, fun q3 => absurd (fun i hi => ?_) q3⟩
        · rw [e1, k1, show z_nx m p n = mlo m n by unfold z_nx; rw [z_if_t q, if_pos q2], Int.sub_self, Int.zero_mul]
          rfl
        · by_cases e : i = n
          · rw [e]; exact q2
          · exact q i (by omega)
      · refine ⟨fun q3 => absurd (q3 n (by omega)) q2, fun _ => ?_⟩
        rw [e1, e2, k1, k2, show z_nx m p n = p n + 1 by unfold z_nx; rw [z_if_t q, if_neg q2], show p n + 1 - mlo m n = (p n - mlo m n) + 1 by omega, Int.add_mul, Int.one_mul]
        omega
    · refine ⟨fun q3 => absurd (fun i hi => q3 i (by omega)) q, fun _ => ?_⟩
      rw [e1, e2, g2 q, show z_nx m p n = p n by unfold z_nx; rw [z_if_f q]]
      omega
theorem z_np_wd (m : z_MM) : z_np m = z_pr (z_wd m) (mN m) := rfl
theorem z_it_ix {m : z_MM} (hl : ∀ n, n < mN m → mlo m n ≤ mhi m n) : ∀ c : Nat, (c : Int) < z_np m → z_ix m (z_it m c) (mN m) = (c : Int)
  | 0, _ => by
    have : ∀ n, z_ix m (mlo m) n = 0 := by
      intro n
      induction n with
      | zero => rfl
      | succ n ih =>
        show z_ix m (mlo m) n + (mlo m n - mlo m n) * _ = 0
        rw [ih, Int.sub_self, Int.zero_mul]
        rfl
    exact this _
  | c + 1, hc => by
    have ih := z_it_ix hl c (by omega)
    have hb := (z_ix_b hl (z_it_in hl c) (mN m) (Nat.le_refl _)).2.2.2
    have hn : ¬ ∀ i, i < mN m → z_it m c i = mhi m i := fun q => by
      have := hb.mpr q
      rw [ih, ← z_np_wd] at this
      omega
    have := (z_ix_nx hl (z_it_in hl c) (mN m) (Nat.le_refl _)).2 hn
    rw [ih] at this
    exact this
theorem z_it_last {m : z_MM} (hl : ∀ n, n < mN m → mlo m n ≤ mhi m n) {c : Nat} (hc : (c : Int) < z_np m) : (∀ i, i < mN m → z_it m c i = mhi m i) ↔ (c : Int) + 1 = z_np m := by
  rw [← (z_ix_b hl (z_it_in hl c) (mN m) (Nat.le_refl _)).2.2.2, z_it_ix hl c hc, ← z_np_wd]
  omega
def z_p9 (I : AwI) (p : Nat → Int) : AwI := fun a j => if a = 253 then p j else I a j
theorem z_p9_o {I : AwI} {p : Nat → Int} {a j : Nat} (h : a ≠ 253) : z_p9 I p a j = I a j := if_neg h
theorem z_p9_p {I : AwI} {p : Nat → Int} (j : Nat) : z_p9 I p 253 j = p j := rfl
theorem z_p9_u {I : AwI} {p : Nat → Int} {k : Nat} {v : Int} : z_up (z_p9 I p) 253 k v = z_p9 I (va_up p k v) := by
  funext a j
  unfold z_up z_p9 va_up
  by_cases e : a = 253
  · subst e; by_cases e2 : j = k <;> simp [e2]
  · simp [e]
theorem z_p9_id (I : AwI) : z_p9 I (I 253) = I := by
  funext a j
  unfold z_p9
  by_cases e : a = 253
  · subst e; simp
  · rw [if_neg e]
theorem z_RI.p9 {I J : AwI} {m : z_MM} {L : List z_CC} {t : Int} {p : Nat → Int} (h : z_RI I J m L t) : z_RI (z_p9 I p) J m L t := h.frame ⟨fun a j q => z_p9_o (by omega), fun _ _ _ => rfl⟩
theorem z_FQ.p9 {I J I0 J0 : AwI} {p : Nat → Int} (h : z_FQ I0 J0 I J) : z_FQ I0 J0 (z_p9 I p) J := ⟨fun a j q => by rw [z_p9_o (by omega)]; exact h.1 a j q, h.2⟩
theorem z_psb {m : z_MM} (h : z_mb m) {f p : Nat → Int} {A : Int} (hf : ∀ n, n < mN m → -A ≤ f n ∧ f n ≤ A) (hp : ∀ n, n < mN m → -30 ≤ p n ∧ p n ≤ 30) (hA : 0 ≤ A) : ∀ x, x ≤ mN m → -(8 * (A * 30)) ≤ z_sum (fun n => f n * p n) x ∧ z_sum (fun n => f n * p n) x ≤ 8 * (A * 30) := fun x hx => by
  have a := z_sum_b (f := fun n => f n * p n) (A * 30) x (fun k hk => z_mulb (hf k (by omega)) (hp k (by omega)))
  have b : (x : Int) * (A * 30) ≤ 8 * (A * 30) := Int.mul_le_mul_of_nonneg_right (by have := h.1; omega) (by omega)
  omega
set_option maxHeartbeats 4000000 in
theorem c_X9_tooMany {π : Nat → Nat} {I J : AwI} {m : z_MM} {L : List z_CC} {t : Int} (hI : z_RI I J m L t) : CT m_X9_tooMany [zr 237] 255 I J (z_R π) (z_P (some (zi (z_bl (20000 < z_np m)))) 255 I J (z_R π)) := by
  obtain ⟨hM1, hm1, e0, e4, elo, ehi, ept, eF, ert, hmb, hptb, hF0⟩ := hI.rds
  have hN8 := hmb.1
  have hR10 := hmb.2.1
  have hC := hI.2.2.2.1
  have hct := hC.n
  have eL := hI.2.2.2.2.1.1
  have hnp := z_np_b hmb hI.2.2.1
  refine CT.of (by decide) (Nat.le_of_ble_eq_true rfl) ?_
  show AW _ 0 0 _ 0 [some (zr 237), none, none, none] [] _ _ _
  have loop : ∀ (n : Nat) (x : Nat), x + n = mN m → AW (FM m_X9_tooMany (z_P (some (zi (z_bl (20000 < z_np m)))) 255 I J (z_R π))) 0 0 255 4 [some (zr 237), some (zl (z_pr (z_wd m) x)), none, some (zi (x : Int))] [] I J (z_R π) := by
    intro n
    induction n with
    | zero =>
      intro x he
      refine aw_iload_n (pc := 4) dX9_tooMany_4 rfl ?_
      refine aw_aload_n (pc := 5) dX9_tooMany_5 rfl ?_
      refine aw_getV (pc := 6) (v := (mN m : Int)) dX9_tooMany_6 k_fl_X9_66 rfl (by omega) (by first | rfl | exact z_shr _ (by omega) | exact z_shc0 (by omega) | exact z_shc1 (by omega) | exact z_shc2 (by omega) | exact z_shc3 (by omega) | exact z_shc4 (by omega)) (e0) ?_
      refine aw_icmp_ge (pc := 9) (tgt := 37) dX9_tooMany_9 rfl (by first | omega | exact z_bl_r _) (by first | omega | exact z_bl_r _) (fun h9 => ?_) (fun h9 => absurd h9 (by omega))
      rw [show x = mN m by omega, ← z_np_wd]
      refine aw_lload_n (pc := 37) dX9_tooMany_37 rfl ?_
      refine aw_ldc2 (pc := 38) (v := 20000) dX9_tooMany_38 k_cst_X9_198 ?_
      refine aw_lcmp_le (pc := 41) (tgt := 49) dX9_tooMany_41 dX9_tooMany_42 rfl (by omega) (by omega) (fun h41 => ?_) (fun h41 => ?_)
      · refine aw_iconst (pc := 49) dX9_tooMany_49 ?_
        exact aw_zreturn (pc := 50) dX9_tooMany_50 rfl (by first | exact Or.inl rfl | exact Or.inr rfl | omega) ⟨Nat.zero_le _, Nat.zero_le _⟩ (⟨by first | exact z_r1 (by omega) | exact z_r0 (by omega), rfl, rfl, rfl, rfl⟩)
      · refine aw_iconst (pc := 45) dX9_tooMany_45 ?_
        refine aw_goto (pc := 46) (tgt := 50) dX9_tooMany_46 rfl ?_
        exact aw_zreturn (pc := 50) dX9_tooMany_50 rfl (by first | exact Or.inl rfl | exact Or.inr rfl | omega) ⟨Nat.zero_le _, Nat.zero_le _⟩ (⟨by first | exact z_r1 (by omega) | exact z_r0 (by omega), rfl, rfl, rfl, rfl⟩)
    | succ n ih =>
      intro x he
      refine aw_iload_n (pc := 4) dX9_tooMany_4 rfl ?_
      refine aw_aload_n (pc := 5) dX9_tooMany_5 rfl ?_
      refine aw_getV (pc := 6) (v := (mN m : Int)) dX9_tooMany_6 k_fl_X9_66 rfl (by omega) (by first | rfl | exact z_shr _ (by omega) | exact z_shc0 (by omega) | exact z_shc1 (by omega) | exact z_shc2 (by omega) | exact z_shc3 (by omega) | exact z_shc4 (by omega)) (e0) ?_
      refine aw_icmp_ge (pc := 9) (tgt := 37) dX9_tooMany_9 rfl (by first | omega | exact z_bl_r _) (by first | omega | exact z_bl_r _) (fun h9 => absurd h9 (by omega)) (fun h9 => ?_)
      refine aw_lload_n (pc := 12) dX9_tooMany_12 rfl ?_
      refine aw_aload_n (pc := 13) dX9_tooMany_13 rfl ?_
      refine aw_getR (pc := 14) dX9_tooMany_14 k_fl_X9_13 rfl (by omega) (by first | rfl | exact z_shr _ (by omega) | exact z_shc0 (by omega) | exact z_shc1 (by omega) | exact z_shc2 (by omega) | exact z_shc3 (by omega) | exact z_shc4 (by omega)) (by first | rfl | exact z_Rc0 _ (by omega) | exact z_Rc1 _ (by omega) | exact z_Rc2 _ (by omega) | exact z_Rc3 _ (by omega)) ?_
      refine aw_iload_n (pc := 17) dX9_tooMany_17 rfl ?_
      refine aw_ialoadV (pc := 18) (v := mhi m x) dX9_tooMany_18 (by omega) (Nat.le_refl _) (by first | rfl | exact z_shr _ (by omega) | exact z_shc0 (by omega) | exact z_shc1 (by omega) | exact z_shc2 (by omega) | exact z_shc3 (by omega) | exact z_shc4 (by omega)) (by first | omega | exact z_bl_r _) (ehi x (by omega)) ?_
      refine aw_aload_n (pc := 19) dX9_tooMany_19 rfl ?_
      refine aw_getR (pc := 20) dX9_tooMany_20 k_fl_X9_7 rfl (by omega) (by first | rfl | exact z_shr _ (by omega) | exact z_shc0 (by omega) | exact z_shc1 (by omega) | exact z_shc2 (by omega) | exact z_shc3 (by omega) | exact z_shc4 (by omega)) (by first | rfl | exact z_Rc0 _ (by omega) | exact z_Rc1 _ (by omega) | exact z_Rc2 _ (by omega) | exact z_Rc3 _ (by omega)) ?_
      refine aw_iload_n (pc := 23) dX9_tooMany_23 rfl ?_
      refine aw_ialoadV (pc := 24) (v := mlo m x) dX9_tooMany_24 (by omega) (Nat.le_refl _) (by first | rfl | exact z_shr _ (by omega) | exact z_shc0 (by omega) | exact z_shc1 (by omega) | exact z_shc2 (by omega) | exact z_shc3 (by omega) | exact z_shc4 (by omega)) (by first | omega | exact z_bl_r _) (elo x (by omega)) ?_
      refine aw_isub (pc := 25) dX9_tooMany_25 ?_
      refine aw_iconst (pc := 26) dX9_tooMany_26 ?_
      refine aw_iadd (pc := 27) dX9_tooMany_27 ?_
      refine aw_i2l (pc := 28) dX9_tooMany_28 (by have a := hmb.2.2.1 x; have b := hmb.2.2.2.1 x; omega) ?_
      refine aw_lmul (pc := 29) dX9_tooMany_29 ?_
      refine aw_lstore_n (pc := 30) (lv' := [_, _, _, _]) dX9_tooMany_30 (Nat.le_of_ble_eq_true rfl) rfl ?_
      refine aw_iinc (pc := 31) (lv' := [_, _, _, _]) dX9_tooMany_31 (Nat.le_of_ble_eq_true rfl) rfl rfl ?_
      refine aw_goto (pc := 34) (tgt := 4) dX9_tooMany_34 rfl ?_
      exact ih (x + 1) (by omega)
  refine aw_lconst (pc := 0) (v := 1) dX9_tooMany_0 rfl ?_
  refine aw_lstore_n (pc := 1) (lv' := [_, _, _, _]) dX9_tooMany_1 (Nat.le_of_ble_eq_true rfl) rfl ?_
  refine aw_iconst (pc := 2) dX9_tooMany_2 ?_
  refine aw_istore_n (pc := 3) (lv' := [_, _, _, _]) dX9_tooMany_3 (Nat.le_of_ble_eq_true rfl) rfl ?_
  exact loop (mN m) 0 (by omega)
set_option maxHeartbeats 4000000 in
theorem c_X9_isPlan {π : Nat → Nat} {I J : AwI} {m : z_MM} {L : List z_CC} {t : Int} {p : Nat → Int} (hI : z_RI I J m L t) (hp : ∀ n, n < mN m → -30 ≤ p n ∧ p n ≤ 30) : CT m_X9_isPlan [zr 237] 255 (z_p9 I p) J (z_R π) (z_P (some (zi (z_bl (z_isP m p)))) 255 (z_p9 I p) J (z_R π)) := by
  obtain ⟨hM1, hm1, e0, e4, elo, ehi, ept, eF, ert, hmb, hptb, hF0⟩ := hI.rds
  have hN8 := hmb.1
  have hR10 := hmb.2.1
  have hC := hI.2.2.2.1
  have hct := hC.n
  have eL := hI.2.2.2.2.1.1
  refine CT.of (by decide) (Nat.le_of_ble_eq_true rfl) ?_
  show AW _ 0 0 _ 0 [some (zr 237), none, none, none] [] _ _ _
  have loop : ∀ (n : Nat) (q : Nat) (u v : Option AwV), q + n = mR m → (∀ r, r < q → z_sum (fun n => mF m r n * p n) (mN m) ≤ mrt m r) → AW (FM m_X9_isPlan (z_P (some (zi (z_bl (z_isP m p)))) 255 (z_p9 I p) J (z_R π))) 0 0 255 2 [some (zr 237), some (zi (q : Int)), u, v] [] (z_p9 I p) J (z_R π) := by
    intro n
    induction n with
    | zero =>
      intro q u v he g
      refine aw_iload_n (pc := 2) dX9_isPlan_2 rfl ?_
      refine aw_aload_n (pc := 3) dX9_isPlan_3 rfl ?_
      refine aw_getV (pc := 4) (v := (mR m : Int)) dX9_isPlan_4 k_fl_X9_72 rfl (by omega) (by first | rfl | exact z_shr _ (by omega) | exact z_shc0 (by omega) | exact z_shc1 (by omega) | exact z_shc2 (by omega) | exact z_shc3 (by omega) | exact z_shc4 (by omega)) ((z_p9_o (by omega)).trans e4) ?_
      refine aw_icmp_ge (pc := 7) (tgt := 67) dX9_isPlan_7 rfl (by first | omega | exact z_bl_r _) (by first | omega | exact z_bl_r _) (fun h7 => ?_) (fun h7 => absurd h7 (by omega))
      refine aw_iconst (pc := 67) dX9_isPlan_67 ?_
      exact aw_zreturn (pc := 68) dX9_isPlan_68 rfl (by first | exact Or.inl rfl | exact Or.inr rfl | omega) ⟨Nat.zero_le _, Nat.zero_le _⟩ (⟨z_r1 (fun r hr => g r (by omega)), rfl, rfl, rfl, rfl⟩)
    | succ n ih =>
      intro q u v he g
      refine aw_iload_n (pc := 2) dX9_isPlan_2 rfl ?_
      refine aw_aload_n (pc := 3) dX9_isPlan_3 rfl ?_
      refine aw_getV (pc := 4) (v := (mR m : Int)) dX9_isPlan_4 k_fl_X9_72 rfl (by omega) (by first | rfl | exact z_shr _ (by omega) | exact z_shc0 (by omega) | exact z_shc1 (by omega) | exact z_shc2 (by omega) | exact z_shc3 (by omega) | exact z_shc4 (by omega)) ((z_p9_o (by omega)).trans e4) ?_
      refine aw_icmp_ge (pc := 7) (tgt := 67) dX9_isPlan_7 rfl (by first | omega | exact z_bl_r _) (by first | omega | exact z_bl_r _) (fun h7 => absurd h7 (by omega)) (fun h7 => ?_)
      have il : ∀ (n2 : Nat) (x : Nat), x + n2 = mN m → AW (FM m_X9_isPlan (z_P (some (zi (z_bl (z_isP m p)))) 255 (z_p9 I p) J (z_R π))) 0 0 255 14 [some (zr 237), some (zi (q : Int)), some (zi (z_sum (fun n => mF m q n * p n) x)), some (zi (x : Int))] [] (z_p9 I p) J (z_R π) := by
        intro n2
        induction n2 with
        | zero =>
          intro x he2
          refine aw_iload_n (pc := 14) dX9_isPlan_14 rfl ?_
          refine aw_aload_n (pc := 15) dX9_isPlan_15 rfl ?_
          refine aw_getV (pc := 16) (v := (mN m : Int)) dX9_isPlan_16 k_fl_X9_66 rfl (by omega) (by first | rfl | exact z_shr _ (by omega) | exact z_shc0 (by omega) | exact z_shc1 (by omega) | exact z_shc2 (by omega) | exact z_shc3 (by omega) | exact z_shc4 (by omega)) ((z_p9_o (by omega)).trans e0) ?_
          refine aw_icmp_ge (pc := 19) (tgt := 49) dX9_isPlan_19 rfl (by first | omega | exact z_bl_r _) (by first | omega | exact z_bl_r _) (fun h19 => ?_) (fun h19 => absurd h19 (by omega))
          rw [show x = mN m by omega]
          have hsb := z_psb hmb (f := mF m q) (p := p) (A := 50) (fun n _ => hmb.2.2.2.2.1 q n) hp (by omega) (mN m) (Nat.le_refl _)
          refine aw_iload_n (pc := 49) dX9_isPlan_49 rfl ?_
          refine aw_aload_n (pc := 50) dX9_isPlan_50 rfl ?_
          refine aw_getR (pc := 51) dX9_isPlan_51 k_fl_X9_20 rfl (by omega) (by first | rfl | exact z_shr _ (by omega) | exact z_shc0 (by omega) | exact z_shc1 (by omega) | exact z_shc2 (by omega) | exact z_shc3 (by omega) | exact z_shc4 (by omega)) (by first | rfl | exact z_Rc0 _ (by omega) | exact z_Rc1 _ (by omega) | exact z_Rc2 _ (by omega) | exact z_Rc3 _ (by omega)) ?_
          refine aw_iload_n (pc := 54) dX9_isPlan_54 rfl ?_
          refine aw_ialoadV (pc := 55) (v := mrt m q) dX9_isPlan_55 (by omega) (Nat.le_refl _) (by first | rfl | exact z_shr _ (by omega) | exact z_shc0 (by omega) | exact z_shc1 (by omega) | exact z_shc2 (by omega) | exact z_shc3 (by omega) | exact z_shc4 (by omega)) (by first | omega | exact z_bl_r _) ((z_p9_o (by omega)).trans (ert q (by omega))) ?_
          refine aw_icmp_le (pc := 56) (tgt := 61) dX9_isPlan_56 rfl (by omega) (by have := hmb.2.2.2.2.2 q; omega) (fun h56 => ?_) (fun h56 => ?_)
          · refine aw_iinc (pc := 61) (lv' := [_, _, _, _]) dX9_isPlan_61 (Nat.le_of_ble_eq_true rfl) rfl rfl ?_
            refine aw_goto (pc := 64) (tgt := 2) dX9_isPlan_64 rfl ?_
            exact ih (q + 1) _ _ (by omega) (fun r hr => by by_cases e : r = q; (rw [e]; omega); exact g r (by omega))
          · refine aw_iconst (pc := 59) dX9_isPlan_59 ?_
            exact aw_zreturn (pc := 60) dX9_isPlan_60 rfl (by first | exact Or.inl rfl | exact Or.inr rfl | omega) ⟨Nat.zero_le _, Nat.zero_le _⟩ (⟨z_r0 (fun z => by have := z q (by omega); omega), rfl, rfl, rfl, rfl⟩)
        | succ n2 ih2 =>
          intro x he2
          refine aw_iload_n (pc := 14) dX9_isPlan_14 rfl ?_
          refine aw_aload_n (pc := 15) dX9_isPlan_15 rfl ?_
          refine aw_getV (pc := 16) (v := (mN m : Int)) dX9_isPlan_16 k_fl_X9_66 rfl (by omega) (by first | rfl | exact z_shr _ (by omega) | exact z_shc0 (by omega) | exact z_shc1 (by omega) | exact z_shc2 (by omega) | exact z_shc3 (by omega) | exact z_shc4 (by omega)) ((z_p9_o (by omega)).trans e0) ?_
          refine aw_icmp_ge (pc := 19) (tgt := 49) dX9_isPlan_19 rfl (by first | omega | exact z_bl_r _) (by first | omega | exact z_bl_r _) (fun h19 => absurd h19 (by omega)) (fun h19 => ?_)
          refine aw_iload_n (pc := 22) dX9_isPlan_22 rfl ?_
          refine aw_aload_n (pc := 23) dX9_isPlan_23 rfl ?_
          refine aw_getR (pc := 24) dX9_isPlan_24 k_fl_X9_23 rfl (by omega) (by first | rfl | exact z_shr _ (by omega) | exact z_shc0 (by omega) | exact z_shc1 (by omega) | exact z_shc2 (by omega) | exact z_shc3 (by omega) | exact z_shc4 (by omega)) (by first | rfl | exact z_Rc0 _ (by omega) | exact z_Rc1 _ (by omega) | exact z_Rc2 _ (by omega) | exact z_Rc3 _ (by omega)) ?_
          refine aw_bipush (pc := 27) dX9_isPlan_27 rfl ?_
          refine aw_iload_n (pc := 29) dX9_isPlan_29 rfl ?_
          refine aw_imul (pc := 30) dX9_isPlan_30 ?_
          refine aw_iload_n (pc := 31) dX9_isPlan_31 rfl ?_
          refine aw_iadd (pc := 32) dX9_isPlan_32 ?_
          refine aw_ialoadV (pc := 33) (v := mF m q x) dX9_isPlan_33 (by omega) (Nat.le_refl _) (by first | rfl | exact z_shr _ (by omega) | exact z_shc0 (by omega) | exact z_shc1 (by omega) | exact z_shc2 (by omega) | exact z_shc3 (by omega) | exact z_shc4 (by omega)) (by omega) (by rw [show ((8 : Int) * (q : Int) + (x : Int)).toNat = 8 * q + x by omega]; exact (z_p9_o (by omega)).trans (eF q x (by omega) (by omega))) ?_
          refine aw_aload_n (pc := 34) dX9_isPlan_34 rfl ?_
          refine aw_getR (pc := 35) dX9_isPlan_35 k_fl_X9_60 rfl (by omega) (by first | rfl | exact z_shr _ (by omega) | exact z_shc0 (by omega) | exact z_shc1 (by omega) | exact z_shc2 (by omega) | exact z_shc3 (by omega) | exact z_shc4 (by omega)) (by first | rfl | exact z_Rc0 _ (by omega) | exact z_Rc1 _ (by omega) | exact z_Rc2 _ (by omega) | exact z_Rc3 _ (by omega)) ?_
          refine aw_iload_n (pc := 38) dX9_isPlan_38 rfl ?_
          refine aw_ialoadV (pc := 39) (v := p x) dX9_isPlan_39 (by omega) (Nat.le_refl _) (by first | rfl | exact z_shr _ (by omega) | exact z_shc0 (by omega) | exact z_shc1 (by omega) | exact z_shc2 (by omega) | exact z_shc3 (by omega) | exact z_shc4 (by omega)) (by first | omega | exact z_bl_r _) (z_p9_p x) ?_
          refine aw_imul (pc := 40) dX9_isPlan_40 ?_
          refine aw_iadd (pc := 41) dX9_isPlan_41 ?_
          refine aw_istore_n (pc := 42) (lv' := [_, _, _, _]) dX9_isPlan_42 (Nat.le_of_ble_eq_true rfl) rfl ?_
          refine aw_iinc (pc := 43) (lv' := [_, _, _, _]) dX9_isPlan_43 (Nat.le_of_ble_eq_true rfl) rfl rfl ?_
          refine aw_goto (pc := 46) (tgt := 14) dX9_isPlan_46 rfl ?_
          exact ih2 (x + 1) (by omega)
      refine aw_iconst (pc := 10) dX9_isPlan_10 ?_
      refine aw_istore_n (pc := 11) (lv' := [_, _, _, _]) dX9_isPlan_11 (Nat.le_of_ble_eq_true rfl) rfl ?_
      refine aw_iconst (pc := 12) dX9_isPlan_12 ?_
      refine aw_istore_n (pc := 13) (lv' := [_, _, _, _]) dX9_isPlan_13 (Nat.le_of_ble_eq_true rfl) rfl ?_
      exact il (mN m) 0 (by omega)
  refine aw_iconst (pc := 0) dX9_isPlan_0 ?_
  refine aw_istore_n (pc := 1) (lv' := [_, _, _, _]) dX9_isPlan_1 (Nat.le_of_ble_eq_true rfl) rfl ?_
  exact loop (mR m) 0 _ _ (by omega) (fun r hr => absurd hr (by omega))
set_option maxHeartbeats 4000000 in
theorem c_X9_goesOn {π : Nat → Nat} {I J : AwI} {m : z_MM} {L : List z_CC} {t : Int} {p : Nat → Int} (hI : z_RI I J m L t) (hp : ∀ n, n < mN m → -30 ≤ p n ∧ p n ≤ 30) : CT m_X9_goesOn [zr 237] 255 (z_p9 I p) J (z_R π) (fun q9 sz' I' J' R' => q9 = some (zi (z_bl (¬ ∀ n, n < mN m → p n = mhi m n))) ∧ sz' = 255 ∧ J' = J ∧ R' = z_R π ∧ ∃ p' : Nat → Int, I' = z_p9 I p' ∧ ∀ n, n < mN m → p' n = z_nx m p n) := by
  obtain ⟨hM1, hm1, e0, e4, elo, ehi, ept, eF, ert, hmb, hptb, hF0⟩ := hI.rds
  have hN8 := hmb.1
  have hR10 := hmb.2.1
  have hC := hI.2.2.2.1
  have hct := hC.n
  have eL := hI.2.2.2.2.1.1
  refine CT.of (by decide) (Nat.le_of_ble_eq_true rfl) ?_
  show AW _ 0 0 _ 0 [some (zr 237), none] [] _ _ _
  have loop : ∀ (n : Nat) (x : Nat), x + n = mN m → (∀ i, i < x → p i = mhi m i) → AW (FM m_X9_goesOn (fun q9 sz' I' J' R' => q9 = some (zi (z_bl (¬ ∀ n, n < mN m → p n = mhi m n))) ∧ sz' = 255 ∧ J' = J ∧ R' = z_R π ∧ ∃ p' : Nat → Int, I' = z_p9 I p' ∧ ∀ n, n < mN m → p' n = z_nx m p n)) 0 0 255 2 [some (zr 237), some (zi (x : Int))] [] (z_p9 I (z_pf (mlo m) p x)) J (z_R π) := by
    intro n
    induction n with
    | zero =>
      intro x he g
      refine aw_iload_n (pc := 2) dX9_goesOn_2 rfl ?_
      refine aw_aload_n (pc := 3) dX9_goesOn_3 rfl ?_
      refine aw_getV (pc := 4) (v := (mN m : Int)) dX9_goesOn_4 k_fl_X9_66 rfl (by omega) (by first | rfl | exact z_shr _ (by omega) | exact z_shc0 (by omega) | exact z_shc1 (by omega) | exact z_shc2 (by omega) | exact z_shc3 (by omega) | exact z_shc4 (by omega)) ((z_p9_o (by omega)).trans e0) ?_
      refine aw_icmp_ge (pc := 7) (tgt := 43) dX9_goesOn_7 rfl (by first | omega | exact z_bl_r _) (by first | omega | exact z_bl_r _) (fun h7 => ?_) (fun h7 => absurd h7 (by omega))
      refine aw_iload_n (pc := 43) dX9_goesOn_43 rfl ?_
      refine aw_aload_n (pc := 44) dX9_goesOn_44 rfl ?_
      refine aw_getV (pc := 45) (v := (mN m : Int)) dX9_goesOn_45 k_fl_X9_66 rfl (by omega) (by first | rfl | exact z_shr _ (by omega) | exact z_shc0 (by omega) | exact z_shc1 (by omega) | exact z_shc2 (by omega) | exact z_shc3 (by omega) | exact z_shc4 (by omega)) ((z_p9_o (by omega)).trans e0) ?_
      refine aw_icmp_ne (pc := 48) (tgt := 53) dX9_goesOn_48 rfl (by omega) (by omega) (fun h48 => absurd h48 (by omega)) (fun h48 => ?_)
      refine aw_iconst (pc := 51) dX9_goesOn_51 ?_
      refine aw_zreturn (pc := 52) dX9_goesOn_52 rfl (by first | exact Or.inl rfl | exact Or.inr rfl | omega) ⟨Nat.zero_le _, Nat.zero_le _⟩ ?_
      refine ⟨z_r0 (fun q => q (fun n hn => g n (by omega))), rfl, rfl, rfl, _, rfl, fun n hn => ?_⟩
      rw [z_pf_lt (by omega)]
      unfold z_nx
      rw [z_if_t (fun i hi => g i (by omega)), if_pos (g n (by omega))]
    | succ n ih =>
      intro x he g
      refine aw_iload_n (pc := 2) dX9_goesOn_2 rfl ?_
      refine aw_aload_n (pc := 3) dX9_goesOn_3 rfl ?_
      refine aw_getV (pc := 4) (v := (mN m : Int)) dX9_goesOn_4 k_fl_X9_66 rfl (by omega) (by first | rfl | exact z_shr _ (by omega) | exact z_shc0 (by omega) | exact z_shc1 (by omega) | exact z_shc2 (by omega) | exact z_shc3 (by omega) | exact z_shc4 (by omega)) ((z_p9_o (by omega)).trans e0) ?_
      refine aw_icmp_ge (pc := 7) (tgt := 43) dX9_goesOn_7 rfl (by first | omega | exact z_bl_r _) (by first | omega | exact z_bl_r _) (fun h7 => absurd h7 (by omega)) (fun h7 => ?_)
      refine aw_aload_n (pc := 10) dX9_goesOn_10 rfl ?_
      refine aw_getR (pc := 11) dX9_goesOn_11 k_fl_X9_60 rfl (by omega) (by first | rfl | exact z_shr _ (by omega) | exact z_shc0 (by omega) | exact z_shc1 (by omega) | exact z_shc2 (by omega) | exact z_shc3 (by omega) | exact z_shc4 (by omega)) (by first | rfl | exact z_Rc0 _ (by omega) | exact z_Rc1 _ (by omega) | exact z_Rc2 _ (by omega) | exact z_Rc3 _ (by omega)) ?_
      refine aw_iload_n (pc := 14) dX9_goesOn_14 rfl ?_
      refine aw_ialoadV (pc := 15) (v := p x) dX9_goesOn_15 (by omega) (Nat.le_refl _) (by first | rfl | exact z_shr _ (by omega) | exact z_shc0 (by omega) | exact z_shc1 (by omega) | exact z_shc2 (by omega) | exact z_shc3 (by omega) | exact z_shc4 (by omega)) (by first | omega | exact z_bl_r _) ((z_p9_p x).trans z_pf_at) ?_
      refine aw_aload_n (pc := 16) dX9_goesOn_16 rfl ?_
      refine aw_getR (pc := 17) dX9_goesOn_17 k_fl_X9_13 rfl (by omega) (by first | rfl | exact z_shr _ (by omega) | exact z_shc0 (by omega) | exact z_shc1 (by omega) | exact z_shc2 (by omega) | exact z_shc3 (by omega) | exact z_shc4 (by omega)) (by first | rfl | exact z_Rc0 _ (by omega) | exact z_Rc1 _ (by omega) | exact z_Rc2 _ (by omega) | exact z_Rc3 _ (by omega)) ?_
      refine aw_iload_n (pc := 20) dX9_goesOn_20 rfl ?_
      refine aw_ialoadV (pc := 21) (v := mhi m x) dX9_goesOn_21 (by omega) (Nat.le_refl _) (by first | rfl | exact z_shr _ (by omega) | exact z_shc0 (by omega) | exact z_shc1 (by omega) | exact z_shc2 (by omega) | exact z_shc3 (by omega) | exact z_shc4 (by omega)) (by first | omega | exact z_bl_r _) ((z_p9_o (by omega)).trans (ehi x (by omega))) ?_
      refine aw_icmp_ne (pc := 22) (tgt := 43) dX9_goesOn_22 rfl (by have := hp x (by omega); omega) (by have := hmb.2.2.2.1 x; omega) (fun h22 => ?_) (fun h22 => ?_)
      · refine aw_iload_n (pc := 43) dX9_goesOn_43 rfl ?_
        refine aw_aload_n (pc := 44) dX9_goesOn_44 rfl ?_
        refine aw_getV (pc := 45) (v := (mN m : Int)) dX9_goesOn_45 k_fl_X9_66 rfl (by omega) (by first | rfl | exact z_shr _ (by omega) | exact z_shc0 (by omega) | exact z_shc1 (by omega) | exact z_shc2 (by omega) | exact z_shc3 (by omega) | exact z_shc4 (by omega)) ((z_p9_o (by omega)).trans e0) ?_
        refine aw_icmp_ne (pc := 48) (tgt := 53) dX9_goesOn_48 rfl (by omega) (by omega) (fun h48 => ?_) (fun h48 => absurd h48 (by omega))
        refine aw_aload_n (pc := 53) dX9_goesOn_53 rfl ?_
        refine aw_getR (pc := 54) dX9_goesOn_54 k_fl_X9_60 rfl (by omega) (by first | rfl | exact z_shr _ (by omega) | exact z_shc0 (by omega) | exact z_shc1 (by omega) | exact z_shc2 (by omega) | exact z_shc3 (by omega) | exact z_shc4 (by omega)) (by first | rfl | exact z_Rc0 _ (by omega) | exact z_Rc1 _ (by omega) | exact z_Rc2 _ (by omega) | exact z_Rc3 _ (by omega)) ?_
        refine aw_iload_n (pc := 57) dX9_goesOn_57 rfl ?_
        refine aw_dup2 (pc := 58) dX9_goesOn_58 (fun _ h => by cases h) (fun _ h => by cases h) ?_
        refine aw_ialoadV (pc := 59) (v := p x) dX9_goesOn_59 (by omega) (Nat.le_refl _) (by first | rfl | exact z_shr _ (by omega) | exact z_shc0 (by omega) | exact z_shc1 (by omega) | exact z_shc2 (by omega) | exact z_shc3 (by omega) | exact z_shc4 (by omega)) (by first | omega | exact z_bl_r _) ((z_p9_p x).trans z_pf_at) ?_
        refine aw_iconst (pc := 60) dX9_goesOn_60 ?_
        refine aw_iadd (pc := 61) dX9_goesOn_61 ?_
        refine aw_iastore (pc := 62) dX9_goesOn_62 (by omega) (Nat.le_refl _) (by first | rfl | exact z_shr _ (by omega) | exact z_shc0 (by omega) | exact z_shc1 (by omega) | exact z_shc2 (by omega) | exact z_shc3 (by omega) | exact z_shc4 (by omega)) (by first | omega | exact z_bl_r _) ?_
        rw [Int.toNat_natCast, z_p9_u]
        refine aw_iconst (pc := 63) dX9_goesOn_63 ?_
        refine aw_zreturn (pc := 64) dX9_goesOn_64 rfl (by first | exact Or.inl rfl | exact Or.inr rfl | omega) ⟨Nat.zero_le _, Nat.zero_le _⟩ ?_
        refine ⟨z_r1 (fun q => ?_), rfl, rfl, rfl, _, rfl, fun n hn => ?_⟩
        · exact absurd (q x (by omega)) (by omega)
        · unfold z_nx
          by_cases e : n = x
          · rw [e, z_vs, z_if_t (fun i hi => g i hi), if_neg (by omega)]
          · by_cases e2 : n < x
            · rw [z_vn_ne e, z_pf_lt e2, z_if_t (fun i hi => g i (by omega)), if_pos (g n e2)]
            · rw [z_vn_ne e, show z_pf (mlo m) p x n = p n from if_neg e2, z_if_f (fun q => absurd (q x (by omega)) (by omega))]
      · refine aw_aload_n (pc := 25) dX9_goesOn_25 rfl ?_
        refine aw_getR (pc := 26) dX9_goesOn_26 k_fl_X9_60 rfl (by omega) (by first | rfl | exact z_shr _ (by omega) | exact z_shc0 (by omega) | exact z_shc1 (by omega) | exact z_shc2 (by omega) | exact z_shc3 (by omega) | exact z_shc4 (by omega)) (by first | rfl | exact z_Rc0 _ (by omega) | exact z_Rc1 _ (by omega) | exact z_Rc2 _ (by omega) | exact z_Rc3 _ (by omega)) ?_
        refine aw_iload_n (pc := 29) dX9_goesOn_29 rfl ?_
        refine aw_aload_n (pc := 30) dX9_goesOn_30 rfl ?_
        refine aw_getR (pc := 31) dX9_goesOn_31 k_fl_X9_7 rfl (by omega) (by first | rfl | exact z_shr _ (by omega) | exact z_shc0 (by omega) | exact z_shc1 (by omega) | exact z_shc2 (by omega) | exact z_shc3 (by omega) | exact z_shc4 (by omega)) (by first | rfl | exact z_Rc0 _ (by omega) | exact z_Rc1 _ (by omega) | exact z_Rc2 _ (by omega) | exact z_Rc3 _ (by omega)) ?_
        refine aw_iload_n (pc := 34) dX9_goesOn_34 rfl ?_
        refine aw_ialoadV (pc := 35) (v := mlo m x) dX9_goesOn_35 (by omega) (Nat.le_refl _) (by first | rfl | exact z_shr _ (by omega) | exact z_shc0 (by omega) | exact z_shc1 (by omega) | exact z_shc2 (by omega) | exact z_shc3 (by omega) | exact z_shc4 (by omega)) (by first | omega | exact z_bl_r _) ((z_p9_o (by omega)).trans (elo x (by omega))) ?_
        refine aw_iastore (pc := 36) dX9_goesOn_36 (by omega) (Nat.le_refl _) (by first | rfl | exact z_shr _ (by omega) | exact z_shc0 (by omega) | exact z_shc1 (by omega) | exact z_shc2 (by omega) | exact z_shc3 (by omega) | exact z_shc4 (by omega)) (by first | omega | exact z_bl_r _) ?_
        rw [Int.toNat_natCast, z_p9_u, z_pf_sn (g := mlo m) rfl]
        refine aw_iinc (pc := 37) (lv' := [_, _]) dX9_goesOn_37 (Nat.le_of_ble_eq_true rfl) rfl rfl ?_
        refine aw_goto (pc := 40) (tgt := 2) dX9_goesOn_40 rfl ?_
        exact ih (x + 1) (by omega) (fun i hi => by by_cases e : i = x; (rw [e]; exact h22); exact g i (by omega))
  refine aw_iconst (pc := 0) dX9_goesOn_0 ?_
  refine aw_istore_n (pc := 1) (lv' := [_, _]) dX9_goesOn_1 (Nat.le_of_ble_eq_true rfl) rfl ?_
  have K := loop (mN m) 0 (by omega) (fun i hi => absurd hi (by omega))
  rw [z_pf_0] at K
  exact K
noncomputable def z_cT (m : z_MM) (T : (Nat → Int) → Prop) (x : Nat) : Int := z_sum (fun c => z_bl (z_isP m (z_it m c) ∧ T (z_it m c))) x
theorem z_cT_b (m : z_MM) (T : (Nat → Int) → Prop) : ∀ x : Nat, 0 ≤ z_cT m T x ∧ z_cT m T x ≤ x
  | 0 => ⟨Int.le_refl _, Int.le_refl _⟩
  | x + 1 => by
    have := z_cT_b m T x
    have e : z_cT m T (x + 1) = z_cT m T x + z_bl (z_isP m (z_it m x) ∧ T (z_it m x)) := rfl
    have := z_bl_01 (z_isP m (z_it m x) ∧ T (z_it m x))
    omega
theorem z_cT_P {m : z_MM} {T : (Nat → Int) → Prop} (h : ∀ p, T p) (x : Nat) : z_cT m T x = z_cP m x := z_sum_c _ (fun c _ => z_bl_c ⟨fun q => q.1, fun q => ⟨q, h _⟩⟩)
theorem z_cT_0 {m : z_MM} {C : z_CC} {T : (Nat → Int) → Prop} (h : ∀ p, T p ↔ ¬ z_kp m C p) : ∀ x, z_cT m T x = 0 ↔ z_ho m C x
  | 0 => ⟨fun _ c hc => absurd hc (by omega), fun _ => rfl⟩
  | x + 1 => by
    have ih := z_cT_0 h x
    have b := z_cT_b m T x
    have e : z_cT m T (x + 1) = z_cT m T x + z_bl (z_isP m (z_it m x) ∧ T (z_it m x)) := rfl
    have b2 := z_bl_01 (z_isP m (z_it m x) ∧ T (z_it m x))
    constructor
    · intro q c hc q2
      by_cases e2 : c = x
      · have q3 : z_bl (z_isP m (z_it m x) ∧ T (z_it m x)) = 0 := by omega
        rw [e2] at q2 ⊢
        exact Classical.byContradiction (fun q4 => z_bl_0.mp q3 ⟨q2, (h _).mpr q4⟩)
      · exact ih.mp (by omega) c (by omega) q2
    · intro q
      have q1 := ih.mpr (fun c hc => q c (by omega))
      have q2 : z_bl (z_isP m (z_it m x) ∧ T (z_it m x)) = 0 := z_bl_f (fun q3 => (h _).mp q3.2 (q x (by omega) q3.1))
      omega
set_option maxHeartbeats 4000000 in
theorem c_X9_count {π : Nat → Nat} {I J : AwI} {m : z_MM} {L : List z_CC} {t : Int} {p0 : Nat → Int} {k : Int} (hI : z_RI I J m L t) (hk : -1 ≤ k ∧ k < (L.length : Int)) : CT m_X9_count [zr 237, zi k] 255 (z_p9 I p0) J (z_R π) (fun q9 sz' I' J' R' => q9 = some (zi (z_cT m (fun p => k < 0 ∨ ¬ z_kp m (z_g L k.toNat) p) (z_np m).toNat)) ∧ sz' = 255 ∧ J' = J ∧ R' = z_R π ∧ ∃ p' : Nat → Int, I' = z_p9 I p') := by
  obtain ⟨hM1, hm1, e0, e4, elo, ehi, ept, eF, ert, hmb, hptb, hF0⟩ := hI.rds
  have hN8 := hmb.1
  have hR10 := hmb.2.1
  have hC := hI.2.2.2.1
  have hct := hC.n
  have eL := hI.2.2.2.2.1.1
  have hlh := hI.2.2.1
  have hnp := z_np_b hmb hlh
  refine CT.of (by decide) (Nat.le_of_ble_eq_true rfl) ?_
  show AW _ 0 0 _ 0 [some (zr 237), some (zi k), none, none, none, none, none] [] _ _ _
  have loop : ∀ (n : Nat) (c : Nat) (p : Nat → Int) (u v : Option AwV), (c : Int) + n = z_np m → (∀ n, n < mN m → p n = z_it m c n) → AW (FM m_X9_count (fun q9 sz' I' J' R' => q9 = some (zi (z_cT m (fun p => k < 0 ∨ ¬ z_kp m (z_g L k.toNat) p) (z_np m).toNat)) ∧ sz' = 255 ∧ J' = J ∧ R' = z_R π ∧ ∃ p' : Nat → Int, I' = z_p9 I p')) 0 0 255 32 [some (zr 237), some (zi k), some (zi (z_cT m (fun p => k < 0 ∨ ¬ z_kp m (z_g L k.toNat) p) c)), some (zi (z_bl ((c : Int) < z_np m))), u, none, v] [] (z_p9 I p) J (z_R π) := by
    intro n
    induction n with
    | zero =>
      intro c p u v he hpi
      refine aw_iload_n (pc := 32) dX9_count_32 rfl ?_
      refine aw_if_eq (pc := 33) (tgt := 126) dX9_count_33 rfl (z_bl_r _) (fun h33 => ?_) (fun h33 => absurd h33 (by intro q; exact q (z_bl_f (by omega))))
      refine aw_iload_n (pc := 126) dX9_count_126 rfl ?_
      exact aw_ireturn (pc := 127) dX9_count_127 rfl ⟨Nat.zero_le _, Nat.zero_le _⟩ (⟨by rw [show (z_np m).toNat = c by omega], rfl, rfl, rfl, p, rfl⟩)
    | succ n ih =>
      intro c p u v he hpi
      refine aw_iload_n (pc := 32) dX9_count_32 rfl ?_
      refine aw_if_eq (pc := 33) (tgt := 126) dX9_count_33 rfl (z_bl_r _) (fun h33 => absurd h33 (by rw [z_bl_t (by omega)]; omega)) (fun h33 => ?_)
      have hc : (c : Int) < z_np m := by omega
      have hp30 : ∀ n, n < mN m → -30 ≤ p n ∧ p n ≤ 30 := fun n hn => by have a := z_it_in hlh c n hn; have b := hmb.2.2.1 n; have d := hmb.2.2.2.1 n; rw [hpi n hn]; omega
      have tail : ∀ (u v : Option AwV), AW (FM m_X9_count (fun q9 sz' I' J' R' => q9 = some (zi (z_cT m (fun p => k < 0 ∨ ¬ z_kp m (z_g L k.toNat) p) (z_np m).toNat)) ∧ sz' = 255 ∧ J' = J ∧ R' = z_R π ∧ ∃ p' : Nat → Int, I' = z_p9 I p')) 0 0 255 118 [some (zr 237), some (zi k), some (zi (z_cT m (fun p => k < 0 ∨ ¬ z_kp m (z_g L k.toNat) p) (c + 1))), some (zi (z_bl ((c : Int) < z_np m))), u, none, v] [] (z_p9 I p) J (z_R π) := by
        intro u v
        refine aw_aload_n (pc := 118) dX9_count_118 rfl ?_
        refine aw_qV (pc := 119) (d := m_X9_goesOn) (c_X9_goesOn hI hp30) k_X9_goesOn dX9_count_119 k_ml_X9_203 rfl ⟨rfl, rfl⟩ (by omega) (by first | rfl | exact z_shr _ (by omega) | exact z_shc0 (by omega) | exact z_shc1 (by omega) | exact z_shc2 (by omega) | exact z_shc3 (by omega) | exact z_shc4 (by omega)) rfl ⟨Nat.le_of_ble_eq_true rfl, Nat.le_of_ble_eq_true rfl⟩ ⟨Nat.zero_le _, Nat.zero_le _⟩ rfl (Nat.le_of_ble_eq_true rfl) ?_
        rintro q9 sz2 I2 J R2 ⟨rfl, rfl, rfl, rfl, p2, rfl, hp2⟩
        refine aw_istore_n (pc := 122) (lv' := [_, _, _, _, _, _, _]) dX9_count_122 (Nat.le_of_ble_eq_true rfl) rfl ?_
        refine aw_goto (pc := 123) (tgt := 32) dX9_count_123 rfl ?_
        have eb : z_bl (¬ ∀ n, n < mN m → p n = mhi m n) = z_bl (((c + 1 : Nat) : Int) < z_np m) := z_bl_c (by
          have l1 := z_it_last hlh (c := c) hc
          have l2 : (∀ n, n < mN m → p n = mhi m n) ↔ ∀ n, n < mN m → z_it m c n = mhi m n := forall_congr' (fun n => forall_congr' (fun hn => by rw [hpi n hn]))
          rw [l2, l1]
          omega)
        rw [eb]
        exact ih (c + 1) p2 _ _ (by omega) (fun n hn => (hp2 n hn).trans (z_nx_c hpi n hn))
      refine aw_aload_n (pc := 36) dX9_count_36 rfl ?_
      refine aw_qV (pc := 37) (d := m_X9_isPlan) (c_X9_isPlan hI hp30) k_X9_isPlan dX9_count_37 k_ml_X9_200 rfl ⟨rfl, rfl⟩ (by omega) (by first | rfl | exact z_shr _ (by omega) | exact z_shc0 (by omega) | exact z_shc1 (by omega) | exact z_shc2 (by omega) | exact z_shc3 (by omega) | exact z_shc4 (by omega)) rfl ⟨Nat.le_of_ble_eq_true rfl, Nat.le_of_ble_eq_true rfl⟩ ⟨Nat.zero_le _, Nat.zero_le _⟩ rfl (Nat.le_of_ble_eq_true rfl) (z_Pk ?_)
      refine aw_if_eq (pc := 40) (tgt := 118) dX9_count_40 rfl (z_bl_r _) (fun h40 => ?_) (fun h40 => ?_)
      · have ex : (z_cT m (fun p => k < 0 ∨ ¬ z_kp m (z_g L k.toNat) p) (c + 1)) = (z_cT m (fun p => k < 0 ∨ ¬ z_kp m (z_g L k.toNat) p) c) + 0 := by show (z_cT m (fun p => k < 0 ∨ ¬ z_kp m (z_g L k.toNat) p) c) + z_bl _ = _; rw [z_bl_f (fun q => z_bl_0.mp h40 ((z_isP_c hpi).mpr q.1))]
        have K := tail u v
        rw [ex, Int.add_zero] at K
        exact K
      · have hisP := (z_isP_c hpi).mp (z_bl_n.mp h40)
        refine aw_lconst (pc := 43) (v := 0) dX9_count_43 rfl ?_
        refine aw_lstore (pc := 44) (lv' := [_, _, _, _, _, _, _]) dX9_count_44 (Nat.le_of_ble_eq_true rfl) rfl ?_
        refine aw_iconst (pc := 46) dX9_count_46 ?_
        refine aw_istore (pc := 47) (lv' := [_, _, _, _, _, _, _]) dX9_count_47 (Nat.le_of_ble_eq_true rfl) rfl ?_
        by_cases hk0 : k < 0
        · refine aw_iload (pc := 49) dX9_count_49 rfl ?_
          refine aw_aload_n (pc := 51) dX9_count_51 rfl ?_
          refine aw_getV (pc := 52) (v := (mN m : Int)) dX9_count_52 k_fl_X9_66 rfl (by omega) (by first | rfl | exact z_shr _ (by omega) | exact z_shc0 (by omega) | exact z_shc1 (by omega) | exact z_shc2 (by omega) | exact z_shc3 (by omega) | exact z_shc4 (by omega)) ((z_p9_o (by omega)).trans e0) ?_
          refine aw_icmp_ge (pc := 55) (tgt := 94) dX9_count_55 rfl (by first | omega | exact z_bl_r _) (by first | omega | exact z_bl_r _) (fun h55 => ?_) (fun h55 => ?_)
          · refine aw_iload_n (pc := 94) dX9_count_94 rfl ?_
            refine aw_iload_n (pc := 95) dX9_count_95 rfl ?_
            refine aw_if_lt (pc := 96) (tgt := 111) dX9_count_96 rfl (by first | omega | exact z_bl_r _) (fun h96 => ?_) (fun h96 => absurd h96 (by omega))
            refine aw_iconst (pc := 111) dX9_count_111 ?_
            refine aw_goto (pc := 112) (tgt := 116) dX9_count_112 rfl ?_
            refine aw_iadd (pc := 116) dX9_count_116 ?_
            refine aw_istore_n (pc := 117) (lv' := [_, _, _, _, _, _, _]) dX9_count_117 (Nat.le_of_ble_eq_true rfl) rfl ?_
            have ex : (z_cT m (fun p => k < 0 ∨ ¬ z_kp m (z_g L k.toNat) p) (c + 1)) = (z_cT m (fun p => k < 0 ∨ ¬ z_kp m (z_g L k.toNat) p) c) + 1 := by show (z_cT m (fun p => k < 0 ∨ ¬ z_kp m (z_g L k.toNat) p) c) + z_bl _ = _; rw [z_bl_t ⟨hisP, Or.inl hk0⟩]
            have K := tail (some (zl 0)) (some (zi 0))
            rw [ex] at K
            exact K
          · refine aw_iload_n (pc := 58) dX9_count_58 rfl ?_
            refine aw_if_lt (pc := 59) (tgt := 94) dX9_count_59 rfl (by first | omega | exact z_bl_r _) (fun h59 => ?_) (fun h59 => absurd h59 (by omega))
            refine aw_iload_n (pc := 94) dX9_count_94 rfl ?_
            refine aw_iload_n (pc := 95) dX9_count_95 rfl ?_
            refine aw_if_lt (pc := 96) (tgt := 111) dX9_count_96 rfl (by first | omega | exact z_bl_r _) (fun h96 => ?_) (fun h96 => absurd h96 (by omega))
            refine aw_iconst (pc := 111) dX9_count_111 ?_
            refine aw_goto (pc := 112) (tgt := 116) dX9_count_112 rfl ?_
            refine aw_iadd (pc := 116) dX9_count_116 ?_
            refine aw_istore_n (pc := 117) (lv' := [_, _, _, _, _, _, _]) dX9_count_117 (Nat.le_of_ble_eq_true rfl) rfl ?_
            have ex : (z_cT m (fun p => k < 0 ∨ ¬ z_kp m (z_g L k.toNat) p) (c + 1)) = (z_cT m (fun p => k < 0 ∨ ¬ z_kp m (z_g L k.toNat) p) c) + 1 := by show (z_cT m (fun p => k < 0 ∨ ¬ z_kp m (z_g L k.toNat) p) c) + z_bl _ = _; rw [z_bl_t ⟨hisP, Or.inl hk0⟩]
            have K := tail (some (zl 0)) (some (zi 0))
            rw [ex] at K
            exact K
        · have hkL : k.toNat < L.length := by omega
          have il : ∀ (n2 : Nat) (x : Nat), x + n2 = mN m → AW (FM m_X9_count (fun q9 sz' I' J' R' => q9 = some (zi (z_cT m (fun p => k < 0 ∨ ¬ z_kp m (z_g L k.toNat) p) (z_np m).toNat)) ∧ sz' = 255 ∧ J' = J ∧ R' = z_R π ∧ ∃ p' : Nat → Int, I' = z_p9 I p')) 0 0 255 49 [some (zr 237), some (zi k), some (zi (z_cT m (fun p => k < 0 ∨ ¬ z_kp m (z_g L k.toNat) p) c)), some (zi (z_bl ((c : Int) < z_np m))), some (zl (z_sum (fun n => cF (z_g L k.toNat) n * p n) x)), none, some (zi (x : Int))] [] (z_p9 I p) J (z_R π) := by
            intro n2
            induction n2 with
            | zero =>
              intro x he2
              refine aw_iload (pc := 49) dX9_count_49 rfl ?_
              refine aw_aload_n (pc := 51) dX9_count_51 rfl ?_
              refine aw_getV (pc := 52) (v := (mN m : Int)) dX9_count_52 k_fl_X9_66 rfl (by omega) (by first | rfl | exact z_shr _ (by omega) | exact z_shc0 (by omega) | exact z_shc1 (by omega) | exact z_shc2 (by omega) | exact z_shc3 (by omega) | exact z_shc4 (by omega)) ((z_p9_o (by omega)).trans e0) ?_
              refine aw_icmp_ge (pc := 55) (tgt := 94) dX9_count_55 rfl (by first | omega | exact z_bl_r _) (by first | omega | exact z_bl_r _) (fun h55 => ?_) (fun h55 => absurd h55 (by omega))
              rw [show x = mN m by omega]
              refine aw_iload_n (pc := 94) dX9_count_94 rfl ?_
              refine aw_iload_n (pc := 95) dX9_count_95 rfl ?_
              refine aw_if_lt (pc := 96) (tgt := 111) dX9_count_96 rfl (by first | omega | exact z_bl_r _) (fun h96 => absurd h96 (by omega)) (fun h96 => ?_)
              have hcf : ∀ n, n < mN m → -1000 ≤ cF (z_g L k.toNat) n ∧ cF (z_g L k.toNat) n ≤ 1000 := fun n hn => by have := hC.f (8 * k.toNat + n); rw [(hI.at hkL).1 n hn] at this; exact this
              have hcr := hC.r k.toNat
              rw [(hI.at hkL).2.1] at hcr
              have hsb := z_psb hmb hcf hp30 (by omega) (mN m) (Nat.le_refl _)
              refine aw_lload (pc := 99) dX9_count_99 rfl ?_
              refine aw_aload_n (pc := 101) dX9_count_101 rfl ?_
              refine aw_getR (pc := 102) dX9_count_102 k_fl_X9_29 rfl (by omega) (by first | rfl | exact z_shr _ (by omega) | exact z_shc0 (by omega) | exact z_shc1 (by omega) | exact z_shc2 (by omega) | exact z_shc3 (by omega) | exact z_shc4 (by omega)) (by first | rfl | exact z_Rc0 _ (by omega) | exact z_Rc1 _ (by omega) | exact z_Rc2 _ (by omega) | exact z_Rc3 _ (by omega)) ?_
              refine aw_iload_n (pc := 105) dX9_count_105 rfl ?_
              refine aw_laloadV (pc := 106) (v := cR (z_g L k.toNat)) dX9_count_106 (by omega) (Nat.le_refl _) (by first | rfl | exact z_shr _ (by omega) | exact z_shc0 (by omega) | exact z_shc1 (by omega) | exact z_shc2 (by omega) | exact z_shc3 (by omega) | exact z_shc4 (by omega)) (by first | omega | exact z_bl_r _) ((hI.at hkL).2.1) ?_
              refine aw_lcmp_le (pc := 107) (tgt := 115) dX9_count_107 dX9_count_108 rfl (by omega) (by omega) (fun h107 => ?_) (fun h107 => ?_)
              · refine aw_iconst (pc := 115) dX9_count_115 ?_
                refine aw_iadd (pc := 116) dX9_count_116 ?_
                refine aw_istore_n (pc := 117) (lv' := [_, _, _, _, _, _, _]) dX9_count_117 (Nat.le_of_ble_eq_true rfl) rfl ?_
                have ek : z_kp m (z_g L k.toNat) (z_it m c) := by show _ ≤ _; rw [(show z_sum (fun n => cF (z_g L k.toNat) n * z_it m c n) (mN m) = (z_sum (fun n => cF (z_g L k.toNat) n * p n) (mN m)) from z_sum_c _ (fun n hn => by rw [hpi n hn]))]; omega
                have ex : (z_cT m (fun p => k < 0 ∨ ¬ z_kp m (z_g L k.toNat) p) (c + 1)) = (z_cT m (fun p => k < 0 ∨ ¬ z_kp m (z_g L k.toNat) p) c) + 0 := by show (z_cT m (fun p => k < 0 ∨ ¬ z_kp m (z_g L k.toNat) p) c) + z_bl _ = _; rw [z_bl_f (fun q => q.2.elim (fun q2 => by omega) (fun q2 => q2 ek))]
                have K := tail (some (zl (z_sum (fun n => cF (z_g L k.toNat) n * p n) (mN m)))) (some (zi ((mN m : Nat) : Int)))
                rw [ex] at K
                exact K
              · refine aw_iconst (pc := 111) dX9_count_111 ?_
                refine aw_goto (pc := 112) (tgt := 116) dX9_count_112 rfl ?_
                refine aw_iadd (pc := 116) dX9_count_116 ?_
                refine aw_istore_n (pc := 117) (lv' := [_, _, _, _, _, _, _]) dX9_count_117 (Nat.le_of_ble_eq_true rfl) rfl ?_
                have ek : ¬ z_kp m (z_g L k.toNat) (z_it m c) := by intro q; have q : _ ≤ _ := q; rw [(show z_sum (fun n => cF (z_g L k.toNat) n * z_it m c n) (mN m) = (z_sum (fun n => cF (z_g L k.toNat) n * p n) (mN m)) from z_sum_c _ (fun n hn => by rw [hpi n hn]))] at q; omega
                have ex : (z_cT m (fun p => k < 0 ∨ ¬ z_kp m (z_g L k.toNat) p) (c + 1)) = (z_cT m (fun p => k < 0 ∨ ¬ z_kp m (z_g L k.toNat) p) c) + 1 := by show (z_cT m (fun p => k < 0 ∨ ¬ z_kp m (z_g L k.toNat) p) c) + z_bl _ = _; rw [z_bl_t ⟨hisP, Or.inr ek⟩]
                have K := tail (some (zl (z_sum (fun n => cF (z_g L k.toNat) n * p n) (mN m)))) (some (zi ((mN m : Nat) : Int)))
                rw [ex] at K
                exact K
            | succ n2 ih2 =>
              intro x he2
              refine aw_iload (pc := 49) dX9_count_49 rfl ?_
              refine aw_aload_n (pc := 51) dX9_count_51 rfl ?_
              refine aw_getV (pc := 52) (v := (mN m : Int)) dX9_count_52 k_fl_X9_66 rfl (by omega) (by first | rfl | exact z_shr _ (by omega) | exact z_shc0 (by omega) | exact z_shc1 (by omega) | exact z_shc2 (by omega) | exact z_shc3 (by omega) | exact z_shc4 (by omega)) ((z_p9_o (by omega)).trans e0) ?_
              refine aw_icmp_ge (pc := 55) (tgt := 94) dX9_count_55 rfl (by first | omega | exact z_bl_r _) (by first | omega | exact z_bl_r _) (fun h55 => absurd h55 (by omega)) (fun h55 => ?_)
              refine aw_iload_n (pc := 58) dX9_count_58 rfl ?_
              refine aw_if_lt (pc := 59) (tgt := 94) dX9_count_59 rfl (by first | omega | exact z_bl_r _) (fun h59 => absurd h59 (by omega)) (fun h59 => ?_)
              refine aw_lload (pc := 62) dX9_count_62 rfl ?_
              refine aw_aload_n (pc := 64) dX9_count_64 rfl ?_
              refine aw_getR (pc := 65) dX9_count_65 k_fl_X9_26 rfl (by omega) (by first | rfl | exact z_shr _ (by omega) | exact z_shc0 (by omega) | exact z_shc1 (by omega) | exact z_shc2 (by omega) | exact z_shc3 (by omega) | exact z_shc4 (by omega)) (by first | rfl | exact z_Rc0 _ (by omega) | exact z_Rc1 _ (by omega) | exact z_Rc2 _ (by omega) | exact z_Rc3 _ (by omega)) ?_
              refine aw_bipush (pc := 68) dX9_count_68 rfl ?_
              refine aw_iload_n (pc := 70) dX9_count_70 rfl ?_
              refine aw_imul (pc := 71) dX9_count_71 ?_
              refine aw_iload (pc := 72) dX9_count_72 rfl ?_
              refine aw_iadd (pc := 74) dX9_count_74 ?_
              refine aw_laloadV (pc := 75) (v := cF (z_g L k.toNat) x) dX9_count_75 (by omega) (Nat.le_refl _) (by first | rfl | exact z_shr _ (by omega) | exact z_shc0 (by omega) | exact z_shc1 (by omega) | exact z_shc2 (by omega) | exact z_shc3 (by omega) | exact z_shc4 (by omega)) (by omega) (by rw [show ((8 : Int) * k + (x : Int)).toNat = 8 * k.toNat + x by omega]; exact (hI.at hkL).1 x (by omega)) ?_
              refine aw_aload_n (pc := 76) dX9_count_76 rfl ?_
              refine aw_getR (pc := 77) dX9_count_77 k_fl_X9_60 rfl (by omega) (by first | rfl | exact z_shr _ (by omega) | exact z_shc0 (by omega) | exact z_shc1 (by omega) | exact z_shc2 (by omega) | exact z_shc3 (by omega) | exact z_shc4 (by omega)) (by first | rfl | exact z_Rc0 _ (by omega) | exact z_Rc1 _ (by omega) | exact z_Rc2 _ (by omega) | exact z_Rc3 _ (by omega)) ?_
              refine aw_iload (pc := 80) dX9_count_80 rfl ?_
              refine aw_ialoadV (pc := 82) (v := p x) dX9_count_82 (by omega) (Nat.le_refl _) (by first | rfl | exact z_shr _ (by omega) | exact z_shc0 (by omega) | exact z_shc1 (by omega) | exact z_shc2 (by omega) | exact z_shc3 (by omega) | exact z_shc4 (by omega)) (by first | omega | exact z_bl_r _) (z_p9_p x) ?_
              refine aw_i2l (pc := 83) dX9_count_83 (by have := hp30 x (by omega); omega) ?_
              refine aw_lmul (pc := 84) dX9_count_84 ?_
              refine aw_ladd (pc := 85) dX9_count_85 ?_
              refine aw_lstore (pc := 86) (lv' := [_, _, _, _, _, _, _]) dX9_count_86 (Nat.le_of_ble_eq_true rfl) rfl ?_
              refine aw_iinc (pc := 88) (lv' := [_, _, _, _, _, _, _]) dX9_count_88 (Nat.le_of_ble_eq_true rfl) rfl rfl ?_
              refine aw_goto (pc := 91) (tgt := 49) dX9_count_91 rfl ?_
              exact ih2 (x + 1) (by omega)
          exact il (mN m) 0 (by omega)
  have loop0 : ∀ (n : Nat) (x : Nat), x + n = mN m → AW (FM m_X9_count (fun q9 sz' I' J' R' => q9 = some (zi (z_cT m (fun p => k < 0 ∨ ¬ z_kp m (z_g L k.toNat) p) (z_np m).toNat)) ∧ sz' = 255 ∧ J' = J ∧ R' = z_R π ∧ ∃ p' : Nat → Int, I' = z_p9 I p')) 0 0 255 2 [some (zr 237), some (zi k), some (zi (x : Int)), none, none, none, none] [] (z_p9 I (z_pf (mlo m) p0 x)) J (z_R π) := by
    intro n
    induction n with
    | zero =>
      intro x he
      refine aw_iload_n (pc := 2) dX9_count_2 rfl ?_
      refine aw_aload_n (pc := 3) dX9_count_3 rfl ?_
      refine aw_getV (pc := 4) (v := (mN m : Int)) dX9_count_4 k_fl_X9_66 rfl (by omega) (by first | rfl | exact z_shr _ (by omega) | exact z_shc0 (by omega) | exact z_shc1 (by omega) | exact z_shc2 (by omega) | exact z_shc3 (by omega) | exact z_shc4 (by omega)) ((z_p9_o (by omega)).trans e0) ?_
      refine aw_icmp_ge (pc := 7) (tgt := 28) dX9_count_7 rfl (by first | omega | exact z_bl_r _) (by first | omega | exact z_bl_r _) (fun h7 => ?_) (fun h7 => absurd h7 (by omega))
      refine aw_iconst (pc := 28) dX9_count_28 ?_
      refine aw_istore_n (pc := 29) (lv' := [_, _, _, _, _, _, _]) dX9_count_29 (Nat.le_of_ble_eq_true rfl) rfl ?_
      refine aw_iconst (pc := 30) dX9_count_30 ?_
      refine aw_istore_n (pc := 31) (lv' := [_, _, _, _, _, _, _]) dX9_count_31 (Nat.le_of_ble_eq_true rfl) rfl ?_
      have K := loop (z_np m).toNat 0 (z_pf (mlo m) p0 x) none none (by omega) (fun n hn => (z_pf_lt (show n < x by omega)))
      rw [show z_bl (((0 : Nat) : Int) < z_np m) = 1 from z_bl_t (by omega)] at K
      exact K
    | succ n ih =>
      intro x he
      refine aw_iload_n (pc := 2) dX9_count_2 rfl ?_
      refine aw_aload_n (pc := 3) dX9_count_3 rfl ?_
      refine aw_getV (pc := 4) (v := (mN m : Int)) dX9_count_4 k_fl_X9_66 rfl (by omega) (by first | rfl | exact z_shr _ (by omega) | exact z_shc0 (by omega) | exact z_shc1 (by omega) | exact z_shc2 (by omega) | exact z_shc3 (by omega) | exact z_shc4 (by omega)) ((z_p9_o (by omega)).trans e0) ?_
      refine aw_icmp_ge (pc := 7) (tgt := 28) dX9_count_7 rfl (by first | omega | exact z_bl_r _) (by first | omega | exact z_bl_r _) (fun h7 => absurd h7 (by omega)) (fun h7 => ?_)
      refine aw_aload_n (pc := 10) dX9_count_10 rfl ?_
      refine aw_getR (pc := 11) dX9_count_11 k_fl_X9_60 rfl (by omega) (by first | rfl | exact z_shr _ (by omega) | exact z_shc0 (by omega) | exact z_shc1 (by omega) | exact z_shc2 (by omega) | exact z_shc3 (by omega) | exact z_shc4 (by omega)) (by first | rfl | exact z_Rc0 _ (by omega) | exact z_Rc1 _ (by omega) | exact z_Rc2 _ (by omega) | exact z_Rc3 _ (by omega)) ?_
      refine aw_iload_n (pc := 14) dX9_count_14 rfl ?_
      refine aw_aload_n (pc := 15) dX9_count_15 rfl ?_
      refine aw_getR (pc := 16) dX9_count_16 k_fl_X9_7 rfl (by omega) (by first | rfl | exact z_shr _ (by omega) | exact z_shc0 (by omega) | exact z_shc1 (by omega) | exact z_shc2 (by omega) | exact z_shc3 (by omega) | exact z_shc4 (by omega)) (by first | rfl | exact z_Rc0 _ (by omega) | exact z_Rc1 _ (by omega) | exact z_Rc2 _ (by omega) | exact z_Rc3 _ (by omega)) ?_
      refine aw_iload_n (pc := 19) dX9_count_19 rfl ?_
      refine aw_ialoadV (pc := 20) (v := mlo m x) dX9_count_20 (by omega) (Nat.le_refl _) (by first | rfl | exact z_shr _ (by omega) | exact z_shc0 (by omega) | exact z_shc1 (by omega) | exact z_shc2 (by omega) | exact z_shc3 (by omega) | exact z_shc4 (by omega)) (by first | omega | exact z_bl_r _) ((z_p9_o (by omega)).trans (elo x (by omega))) ?_
      refine aw_iastore (pc := 21) dX9_count_21 (by omega) (Nat.le_refl _) (by first | rfl | exact z_shr _ (by omega) | exact z_shc0 (by omega) | exact z_shc1 (by omega) | exact z_shc2 (by omega) | exact z_shc3 (by omega) | exact z_shc4 (by omega)) (by first | omega | exact z_bl_r _) ?_
      rw [Int.toNat_natCast, z_p9_u, z_pf_sn (g := mlo m) rfl]
      refine aw_iinc (pc := 22) (lv' := [_, _, _, _, _, _, _]) dX9_count_22 (Nat.le_of_ble_eq_true rfl) rfl rfl ?_
      refine aw_goto (pc := 25) (tgt := 2) dX9_count_25 rfl ?_
      exact ih (x + 1) (by omega)
  refine aw_iconst (pc := 0) dX9_count_0 ?_
  refine aw_istore_n (pc := 1) (lv' := [_, _, _, _, _, _, _]) dX9_count_1 (Nat.le_of_ble_eq_true rfl) rfl ?_
  have K := loop0 (mN m) 0 (by omega)
  rw [z_pf_0] at K
  exact K
set_option maxHeartbeats 4000000 in
theorem c_X9_holds {π : Nat → Nat} {I J : AwI} {m : z_MM} {L : List z_CC} {t : Int} {k : Int} (hI : z_RI I J m L t) (hk : -2147483648 ≤ k ∧ k ≤ 2147483647) : CT m_X9_holds [zr 237, zi k] 255 I J (z_R π) (z_PR π (z_rHo m L t k) I J) := by
  refine CT.of (by decide) (Nat.le_of_ble_eq_true rfl) ?_
  show AW _ 0 0 _ 0 [some (zr 237), some (zi k)] [] _ _ _
  refine aw_aload_n (pc := 0) dX9_holds_0 rfl ?_
  refine aw_iconst (pc := 1) dX9_holds_1 ?_
  refine aw_putI (pc := 2) dX9_holds_2 k_fl_X9_63 rfl (by omega) (by first | rfl | exact z_shr _ (by omega) | exact z_shc0 (by omega) | exact z_shc1 (by omega) | exact z_shc2 (by omega) | exact z_shc3 (by omega) | exact z_shc4 (by omega)) ?_
  have hIc := hI.code (v := 0)
  have hfc : z_FQ I J (z_up I 237 15 0) J := z_FQ.code
  have c15 : z_up I 237 15 0 237 15 = 0 := z_up_s _ _ _ _
  generalize z_up I 237 15 0 = Ic at hIc hfc c15 ⊢
  obtain ⟨hM1, hm1, e0, e4, elo, ehi, ept, eF, ert, hmb, hptb, hF0⟩ := hIc.rds
  have hN8 := hmb.1
  have hR10 := hmb.2.1
  have hC := hIc.2.2.2.1
  have hct := hC.n
  have eL := hIc.2.2.2.2.1.1
  refine aw_aload_n (pc := 5) dX9_holds_5 rfl ?_
  refine aw_iload_n (pc := 6) dX9_holds_6 rfl ?_
  refine aw_qV (pc := 7) (d := m_X9_isCut) (c_X9_isCut hct hk) k_X9_isCut dX9_holds_7 k_ml_X9_175 rfl ⟨rfl, rfl⟩ (by omega) (by first | rfl | exact z_shr _ (by omega) | exact z_shc0 (by omega) | exact z_shc1 (by omega) | exact z_shc2 (by omega) | exact z_shc3 (by omega) | exact z_shc4 (by omega)) rfl ⟨Nat.le_of_ble_eq_true rfl, Nat.le_of_ble_eq_true rfl⟩ ⟨Nat.zero_le _, Nat.zero_le _⟩ rfl (Nat.le_of_ble_eq_true rfl) (z_Pk ?_)
  refine aw_if_ne (pc := 10) (tgt := 15) dX9_holds_10 rfl (by first | omega | exact z_bl_r _) (fun h10 => ?_) (fun h10 => ?_)
  · first | rw [z_bl_n] at h10 | rw [z_bl_0] at h10 | skip
    refine aw_aload_n (pc := 15) dX9_holds_15 rfl ?_
    refine aw_qV (pc := 16) (d := m_X9_tooMany) (c_X9_tooMany hIc) k_X9_tooMany dX9_holds_16 k_ml_X9_206 rfl ⟨rfl, rfl⟩ (by omega) (by first | rfl | exact z_shr _ (by omega) | exact z_shc0 (by omega) | exact z_shc1 (by omega) | exact z_shc2 (by omega) | exact z_shc3 (by omega) | exact z_shc4 (by omega)) rfl ⟨Nat.le_of_ble_eq_true rfl, Nat.le_of_ble_eq_true rfl⟩ ⟨Nat.zero_le _, Nat.zero_le _⟩ rfl (Nat.le_of_ble_eq_true rfl) (z_Pk ?_)
    refine aw_if_eq (pc := 19) (tgt := 25) dX9_holds_19 rfl (z_bl_r _) (fun h19 => ?_) (fun h19 => ?_)
    · first | rw [z_bl_n] at h19 | rw [z_bl_0] at h19 | skip
      have K3 := c_X9_count (π := π) (p0 := Ic 253) (k := k) hIc (by omega)
      rw [z_p9_id] at K3
      have hnp := z_np_b hmb hIc.2.2.1
      have hcb := z_cT_b m (fun p => k < 0 ∨ ¬ z_kp m (z_g L k.toNat) p) (z_np m).toNat
      have hc0 := z_cT_0 (m := m) (C := z_g L k.toNat) (T := fun p => k < 0 ∨ ¬ z_kp m (z_g L k.toNat) p) (fun p => ⟨fun q => q.elim (fun q2 => by omega) id, Or.inr⟩) (z_np m).toNat
      refine aw_aload_n (pc := 25) dX9_holds_25 rfl ?_
      refine aw_iload_n (pc := 26) dX9_holds_26 rfl ?_
      refine aw_qV (pc := 27) (d := m_X9_count) (K3) k_X9_count dX9_holds_27 k_ml_X9_209 rfl ⟨rfl, rfl⟩ (by omega) (by first | rfl | exact z_shr _ (by omega) | exact z_shc0 (by omega) | exact z_shc1 (by omega) | exact z_shc2 (by omega) | exact z_shc3 (by omega) | exact z_shc4 (by omega)) rfl ⟨Nat.le_of_ble_eq_true rfl, Nat.le_of_ble_eq_true rfl⟩ ⟨Nat.zero_le _, Nat.zero_le _⟩ rfl (Nat.le_of_ble_eq_true rfl) ?_
      rintro q9 sz2 I2 J R2 ⟨rfl, rfl, rfl, rfl, p2, rfl⟩
      refine aw_if_ne (pc := 30) (tgt := 37) dX9_holds_30 rfl (by omega) (fun h30 => ?_) (fun h30 => ?_)
      · refine aw_iconst (pc := 37) dX9_holds_37 ?_
        refine aw_ireturn (pc := 38) dX9_holds_38 rfl ⟨Nat.zero_le _, Nat.zero_le _⟩ ?_
        first | exact z_PRr ((if_neg (by omega)).trans ((if_neg (by omega)).trans (by rw [z_bl_t (hc0.mp h30)]))) hIc.p9 hfc.p9 | exact z_PRr ((if_neg (by omega)).trans ((if_neg (by omega)).trans (by rw [z_bl_f (fun q => h30 (hc0.mpr q))]))) hIc.p9 hfc.p9
      · refine aw_iconst (pc := 33) dX9_holds_33 ?_
        refine aw_goto (pc := 34) (tgt := 38) dX9_holds_34 rfl ?_
        refine aw_ireturn (pc := 38) dX9_holds_38 rfl ⟨Nat.zero_le _, Nat.zero_le _⟩ ?_
        first | exact z_PRr ((if_neg (by omega)).trans ((if_neg (by omega)).trans (by rw [z_bl_t (hc0.mp h30)]))) hIc.p9 hfc.p9 | exact z_PRr ((if_neg (by omega)).trans ((if_neg (by omega)).trans (by rw [z_bl_f (fun q => h30 (hc0.mpr q))]))) hIc.p9 hfc.p9
    · refine aw_bipush (pc := 22) dX9_holds_22 rfl ?_
      refine aw_ireturn (pc := 24) dX9_holds_24 rfl ⟨Nat.zero_le _, Nat.zero_le _⟩ ?_
      first | rw [z_bl_n] at h19 | rw [z_bl_0] at h19 | skip
      exact z_PRr ((if_neg (by omega)).trans (if_pos (by omega))) hIc hfc
  · refine aw_iconst (pc := 13) dX9_holds_13 ?_
    refine aw_ireturn (pc := 14) dX9_holds_14 rfl ⟨Nat.zero_le _, Nat.zero_le _⟩ ?_
    first | rw [z_bl_n] at h10 | rw [z_bl_0] at h10 | skip
    exact z_PRr (if_pos (by omega)) hIc hfc
set_option maxHeartbeats 4000000 in
theorem c_X9_plans {π : Nat → Nat} {I J : AwI} {m : z_MM} {L : List z_CC} {t : Int} (hI : z_RI I J m L t)  : CT m_X9_plans [zr 237] 255 I J (z_R π) (z_PR π (z_rPn m L t) I J) := by
  refine CT.of (by decide) (Nat.le_of_ble_eq_true rfl) ?_
  show AW _ 0 0 _ 0 [some (zr 237)] [] _ _ _
  refine aw_aload_n (pc := 0) dX9_plans_0 rfl ?_
  refine aw_iconst (pc := 1) dX9_plans_1 ?_
  refine aw_putI (pc := 2) dX9_plans_2 k_fl_X9_63 rfl (by omega) (by first | rfl | exact z_shr _ (by omega) | exact z_shc0 (by omega) | exact z_shc1 (by omega) | exact z_shc2 (by omega) | exact z_shc3 (by omega) | exact z_shc4 (by omega)) ?_
  have hIc := hI.code (v := 0)
  have hfc : z_FQ I J (z_up I 237 15 0) J := z_FQ.code
  have c15 : z_up I 237 15 0 237 15 = 0 := z_up_s _ _ _ _
  generalize z_up I 237 15 0 = Ic at hIc hfc c15 ⊢
  obtain ⟨hM1, hm1, e0, e4, elo, ehi, ept, eF, ert, hmb, hptb, hF0⟩ := hIc.rds
  have hN8 := hmb.1
  have hR10 := hmb.2.1
  have hC := hIc.2.2.2.1
  have hct := hC.n
  have eL := hIc.2.2.2.2.1.1
  refine aw_aload_n (pc := 5) dX9_plans_5 rfl ?_
  refine aw_qV (pc := 6) (d := m_X9_tooMany) (c_X9_tooMany hIc) k_X9_tooMany dX9_plans_6 k_ml_X9_206 rfl ⟨rfl, rfl⟩ (by omega) (by first | rfl | exact z_shr _ (by omega) | exact z_shc0 (by omega) | exact z_shc1 (by omega) | exact z_shc2 (by omega) | exact z_shc3 (by omega) | exact z_shc4 (by omega)) rfl ⟨Nat.le_of_ble_eq_true rfl, Nat.le_of_ble_eq_true rfl⟩ ⟨Nat.zero_le _, Nat.zero_le _⟩ rfl (Nat.le_of_ble_eq_true rfl) (z_Pk ?_)
  refine aw_if_eq (pc := 9) (tgt := 17) dX9_plans_9 rfl (z_bl_r _) (fun h9 => ?_) (fun h9 => ?_)
  · first | rw [z_bl_n] at h9 | rw [z_bl_0] at h9 | skip
    have K3 := c_X9_count (π := π) (p0 := Ic 253) (k := -1) hIc (by omega)
    rw [z_p9_id, z_cT_P (fun p => Or.inl (by omega))] at K3
    refine aw_aload_n (pc := 17) dX9_plans_17 rfl ?_
    refine aw_iconst (pc := 18) dX9_plans_18 ?_
    refine aw_qV (pc := 19) (d := m_X9_count) (K3) k_X9_count dX9_plans_19 k_ml_X9_209 rfl ⟨rfl, rfl⟩ (by omega) (by first | rfl | exact z_shr _ (by omega) | exact z_shc0 (by omega) | exact z_shc1 (by omega) | exact z_shc2 (by omega) | exact z_shc3 (by omega) | exact z_shc4 (by omega)) rfl ⟨Nat.le_of_ble_eq_true rfl, Nat.le_of_ble_eq_true rfl⟩ ⟨Nat.zero_le _, Nat.zero_le _⟩ rfl (Nat.le_of_ble_eq_true rfl) ?_
    rintro q9 sz2 I2 J R2 ⟨rfl, rfl, rfl, rfl, p2, rfl⟩
    exact aw_ireturn (pc := 22) dX9_plans_22 rfl ⟨Nat.zero_le _, Nat.zero_le _⟩ (z_PRr (if_neg (by omega)) hIc.p9 hfc.p9)
  · refine aw_bipush (pc := 12) dX9_plans_12 rfl ?_
    refine aw_goto (pc := 14) (tgt := 22) dX9_plans_14 rfl ?_
    first | rw [z_bl_n] at h9 | rw [z_bl_0] at h9 | skip
    exact aw_ireturn (pc := 22) dX9_plans_22 rfl ⟨Nat.zero_le _, Nat.zero_le _⟩ (z_PRr (if_pos (by omega)) hIc hfc)
