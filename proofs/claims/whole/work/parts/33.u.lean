/-- the heap with the walk's numbers -/
def z_s1 (I : AwI) (ch sm : Nat → Int) : AwI := fun a j => if a = 235 then ch j else if a = 236 then sm j else I a j
theorem z_s1_o {I : AwI} {ch sm : Nat → Int} {a j : Nat} (h : a < 235 ∨ 236 < a) : z_s1 I ch sm a j = I a j := by
  unfold z_s1
  rw [if_neg (by omega), if_neg (by omega)]
theorem z_s1_c {I : AwI} {ch sm : Nat → Int} (j : Nat) : z_s1 I ch sm 235 j = ch j := rfl
theorem z_s1_s {I : AwI} {ch sm : Nat → Int} (j : Nat) : z_s1 I ch sm 236 j = sm j := rfl
theorem z_s1_uc {I : AwI} {ch sm : Nat → Int} {k : Nat} {v : Int} : z_up (z_s1 I ch sm) 235 k v = z_s1 I (va_up ch k v) sm := by
  funext a j
  unfold z_up z_s1 va_up
  by_cases e : a = 235
  · subst e; by_cases e2 : j = k <;> simp [e2]
  · simp [e]
theorem z_s1_us {I : AwI} {ch sm : Nat → Int} {k : Nat} {v : Int} : z_up (z_s1 I ch sm) 236 k v = z_s1 I ch (va_up sm k v) := by
  funext a j
  unfold z_up z_s1 va_up
  by_cases e : a = 236
  · subst e; by_cases e2 : j = k <;> simp [e2]
  · simp [e]
theorem z_s1_id (I : AwI) : z_s1 I (I 235) (I 236) = I := by
  funext a j
  unfold z_s1
  by_cases e : a = 235
  · subst e; simp
  · rw [if_neg e]
    by_cases e2 : a = 236
    · subst e2; simp
    · rw [if_neg e2]
theorem z_s1_fs {I : AwI} {ch sm : Nat → Int} : z_fl (z_s1 I ch sm) 236 10 0 = z_s1 I ch (fun j => if j < 10 then 0 else sm j) := by
  funext a j
  unfold z_fl
  by_cases e : a = 236
  · subst e
    rw [z_s1_s, z_s1_s]
    by_cases e2 : j < 10
    · rw [if_pos ⟨rfl, e2⟩, if_pos e2]
    · rw [if_neg (fun q => e2 q.2), if_neg e2]
  · rw [if_neg (fun q => e q.1)]
    unfold z_s1
    simp only [e, if_false]
theorem z_s1_fc {I : AwI} {ch sm : Nat → Int} : z_fl (z_s1 I ch sm) 235 8 0 = z_s1 I (fun j => if j < 8 then 0 else ch j) sm := by
  funext a j
  unfold z_fl
  by_cases e : a = 235
  · subst e
    rw [z_s1_c, z_s1_c]
    by_cases e2 : j < 8
    · rw [if_pos ⟨rfl, e2⟩, if_pos e2]
    · rw [if_neg (fun q => e2 q.2), if_neg e2]
  · rw [if_neg (fun q => e q.1)]
    unfold z_s1
    simp only [e, if_false]
theorem z_M.s1 {I J : AwI} {ch sm : Nat → Int} (h : z_M I J) : z_M (z_s1 I ch sm) J := h.congr (fun a j ha => z_s1_o (by omega)) (fun _ => rfl)
/-- the sums are those of the choice -/
def z_sOK (I : AwI) (ch sm : Nat → Int) : Prop := ∀ r : Nat, (r : Int) < I 1 6 → sm r = z_sum (fun n => I (6 + r) n * ch n) (I 1 5).toNat
theorem z_sOK_put {I : AwI} {ch sm : Nat → Int} {n : Nat} {v : Int} (h : z_sOK I ch sm) (hn : n < (I 1 5).toNat) : z_sOK I (va_up ch n v) (z_pf (fun r => sm r + (v - ch n) * I (6 + r) n) sm (I 1 6).toNat) := by
  intro r hr
  rw [z_pf_lt (by omega), h r hr, z_sum_upd (g := fun i => I (6 + r) i * ch i) (g' := fun i => I (6 + r) i * va_up ch n v i) (j := n) (fun i hi => by unfold va_up; rw [if_neg hi]) _ hn]
  rw [z_vs, Int.sub_mul, Int.mul_comm v, Int.mul_comm (ch n)]
  omega
/-- the next choice -/
noncomputable def z_nx (m : z_MM) (p : Nat → Int) : Nat → Int := fun n => z_if (∀ i, i < n → p i = mhi m i) (if p n = mhi m n then mlo m n else p n + 1) (p n)
noncomputable def z_it (m : z_MM) : Nat → Nat → Int
  | 0 => mlo m
  | c + 1 => z_nx m (z_it m c)
def z_inb (m : z_MM) (p : Nat → Int) : Prop := ∀ n, n < mN m → mlo m n ≤ p n ∧ p n ≤ mhi m n
theorem z_nx_in {m : z_MM} {p : Nat → Int} (hl : ∀ n, n < mN m → mlo m n ≤ mhi m n) (h : z_inb m p) : z_inb m (z_nx m p) := by
  intro n hn
  have h1 := h n hn
  have h2 := hl n hn
  unfold z_nx
  by_cases q : ∀ i, i < n → p i = mhi m i
  · rw [z_if_t q]; split <;> omega
  · rw [z_if_f q]; exact h1
theorem z_it_in {m : z_MM} (hl : ∀ n, n < mN m → mlo m n ≤ mhi m n) : ∀ c, z_inb m (z_it m c)
  | 0 => fun n hn => ⟨Int.le_refl _, hl n hn⟩
  | c + 1 => z_nx_in hl (z_it_in hl c)
theorem z_nx_c {m : z_MM} {p p' : Nat → Int} (h : ∀ n, n < mN m → p n = p' n) : ∀ n, n < mN m → z_nx m p n = z_nx m p' n := by
  intro n hn
  unfold z_nx
  rw [h n hn]
  have e : (∀ i, i < n → p i = mhi m i) ↔ (∀ i, i < n → p' i = mhi m i) := ⟨fun q i hi => by rw [← h i (by omega)]; exact q i hi, fun q i hi => by rw [h i (by omega)]; exact q i hi⟩
  by_cases q : ∀ i, i < n → p i = mhi m i
  · rw [z_if_t q, z_if_t (e.mp q)]
  · rw [z_if_f q, z_if_f (fun z => q (e.mpr z))]
/-- a choice is a plan; it keeps a cut -/
def z_isP (m : z_MM) (p : Nat → Int) : Prop := ∀ r, r < mR m → z_sum (fun n => mF m r n * p n) (mN m) ≤ mrt m r
def z_kp (m : z_MM) (C : z_CC) (p : Nat → Int) : Prop := z_sum (fun n => cF C n * p n) (mN m) ≤ cR C
set_option maxHeartbeats 4000000 in
theorem c_X1_choose {π : Nat → Nat} {I J : AwI} {ch sm : Nat → Int} {n : Nat} {v : Int} (h : z_M I J) (hn : n < 8) : CT m_X1_choose [zr 234, zi (n : Int), zi v] 255 (z_s1 I ch sm) J (z_R π) (z_P none 255 (z_s1 I (va_up ch n v) (z_pf (fun r => sm r + (v - ch n) * I (6 + r) n) sm (I 1 6).toNat)) J (z_R π)) := by
  have hrw := h.rw
  refine CT.of (by decide) (Nat.le_of_ble_eq_true rfl) ?_
  show AW _ 0 0 _ 0 [some (zr 234), some (zi (n : Int)), some (zi v), none, none] [] _ _ _
  have loop : ∀ (k : Nat) (x : Nat), (x : Int) + k = I 1 6 → AW (FM m_X1_choose (z_P none 255 (z_s1 I (va_up ch n v) (z_pf (fun r => sm r + (v - ch n) * I (6 + r) n) sm (I 1 6).toNat)) J (z_R π))) 0 0 255 19 [some (zr 234), some (zi (n : Int)), some (zi v), some (zi (v - ch n)), some (zi (x : Int))] [] (z_s1 I (va_up ch n v) (z_pf (fun r => sm r + (v - ch n) * I (6 + r) n) sm x)) J (z_R π) := by
    intro k
    induction k with
    | zero =>
      intro x he
      refine aw_iload (pc := 19) dX1_choose_19 rfl ?_
      refine aw_aload_n (pc := 21) dX1_choose_21 rfl ?_
      refine aw_getR (pc := 22) dX1_choose_22 k_fl_X1_18 rfl (by omega) (by first | rfl | exact z_shr _ (by omega) | exact z_shc0 (by omega) | exact z_shc1 (by omega) | exact z_shc2 (by omega) | exact z_shc3 (by omega) | exact z_shc4 (by omega)) (by first | rfl | exact z_Rc0 _ (by omega) | exact z_Rc1 _ (by omega) | exact z_Rc2 _ (by omega) | exact z_Rc3 _ (by omega)) ?_
      refine aw_getV (pc := 25) (v := I 1 6) dX1_choose_25 k_fl_X1_44 rfl (by omega) (by first | rfl | exact z_shr _ (by omega) | exact z_shc0 (by omega) | exact z_shc1 (by omega) | exact z_shc2 (by omega) | exact z_shc3 (by omega) | exact z_shc4 (by omega)) (z_s1_o (by omega)) ?_
      refine aw_icmp_ge (pc := 28) (tgt := 61) dX1_choose_28 rfl (by first | omega | exact z_bl_r _) (by first | omega | exact z_bl_r _) (fun h28 => ?_) (fun h28 => absurd h28 (by omega))
      exact aw_return (pc := 61) dX1_choose_61 rfl ⟨Nat.zero_le _, Nat.zero_le _⟩ (⟨rfl, rfl, by rw [show x = (I 1 6).toNat by omega], rfl, rfl⟩)
    | succ k ih =>
      intro x he
      refine aw_iload (pc := 19) dX1_choose_19 rfl ?_
      refine aw_aload_n (pc := 21) dX1_choose_21 rfl ?_
      refine aw_getR (pc := 22) dX1_choose_22 k_fl_X1_18 rfl (by omega) (by first | rfl | exact z_shr _ (by omega) | exact z_shc0 (by omega) | exact z_shc1 (by omega) | exact z_shc2 (by omega) | exact z_shc3 (by omega) | exact z_shc4 (by omega)) (by first | rfl | exact z_Rc0 _ (by omega) | exact z_Rc1 _ (by omega) | exact z_Rc2 _ (by omega) | exact z_Rc3 _ (by omega)) ?_
      refine aw_getV (pc := 25) (v := I 1 6) dX1_choose_25 k_fl_X1_44 rfl (by omega) (by first | rfl | exact z_shr _ (by omega) | exact z_shc0 (by omega) | exact z_shc1 (by omega) | exact z_shc2 (by omega) | exact z_shc3 (by omega) | exact z_shc4 (by omega)) (z_s1_o (by omega)) ?_
      refine aw_icmp_ge (pc := 28) (tgt := 61) dX1_choose_28 rfl (by first | omega | exact z_bl_r _) (by first | omega | exact z_bl_r _) (fun h28 => absurd h28 (by omega)) (fun h28 => ?_)
      refine aw_aload_n (pc := 31) dX1_choose_31 rfl ?_
      refine aw_getR (pc := 32) dX1_choose_32 k_fl_X1_15 rfl (by omega) (by first | rfl | exact z_shr _ (by omega) | exact z_shc0 (by omega) | exact z_shc1 (by omega) | exact z_shc2 (by omega) | exact z_shc3 (by omega) | exact z_shc4 (by omega)) (by first | rfl | exact z_Rc0 _ (by omega) | exact z_Rc1 _ (by omega) | exact z_Rc2 _ (by omega) | exact z_Rc3 _ (by omega)) ?_
      refine aw_iload (pc := 35) dX1_choose_35 rfl ?_
      refine aw_dup2 (pc := 37) dX1_choose_37 (fun _ h => by cases h) (fun _ h => by cases h) ?_
      refine aw_ialoadV (pc := 38) (v := sm x) dX1_choose_38 (by omega) (Nat.le_refl _) (by first | rfl | exact z_shr _ (by omega) | exact z_shc0 (by omega) | exact z_shc1 (by omega) | exact z_shc2 (by omega) | exact z_shc3 (by omega) | exact z_shc4 (by omega)) (by first | omega | exact z_bl_r _) ((z_s1_s x).trans z_pf_at) ?_
      refine aw_iload_n (pc := 39) dX1_choose_39 rfl ?_
      refine aw_aload_n (pc := 40) dX1_choose_40 rfl ?_
      refine aw_getR (pc := 41) dX1_choose_41 k_fl_X1_18 rfl (by omega) (by first | rfl | exact z_shr _ (by omega) | exact z_shc0 (by omega) | exact z_shc1 (by omega) | exact z_shc2 (by omega) | exact z_shc3 (by omega) | exact z_shc4 (by omega)) (by first | rfl | exact z_Rc0 _ (by omega) | exact z_Rc1 _ (by omega) | exact z_Rc2 _ (by omega) | exact z_Rc3 _ (by omega)) ?_
      refine aw_getR (pc := 44) dX1_choose_44 k_fl_X1_47 rfl (by omega) (by first | rfl | exact z_shr _ (by omega) | exact z_shc0 (by omega) | exact z_shc1 (by omega) | exact z_shc2 (by omega) | exact z_shc3 (by omega) | exact z_shc4 (by omega)) (by first | rfl | exact z_Rc0 _ (by omega) | exact z_Rc1 _ (by omega) | exact z_Rc2 _ (by omega) | exact z_Rc3 _ (by omega)) ?_
      refine aw_iload (pc := 47) dX1_choose_47 rfl ?_
      refine aw_aaloadG (b := 6 + x) (pc := 49) dX1_choose_49 (by omega) (Nat.le_refl _) rfl (by omega) (by rfl) ?_
      refine aw_iload_n (pc := 50) dX1_choose_50 rfl ?_
      refine aw_ialoadV (pc := 51) (v := I (6 + x) n) dX1_choose_51 (by omega) (Nat.le_refl _) (by first | rfl | exact z_shr _ (by omega) | exact z_shc0 (by omega) | exact z_shc1 (by omega) | exact z_shc2 (by omega) | exact z_shc3 (by omega) | exact z_shc4 (by omega)) (by first | omega | exact z_bl_r _) (z_s1_o (by omega)) ?_
      refine aw_imul (pc := 52) dX1_choose_52 ?_
      refine aw_iadd (pc := 53) dX1_choose_53 ?_
      refine aw_iastore (pc := 54) dX1_choose_54 (by omega) (Nat.le_refl _) (by first | rfl | exact z_shr _ (by omega) | exact z_shc0 (by omega) | exact z_shc1 (by omega) | exact z_shc2 (by omega) | exact z_shc3 (by omega) | exact z_shc4 (by omega)) (by first | omega | exact z_bl_r _) ?_
      rw [z_s1_us, Int.toNat_natCast, z_pf_sn (g := fun r => sm r + (v - ch n) * I (6 + r) n) rfl]
      refine aw_iinc (pc := 55) (lv' := [_, _, _, _, _]) dX1_choose_55 (Nat.le_of_ble_eq_true rfl) rfl rfl ?_
      refine aw_goto (pc := 58) (tgt := 19) dX1_choose_58 rfl ?_
      have K := ih (x + 1) (by omega)
      exact K
  refine aw_iload_n (pc := 0) dX1_choose_0 rfl ?_
  refine aw_aload_n (pc := 1) dX1_choose_1 rfl ?_
  refine aw_getR (pc := 2) dX1_choose_2 k_fl_X1_9 rfl (by omega) (by first | rfl | exact z_shr _ (by omega) | exact z_shc0 (by omega) | exact z_shc1 (by omega) | exact z_shc2 (by omega) | exact z_shc3 (by omega) | exact z_shc4 (by omega)) (by first | rfl | exact z_Rc0 _ (by omega) | exact z_Rc1 _ (by omega) | exact z_Rc2 _ (by omega) | exact z_Rc3 _ (by omega)) ?_
  refine aw_iload_n (pc := 5) dX1_choose_5 rfl ?_
  refine aw_ialoadV (pc := 6) (v := ch n) dX1_choose_6 (by omega) (Nat.le_refl _) (by first | rfl | exact z_shr _ (by omega) | exact z_shc0 (by omega) | exact z_shc1 (by omega) | exact z_shc2 (by omega) | exact z_shc3 (by omega) | exact z_shc4 (by omega)) (by first | omega | exact z_bl_r _) (z_s1_c n) ?_
  refine aw_isub (pc := 7) dX1_choose_7 ?_
  refine aw_istore_n (pc := 8) (lv' := [_, _, _, _, _]) dX1_choose_8 (Nat.le_of_ble_eq_true rfl) rfl ?_
  refine aw_aload_n (pc := 9) dX1_choose_9 rfl ?_
  refine aw_getR (pc := 10) dX1_choose_10 k_fl_X1_9 rfl (by omega) (by first | rfl | exact z_shr _ (by omega) | exact z_shc0 (by omega) | exact z_shc1 (by omega) | exact z_shc2 (by omega) | exact z_shc3 (by omega) | exact z_shc4 (by omega)) (by first | rfl | exact z_Rc0 _ (by omega) | exact z_Rc1 _ (by omega) | exact z_Rc2 _ (by omega) | exact z_Rc3 _ (by omega)) ?_
  refine aw_iload_n (pc := 13) dX1_choose_13 rfl ?_
  refine aw_iload_n (pc := 14) dX1_choose_14 rfl ?_
  refine aw_iastore (pc := 15) dX1_choose_15 (by omega) (Nat.le_refl _) (by first | rfl | exact z_shr _ (by omega) | exact z_shc0 (by omega) | exact z_shc1 (by omega) | exact z_shc2 (by omega) | exact z_shc3 (by omega) | exact z_shc4 (by omega)) (by first | omega | exact z_bl_r _) ?_
  rw [z_s1_uc]
  refine aw_iconst (pc := 16) dX1_choose_16 ?_
  refine aw_istore (pc := 17) (lv' := [_, _, _, _, _]) dX1_choose_17 (Nat.le_of_ble_eq_true rfl) rfl ?_
  have K := loop (I 1 6).toNat 0 (by omega)
  rw [z_pf_0] at K
  exact K
set_option maxHeartbeats 4000000 in
theorem c_X1_begin {π : Nat → Nat} {I J : AwI} {ch0 sm0 : Nat → Int} (h : z_M I J) : CT m_X1_begin [zr 234] 255 (z_s1 I ch0 sm0) J (z_R π) (fun q9 sz' I' J' R' => q9 = none ∧ sz' = 255 ∧ J' = J ∧ R' = z_R π ∧ ∃ ch sm : Nat → Int, I' = z_s1 I ch sm ∧ z_sOK I ch sm ∧ ∀ n, n < (I 1 5).toNat → ch n = I 2 n) := by
  have hnm := h.nm
  refine CT.of (by decide) (Nat.le_of_ble_eq_true rfl) ?_
  show AW _ 0 0 _ 0 [some (zr 234), none] [] _ _ _
  have loop : ∀ (k : Nat) (x : Nat) (ch sm : Nat → Int), (x : Int) + k = I 1 5 → z_sOK I ch sm → (∀ n, n < x → ch n = I 2 n) → AW (FM m_X1_begin (fun q9 sz' I' J' R' => q9 = none ∧ sz' = 255 ∧ J' = J ∧ R' = z_R π ∧ ∃ ch sm : Nat → Int, I' = z_s1 I ch sm ∧ z_sOK I ch sm ∧ ∀ n, n < (I 1 5).toNat → ch n = I 2 n)) 0 0 255 18 [some (zr 234), some (zi (x : Int))] [] (z_s1 I ch sm) J (z_R π) := by
    intro k
    induction k with
    | zero =>
      intro x ch sm he g1 g2
      refine aw_iload_n (pc := 18) dX1_begin_18 rfl ?_
      refine aw_aload_n (pc := 19) dX1_begin_19 rfl ?_
      refine aw_getR (pc := 20) dX1_begin_20 k_fl_X1_18 rfl (by omega) (by first | rfl | exact z_shr _ (by omega) | exact z_shc0 (by omega) | exact z_shc1 (by omega) | exact z_shc2 (by omega) | exact z_shc3 (by omega) | exact z_shc4 (by omega)) (by first | rfl | exact z_Rc0 _ (by omega) | exact z_Rc1 _ (by omega) | exact z_Rc2 _ (by omega) | exact z_Rc3 _ (by omega)) ?_
      refine aw_getV (pc := 23) (v := I 1 5) dX1_begin_23 k_fl_X1_28 rfl (by omega) (by first | rfl | exact z_shr _ (by omega) | exact z_shc0 (by omega) | exact z_shc1 (by omega) | exact z_shc2 (by omega) | exact z_shc3 (by omega) | exact z_shc4 (by omega)) (z_s1_o (by omega)) ?_
      refine aw_icmp_ge (pc := 26) (tgt := 49) dX1_begin_26 rfl (by first | omega | exact z_bl_r _) (by first | omega | exact z_bl_r _) (fun h26 => ?_) (fun h26 => absurd h26 (by omega))
      exact aw_return (pc := 49) dX1_begin_49 rfl ⟨Nat.zero_le _, Nat.zero_le _⟩ (⟨rfl, rfl, rfl, rfl, ch, sm, rfl, g1, fun n hn => g2 n (by omega)⟩)
    | succ k ih =>
      intro x ch sm he g1 g2
      refine aw_iload_n (pc := 18) dX1_begin_18 rfl ?_
      refine aw_aload_n (pc := 19) dX1_begin_19 rfl ?_
      refine aw_getR (pc := 20) dX1_begin_20 k_fl_X1_18 rfl (by omega) (by first | rfl | exact z_shr _ (by omega) | exact z_shc0 (by omega) | exact z_shc1 (by omega) | exact z_shc2 (by omega) | exact z_shc3 (by omega) | exact z_shc4 (by omega)) (by first | rfl | exact z_Rc0 _ (by omega) | exact z_Rc1 _ (by omega) | exact z_Rc2 _ (by omega) | exact z_Rc3 _ (by omega)) ?_
      refine aw_getV (pc := 23) (v := I 1 5) dX1_begin_23 k_fl_X1_28 rfl (by omega) (by first | rfl | exact z_shr _ (by omega) | exact z_shc0 (by omega) | exact z_shc1 (by omega) | exact z_shc2 (by omega) | exact z_shc3 (by omega) | exact z_shc4 (by omega)) (z_s1_o (by omega)) ?_
      refine aw_icmp_ge (pc := 26) (tgt := 49) dX1_begin_26 rfl (by first | omega | exact z_bl_r _) (by first | omega | exact z_bl_r _) (fun h26 => absurd h26 (by omega)) (fun h26 => ?_)
      refine aw_aload_n (pc := 29) dX1_begin_29 rfl ?_
      refine aw_iload_n (pc := 30) dX1_begin_30 rfl ?_
      refine aw_aload_n (pc := 31) dX1_begin_31 rfl ?_
      refine aw_getR (pc := 32) dX1_begin_32 k_fl_X1_18 rfl (by omega) (by first | rfl | exact z_shr _ (by omega) | exact z_shc0 (by omega) | exact z_shc1 (by omega) | exact z_shc2 (by omega) | exact z_shc3 (by omega) | exact z_shc4 (by omega)) (by first | rfl | exact z_Rc0 _ (by omega) | exact z_Rc1 _ (by omega) | exact z_Rc2 _ (by omega) | exact z_Rc3 _ (by omega)) ?_
      refine aw_getR (pc := 35) dX1_begin_35 k_fl_X1_34 rfl (by omega) (by first | rfl | exact z_shr _ (by omega) | exact z_shc0 (by omega) | exact z_shc1 (by omega) | exact z_shc2 (by omega) | exact z_shc3 (by omega) | exact z_shc4 (by omega)) (by first | rfl | exact z_Rc0 _ (by omega) | exact z_Rc1 _ (by omega) | exact z_Rc2 _ (by omega) | exact z_Rc3 _ (by omega)) ?_
      refine aw_iload_n (pc := 38) dX1_begin_38 rfl ?_
      refine aw_ialoadV (pc := 39) (v := I 2 x) dX1_begin_39 (by omega) (Nat.le_refl _) (by first | rfl | exact z_shr _ (by omega) | exact z_shc0 (by omega) | exact z_shc1 (by omega) | exact z_shc2 (by omega) | exact z_shc3 (by omega) | exact z_shc4 (by omega)) (by first | omega | exact z_bl_r _) (z_s1_o (by omega)) ?_
      refine aw_qV (pc := 40) (d := m_X1_choose) (c_X1_choose h (by omega)) k_X1_choose dX1_begin_40 k_ml_X1_37 rfl ⟨rfl, rfl⟩ (by omega) (by first | rfl | exact z_shr _ (by omega) | exact z_shc0 (by omega) | exact z_shc1 (by omega) | exact z_shc2 (by omega) | exact z_shc3 (by omega) | exact z_shc4 (by omega)) rfl ⟨Nat.le_of_ble_eq_true rfl, Nat.le_of_ble_eq_true rfl⟩ ⟨Nat.zero_le _, Nat.zero_le _⟩ rfl (Nat.le_of_ble_eq_true rfl) (z_Pk ?_)
      refine aw_iinc (pc := 43) (lv' := [_, _]) dX1_begin_43 (Nat.le_of_ble_eq_true rfl) rfl rfl ?_
      refine aw_goto (pc := 46) (tgt := 18) dX1_begin_46 rfl ?_
      have K := ih (x + 1) _ _ (by omega) (z_sOK_put (n := x) (v := I 2 x) g1 (by omega)) (fun n hn => by unfold va_up; by_cases e : n = x; (rw [if_pos e, e]); (rw [if_neg e]; exact g2 n (by omega)))
      exact K
  refine aw_aload_n (pc := 0) dX1_begin_0 rfl ?_
  refine aw_getR (pc := 1) dX1_begin_1 k_fl_X1_15 rfl (by omega) (by first | rfl | exact z_shr _ (by omega) | exact z_shc0 (by omega) | exact z_shc1 (by omega) | exact z_shc2 (by omega) | exact z_shc3 (by omega) | exact z_shc4 (by omega)) (by first | rfl | exact z_Rc0 _ (by omega) | exact z_Rc1 _ (by omega) | exact z_Rc2 _ (by omega) | exact z_Rc3 _ (by omega)) ?_
  refine aw_iconst (pc := 4) dX1_begin_4 ?_
  refine aw_qS (pc := 5) (d := m_J7_fill_53178) (c_fill (n := 10) (by omega) rfl (by omega)) k_J7_fill_53178 dX1_begin_5 k_ml_X1_22 rfl ⟨rfl, rfl⟩ ⟨Nat.le_of_ble_eq_true rfl, Nat.le_of_ble_eq_true rfl⟩ ⟨Nat.zero_le _, Nat.zero_le _⟩ rfl (Nat.le_of_ble_eq_true rfl) (z_Pk ?_)
  rw [z_s1_fs]
  refine aw_aload_n (pc := 8) dX1_begin_8 rfl ?_
  refine aw_getR (pc := 9) dX1_begin_9 k_fl_X1_9 rfl (by omega) (by first | rfl | exact z_shr _ (by omega) | exact z_shc0 (by omega) | exact z_shc1 (by omega) | exact z_shc2 (by omega) | exact z_shc3 (by omega) | exact z_shc4 (by omega)) (by first | rfl | exact z_Rc0 _ (by omega) | exact z_Rc1 _ (by omega) | exact z_Rc2 _ (by omega) | exact z_Rc3 _ (by omega)) ?_
  refine aw_iconst (pc := 12) dX1_begin_12 ?_
  refine aw_qS (pc := 13) (d := m_J7_fill_53178) (c_fill (n := 8) (by omega) rfl (by omega)) k_J7_fill_53178 dX1_begin_13 k_ml_X1_22 rfl ⟨rfl, rfl⟩ ⟨Nat.le_of_ble_eq_true rfl, Nat.le_of_ble_eq_true rfl⟩ ⟨Nat.zero_le _, Nat.zero_le _⟩ rfl (Nat.le_of_ble_eq_true rfl) (z_Pk ?_)
  rw [z_s1_fc]
  refine aw_iconst (pc := 16) dX1_begin_16 ?_
  refine aw_istore_n (pc := 17) (lv' := [_, _]) dX1_begin_17 (Nat.le_of_ble_eq_true rfl) rfl ?_
  exact loop (I 1 5).toNat 0 _ _ (by omega) (fun r hr => by
    have hrw := h.rw
    rw [if_pos (by omega), z_sum_c (g := fun _ => 0) _ (fun n hn => by rw [if_pos (by omega), Int.mul_zero])]
    exact (z_sum_z _).symm) (fun n hn => absurd hn (by omega))
set_option maxHeartbeats 4000000 in
theorem c_X1_advance {π : Nat → Nat} {I J : AwI} {ch0 sm0 : Nat → Int} (h : z_M I J) (g0 : z_sOK I ch0 sm0) (hb : ∀ n, n < (I 1 5).toNat → I 2 n ≤ ch0 n ∧ ch0 n ≤ I 3 n) : CT m_X1_advance [zr 234] 255 (z_s1 I ch0 sm0) J (z_R π) (fun q9 sz' I' J' R' => q9 = none ∧ sz' = 255 ∧ J' = J ∧ R' = z_R π ∧ ∃ ch sm : Nat → Int, I' = z_s1 I ch sm ∧ z_sOK I ch sm ∧ ∀ n, n < (I 1 5).toNat → ch n = (z_nx (z_clM I J) ch0) n) := by
  have hnm := h.nm
  refine CT.of (by decide) (Nat.le_of_ble_eq_true rfl) ?_
  show AW _ 0 0 _ 0 [some (zr 234), none] [] _ _ _
  have loop : ∀ (k : Nat) (x : Nat) (ch sm : Nat → Int), (x : Int) + k = I 1 5 → z_sOK I ch sm → (∀ n, n < x → ch n = I 2 n ∧ ch0 n = I 3 n) → (∀ n, x ≤ n → n < (I 1 5).toNat → ch n = ch0 n) → AW (FM m_X1_advance (fun q9 sz' I' J' R' => q9 = none ∧ sz' = 255 ∧ J' = J ∧ R' = z_R π ∧ ∃ ch sm : Nat → Int, I' = z_s1 I ch sm ∧ z_sOK I ch sm ∧ ∀ n, n < (I 1 5).toNat → ch n = (z_nx (z_clM I J) ch0) n)) 0 0 255 2 [some (zr 234), some (zi (x : Int))] [] (z_s1 I ch sm) J (z_R π) := by
    intro k
    induction k with
    | zero =>
      intro x ch sm he g1 g2 g3
      refine aw_iload_n (pc := 2) dX1_advance_2 rfl ?_
      refine aw_aload_n (pc := 3) dX1_advance_3 rfl ?_
      refine aw_getR (pc := 4) dX1_advance_4 k_fl_X1_18 rfl (by omega) (by first | rfl | exact z_shr _ (by omega) | exact z_shc0 (by omega) | exact z_shc1 (by omega) | exact z_shc2 (by omega) | exact z_shc3 (by omega) | exact z_shc4 (by omega)) (by first | rfl | exact z_Rc0 _ (by omega) | exact z_Rc1 _ (by omega) | exact z_Rc2 _ (by omega) | exact z_Rc3 _ (by omega)) ?_
      refine aw_getV (pc := 7) (v := I 1 5) dX1_advance_7 k_fl_X1_28 rfl (by omega) (by first | rfl | exact z_shr _ (by omega) | exact z_shc0 (by omega) | exact z_shc1 (by omega) | exact z_shc2 (by omega) | exact z_shc3 (by omega) | exact z_shc4 (by omega)) (z_s1_o (by omega)) ?_
      refine aw_icmp_ge (pc := 10) (tgt := 65) dX1_advance_10 rfl (by first | omega | exact z_bl_r _) (by first | omega | exact z_bl_r _) (fun h10 => ?_) (fun h10 => absurd h10 (by omega))
      refine aw_return (pc := 65) dX1_advance_65 rfl ⟨Nat.zero_le _, Nat.zero_le _⟩ ?_
      refine ⟨rfl, rfl, rfl, rfl, ch, sm, rfl, g1, fun n hn => ?_⟩
      unfold z_nx
      rw [z_if_t (fun i hi => by rw [z_clM_hi (by omega)]; exact (g2 i (by omega)).2), if_pos (by rw [z_clM_hi hn]; exact (g2 n (by omega)).2), z_clM_lo hn]
      exact (g2 n (by omega)).1
    | succ k ih =>
      intro x ch sm he g1 g2 g3
      refine aw_iload_n (pc := 2) dX1_advance_2 rfl ?_
      refine aw_aload_n (pc := 3) dX1_advance_3 rfl ?_
      refine aw_getR (pc := 4) dX1_advance_4 k_fl_X1_18 rfl (by omega) (by first | rfl | exact z_shr _ (by omega) | exact z_shc0 (by omega) | exact z_shc1 (by omega) | exact z_shc2 (by omega) | exact z_shc3 (by omega) | exact z_shc4 (by omega)) (by first | rfl | exact z_Rc0 _ (by omega) | exact z_Rc1 _ (by omega) | exact z_Rc2 _ (by omega) | exact z_Rc3 _ (by omega)) ?_
      refine aw_getV (pc := 7) (v := I 1 5) dX1_advance_7 k_fl_X1_28 rfl (by omega) (by first | rfl | exact z_shr _ (by omega) | exact z_shc0 (by omega) | exact z_shc1 (by omega) | exact z_shc2 (by omega) | exact z_shc3 (by omega) | exact z_shc4 (by omega)) (z_s1_o (by omega)) ?_
      refine aw_icmp_ge (pc := 10) (tgt := 65) dX1_advance_10 rfl (by first | omega | exact z_bl_r _) (by first | omega | exact z_bl_r _) (fun h10 => absurd h10 (by omega)) (fun h10 => ?_)
      have b1 := hb x (by omega)
      have b2 := h.lo x
      have b3 := h.hi x
      have e0 := g3 x (by omega) (by omega)
      refine aw_aload_n (pc := 13) dX1_advance_13 rfl ?_
      refine aw_getR (pc := 14) dX1_advance_14 k_fl_X1_9 rfl (by omega) (by first | rfl | exact z_shr _ (by omega) | exact z_shc0 (by omega) | exact z_shc1 (by omega) | exact z_shc2 (by omega) | exact z_shc3 (by omega) | exact z_shc4 (by omega)) (by first | rfl | exact z_Rc0 _ (by omega) | exact z_Rc1 _ (by omega) | exact z_Rc2 _ (by omega) | exact z_Rc3 _ (by omega)) ?_
      refine aw_iload_n (pc := 17) dX1_advance_17 rfl ?_
      refine aw_ialoadV (pc := 18) (v := ch x) dX1_advance_18 (by omega) (Nat.le_refl _) (by first | rfl | exact z_shr _ (by omega) | exact z_shc0 (by omega) | exact z_shc1 (by omega) | exact z_shc2 (by omega) | exact z_shc3 (by omega) | exact z_shc4 (by omega)) (by first | omega | exact z_bl_r _) (z_s1_c x) ?_
      refine aw_aload_n (pc := 19) dX1_advance_19 rfl ?_
      refine aw_getR (pc := 20) dX1_advance_20 k_fl_X1_18 rfl (by omega) (by first | rfl | exact z_shr _ (by omega) | exact z_shc0 (by omega) | exact z_shc1 (by omega) | exact z_shc2 (by omega) | exact z_shc3 (by omega) | exact z_shc4 (by omega)) (by first | rfl | exact z_Rc0 _ (by omega) | exact z_Rc1 _ (by omega) | exact z_Rc2 _ (by omega) | exact z_Rc3 _ (by omega)) ?_
      refine aw_getR (pc := 23) dX1_advance_23 k_fl_X1_41 rfl (by omega) (by first | rfl | exact z_shr _ (by omega) | exact z_shc0 (by omega) | exact z_shc1 (by omega) | exact z_shc2 (by omega) | exact z_shc3 (by omega) | exact z_shc4 (by omega)) (by first | rfl | exact z_Rc0 _ (by omega) | exact z_Rc1 _ (by omega) | exact z_Rc2 _ (by omega) | exact z_Rc3 _ (by omega)) ?_
      refine aw_iload_n (pc := 26) dX1_advance_26 rfl ?_
      refine aw_ialoadV (pc := 27) (v := I 3 x) dX1_advance_27 (by omega) (Nat.le_refl _) (by first | rfl | exact z_shr _ (by omega) | exact z_shc0 (by omega) | exact z_shc1 (by omega) | exact z_shc2 (by omega) | exact z_shc3 (by omega) | exact z_shc4 (by omega)) (by first | omega | exact z_bl_r _) (z_s1_o (by omega)) ?_
      refine aw_icmp_ge (pc := 28) (tgt := 45) dX1_advance_28 rfl (by first | omega | exact z_bl_r _) (by first | omega | exact z_bl_r _) (fun h28 => ?_) (fun h28 => ?_)
      · refine aw_aload_n (pc := 45) dX1_advance_45 rfl ?_
        refine aw_iload_n (pc := 46) dX1_advance_46 rfl ?_
        refine aw_aload_n (pc := 47) dX1_advance_47 rfl ?_
        refine aw_getR (pc := 48) dX1_advance_48 k_fl_X1_18 rfl (by omega) (by first | rfl | exact z_shr _ (by omega) | exact z_shc0 (by omega) | exact z_shc1 (by omega) | exact z_shc2 (by omega) | exact z_shc3 (by omega) | exact z_shc4 (by omega)) (by first | rfl | exact z_Rc0 _ (by omega) | exact z_Rc1 _ (by omega) | exact z_Rc2 _ (by omega) | exact z_Rc3 _ (by omega)) ?_
        refine aw_getR (pc := 51) dX1_advance_51 k_fl_X1_34 rfl (by omega) (by first | rfl | exact z_shr _ (by omega) | exact z_shc0 (by omega) | exact z_shc1 (by omega) | exact z_shc2 (by omega) | exact z_shc3 (by omega) | exact z_shc4 (by omega)) (by first | rfl | exact z_Rc0 _ (by omega) | exact z_Rc1 _ (by omega) | exact z_Rc2 _ (by omega) | exact z_Rc3 _ (by omega)) ?_
        refine aw_iload_n (pc := 54) dX1_advance_54 rfl ?_
        refine aw_ialoadV (pc := 55) (v := I 2 x) dX1_advance_55 (by omega) (Nat.le_refl _) (by first | rfl | exact z_shr _ (by omega) | exact z_shc0 (by omega) | exact z_shc1 (by omega) | exact z_shc2 (by omega) | exact z_shc3 (by omega) | exact z_shc4 (by omega)) (by first | omega | exact z_bl_r _) (z_s1_o (by omega)) ?_
        refine aw_qV (pc := 56) (d := m_X1_choose) (c_X1_choose h (by omega)) k_X1_choose dX1_advance_56 k_ml_X1_37 rfl ⟨rfl, rfl⟩ (by omega) (by first | rfl | exact z_shr _ (by omega) | exact z_shc0 (by omega) | exact z_shc1 (by omega) | exact z_shc2 (by omega) | exact z_shc3 (by omega) | exact z_shc4 (by omega)) rfl ⟨Nat.le_of_ble_eq_true rfl, Nat.le_of_ble_eq_true rfl⟩ ⟨Nat.zero_le _, Nat.zero_le _⟩ rfl (Nat.le_of_ble_eq_true rfl) (z_Pk ?_)
        refine aw_iinc (pc := 59) (lv' := [_, _]) dX1_advance_59 (Nat.le_of_ble_eq_true rfl) rfl rfl ?_
        refine aw_goto (pc := 62) (tgt := 2) dX1_advance_62 rfl ?_
        have K := ih (x + 1) _ _ (by omega) (z_sOK_put (n := x) (v := I 2 x) g1 (by omega)) (fun n hn => by unfold va_up; by_cases e : n = x; (subst e; rw [if_pos rfl]; exact ⟨rfl, by omega⟩); (rw [if_neg e]; exact g2 n (by omega))) (fun n h1 h2 => by unfold va_up; rw [if_neg (by omega)]; exact g3 n (by omega) h2)
        exact K
      · refine aw_aload_n (pc := 31) dX1_advance_31 rfl ?_
        refine aw_iload_n (pc := 32) dX1_advance_32 rfl ?_
        refine aw_aload_n (pc := 33) dX1_advance_33 rfl ?_
        refine aw_getR (pc := 34) dX1_advance_34 k_fl_X1_9 rfl (by omega) (by first | rfl | exact z_shr _ (by omega) | exact z_shc0 (by omega) | exact z_shc1 (by omega) | exact z_shc2 (by omega) | exact z_shc3 (by omega) | exact z_shc4 (by omega)) (by first | rfl | exact z_Rc0 _ (by omega) | exact z_Rc1 _ (by omega) | exact z_Rc2 _ (by omega) | exact z_Rc3 _ (by omega)) ?_
        refine aw_iload_n (pc := 37) dX1_advance_37 rfl ?_
        refine aw_ialoadV (pc := 38) (v := ch x) dX1_advance_38 (by omega) (Nat.le_refl _) (by first | rfl | exact z_shr _ (by omega) | exact z_shc0 (by omega) | exact z_shc1 (by omega) | exact z_shc2 (by omega) | exact z_shc3 (by omega) | exact z_shc4 (by omega)) (by first | omega | exact z_bl_r _) (z_s1_c x) ?_
        refine aw_iconst (pc := 39) dX1_advance_39 ?_
        refine aw_iadd (pc := 40) dX1_advance_40 ?_
        refine aw_qV (pc := 41) (d := m_X1_choose) (c_X1_choose h (by omega)) k_X1_choose dX1_advance_41 k_ml_X1_37 rfl ⟨rfl, rfl⟩ (by omega) (by first | rfl | exact z_shr _ (by omega) | exact z_shc0 (by omega) | exact z_shc1 (by omega) | exact z_shc2 (by omega) | exact z_shc3 (by omega) | exact z_shc4 (by omega)) rfl ⟨Nat.le_of_ble_eq_true rfl, Nat.le_of_ble_eq_true rfl⟩ ⟨Nat.zero_le _, Nat.zero_le _⟩ rfl (Nat.le_of_ble_eq_true rfl) (z_Pk ?_)
        refine aw_return (pc := 44) dX1_advance_44 rfl ⟨Nat.zero_le _, Nat.zero_le _⟩ ?_
        refine ⟨rfl, rfl, rfl, rfl, _, _, rfl, z_sOK_put g1 (by omega), fun n hn => ?_⟩
        unfold va_up
        by_cases e : n = x
        · subst e
          rw [if_pos rfl, e0]
          unfold z_nx
          rw [z_if_t (fun i hi => by rw [z_clM_hi (by omega)]; exact (g2 i (by omega)).2), if_neg (by rw [z_clM_hi hn]; omega)]
        · rw [if_neg e]
          unfold z_nx
          by_cases e2 : n < x
          · rw [z_if_t (fun i hi => by rw [z_clM_hi (by omega)]; exact (g2 i (by omega)).2), if_pos (by rw [z_clM_hi hn]; exact (g2 n e2).2), z_clM_lo hn]
            exact (g2 n e2).1
          · rw [z_if_f (fun q => by have w := q x (by omega); rw [z_clM_hi (by omega)] at w; omega)]
            exact g3 n (by omega) hn
  refine aw_iconst (pc := 0) dX1_advance_0 ?_
  refine aw_istore_n (pc := 1) (lv' := [_, _]) dX1_advance_1 (Nat.le_of_ble_eq_true rfl) rfl ?_
  exact loop (I 1 5).toNat 0 ch0 sm0 (by omega) g0 (fun n hn => absurd hn (by omega)) (fun _ _ _ => rfl)
set_option maxHeartbeats 4000000 in
theorem c_X1_isPlan {π : Nat → Nat} {I J : AwI} {ch sm : Nat → Int} (h : z_M I J) (g0 : z_sOK I ch sm) (hb : ∀ n, n < (I 1 5).toNat → I 2 n ≤ ch n ∧ ch n ≤ I 3 n) : CT m_X1_isPlan [zr 234] 255 (z_s1 I ch sm) J (z_R π) (z_P (some (zi (z_bl (z_isP (z_clM I J) ch)))) 255 (z_s1 I ch sm) J (z_R π)) := by
  have hnm := h.nm
  have hrw := h.rw
  have key : ∀ r, r < (I 1 6).toNat → z_sum (fun n => mF (z_clM I J) r n * ch n) (mN (z_clM I J)) = sm r ∧ mrt (z_clM I J) r = I 16 r ∧ -100000 ≤ sm r ∧ sm r ≤ 100000 := fun r hr => by
    have e1 : z_sum (fun n => mF (z_clM I J) r n * ch n) (mN (z_clM I J)) = sm r := by rw [g0 r (by omega)]; exact z_sum_c _ (fun n hn => by rw [z_clM_F hr hn])
    have e2 := z_sum_b (f := fun n => I (6 + r) n * ch n) 1500 (I 1 5).toNat (fun n hn => by have b1 := hb n hn; have b2 := h.lo n; have b3 := h.hi n; have a := z_mulb (h.fc r n (by omega)) (b := ch n) (B := 30) (by omega); omega)
    rw [← g0 r (by omega)] at e2
    exact ⟨e1, z_clM_rt hr, by omega, by omega⟩
  refine CT.of (by decide) (Nat.le_of_ble_eq_true rfl) ?_
  show AW _ 0 0 _ 0 [some (zr 234), none] [] _ _ _
  have loop : ∀ (k : Nat) (x : Nat), (x : Int) + k = I 1 6 → (∀ r, r < x → sm r ≤ I 16 r) → AW (FM m_X1_isPlan (z_P (some (zi (z_bl (z_isP (z_clM I J) ch)))) 255 (z_s1 I ch sm) J (z_R π))) 0 0 255 2 [some (zr 234), some (zi (x : Int))] [] (z_s1 I ch sm) J (z_R π) := by
    intro k
    induction k with
    | zero =>
      intro x he gi
      refine aw_iload_n (pc := 2) dX1_isPlan_2 rfl ?_
      refine aw_aload_n (pc := 3) dX1_isPlan_3 rfl ?_
      refine aw_getR (pc := 4) dX1_isPlan_4 k_fl_X1_18 rfl (by omega) (by first | rfl | exact z_shr _ (by omega) | exact z_shc0 (by omega) | exact z_shc1 (by omega) | exact z_shc2 (by omega) | exact z_shc3 (by omega) | exact z_shc4 (by omega)) (by first | rfl | exact z_Rc0 _ (by omega) | exact z_Rc1 _ (by omega) | exact z_Rc2 _ (by omega) | exact z_Rc3 _ (by omega)) ?_
      refine aw_getV (pc := 7) (v := I 1 6) dX1_isPlan_7 k_fl_X1_44 rfl (by omega) (by first | rfl | exact z_shr _ (by omega) | exact z_shc0 (by omega) | exact z_shc1 (by omega) | exact z_shc2 (by omega) | exact z_shc3 (by omega) | exact z_shc4 (by omega)) (z_s1_o (by omega)) ?_
      refine aw_icmp_ge (pc := 10) (tgt := 39) dX1_isPlan_10 rfl (by first | omega | exact z_bl_r _) (by first | omega | exact z_bl_r _) (fun h10 => ?_) (fun h10 => absurd h10 (by omega))
      refine aw_iconst (pc := 39) dX1_isPlan_39 ?_
      exact aw_zreturn (pc := 40) dX1_isPlan_40 rfl (by first | exact Or.inl rfl | exact Or.inr rfl | omega) ⟨Nat.zero_le _, Nat.zero_le _⟩ (⟨z_r1 (fun r hr => by have hr : r < (I 1 6).toNat := hr; have w := key r hr; have g := gi r (by omega); omega), rfl, rfl, rfl, rfl⟩)
    | succ k ih =>
      intro x he gi
      refine aw_iload_n (pc := 2) dX1_isPlan_2 rfl ?_
      refine aw_aload_n (pc := 3) dX1_isPlan_3 rfl ?_
      refine aw_getR (pc := 4) dX1_isPlan_4 k_fl_X1_18 rfl (by omega) (by first | rfl | exact z_shr _ (by omega) | exact z_shc0 (by omega) | exact z_shc1 (by omega) | exact z_shc2 (by omega) | exact z_shc3 (by omega) | exact z_shc4 (by omega)) (by first | rfl | exact z_Rc0 _ (by omega) | exact z_Rc1 _ (by omega) | exact z_Rc2 _ (by omega) | exact z_Rc3 _ (by omega)) ?_
      refine aw_getV (pc := 7) (v := I 1 6) dX1_isPlan_7 k_fl_X1_44 rfl (by omega) (by first | rfl | exact z_shr _ (by omega) | exact z_shc0 (by omega) | exact z_shc1 (by omega) | exact z_shc2 (by omega) | exact z_shc3 (by omega) | exact z_shc4 (by omega)) (z_s1_o (by omega)) ?_
      refine aw_icmp_ge (pc := 10) (tgt := 39) dX1_isPlan_10 rfl (by first | omega | exact z_bl_r _) (by first | omega | exact z_bl_r _) (fun h10 => absurd h10 (by omega)) (fun h10 => ?_)
      have w := key x (by omega)
      have b4 := h.rt x
      refine aw_aload_n (pc := 13) dX1_isPlan_13 rfl ?_
      refine aw_getR (pc := 14) dX1_isPlan_14 k_fl_X1_15 rfl (by omega) (by first | rfl | exact z_shr _ (by omega) | exact z_shc0 (by omega) | exact z_shc1 (by omega) | exact z_shc2 (by omega) | exact z_shc3 (by omega) | exact z_shc4 (by omega)) (by first | rfl | exact z_Rc0 _ (by omega) | exact z_Rc1 _ (by omega) | exact z_Rc2 _ (by omega) | exact z_Rc3 _ (by omega)) ?_
      refine aw_iload_n (pc := 17) dX1_isPlan_17 rfl ?_
      refine aw_ialoadV (pc := 18) (v := sm x) dX1_isPlan_18 (by omega) (Nat.le_refl _) (by first | rfl | exact z_shr _ (by omega) | exact z_shc0 (by omega) | exact z_shc1 (by omega) | exact z_shc2 (by omega) | exact z_shc3 (by omega) | exact z_shc4 (by omega)) (by first | omega | exact z_bl_r _) (z_s1_s x) ?_
      refine aw_aload_n (pc := 19) dX1_isPlan_19 rfl ?_
      refine aw_getR (pc := 20) dX1_isPlan_20 k_fl_X1_18 rfl (by omega) (by first | rfl | exact z_shr _ (by omega) | exact z_shc0 (by omega) | exact z_shc1 (by omega) | exact z_shc2 (by omega) | exact z_shc3 (by omega) | exact z_shc4 (by omega)) (by first | rfl | exact z_Rc0 _ (by omega) | exact z_Rc1 _ (by omega) | exact z_Rc2 _ (by omega) | exact z_Rc3 _ (by omega)) ?_
      refine aw_getR (pc := 23) dX1_isPlan_23 k_fl_X1_51 rfl (by omega) (by first | rfl | exact z_shr _ (by omega) | exact z_shc0 (by omega) | exact z_shc1 (by omega) | exact z_shc2 (by omega) | exact z_shc3 (by omega) | exact z_shc4 (by omega)) (by first | rfl | exact z_Rc0 _ (by omega) | exact z_Rc1 _ (by omega) | exact z_Rc2 _ (by omega) | exact z_Rc3 _ (by omega)) ?_
      refine aw_iload_n (pc := 26) dX1_isPlan_26 rfl ?_
      refine aw_ialoadV (pc := 27) (v := I 16 x) dX1_isPlan_27 (by omega) (Nat.le_refl _) (by first | rfl | exact z_shr _ (by omega) | exact z_shc0 (by omega) | exact z_shc1 (by omega) | exact z_shc2 (by omega) | exact z_shc3 (by omega) | exact z_shc4 (by omega)) (by first | omega | exact z_bl_r _) (z_s1_o (by omega)) ?_
      refine aw_icmp_le (pc := 28) (tgt := 33) dX1_isPlan_28 rfl (by first | omega | exact z_bl_r _) (by first | omega | exact z_bl_r _) (fun h28 => ?_) (fun h28 => ?_)
      · refine aw_iinc (pc := 33) (lv' := [_, _]) dX1_isPlan_33 (Nat.le_of_ble_eq_true rfl) rfl rfl ?_
        refine aw_goto (pc := 36) (tgt := 2) dX1_isPlan_36 rfl ?_
        have K := ih (x + 1) (by omega) (fun r hr => by by_cases e : r = x; (subst e; exact h28); exact gi r (by omega))
        exact K
      · refine aw_iconst (pc := 31) dX1_isPlan_31 ?_
        exact aw_zreturn (pc := 32) dX1_isPlan_32 rfl (by first | exact Or.inl rfl | exact Or.inr rfl | omega) ⟨Nat.zero_le _, Nat.zero_le _⟩ (⟨z_r0 (fun q => by have g := q x (by show x < (I 1 6).toNat; omega); omega), rfl, rfl, rfl, rfl⟩)
  refine aw_iconst (pc := 0) dX1_isPlan_0 ?_
  refine aw_istore_n (pc := 1) (lv' := [_, _]) dX1_isPlan_1 (Nat.le_of_ble_eq_true rfl) rfl ?_
  exact loop (I 1 6).toNat 0 (by omega) (fun r hr => absurd hr (by omega))
set_option maxHeartbeats 4000000 in
theorem c_X1_keeps {π : Nat → Nat} {I J : AwI} {ch sm : Nat → Int} {c : Nat} {C : z_CC} (h : z_M I J) (hk : c < 41) (hc : z_C I c) (hC : z_clC I c (z_clM I J) C) (hb : ∀ n, n < (I 1 5).toNat → I 2 n ≤ ch n ∧ ch n ≤ I 3 n) : CT m_X1_keeps [zr 234, zr (19 + 5 * c)] 255 (z_s1 I ch sm) J (z_R π) (z_P (some (zi (z_bl (z_kp (z_clM I J) C ch)))) 255 (z_s1 I ch sm) J (z_R π)) := by
  have hnm := h.nm
  have hcr := hc.r
  have e2 := z_sum_b (f := (fun n => I (19 + 5 * c + 1) n * ch n)) 30000 (I 1 5).toNat (fun n hn => by have b1 := hb n hn; have b2 := h.lo n; have b3 := h.hi n; have a := z_mulb (hc.f n) (b := ch n) (B := 30) (by omega); omega)
  have e1 : z_sum (fun n => cF C n * ch n) (mN (z_clM I J)) = z_sum (fun n => I (19 + 5 * c + 1) n * ch n) (I 1 5).toNat := z_sum_c _ (fun n hn => by rw [hC.1 n hn])
  refine CT.of (by decide) (Nat.le_of_ble_eq_true rfl) ?_
  show AW _ 0 0 _ 0 [some (zr 234), some (zr (19 + 5 * c)), none, none] [] _ _ _
  have loop : ∀ (k : Nat) (x : Nat), (x : Int) + k = I 1 5 → AW (FM m_X1_keeps (z_P (some (zi (z_bl (z_kp (z_clM I J) C ch)))) 255 (z_s1 I ch sm) J (z_R π))) 0 0 255 4 [some (zr 234), some (zr (19 + 5 * c)), some (zi (z_sum (fun n => I (19 + 5 * c + 1) n * ch n) x)), some (zi (x : Int))] [] (z_s1 I ch sm) J (z_R π) := by
    intro k
    induction k with
    | zero =>
      intro x he
      refine aw_iload_n (pc := 4) dX1_keeps_4 rfl ?_
      refine aw_aload_n (pc := 5) dX1_keeps_5 rfl ?_
      refine aw_getR (pc := 6) dX1_keeps_6 k_fl_X1_18 rfl (by omega) (by first | rfl | exact z_shr _ (by omega) | exact z_shc0 (by omega) | exact z_shc1 (by omega) | exact z_shc2 (by omega) | exact z_shc3 (by omega) | exact z_shc4 (by omega)) (by first | rfl | exact z_Rc0 _ (by omega) | exact z_Rc1 _ (by omega) | exact z_Rc2 _ (by omega) | exact z_Rc3 _ (by omega)) ?_
      refine aw_getV (pc := 9) (v := I 1 5) dX1_keeps_9 k_fl_X1_28 rfl (by omega) (by first | rfl | exact z_shr _ (by omega) | exact z_shc0 (by omega) | exact z_shc1 (by omega) | exact z_shc2 (by omega) | exact z_shc3 (by omega) | exact z_shc4 (by omega)) (z_s1_o (by omega)) ?_
      refine aw_icmp_ge (pc := 12) (tgt := 37) dX1_keeps_12 rfl (by first | omega | exact z_bl_r _) (by first | omega | exact z_bl_r _) (fun h12 => ?_) (fun h12 => absurd h12 (by omega))
      rw [show x = (I 1 5).toNat by omega]
      refine aw_iload_n (pc := 37) dX1_keeps_37 rfl ?_
      refine aw_aload_n (pc := 38) dX1_keeps_38 rfl ?_
      refine aw_getV (pc := 39) (v := I (19 + 5 * c) 4) dX1_keeps_39 k_fl_X1_58 rfl (by omega) (by first | rfl | exact z_shr _ (by omega) | exact z_shc0 (by omega) | exact z_shc1 (by omega) | exact z_shc2 (by omega) | exact z_shc3 (by omega) | exact z_shc4 (by omega)) (z_s1_o (by omega)) ?_
      refine aw_icmp_gt (pc := 42) (tgt := 49) dX1_keeps_42 rfl (by first | omega | exact z_bl_r _) (by first | omega | exact z_bl_r _) (fun h42 => ?_) (fun h42 => ?_)
      · refine aw_iconst (pc := 49) dX1_keeps_49 ?_
        exact aw_zreturn (pc := 50) dX1_keeps_50 rfl (by first | exact Or.inl rfl | exact Or.inr rfl | omega) ⟨Nat.zero_le _, Nat.zero_le _⟩ (⟨by first | exact z_r1 (show _ ≤ cR C by rw [e1, ← hC.2.1]; omega) | exact z_r0 (fun q => by have q : _ ≤ cR C := q; rw [e1, ← hC.2.1] at q; omega), rfl, rfl, rfl, rfl⟩)
      · refine aw_iconst (pc := 45) dX1_keeps_45 ?_
        refine aw_goto (pc := 46) (tgt := 50) dX1_keeps_46 rfl ?_
        exact aw_zreturn (pc := 50) dX1_keeps_50 rfl (by first | exact Or.inl rfl | exact Or.inr rfl | omega) ⟨Nat.zero_le _, Nat.zero_le _⟩ (⟨by first | exact z_r1 (show _ ≤ cR C by rw [e1, ← hC.2.1]; omega) | exact z_r0 (fun q => by have q : _ ≤ cR C := q; rw [e1, ← hC.2.1] at q; omega), rfl, rfl, rfl, rfl⟩)
    | succ k ih =>
      intro x he
      refine aw_iload_n (pc := 4) dX1_keeps_4 rfl ?_
      refine aw_aload_n (pc := 5) dX1_keeps_5 rfl ?_
      refine aw_getR (pc := 6) dX1_keeps_6 k_fl_X1_18 rfl (by omega) (by first | rfl | exact z_shr _ (by omega) | exact z_shc0 (by omega) | exact z_shc1 (by omega) | exact z_shc2 (by omega) | exact z_shc3 (by omega) | exact z_shc4 (by omega)) (by first | rfl | exact z_Rc0 _ (by omega) | exact z_Rc1 _ (by omega) | exact z_Rc2 _ (by omega) | exact z_Rc3 _ (by omega)) ?_
      refine aw_getV (pc := 9) (v := I 1 5) dX1_keeps_9 k_fl_X1_28 rfl (by omega) (by first | rfl | exact z_shr _ (by omega) | exact z_shc0 (by omega) | exact z_shc1 (by omega) | exact z_shc2 (by omega) | exact z_shc3 (by omega) | exact z_shc4 (by omega)) (z_s1_o (by omega)) ?_
      refine aw_icmp_ge (pc := 12) (tgt := 37) dX1_keeps_12 rfl (by first | omega | exact z_bl_r _) (by first | omega | exact z_bl_r _) (fun h12 => absurd h12 (by omega)) (fun h12 => ?_)
      refine aw_iload_n (pc := 15) dX1_keeps_15 rfl ?_
      refine aw_aload_n (pc := 16) dX1_keeps_16 rfl ?_
      refine aw_getR (pc := 17) dX1_keeps_17 k_fl_X1_54 rfl (by omega) (by first | rfl | exact z_shr _ (by omega) | exact z_shc0 (by omega) | exact z_shc1 (by omega) | exact z_shc2 (by omega) | exact z_shc3 (by omega) | exact z_shc4 (by omega)) (by first | rfl | exact z_Rc0 _ (by omega) | exact z_Rc1 _ (by omega) | exact z_Rc2 _ (by omega) | exact z_Rc3 _ (by omega)) ?_
      refine aw_iload_n (pc := 20) dX1_keeps_20 rfl ?_
      refine aw_ialoadV (pc := 21) (v := I (19 + 5 * c + 1) x) dX1_keeps_21 (by omega) (Nat.le_refl _) (by first | rfl | exact z_shr _ (by omega) | exact z_shc0 (by omega) | exact z_shc1 (by omega) | exact z_shc2 (by omega) | exact z_shc3 (by omega) | exact z_shc4 (by omega)) (by first | omega | exact z_bl_r _) (z_s1_o (by omega)) ?_
      refine aw_aload_n (pc := 22) dX1_keeps_22 rfl ?_
      refine aw_getR (pc := 23) dX1_keeps_23 k_fl_X1_9 rfl (by omega) (by first | rfl | exact z_shr _ (by omega) | exact z_shc0 (by omega) | exact z_shc1 (by omega) | exact z_shc2 (by omega) | exact z_shc3 (by omega) | exact z_shc4 (by omega)) (by first | rfl | exact z_Rc0 _ (by omega) | exact z_Rc1 _ (by omega) | exact z_Rc2 _ (by omega) | exact z_Rc3 _ (by omega)) ?_
      refine aw_iload_n (pc := 26) dX1_keeps_26 rfl ?_
      refine aw_ialoadV (pc := 27) (v := ch x) dX1_keeps_27 (by omega) (Nat.le_refl _) (by first | rfl | exact z_shr _ (by omega) | exact z_shc0 (by omega) | exact z_shc1 (by omega) | exact z_shc2 (by omega) | exact z_shc3 (by omega) | exact z_shc4 (by omega)) (by first | omega | exact z_bl_r _) (z_s1_c x) ?_
      refine aw_imul (pc := 28) dX1_keeps_28 ?_
      refine aw_iadd (pc := 29) dX1_keeps_29 ?_
      refine aw_istore_n (pc := 30) (lv' := [_, _, _, _]) dX1_keeps_30 (Nat.le_of_ble_eq_true rfl) rfl ?_
      refine aw_iinc (pc := 31) (lv' := [_, _, _, _]) dX1_keeps_31 (Nat.le_of_ble_eq_true rfl) rfl rfl ?_
      refine aw_goto (pc := 34) (tgt := 4) dX1_keeps_34 rfl ?_
      have K := ih (x + 1) (by omega)
      exact K
  refine aw_iconst (pc := 0) dX1_keeps_0 ?_
  refine aw_istore_n (pc := 1) (lv' := [_, _, _, _]) dX1_keeps_1 (Nat.le_of_ble_eq_true rfl) rfl ?_
  refine aw_iconst (pc := 2) dX1_keeps_2 ?_
  refine aw_istore_n (pc := 3) (lv' := [_, _, _, _]) dX1_keeps_3 (Nat.le_of_ble_eq_true rfl) rfl ?_
  exact loop (I 1 5).toNat 0 (by omega)
