/-! THE REFERENCE'S DRAFT -/
def z_dI (I : AwI) (s : Nat → Int) : AwI := fun a j => if a = 249 then s j else I a j
def z_dJ (J : AwI) (f : Nat → Int) (r : Int) : AwI := fun a j => if a = 248 then f j else if a = 237 ∧ j = 17 then r else J a j
section DRF
variable {I J : AwI} {s f : Nat → Int} {r : Int}
theorem z_dI_o {a j : Nat} (h : a ≠ 249) : z_dI I s a j = I a j := if_neg h
theorem z_dI_s (j : Nat) : z_dI I s 249 j = s j := rfl
theorem z_dI_u {k : Nat} {v : Int} : z_up (z_dI I s) 249 k v = z_dI I (va_up s k v) := by
  funext a j
  unfold z_up z_dI va_up
  by_cases e : a = 249
  · subst e; by_cases e2 : j = k <;> simp [e2]
  · simp [e]
theorem z_dI_id : z_dI I (I 249) = I := by
  funext a j
  unfold z_dI
  by_cases e : a = 249
  · subst e; simp
  · rw [if_neg e]
theorem z_dJ_o {a j : Nat} (h : a ≠ 248) (h2 : a ≠ 237 ∨ j ≠ 17) : z_dJ J f r a j = J a j := by
  unfold z_dJ
  rw [if_neg h, if_neg (by omega)]
theorem z_dJ_f (j : Nat) : z_dJ J f r 248 j = f j := rfl
theorem z_dJ_r : z_dJ J f r 237 17 = r := rfl
theorem z_dJ_uf {k : Nat} {v : Int} : z_up (z_dJ J f r) 248 k v = z_dJ J (va_up f k v) r := by
  funext a j
  unfold z_up z_dJ va_up
  by_cases e : a = 248
  · subst e; by_cases e2 : j = k <;> simp [e2]
  · simp [e]
theorem z_dJ_ur {v : Int} : z_up (z_dJ J f r) 237 17 v = z_dJ J f v := by
  funext a j
  unfold z_up z_dJ
  by_cases e : a = 248
  · subst e; simp
  · by_cases e2 : a = 237 ∧ j = 17
    · rw [if_pos e2, if_neg e, if_pos e2]
    · rw [if_neg e2, if_neg e, if_neg e, if_neg e2, if_neg e2]
theorem z_dJ_id : z_dJ J (J 248) (J 237 17) = J := by
  funext a j
  unfold z_dJ
  by_cases e : a = 248
  · subst e; simp
  · rw [if_neg e]
    by_cases e2 : a = 237 ∧ j = 17
    · rw [if_pos e2, e2.1, e2.2]
    · rw [if_neg e2]
theorem z_RM.d (h : z_RM I J) : z_RM (z_dI I s) (z_dJ J f r) := h.congr (fun a k q => z_dI_o (by omega)) (fun k => z_dJ_o (by omega) (by omega))
theorem z_Fs.d : z_Fs I J (z_dI I s) (z_dJ J f r) := ⟨fun a k q => z_dI_o (by omega), fun a k q => z_dJ_o (by omega) (by omega)⟩
theorem z_FQ.d : z_FQ I J (z_dI I s) (z_dJ J f r) := ⟨fun a k q => z_dI_o (by omega), fun a k q => z_dJ_o (by omega) (by omega)⟩
end DRF
/-- a stretch written -/
def z_cp (J : AwI) (a0 b x : Nat) (f : Nat → Int) : AwI := fun a k => if a = a0 ∧ b ≤ k ∧ k < b + x then f (k - b) else J a k
theorem z_cp_0 {J : AwI} {a0 b : Nat} {f : Nat → Int} : z_cp J a0 b 0 f = J := by
  funext a k
  exact if_neg (by omega)
theorem z_cp_s {J : AwI} {a0 b x : Nat} {f : Nat → Int} : z_up (z_cp J a0 b x f) a0 (b + x) (f x) = z_cp J a0 b (x + 1) f := by
  funext a k
  unfold z_up z_cp
  by_cases h1 : a = a0 ∧ k = b + x
  · rw [if_pos h1, if_pos (by omega), show k - b = x by omega]
  · rw [if_neg h1]
    by_cases h2 : a = a0 ∧ b ≤ k ∧ k < b + x
    · rw [if_pos h2, if_pos (by omega)]
    · rw [if_neg h2, if_neg (by omega)]
theorem z_cp_in {J : AwI} {a0 b x k : Nat} {f : Nat → Int} (h : k < x) : z_cp J a0 b x f a0 (b + k) = f k := by
  unfold z_cp
  rw [if_pos (by omega), show b + k - b = k by omega]
theorem z_cp_o {J : AwI} {a0 b x a k : Nat} {f : Nat → Int} (h : a ≠ a0 ∨ k < b ∨ b + x ≤ k) : z_cp J a0 b x f a k = J a k := if_neg (by omega)
theorem z_cp_b {J : AwI} {a0 b x a k : Nat} {f : Nat → Int} {A D : Int} (h1 : A ≤ J a k ∧ J a k ≤ D) (h2 : ∀ j, j < x → A ≤ f j ∧ f j ≤ D) : A ≤ z_cp J a0 b x f a k ∧ z_cp J a0 b x f a k ≤ D := by
  unfold z_cp
  split
  · rename_i q; exact h2 _ (by omega)
  · exact h1
set_option maxHeartbeats 4000000 in
theorem c_X9_emptied {π : Nat → Nat} {I J : AwI} {s f : Nat → Int} {r : Int} : CT m_X9_emptied [zr 237] 255 (z_dI I s) (z_dJ J f r) (z_R π) (z_P none 255 (z_dI I (z_pf (fun _ => 0) s 27)) (z_dJ J (z_pf (fun _ => 0) f 8) 0) (z_R π)) := by
  refine CT.of (by decide) (Nat.le_of_ble_eq_true rfl) ?_
  show AW _ 0 0 _ 0 [some (zr 237), none] [] _ _ _
  have loop2 : ∀ (k : Nat) (x : Nat), (x : Int) + k = 27 → AW (FM m_X9_emptied (z_P none 255 (z_dI I (z_pf (fun _ => 0) s 27)) (z_dJ J (z_pf (fun _ => 0) f 8) 0) (z_R π))) 0 0 255 28 [some (zr 237), some (zi (x : Int))] [] (z_dI I (z_pf (fun _ => 0) s x)) (z_dJ J (z_pf (fun _ => 0) f 8) 0) (z_R π) := by
    intro k
    induction k with
    | zero =>
      intro x he
      refine aw_iload_n (pc := 28) dX9_emptied_28 rfl ?_
      refine aw_bipush (pc := 29) dX9_emptied_29 rfl ?_
      refine aw_icmp_ge (pc := 31) (tgt := 47) dX9_emptied_31 rfl (by first | omega | exact z_bl_r _) (by first | omega | exact z_bl_r _) (fun h31 => ?_) (fun h31 => absurd h31 (by omega))
      exact aw_return (pc := 47) dX9_emptied_47 rfl ⟨Nat.zero_le _, Nat.zero_le _⟩ (⟨rfl, rfl, by rw [show x = 27 by omega], rfl, rfl⟩)
    | succ k ih =>
      intro x he
      refine aw_iload_n (pc := 28) dX9_emptied_28 rfl ?_
      refine aw_bipush (pc := 29) dX9_emptied_29 rfl ?_
      refine aw_icmp_ge (pc := 31) (tgt := 47) dX9_emptied_31 rfl (by first | omega | exact z_bl_r _) (by first | omega | exact z_bl_r _) (fun h31 => absurd h31 (by omega)) (fun h31 => ?_)
      refine aw_aload_n (pc := 34) dX9_emptied_34 rfl ?_
      refine aw_getR (pc := 35) dX9_emptied_35 k_fl_X9_48 rfl (by omega) (by first | rfl | exact z_shr _ (by omega) | exact z_shc0 (by omega) | exact z_shc1 (by omega) | exact z_shc2 (by omega) | exact z_shc3 (by omega) | exact z_shc4 (by omega)) (by first | rfl | exact z_Rc0 _ (by omega) | exact z_Rc1 _ (by omega) | exact z_Rc2 _ (by omega) | exact z_Rc3 _ (by omega)) ?_
      refine aw_iload_n (pc := 38) dX9_emptied_38 rfl ?_
      refine aw_iconst (pc := 39) dX9_emptied_39 ?_
      refine aw_iastore (pc := 40) dX9_emptied_40 (by omega) (Nat.le_refl _) (by first | rfl | exact z_shr _ (by omega) | exact z_shc0 (by omega) | exact z_shc1 (by omega) | exact z_shc2 (by omega) | exact z_shc3 (by omega) | exact z_shc4 (by omega)) (by first | omega | exact z_bl_r _) ?_
      rw [z_dI_u, Int.toNat_natCast, z_pf_sn (g := (fun _ => 0)) rfl]
      refine aw_iinc (pc := 41) (lv' := [_, _]) dX9_emptied_41 (Nat.le_of_ble_eq_true rfl) rfl rfl ?_
      refine aw_goto (pc := 44) (tgt := 28) dX9_emptied_44 rfl ?_
      have K := ih (x + 1) (by omega)
      exact K
  have loop : ∀ (k : Nat) (x : Nat), (x : Int) + k = 8 → AW (FM m_X9_emptied (z_P none 255 (z_dI I (z_pf (fun _ => 0) s 27)) (z_dJ J (z_pf (fun _ => 0) f 8) 0) (z_R π))) 0 0 255 2 [some (zr 237), some (zi (x : Int))] [] (z_dI I s) (z_dJ J (z_pf (fun _ => 0) f x) r) (z_R π) := by
    intro k
    induction k with
    | zero =>
      intro x he
      refine aw_iload_n (pc := 2) dX9_emptied_2 rfl ?_
      refine aw_bipush (pc := 3) dX9_emptied_3 rfl ?_
      refine aw_icmp_ge (pc := 5) (tgt := 21) dX9_emptied_5 rfl (by first | omega | exact z_bl_r _) (by first | omega | exact z_bl_r _) (fun h5 => ?_) (fun h5 => absurd h5 (by omega))
      rw [show x = 8 by omega]
      refine aw_aload_n (pc := 21) dX9_emptied_21 rfl ?_
      refine aw_lconst (pc := 22) (v := 0) dX9_emptied_22 rfl ?_
      refine aw_putJ (pc := 23) dX9_emptied_23 k_fl_X9_84 rfl (by omega) (by first | rfl | exact z_shr _ (by omega) | exact z_shc0 (by omega) | exact z_shc1 (by omega) | exact z_shc2 (by omega) | exact z_shc3 (by omega) | exact z_shc4 (by omega)) ?_
      rw [z_dJ_ur]
      refine aw_iconst (pc := 26) dX9_emptied_26 ?_
      refine aw_istore_n (pc := 27) (lv' := [_, _]) dX9_emptied_27 (Nat.le_of_ble_eq_true rfl) rfl ?_
      have K := loop2 27 0 (by omega)
      rw [z_pf_0] at K
      exact K
    | succ k ih =>
      intro x he
      refine aw_iload_n (pc := 2) dX9_emptied_2 rfl ?_
      refine aw_bipush (pc := 3) dX9_emptied_3 rfl ?_
      refine aw_icmp_ge (pc := 5) (tgt := 21) dX9_emptied_5 rfl (by first | omega | exact z_bl_r _) (by first | omega | exact z_bl_r _) (fun h5 => absurd h5 (by omega)) (fun h5 => ?_)
      refine aw_aload_n (pc := 8) dX9_emptied_8 rfl ?_
      refine aw_getR (pc := 9) dX9_emptied_9 k_fl_X9_45 rfl (by omega) (by first | rfl | exact z_shr _ (by omega) | exact z_shc0 (by omega) | exact z_shc1 (by omega) | exact z_shc2 (by omega) | exact z_shc3 (by omega) | exact z_shc4 (by omega)) (by first | rfl | exact z_Rc0 _ (by omega) | exact z_Rc1 _ (by omega) | exact z_Rc2 _ (by omega) | exact z_Rc3 _ (by omega)) ?_
      refine aw_iload_n (pc := 12) dX9_emptied_12 rfl ?_
      refine aw_lconst (pc := 13) (v := 0) dX9_emptied_13 rfl ?_
      refine aw_lastore (pc := 14) dX9_emptied_14 (by omega) (Nat.le_refl _) (by first | rfl | exact z_shr _ (by omega) | exact z_shc0 (by omega) | exact z_shc1 (by omega) | exact z_shc2 (by omega) | exact z_shc3 (by omega) | exact z_shc4 (by omega)) (by first | omega | exact z_bl_r _) ?_
      rw [z_dJ_uf, Int.toNat_natCast, z_pf_sn (g := (fun _ => 0)) rfl]
      refine aw_iinc (pc := 15) (lv' := [_, _]) dX9_emptied_15 (Nat.le_of_ble_eq_true rfl) rfl rfl ?_
      refine aw_goto (pc := 18) (tgt := 2) dX9_emptied_18 rfl ?_
      have K := ih (x + 1) (by omega)
      exact K
  refine aw_iconst (pc := 0) dX9_emptied_0 ?_
  refine aw_istore_n (pc := 1) (lv' := [_, _]) dX9_emptied_1 (Nat.le_of_ble_eq_true rfl) rfl ?_
  have K := loop 8 0 (by omega)
  rw [z_pf_0] at K
  exact K
set_option maxHeartbeats 4000000 in
theorem c_X9_takeRow {π : Nat → Nat} {I J : AwI} {s f : Nat → Int} {r : Int} {q : Nat} (h : z_RM I J) (hq : q < 10) : CT m_X9_takeRow [zr 237, zi (q : Int)] 255 (z_dI I s) (z_dJ J f r) (z_R π) (z_P none 255 (z_dI I (va_up s q (s q + 1))) (z_dJ J (z_pf (fun i => f i + I 242 (8 * q + i)) f (I 237 0).toNat) (r + I 241 q)) (z_R π)) := by
  have hnm := h.nm
  refine CT.of (by decide) (Nat.le_of_ble_eq_true rfl) ?_
  show AW _ 0 0 _ 0 [some (zr 237), some (zi (q : Int)), none] [] _ _ _
  have loop : ∀ (k : Nat) (x : Nat), (x : Int) + k = I 237 0 → AW (FM m_X9_takeRow (z_P none 255 (z_dI I (va_up s q (s q + 1))) (z_dJ J (z_pf (fun i => f i + I 242 (8 * q + i)) f (I 237 0).toNat) (r + I 241 q)) (z_R π))) 0 0 255 2 [some (zr 237), some (zi (q : Int)), some (zi (x : Int))] [] (z_dI I s) (z_dJ J (z_pf (fun i => f i + I 242 (8 * q + i)) f x) r) (z_R π) := by
    intro k
    induction k with
    | zero =>
      intro x he
      refine aw_iload_n (pc := 2) dX9_takeRow_2 rfl ?_
      refine aw_aload_n (pc := 3) dX9_takeRow_3 rfl ?_
      refine aw_getV (pc := 4) (v := I 237 0) dX9_takeRow_4 k_fl_X9_66 rfl (by omega) (by first | rfl | exact z_shr _ (by omega) | exact z_shc0 (by omega) | exact z_shc1 (by omega) | exact z_shc2 (by omega) | exact z_shc3 (by omega) | exact z_shc4 (by omega)) (z_dI_o (by omega)) ?_
      refine aw_icmp_ge (pc := 7) (tgt := 37) dX9_takeRow_7 rfl (by first | omega | exact z_bl_r _) (by first | omega | exact z_bl_r _) (fun h7 => ?_) (fun h7 => absurd h7 (by omega))
      rw [show x = (I 237 0).toNat by omega]
      refine aw_aload_n (pc := 37) dX9_takeRow_37 rfl ?_
      refine aw_dup (pc := 38) dX9_takeRow_38 (fun _ h => by cases h) ?_
      refine aw_getW (pc := 39) (v := r) dX9_takeRow_39 k_fl_X9_84 rfl (by omega) (by first | rfl | exact z_shr _ (by omega) | exact z_shc0 (by omega) | exact z_shc1 (by omega) | exact z_shc2 (by omega) | exact z_shc3 (by omega) | exact z_shc4 (by omega)) (z_dJ_r) ?_
      refine aw_aload_n (pc := 42) dX9_takeRow_42 rfl ?_
      refine aw_getR (pc := 43) dX9_takeRow_43 k_fl_X9_20 rfl (by omega) (by first | rfl | exact z_shr _ (by omega) | exact z_shc0 (by omega) | exact z_shc1 (by omega) | exact z_shc2 (by omega) | exact z_shc3 (by omega) | exact z_shc4 (by omega)) (by first | rfl | exact z_Rc0 _ (by omega) | exact z_Rc1 _ (by omega) | exact z_Rc2 _ (by omega) | exact z_Rc3 _ (by omega)) ?_
      refine aw_iload_n (pc := 46) dX9_takeRow_46 rfl ?_
      refine aw_ialoadV (pc := 47) (v := I 241 q) dX9_takeRow_47 (by omega) (Nat.le_refl _) (by first | rfl | exact z_shr _ (by omega) | exact z_shc0 (by omega) | exact z_shc1 (by omega) | exact z_shc2 (by omega) | exact z_shc3 (by omega) | exact z_shc4 (by omega)) (by first | omega | exact z_bl_r _) (z_dI_o (by omega)) ?_
      refine aw_i2l (pc := 48) dX9_takeRow_48 (by have := h.rt q; omega) ?_
      refine aw_ladd (pc := 49) dX9_takeRow_49 ?_
      refine aw_putJ (pc := 50) dX9_takeRow_50 k_fl_X9_84 rfl (by omega) (by first | rfl | exact z_shr _ (by omega) | exact z_shc0 (by omega) | exact z_shc1 (by omega) | exact z_shc2 (by omega) | exact z_shc3 (by omega) | exact z_shc4 (by omega)) ?_
      rw [z_dJ_ur]
      refine aw_aload_n (pc := 53) dX9_takeRow_53 rfl ?_
      refine aw_getR (pc := 54) dX9_takeRow_54 k_fl_X9_48 rfl (by omega) (by first | rfl | exact z_shr _ (by omega) | exact z_shc0 (by omega) | exact z_shc1 (by omega) | exact z_shc2 (by omega) | exact z_shc3 (by omega) | exact z_shc4 (by omega)) (by first | rfl | exact z_Rc0 _ (by omega) | exact z_Rc1 _ (by omega) | exact z_Rc2 _ (by omega) | exact z_Rc3 _ (by omega)) ?_
      refine aw_iload_n (pc := 57) dX9_takeRow_57 rfl ?_
      refine aw_dup2 (pc := 58) dX9_takeRow_58 (fun _ h => by cases h) (fun _ h => by cases h) ?_
      refine aw_ialoadV (pc := 59) (v := s q) dX9_takeRow_59 (by omega) (Nat.le_refl _) (by first | rfl | exact z_shr _ (by omega) | exact z_shc0 (by omega) | exact z_shc1 (by omega) | exact z_shc2 (by omega) | exact z_shc3 (by omega) | exact z_shc4 (by omega)) (by first | omega | exact z_bl_r _) (z_dI_s q) ?_
      refine aw_iconst (pc := 60) dX9_takeRow_60 ?_
      refine aw_iadd (pc := 61) dX9_takeRow_61 ?_
      refine aw_iastore (pc := 62) dX9_takeRow_62 (by omega) (Nat.le_refl _) (by first | rfl | exact z_shr _ (by omega) | exact z_shc0 (by omega) | exact z_shc1 (by omega) | exact z_shc2 (by omega) | exact z_shc3 (by omega) | exact z_shc4 (by omega)) (by first | omega | exact z_bl_r _) ?_
      rw [Int.toNat_natCast, z_dI_u]
      exact aw_return (pc := 63) dX9_takeRow_63 rfl ⟨Nat.zero_le _, Nat.zero_le _⟩ (⟨rfl, rfl, rfl, rfl, rfl⟩)
    | succ k ih =>
      intro x he
      refine aw_iload_n (pc := 2) dX9_takeRow_2 rfl ?_
      refine aw_aload_n (pc := 3) dX9_takeRow_3 rfl ?_
      refine aw_getV (pc := 4) (v := I 237 0) dX9_takeRow_4 k_fl_X9_66 rfl (by omega) (by first | rfl | exact z_shr _ (by omega) | exact z_shc0 (by omega) | exact z_shc1 (by omega) | exact z_shc2 (by omega) | exact z_shc3 (by omega) | exact z_shc4 (by omega)) (z_dI_o (by omega)) ?_
      refine aw_icmp_ge (pc := 7) (tgt := 37) dX9_takeRow_7 rfl (by first | omega | exact z_bl_r _) (by first | omega | exact z_bl_r _) (fun h7 => absurd h7 (by omega)) (fun h7 => ?_)
      refine aw_aload_n (pc := 10) dX9_takeRow_10 rfl ?_
      refine aw_getR (pc := 11) dX9_takeRow_11 k_fl_X9_45 rfl (by omega) (by first | rfl | exact z_shr _ (by omega) | exact z_shc0 (by omega) | exact z_shc1 (by omega) | exact z_shc2 (by omega) | exact z_shc3 (by omega) | exact z_shc4 (by omega)) (by first | rfl | exact z_Rc0 _ (by omega) | exact z_Rc1 _ (by omega) | exact z_Rc2 _ (by omega) | exact z_Rc3 _ (by omega)) ?_
      refine aw_iload_n (pc := 14) dX9_takeRow_14 rfl ?_
      refine aw_dup2 (pc := 15) dX9_takeRow_15 (fun _ h => by cases h) (fun _ h => by cases h) ?_
      refine aw_laloadV (pc := 16) (v := f x) dX9_takeRow_16 (by omega) (Nat.le_refl _) (by first | rfl | exact z_shr _ (by omega) | exact z_shc0 (by omega) | exact z_shc1 (by omega) | exact z_shc2 (by omega) | exact z_shc3 (by omega) | exact z_shc4 (by omega)) (by first | omega | exact z_bl_r _) ((z_dJ_f x).trans z_pf_at) ?_
      refine aw_aload_n (pc := 17) dX9_takeRow_17 rfl ?_
      refine aw_getR (pc := 18) dX9_takeRow_18 k_fl_X9_23 rfl (by omega) (by first | rfl | exact z_shr _ (by omega) | exact z_shc0 (by omega) | exact z_shc1 (by omega) | exact z_shc2 (by omega) | exact z_shc3 (by omega) | exact z_shc4 (by omega)) (by first | rfl | exact z_Rc0 _ (by omega) | exact z_Rc1 _ (by omega) | exact z_Rc2 _ (by omega) | exact z_Rc3 _ (by omega)) ?_
      refine aw_bipush (pc := 21) dX9_takeRow_21 rfl ?_
      refine aw_iload_n (pc := 23) dX9_takeRow_23 rfl ?_
      refine aw_imul (pc := 24) dX9_takeRow_24 ?_
      refine aw_iload_n (pc := 25) dX9_takeRow_25 rfl ?_
      refine aw_iadd (pc := 26) dX9_takeRow_26 ?_
      refine aw_ialoadV (pc := 27) (v := I 242 (8 * q + x)) dX9_takeRow_27 (by omega) (Nat.le_refl _) (by first | rfl | exact z_shr _ (by omega) | exact z_shc0 (by omega) | exact z_shc1 (by omega) | exact z_shc2 (by omega) | exact z_shc3 (by omega) | exact z_shc4 (by omega)) (by omega) (by rw [show ((8 : Int) * (q : Int) + (x : Int)).toNat = 8 * q + x by omega]; exact z_dI_o (by omega)) ?_
      refine aw_i2l (pc := 28) dX9_takeRow_28 (by have := h.fc (8 * q + x); omega) ?_
      refine aw_ladd (pc := 29) dX9_takeRow_29 ?_
      refine aw_lastore (pc := 30) dX9_takeRow_30 (by omega) (Nat.le_refl _) (by first | rfl | exact z_shr _ (by omega) | exact z_shc0 (by omega) | exact z_shc1 (by omega) | exact z_shc2 (by omega) | exact z_shc3 (by omega) | exact z_shc4 (by omega)) (by first | omega | exact z_bl_r _) ?_
      rw [Int.toNat_natCast, z_dJ_uf, z_pf_sn (g := (fun i => f i + I 242 (8 * q + i))) rfl]
      refine aw_iinc (pc := 31) (lv' := [_, _, _]) dX9_takeRow_31 (Nat.le_of_ble_eq_true rfl) rfl rfl ?_
      refine aw_goto (pc := 34) (tgt := 2) dX9_takeRow_34 rfl ?_
      have K := ih (x + 1) (by omega)
      exact K
  refine aw_iconst (pc := 0) dX9_takeRow_0 ?_
  refine aw_istore_n (pc := 1) (lv' := [_, _, _]) dX9_takeRow_1 (Nat.le_of_ble_eq_true rfl) rfl ?_
  have K := loop (I 237 0).toNat 0 (by omega)
  rw [z_pf_0] at K
  exact K
set_option maxHeartbeats 4000000 in
theorem c_X9_takeLow {π : Nat → Nat} {I J : AwI} {s f : Nat → Int} {r : Int} {i : Nat} {n : Int} (h : z_RM I J) (hi : i < 8) (hn : -100 ≤ n ∧ n ≤ 100) : CT m_X9_takeLow [zr 237, zi (i : Int), zi n] 255 (z_dI I s) (z_dJ J f r) (z_R π) (z_P none 255 (z_dI I (va_up s (10 + i) (s (10 + i) + n))) (z_dJ J (va_up f i (f i - n)) (r - n * I 238 i)) (z_R π)) := by
  refine CT.of (by decide) (Nat.le_of_ble_eq_true rfl) ?_
  show AW _ 0 0 _ 0 [some (zr 237), some (zi (i : Int)), some (zi n)] [] _ _ _
  refine aw_aload_n (pc := 0) dX9_takeLow_0 rfl ?_
  refine aw_getR (pc := 1) dX9_takeLow_1 k_fl_X9_45 rfl (by omega) (by first | rfl | exact z_shr _ (by omega) | exact z_shc0 (by omega) | exact z_shc1 (by omega) | exact z_shc2 (by omega) | exact z_shc3 (by omega) | exact z_shc4 (by omega)) (by first | rfl | exact z_Rc0 _ (by omega) | exact z_Rc1 _ (by omega) | exact z_Rc2 _ (by omega) | exact z_Rc3 _ (by omega)) ?_
  refine aw_iload_n (pc := 4) dX9_takeLow_4 rfl ?_
  refine aw_dup2 (pc := 5) dX9_takeLow_5 (fun _ h => by cases h) (fun _ h => by cases h) ?_
  refine aw_laloadV (pc := 6) (v := f i) dX9_takeLow_6 (by omega) (Nat.le_refl _) (by first | rfl | exact z_shr _ (by omega) | exact z_shc0 (by omega) | exact z_shc1 (by omega) | exact z_shc2 (by omega) | exact z_shc3 (by omega) | exact z_shc4 (by omega)) (by first | omega | exact z_bl_r _) (z_dJ_f i) ?_
  refine aw_iload_n (pc := 7) dX9_takeLow_7 rfl ?_
  refine aw_i2l (pc := 8) dX9_takeLow_8 (by omega) ?_
  refine aw_lsub (pc := 9) dX9_takeLow_9 ?_
  refine aw_lastore (pc := 10) dX9_takeLow_10 (by omega) (Nat.le_refl _) (by first | rfl | exact z_shr _ (by omega) | exact z_shc0 (by omega) | exact z_shc1 (by omega) | exact z_shc2 (by omega) | exact z_shc3 (by omega) | exact z_shc4 (by omega)) (by first | omega | exact z_bl_r _) ?_
  rw [Int.toNat_natCast, z_dJ_uf]
  refine aw_aload_n (pc := 11) dX9_takeLow_11 rfl ?_
  refine aw_dup (pc := 12) dX9_takeLow_12 (fun _ h => by cases h) ?_
  refine aw_getW (pc := 13) (v := r) dX9_takeLow_13 k_fl_X9_84 rfl (by omega) (by first | rfl | exact z_shr _ (by omega) | exact z_shc0 (by omega) | exact z_shc1 (by omega) | exact z_shc2 (by omega) | exact z_shc3 (by omega) | exact z_shc4 (by omega)) (z_dJ_r) ?_
  refine aw_iload_n (pc := 16) dX9_takeLow_16 rfl ?_
  refine aw_aload_n (pc := 17) dX9_takeLow_17 rfl ?_
  refine aw_getR (pc := 18) dX9_takeLow_18 k_fl_X9_7 rfl (by omega) (by first | rfl | exact z_shr _ (by omega) | exact z_shc0 (by omega) | exact z_shc1 (by omega) | exact z_shc2 (by omega) | exact z_shc3 (by omega) | exact z_shc4 (by omega)) (by first | rfl | exact z_Rc0 _ (by omega) | exact z_Rc1 _ (by omega) | exact z_Rc2 _ (by omega) | exact z_Rc3 _ (by omega)) ?_
  refine aw_iload_n (pc := 21) dX9_takeLow_21 rfl ?_
  refine aw_ialoadV (pc := 22) (v := I 238 i) dX9_takeLow_22 (by omega) (Nat.le_refl _) (by first | rfl | exact z_shr _ (by omega) | exact z_shc0 (by omega) | exact z_shc1 (by omega) | exact z_shc2 (by omega) | exact z_shc3 (by omega) | exact z_shc4 (by omega)) (by first | omega | exact z_bl_r _) (z_dI_o (by omega)) ?_
  refine aw_imul (pc := 23) dX9_takeLow_23 ?_
  refine aw_i2l (pc := 24) dX9_takeLow_24 (by have a := h.lo i; have b := z_mulb (a := n) (b := I 238 i) (A := 100) (B := 30) (by omega) (by omega); omega) ?_
  refine aw_lsub (pc := 25) dX9_takeLow_25 ?_
  refine aw_putJ (pc := 26) dX9_takeLow_26 k_fl_X9_84 rfl (by omega) (by first | rfl | exact z_shr _ (by omega) | exact z_shc0 (by omega) | exact z_shc1 (by omega) | exact z_shc2 (by omega) | exact z_shc3 (by omega) | exact z_shc4 (by omega)) ?_
  rw [z_dJ_ur]
  refine aw_aload_n (pc := 29) dX9_takeLow_29 rfl ?_
  refine aw_getR (pc := 30) dX9_takeLow_30 k_fl_X9_48 rfl (by omega) (by first | rfl | exact z_shr _ (by omega) | exact z_shc0 (by omega) | exact z_shc1 (by omega) | exact z_shc2 (by omega) | exact z_shc3 (by omega) | exact z_shc4 (by omega)) (by first | rfl | exact z_Rc0 _ (by omega) | exact z_Rc1 _ (by omega) | exact z_Rc2 _ (by omega) | exact z_Rc3 _ (by omega)) ?_
  refine aw_bipush (pc := 33) dX9_takeLow_33 rfl ?_
  refine aw_iload_n (pc := 35) dX9_takeLow_35 rfl ?_
  refine aw_iadd (pc := 36) dX9_takeLow_36 ?_
  refine aw_dup2 (pc := 37) dX9_takeLow_37 (fun _ h => by cases h) (fun _ h => by cases h) ?_
  refine aw_ialoadV (pc := 38) (v := s (10 + i)) dX9_takeLow_38 (by omega) (Nat.le_refl _) (by first | rfl | exact z_shr _ (by omega) | exact z_shc0 (by omega) | exact z_shc1 (by omega) | exact z_shc2 (by omega) | exact z_shc3 (by omega) | exact z_shc4 (by omega)) (by omega) (by rw [show ((10 : Int) + (i : Int)).toNat = 10 + i by omega]; exact z_dI_s _) ?_
  refine aw_iload_n (pc := 39) dX9_takeLow_39 rfl ?_
  refine aw_iadd (pc := 40) dX9_takeLow_40 ?_
  refine aw_iastore (pc := 41) dX9_takeLow_41 (by omega) (Nat.le_refl _) (by first | rfl | exact z_shr _ (by omega) | exact z_shc0 (by omega) | exact z_shc1 (by omega) | exact z_shc2 (by omega) | exact z_shc3 (by omega) | exact z_shc4 (by omega)) (by omega) ?_
  rw [show ((10 : Int) + (i : Int)).toNat = 10 + i by omega, z_dI_u]
  exact aw_return (pc := 42) dX9_takeLow_42 rfl ⟨Nat.zero_le _, Nat.zero_le _⟩ (⟨rfl, rfl, rfl, rfl, rfl⟩)
set_option maxHeartbeats 4000000 in
theorem c_X9_takeHigh {π : Nat → Nat} {I J : AwI} {s f : Nat → Int} {r : Int} {i : Nat} {n : Int} (h : z_RM I J) (hi : i < 8) (hn : -100 ≤ n ∧ n ≤ 100) : CT m_X9_takeHigh [zr 237, zi (i : Int), zi n] 255 (z_dI I s) (z_dJ J f r) (z_R π) (z_P none 255 (z_dI I (va_up s (18 + i) (s (18 + i) + n))) (z_dJ J (va_up f i (f i + n)) (r + n * I 239 i)) (z_R π)) := by
  refine CT.of (by decide) (Nat.le_of_ble_eq_true rfl) ?_
  show AW _ 0 0 _ 0 [some (zr 237), some (zi (i : Int)), some (zi n)] [] _ _ _
  refine aw_aload_n (pc := 0) dX9_takeHigh_0 rfl ?_
  refine aw_getR (pc := 1) dX9_takeHigh_1 k_fl_X9_45 rfl (by omega) (by first | rfl | exact z_shr _ (by omega) | exact z_shc0 (by omega) | exact z_shc1 (by omega) | exact z_shc2 (by omega) | exact z_shc3 (by omega) | exact z_shc4 (by omega)) (by first | rfl | exact z_Rc0 _ (by omega) | exact z_Rc1 _ (by omega) | exact z_Rc2 _ (by omega) | exact z_Rc3 _ (by omega)) ?_
  refine aw_iload_n (pc := 4) dX9_takeHigh_4 rfl ?_
  refine aw_dup2 (pc := 5) dX9_takeHigh_5 (fun _ h => by cases h) (fun _ h => by cases h) ?_
  refine aw_laloadV (pc := 6) (v := f i) dX9_takeHigh_6 (by omega) (Nat.le_refl _) (by first | rfl | exact z_shr _ (by omega) | exact z_shc0 (by omega) | exact z_shc1 (by omega) | exact z_shc2 (by omega) | exact z_shc3 (by omega) | exact z_shc4 (by omega)) (by first | omega | exact z_bl_r _) (z_dJ_f i) ?_
  refine aw_iload_n (pc := 7) dX9_takeHigh_7 rfl ?_
  refine aw_i2l (pc := 8) dX9_takeHigh_8 (by omega) ?_
  refine aw_ladd (pc := 9) dX9_takeHigh_9 ?_
  refine aw_lastore (pc := 10) dX9_takeHigh_10 (by omega) (Nat.le_refl _) (by first | rfl | exact z_shr _ (by omega) | exact z_shc0 (by omega) | exact z_shc1 (by omega) | exact z_shc2 (by omega) | exact z_shc3 (by omega) | exact z_shc4 (by omega)) (by first | omega | exact z_bl_r _) ?_
  rw [Int.toNat_natCast, z_dJ_uf]
  refine aw_aload_n (pc := 11) dX9_takeHigh_11 rfl ?_
  refine aw_dup (pc := 12) dX9_takeHigh_12 (fun _ h => by cases h) ?_
  refine aw_getW (pc := 13) (v := r) dX9_takeHigh_13 k_fl_X9_84 rfl (by omega) (by first | rfl | exact z_shr _ (by omega) | exact z_shc0 (by omega) | exact z_shc1 (by omega) | exact z_shc2 (by omega) | exact z_shc3 (by omega) | exact z_shc4 (by omega)) (z_dJ_r) ?_
  refine aw_iload_n (pc := 16) dX9_takeHigh_16 rfl ?_
  refine aw_aload_n (pc := 17) dX9_takeHigh_17 rfl ?_
  refine aw_getR (pc := 18) dX9_takeHigh_18 k_fl_X9_13 rfl (by omega) (by first | rfl | exact z_shr _ (by omega) | exact z_shc0 (by omega) | exact z_shc1 (by omega) | exact z_shc2 (by omega) | exact z_shc3 (by omega) | exact z_shc4 (by omega)) (by first | rfl | exact z_Rc0 _ (by omega) | exact z_Rc1 _ (by omega) | exact z_Rc2 _ (by omega) | exact z_Rc3 _ (by omega)) ?_
  refine aw_iload_n (pc := 21) dX9_takeHigh_21 rfl ?_
  refine aw_ialoadV (pc := 22) (v := I 239 i) dX9_takeHigh_22 (by omega) (Nat.le_refl _) (by first | rfl | exact z_shr _ (by omega) | exact z_shc0 (by omega) | exact z_shc1 (by omega) | exact z_shc2 (by omega) | exact z_shc3 (by omega) | exact z_shc4 (by omega)) (by first | omega | exact z_bl_r _) (z_dI_o (by omega)) ?_
  refine aw_imul (pc := 23) dX9_takeHigh_23 ?_
  refine aw_i2l (pc := 24) dX9_takeHigh_24 (by have a := h.hi i; have b := z_mulb (a := n) (b := I 239 i) (A := 100) (B := 30) (by omega) (by omega); omega) ?_
  refine aw_ladd (pc := 25) dX9_takeHigh_25 ?_
  refine aw_putJ (pc := 26) dX9_takeHigh_26 k_fl_X9_84 rfl (by omega) (by first | rfl | exact z_shr _ (by omega) | exact z_shc0 (by omega) | exact z_shc1 (by omega) | exact z_shc2 (by omega) | exact z_shc3 (by omega) | exact z_shc4 (by omega)) ?_
  rw [z_dJ_ur]
  refine aw_aload_n (pc := 29) dX9_takeHigh_29 rfl ?_
  refine aw_getR (pc := 30) dX9_takeHigh_30 k_fl_X9_48 rfl (by omega) (by first | rfl | exact z_shr _ (by omega) | exact z_shc0 (by omega) | exact z_shc1 (by omega) | exact z_shc2 (by omega) | exact z_shc3 (by omega) | exact z_shc4 (by omega)) (by first | rfl | exact z_Rc0 _ (by omega) | exact z_Rc1 _ (by omega) | exact z_Rc2 _ (by omega) | exact z_Rc3 _ (by omega)) ?_
  refine aw_bipush (pc := 33) dX9_takeHigh_33 rfl ?_
  refine aw_iload_n (pc := 35) dX9_takeHigh_35 rfl ?_
  refine aw_iadd (pc := 36) dX9_takeHigh_36 ?_
  refine aw_dup2 (pc := 37) dX9_takeHigh_37 (fun _ h => by cases h) (fun _ h => by cases h) ?_
  refine aw_ialoadV (pc := 38) (v := s (18 + i)) dX9_takeHigh_38 (by omega) (Nat.le_refl _) (by first | rfl | exact z_shr _ (by omega) | exact z_shc0 (by omega) | exact z_shc1 (by omega) | exact z_shc2 (by omega) | exact z_shc3 (by omega) | exact z_shc4 (by omega)) (by omega) (by rw [show ((18 : Int) + (i : Int)).toNat = 18 + i by omega]; exact z_dI_s _) ?_
  refine aw_iload_n (pc := 39) dX9_takeHigh_39 rfl ?_
  refine aw_iadd (pc := 40) dX9_takeHigh_40 ?_
  refine aw_iastore (pc := 41) dX9_takeHigh_41 (by omega) (Nat.le_refl _) (by first | rfl | exact z_shr _ (by omega) | exact z_shc0 (by omega) | exact z_shc1 (by omega) | exact z_shc2 (by omega) | exact z_shc3 (by omega) | exact z_shc4 (by omega)) (by omega) ?_
  rw [show ((18 : Int) + (i : Int)).toNat = 18 + i by omega, z_dI_u]
  exact aw_return (pc := 42) dX9_takeHigh_42 rfl ⟨Nat.zero_le _, Nat.zero_le _⟩ (⟨rfl, rfl, rfl, rfl, rfl⟩)
set_option maxHeartbeats 4000000 in
theorem c_X9_divide {π : Nat → Nat} {I J : AwI} {s f : Nat → Int} {r : Int} {d : Int} (h : z_RM I J) (hd : 1 ≤ d ∧ d ≤ 9) (hf : ∀ i, i < 8 → -1000000 ≤ f i ∧ f i ≤ 1000000) (hr : -1000000 ≤ r ∧ r ≤ 1000000) : CT m_X9_divide [zr 237, zi d] 255 (z_dI I s) (z_dJ J f r) (z_R π) (z_P none 255 (z_dI I (va_up s 26 d)) (z_dJ J (z_pf (fun i => f i / d) f (I 237 0).toNat) (r / d)) (z_R π)) := by
  have hnm := h.nm
  refine CT.of (by decide) (Nat.le_of_ble_eq_true rfl) ?_
  show AW _ 0 0 _ 0 [some (zr 237), some (zi d), none] [] _ _ _
  have loop : ∀ (k : Nat) (x : Nat), (x : Int) + k = I 237 0 → AW (FM m_X9_divide (z_P none 255 (z_dI I (va_up s 26 d)) (z_dJ J (z_pf (fun i => f i / d) f (I 237 0).toNat) (r / d)) (z_R π))) 0 0 255 2 [some (zr 237), some (zi d), some (zi (x : Int))] [] (z_dI I s) (z_dJ J (z_pf (fun i => f i / d) f x) r) (z_R π) := by
    intro k
    induction k with
    | zero =>
      intro x he
      refine aw_iload_n (pc := 2) dX9_divide_2 rfl ?_
      refine aw_aload_n (pc := 3) dX9_divide_3 rfl ?_
      refine aw_getV (pc := 4) (v := I 237 0) dX9_divide_4 k_fl_X9_66 rfl (by omega) (by first | rfl | exact z_shr _ (by omega) | exact z_shc0 (by omega) | exact z_shc1 (by omega) | exact z_shc2 (by omega) | exact z_shc3 (by omega) | exact z_shc4 (by omega)) (z_dI_o (by omega)) ?_
      refine aw_icmp_ge (pc := 7) (tgt := 33) dX9_divide_7 rfl (by first | omega | exact z_bl_r _) (by first | omega | exact z_bl_r _) (fun h7 => ?_) (fun h7 => absurd h7 (by omega))
      rw [show x = (I 237 0).toNat by omega]
      refine aw_aload_n (pc := 33) dX9_divide_33 rfl ?_
      refine aw_aload_n (pc := 34) dX9_divide_34 rfl ?_
      refine aw_getW (pc := 35) (v := r) dX9_divide_35 k_fl_X9_84 rfl (by omega) (by first | rfl | exact z_shr _ (by omega) | exact z_shc0 (by omega) | exact z_shc1 (by omega) | exact z_shc2 (by omega) | exact z_shc3 (by omega) | exact z_shc4 (by omega)) (z_dJ_r) ?_
      refine aw_iload_n (pc := 38) dX9_divide_38 rfl ?_
      refine aw_i2l (pc := 39) dX9_divide_39 (by omega) ?_
      refine aw_qS (pc := 40) (d := m_J9_floorDiv_f86c9) (c_floorDivL (by omega) (by omega)) k_J9_floorDiv_f86c9 dX9_divide_40 k_ml_X9_95 rfl ⟨rfl, rfl⟩ ⟨Nat.le_of_ble_eq_true rfl, Nat.le_of_ble_eq_true rfl⟩ ⟨Nat.zero_le _, Nat.zero_le _⟩ rfl (Nat.le_of_ble_eq_true rfl) (z_Pk ?_)
      refine aw_putJ (pc := 43) dX9_divide_43 k_fl_X9_84 rfl (by omega) (by first | rfl | exact z_shr _ (by omega) | exact z_shc0 (by omega) | exact z_shc1 (by omega) | exact z_shc2 (by omega) | exact z_shc3 (by omega) | exact z_shc4 (by omega)) ?_
      rw [z_dJ_ur]
      refine aw_aload_n (pc := 46) dX9_divide_46 rfl ?_
      refine aw_getR (pc := 47) dX9_divide_47 k_fl_X9_48 rfl (by omega) (by first | rfl | exact z_shr _ (by omega) | exact z_shc0 (by omega) | exact z_shc1 (by omega) | exact z_shc2 (by omega) | exact z_shc3 (by omega) | exact z_shc4 (by omega)) (by first | rfl | exact z_Rc0 _ (by omega) | exact z_Rc1 _ (by omega) | exact z_Rc2 _ (by omega) | exact z_Rc3 _ (by omega)) ?_
      refine aw_bipush (pc := 50) dX9_divide_50 rfl ?_
      refine aw_iload_n (pc := 52) dX9_divide_52 rfl ?_
      refine aw_iastore (pc := 53) dX9_divide_53 (by omega) (Nat.le_refl _) (by first | rfl | exact z_shr _ (by omega) | exact z_shc0 (by omega) | exact z_shc1 (by omega) | exact z_shc2 (by omega) | exact z_shc3 (by omega) | exact z_shc4 (by omega)) (by first | omega | exact z_bl_r _) ?_
      rw [show ((26 : Int)).toNat = 26 from rfl, z_dI_u]
      exact aw_return (pc := 54) dX9_divide_54 rfl ⟨Nat.zero_le _, Nat.zero_le _⟩ (⟨rfl, rfl, rfl, rfl, rfl⟩)
    | succ k ih =>
      intro x he
      refine aw_iload_n (pc := 2) dX9_divide_2 rfl ?_
      refine aw_aload_n (pc := 3) dX9_divide_3 rfl ?_
      refine aw_getV (pc := 4) (v := I 237 0) dX9_divide_4 k_fl_X9_66 rfl (by omega) (by first | rfl | exact z_shr _ (by omega) | exact z_shc0 (by omega) | exact z_shc1 (by omega) | exact z_shc2 (by omega) | exact z_shc3 (by omega) | exact z_shc4 (by omega)) (z_dI_o (by omega)) ?_
      refine aw_icmp_ge (pc := 7) (tgt := 33) dX9_divide_7 rfl (by first | omega | exact z_bl_r _) (by first | omega | exact z_bl_r _) (fun h7 => absurd h7 (by omega)) (fun h7 => ?_)
      refine aw_aload_n (pc := 10) dX9_divide_10 rfl ?_
      refine aw_getR (pc := 11) dX9_divide_11 k_fl_X9_45 rfl (by omega) (by first | rfl | exact z_shr _ (by omega) | exact z_shc0 (by omega) | exact z_shc1 (by omega) | exact z_shc2 (by omega) | exact z_shc3 (by omega) | exact z_shc4 (by omega)) (by first | rfl | exact z_Rc0 _ (by omega) | exact z_Rc1 _ (by omega) | exact z_Rc2 _ (by omega) | exact z_Rc3 _ (by omega)) ?_
      refine aw_iload_n (pc := 14) dX9_divide_14 rfl ?_
      refine aw_aload_n (pc := 15) dX9_divide_15 rfl ?_
      refine aw_getR (pc := 16) dX9_divide_16 k_fl_X9_45 rfl (by omega) (by first | rfl | exact z_shr _ (by omega) | exact z_shc0 (by omega) | exact z_shc1 (by omega) | exact z_shc2 (by omega) | exact z_shc3 (by omega) | exact z_shc4 (by omega)) (by first | rfl | exact z_Rc0 _ (by omega) | exact z_Rc1 _ (by omega) | exact z_Rc2 _ (by omega) | exact z_Rc3 _ (by omega)) ?_
      refine aw_iload_n (pc := 19) dX9_divide_19 rfl ?_
      refine aw_laloadV (pc := 20) (v := f x) dX9_divide_20 (by omega) (Nat.le_refl _) (by first | rfl | exact z_shr _ (by omega) | exact z_shc0 (by omega) | exact z_shc1 (by omega) | exact z_shc2 (by omega) | exact z_shc3 (by omega) | exact z_shc4 (by omega)) (by first | omega | exact z_bl_r _) ((z_dJ_f x).trans z_pf_at) ?_
      refine aw_iload_n (pc := 21) dX9_divide_21 rfl ?_
      refine aw_i2l (pc := 22) dX9_divide_22 (by omega) ?_
      refine aw_qS (pc := 23) (d := m_J9_floorDiv_f86c9) (c_floorDivL (by have := hf x (by omega); omega) (by omega)) k_J9_floorDiv_f86c9 dX9_divide_23 k_ml_X9_95 rfl ⟨rfl, rfl⟩ ⟨Nat.le_of_ble_eq_true rfl, Nat.le_of_ble_eq_true rfl⟩ ⟨Nat.zero_le _, Nat.zero_le _⟩ rfl (Nat.le_of_ble_eq_true rfl) (z_Pk ?_)
      refine aw_lastore (pc := 26) dX9_divide_26 (by omega) (Nat.le_refl _) (by first | rfl | exact z_shr _ (by omega) | exact z_shc0 (by omega) | exact z_shc1 (by omega) | exact z_shc2 (by omega) | exact z_shc3 (by omega) | exact z_shc4 (by omega)) (by first | omega | exact z_bl_r _) ?_
      rw [Int.toNat_natCast, z_dJ_uf, z_pf_sn (g := (fun i => f i / d)) rfl]
      refine aw_iinc (pc := 27) (lv' := [_, _, _]) dX9_divide_27 (Nat.le_of_ble_eq_true rfl) rfl rfl ?_
      refine aw_goto (pc := 30) (tgt := 2) dX9_divide_30 rfl ?_
      have K := ih (x + 1) (by omega)
      exact K
  refine aw_iconst (pc := 0) dX9_divide_0 ?_
  refine aw_istore_n (pc := 1) (lv' := [_, _, _]) dX9_divide_1 (Nat.le_of_ble_eq_true rfl) rfl ?_
  have K := loop (I 237 0).toNat 0 (by omega)
  rw [z_pf_0] at K
  exact K
def z_tp (I J : AwI) (f : Nat → Int) (r : Int) (k x : Nat) : Prop := J 244 k = r ∧ ∀ i, i < x → J 243 (8 * k + i) = f i
def z_th (I J : AwI) (f : Nat → Int) (r : Int) : Prop := ∃ k : Nat, (k : Int) < I 237 7 ∧ z_tp I J f r k (I 237 0).toNat
set_option maxHeartbeats 4000000 in
theorem c_X9_isThere {π : Nat → Nat} {I J : AwI} {s f : Nat → Int} {r : Int} (h : z_RM I J) (hC : z_RC I J) (hf : ∀ i, i < 8 → -1000000 ≤ f i ∧ f i ≤ 1000000) (hr : -1000000 ≤ r ∧ r ≤ 1000000) : CT m_X9_isThere [zr 237] 255 (z_dI I s) (z_dJ J f r) (z_R π) (z_P (some (zi (z_bl (z_th I J f r)))) 255 (z_dI I s) (z_dJ J f r) (z_R π)) := by
  have hnm := h.nm
  have hct := hC.n
  refine CT.of (by decide) (Nat.le_of_ble_eq_true rfl) ?_
  show AW _ 0 0 _ 0 [some (zr 237), none, none, none] [] _ _ _
  have inner : ∀ (k : Nat), (k : Int) < I 237 7 → (∀ v : Option AwV, AW (FM m_X9_isThere (z_P (some (zi (z_bl (z_th I J f r)))) 255 (z_dI I s) (z_dJ J f r) (z_R π))) 0 0 255 77 [some (zr 237), some (zi (k : Int)), some (zi (z_bl (z_tp I J f r k (I 237 0).toNat))), v] [] (z_dI I s) (z_dJ J f r) (z_R π)) → AW (FM m_X9_isThere (z_P (some (zi (z_bl (z_th I J f r)))) 255 (z_dI I s) (z_dJ J f r) (z_R π))) 0 0 255 32 [some (zr 237), some (zi (k : Int)), some (zi (z_bl (z_tp I J f r k 0))), some (zi (0 : Int))] [] (z_dI I s) (z_dJ J f r) (z_R π) := by
    intro k hk fin
    have il : ∀ (j : Nat) (x : Nat), (x : Int) + j = I 237 0 → AW (FM m_X9_isThere (z_P (some (zi (z_bl (z_th I J f r)))) 255 (z_dI I s) (z_dJ J f r) (z_R π))) 0 0 255 32 [some (zr 237), some (zi (k : Int)), some (zi (z_bl (z_tp I J f r k x))), some (zi (x : Int))] [] (z_dI I s) (z_dJ J f r) (z_R π) := by
      intro j
      induction j with
      | zero =>
        intro x he
        refine aw_iload_n (pc := 32) dX9_isThere_32 rfl ?_
        refine aw_aload_n (pc := 33) dX9_isThere_33 rfl ?_
        refine aw_getV (pc := 34) (v := I 237 0) dX9_isThere_34 k_fl_X9_66 rfl (by omega) (by first | rfl | exact z_shr _ (by omega) | exact z_shc0 (by omega) | exact z_shc1 (by omega) | exact z_shc2 (by omega) | exact z_shc3 (by omega) | exact z_shc4 (by omega)) (z_dI_o (by omega)) ?_
        refine aw_icmp_ge (pc := 37) (tgt := 77) dX9_isThere_37 rfl (by first | omega | exact z_bl_r _) (by first | omega | exact z_bl_r _) (fun h37 => ?_) (fun h37 => absurd h37 (by omega))
        rw [show x = (I 237 0).toNat by omega]
        exact fin (some (zi (((I 237 0).toNat : Nat) : Int)))
      | succ j ih =>
        intro x he
        refine aw_iload_n (pc := 32) dX9_isThere_32 rfl ?_
        refine aw_aload_n (pc := 33) dX9_isThere_33 rfl ?_
        refine aw_getV (pc := 34) (v := I 237 0) dX9_isThere_34 k_fl_X9_66 rfl (by omega) (by first | rfl | exact z_shr _ (by omega) | exact z_shc0 (by omega) | exact z_shc1 (by omega) | exact z_shc2 (by omega) | exact z_shc3 (by omega) | exact z_shc4 (by omega)) (z_dI_o (by omega)) ?_
        refine aw_icmp_ge (pc := 37) (tgt := 77) dX9_isThere_37 rfl (by first | omega | exact z_bl_r _) (by first | omega | exact z_bl_r _) (fun h37 => absurd h37 (by omega)) (fun h37 => ?_)
        refine aw_iload_n (pc := 40) dX9_isThere_40 rfl ?_
        refine aw_if_eq (pc := 41) (tgt := 69) dX9_isThere_41 rfl (z_bl_r _) (fun h41 => ?_) (fun h41 => ?_)
        · refine aw_iconst (pc := 69) dX9_isThere_69 ?_
          refine aw_istore_n (pc := 70) (lv' := [_, _, _, _]) dX9_isThere_70 (Nat.le_of_ble_eq_true rfl) rfl ?_
          refine aw_iinc (pc := 71) (lv' := [_, _, _, _]) dX9_isThere_71 (Nat.le_of_ble_eq_true rfl) rfl rfl ?_
          refine aw_goto (pc := 74) (tgt := 32) dX9_isThere_74 rfl ?_
          have ex : z_bl (z_tp I J f r k (x + 1)) = 0 := z_bl_f (fun q => z_bl_0.mp h41 ⟨q.1, fun i hi => q.2 i (by omega)⟩)
          have K := ih (x + 1) (by omega)
          rw [ex] at K
          exact K
        · refine aw_aload_n (pc := 44) dX9_isThere_44 rfl ?_
          refine aw_getR (pc := 45) dX9_isThere_45 k_fl_X9_26 rfl (by omega) (by first | rfl | exact z_shr _ (by omega) | exact z_shc0 (by omega) | exact z_shc1 (by omega) | exact z_shc2 (by omega) | exact z_shc3 (by omega) | exact z_shc4 (by omega)) (by first | rfl | exact z_Rc0 _ (by omega) | exact z_Rc1 _ (by omega) | exact z_Rc2 _ (by omega) | exact z_Rc3 _ (by omega)) ?_
          refine aw_bipush (pc := 48) dX9_isThere_48 rfl ?_
          refine aw_iload_n (pc := 50) dX9_isThere_50 rfl ?_
          refine aw_imul (pc := 51) dX9_isThere_51 ?_
          refine aw_iload_n (pc := 52) dX9_isThere_52 rfl ?_
          refine aw_iadd (pc := 53) dX9_isThere_53 ?_
          refine aw_laloadV (pc := 54) (v := J 243 (8 * k + x)) dX9_isThere_54 (by omega) (Nat.le_refl _) (by first | rfl | exact z_shr _ (by omega) | exact z_shc0 (by omega) | exact z_shc1 (by omega) | exact z_shc2 (by omega) | exact z_shc3 (by omega) | exact z_shc4 (by omega)) (by omega) (by rw [show ((8 : Int) * (k : Int) + (x : Int)).toNat = 8 * k + x by omega]; exact z_dJ_o (by omega) (by omega)) ?_
          refine aw_aload_n (pc := 55) dX9_isThere_55 rfl ?_
          refine aw_getR (pc := 56) dX9_isThere_56 k_fl_X9_45 rfl (by omega) (by first | rfl | exact z_shr _ (by omega) | exact z_shc0 (by omega) | exact z_shc1 (by omega) | exact z_shc2 (by omega) | exact z_shc3 (by omega) | exact z_shc4 (by omega)) (by first | rfl | exact z_Rc0 _ (by omega) | exact z_Rc1 _ (by omega) | exact z_Rc2 _ (by omega) | exact z_Rc3 _ (by omega)) ?_
          refine aw_iload_n (pc := 59) dX9_isThere_59 rfl ?_
          refine aw_laloadV (pc := 60) (v := f x) dX9_isThere_60 (by omega) (Nat.le_refl _) (by first | rfl | exact z_shr _ (by omega) | exact z_shc0 (by omega) | exact z_shc1 (by omega) | exact z_shc2 (by omega) | exact z_shc3 (by omega) | exact z_shc4 (by omega)) (by first | omega | exact z_bl_r _) (z_dJ_f x) ?_
          refine aw_lcmp_ne (pc := 61) (tgt := 69) dX9_isThere_61 dX9_isThere_62 rfl (by have := hC.f (8 * k + x); omega) (by have := hf x (by omega); omega) (fun h61 => ?_) (fun h61 => ?_)
          · refine aw_iconst (pc := 69) dX9_isThere_69 ?_
            refine aw_istore_n (pc := 70) (lv' := [_, _, _, _]) dX9_isThere_70 (Nat.le_of_ble_eq_true rfl) rfl ?_
            refine aw_iinc (pc := 71) (lv' := [_, _, _, _]) dX9_isThere_71 (Nat.le_of_ble_eq_true rfl) rfl rfl ?_
            refine aw_goto (pc := 74) (tgt := 32) dX9_isThere_74 rfl ?_
            have ex : z_bl (z_tp I J f r k (x + 1)) = 0 := z_bl_f (fun q => h61 (q.2 x (by omega)))
            have K := ih (x + 1) (by omega)
            rw [ex] at K
            exact K
          · refine aw_iconst (pc := 65) dX9_isThere_65 ?_
            refine aw_goto (pc := 66) (tgt := 70) dX9_isThere_66 rfl ?_
            refine aw_istore_n (pc := 70) (lv' := [_, _, _, _]) dX9_isThere_70 (Nat.le_of_ble_eq_true rfl) rfl ?_
            refine aw_iinc (pc := 71) (lv' := [_, _, _, _]) dX9_isThere_71 (Nat.le_of_ble_eq_true rfl) rfl rfl ?_
            refine aw_goto (pc := 74) (tgt := 32) dX9_isThere_74 rfl ?_
            have h41b := z_bl_n.mp h41
            have ex : z_bl (z_tp I J f r k (x + 1)) = 1 := z_bl_t ⟨h41b.1, fun i hi => by by_cases e : i = x; (rw [e]; exact h61); exact h41b.2 i (by omega)⟩
            have K := ih (x + 1) (by omega)
            rw [ex] at K
            exact K
    exact il (I 237 0).toNat 0 (by omega)
  have loop : ∀ (k : Nat) (x : Nat) (w u : Option AwV), (x : Int) + k = I 237 7 → (∀ j, j < x → ¬ z_tp I J f r j (I 237 0).toNat) → AW (FM m_X9_isThere (z_P (some (zi (z_bl (z_th I J f r)))) 255 (z_dI I s) (z_dJ J f r) (z_R π))) 0 0 255 2 [some (zr 237), some (zi (x : Int)), w, u] [] (z_dI I s) (z_dJ J f r) (z_R π) := by
    intro k
    induction k with
    | zero =>
      intro x w u he g
      refine aw_iload_n (pc := 2) dX9_isThere_2 rfl ?_
      refine aw_aload_n (pc := 3) dX9_isThere_3 rfl ?_
      refine aw_getV (pc := 4) (v := I 237 7) dX9_isThere_4 k_fl_X9_69 rfl (by omega) (by first | rfl | exact z_shr _ (by omega) | exact z_shc0 (by omega) | exact z_shc1 (by omega) | exact z_shc2 (by omega) | exact z_shc3 (by omega) | exact z_shc4 (by omega)) (z_dI_o (by omega)) ?_
      refine aw_icmp_ge (pc := 7) (tgt := 89) dX9_isThere_7 rfl (by first | omega | exact z_bl_r _) (by first | omega | exact z_bl_r _) (fun h7 => ?_) (fun h7 => absurd h7 (by omega))
      refine aw_iconst (pc := 89) dX9_isThere_89 ?_
      exact aw_zreturn (pc := 90) dX9_isThere_90 rfl (by first | exact Or.inl rfl | exact Or.inr rfl | omega) ⟨Nat.zero_le _, Nat.zero_le _⟩ (⟨z_r0 (fun q => by obtain ⟨j, h1, h2⟩ := q; exact g j (by omega) h2), rfl, rfl, rfl, rfl⟩)
    | succ k ih =>
      intro x w u he g
      refine aw_iload_n (pc := 2) dX9_isThere_2 rfl ?_
      refine aw_aload_n (pc := 3) dX9_isThere_3 rfl ?_
      refine aw_getV (pc := 4) (v := I 237 7) dX9_isThere_4 k_fl_X9_69 rfl (by omega) (by first | rfl | exact z_shr _ (by omega) | exact z_shc0 (by omega) | exact z_shc1 (by omega) | exact z_shc2 (by omega) | exact z_shc3 (by omega) | exact z_shc4 (by omega)) (z_dI_o (by omega)) ?_
      refine aw_icmp_ge (pc := 7) (tgt := 89) dX9_isThere_7 rfl (by first | omega | exact z_bl_r _) (by first | omega | exact z_bl_r _) (fun h7 => absurd h7 (by omega)) (fun h7 => ?_)
      refine aw_aload_n (pc := 10) dX9_isThere_10 rfl ?_
      refine aw_getR (pc := 11) dX9_isThere_11 k_fl_X9_29 rfl (by omega) (by first | rfl | exact z_shr _ (by omega) | exact z_shc0 (by omega) | exact z_shc1 (by omega) | exact z_shc2 (by omega) | exact z_shc3 (by omega) | exact z_shc4 (by omega)) (by first | rfl | exact z_Rc0 _ (by omega) | exact z_Rc1 _ (by omega) | exact z_Rc2 _ (by omega) | exact z_Rc3 _ (by omega)) ?_
      refine aw_iload_n (pc := 14) dX9_isThere_14 rfl ?_
      refine aw_laloadV (pc := 15) (v := J 244 x) dX9_isThere_15 (by omega) (Nat.le_refl _) (by first | rfl | exact z_shr _ (by omega) | exact z_shc0 (by omega) | exact z_shc1 (by omega) | exact z_shc2 (by omega) | exact z_shc3 (by omega) | exact z_shc4 (by omega)) (by first | omega | exact z_bl_r _) (z_dJ_o (by omega) (by omega)) ?_
      refine aw_aload_n (pc := 16) dX9_isThere_16 rfl ?_
      refine aw_getW (pc := 17) (v := r) dX9_isThere_17 k_fl_X9_84 rfl (by omega) (by first | rfl | exact z_shr _ (by omega) | exact z_shc0 (by omega) | exact z_shc1 (by omega) | exact z_shc2 (by omega) | exact z_shc3 (by omega) | exact z_shc4 (by omega)) (z_dJ_r) ?_
      refine aw_lcmp_ne (pc := 20) (tgt := 28) dX9_isThere_20 dX9_isThere_21 rfl (by have := hC.r x; omega) (by omega) (fun h20 => ?_) (fun h20 => ?_)
      · refine aw_iconst (pc := 28) dX9_isThere_28 ?_
        refine aw_istore_n (pc := 29) (lv' := [_, _, _, _]) dX9_isThere_29 (Nat.le_of_ble_eq_true rfl) rfl ?_
        refine aw_iconst (pc := 30) dX9_isThere_30 ?_
        refine aw_istore_n (pc := 31) (lv' := [_, _, _, _]) dX9_isThere_31 (Nat.le_of_ble_eq_true rfl) rfl ?_
        have ex : z_bl (z_tp I J f r x 0) = 0 := z_bl_f (fun q => h20 q.1)
        have K := inner x (by omega) (fun u => ?_)
        · rw [ex] at K; exact K
        · refine aw_iload_n (pc := 77) dX9_isThere_77 rfl ?_
          refine aw_if_eq (pc := 78) (tgt := 83) dX9_isThere_78 rfl (z_bl_r _) (fun h78 => ?_) (fun h78 => ?_)
          · refine aw_iinc (pc := 83) (lv' := [_, _, _, _]) dX9_isThere_83 (Nat.le_of_ble_eq_true rfl) rfl rfl ?_
            refine aw_goto (pc := 86) (tgt := 2) dX9_isThere_86 rfl ?_
            exact ih (x + 1) _ u (by omega) (fun j hj => by by_cases e : j = x; (rw [e]; exact z_bl_0.mp h78); exact g j (by omega))
          · refine aw_iconst (pc := 81) dX9_isThere_81 ?_
            exact aw_zreturn (pc := 82) dX9_isThere_82 rfl (by first | exact Or.inl rfl | exact Or.inr rfl | omega) ⟨Nat.zero_le _, Nat.zero_le _⟩ (⟨z_r1 ⟨x, by omega, z_bl_n.mp h78⟩, rfl, rfl, rfl, rfl⟩)
      · refine aw_iconst (pc := 24) dX9_isThere_24 ?_
        refine aw_goto (pc := 25) (tgt := 29) dX9_isThere_25 rfl ?_
        refine aw_istore_n (pc := 29) (lv' := [_, _, _, _]) dX9_isThere_29 (Nat.le_of_ble_eq_true rfl) rfl ?_
        refine aw_iconst (pc := 30) dX9_isThere_30 ?_
        refine aw_istore_n (pc := 31) (lv' := [_, _, _, _]) dX9_isThere_31 (Nat.le_of_ble_eq_true rfl) rfl ?_
        have ex : z_bl (z_tp I J f r x 0) = 1 := z_bl_t ⟨h20, fun i hi => absurd hi (by omega)⟩
        have K := inner x (by omega) (fun u => ?_)
        · rw [ex] at K; exact K
        · refine aw_iload_n (pc := 77) dX9_isThere_77 rfl ?_
          refine aw_if_eq (pc := 78) (tgt := 83) dX9_isThere_78 rfl (z_bl_r _) (fun h78 => ?_) (fun h78 => ?_)
          · refine aw_iinc (pc := 83) (lv' := [_, _, _, _]) dX9_isThere_83 (Nat.le_of_ble_eq_true rfl) rfl rfl ?_
            refine aw_goto (pc := 86) (tgt := 2) dX9_isThere_86 rfl ?_
            exact ih (x + 1) _ u (by omega) (fun j hj => by by_cases e : j = x; (rw [e]; exact z_bl_0.mp h78); exact g j (by omega))
          · refine aw_iconst (pc := 81) dX9_isThere_81 ?_
            exact aw_zreturn (pc := 82) dX9_isThere_82 rfl (by first | exact Or.inl rfl | exact Or.inr rfl | omega) ⟨Nat.zero_le _, Nat.zero_le _⟩ (⟨z_r1 ⟨x, by omega, z_bl_n.mp h78⟩, rfl, rfl, rfl, rfl⟩)
  refine aw_iconst (pc := 0) dX9_isThere_0 ?_
  refine aw_istore_n (pc := 1) (lv' := [_, _, _, _]) dX9_isThere_1 (Nat.le_of_ble_eq_true rfl) rfl ?_
  exact loop (I 237 7).toNat 0 _ _ (by omega) (fun j hj => absurd hj (by omega))
