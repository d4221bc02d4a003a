/-- the heap with the search's sums g and r -/
def z_s7 (I : AwI) (g : Nat → Int) (r : Int) : AwI := fun a k => if a = 225 then g k else if a = 224 ∧ k = 3 then r else I a k
theorem z_s7_o {I : AwI} {g : Nat → Int} {r : Int} {a k : Nat} (h : a < 224 ∨ 225 < a) : z_s7 I g r a k = I a k := by
  unfold z_s7
  rw [if_neg (by omega), if_neg (by omega)]
theorem z_s7_g {I : AwI} {g : Nat → Int} {r : Int} (k : Nat) : z_s7 I g r 225 k = g k := if_pos rfl
theorem z_s7_r {I : AwI} {g : Nat → Int} {r : Int} : z_s7 I g r 224 3 = r := rfl
theorem z_s7_ug {I : AwI} {g : Nat → Int} {r : Int} {k : Nat} {v : Int} : z_up (z_s7 I g r) 225 k v = z_s7 I (va_up g k v) r := by
  funext a j
  unfold z_up z_s7 va_up
  by_cases e : a = 225
  · subst e
    by_cases e2 : j = k
    · simp [e2]
    · simp [e2]
  · simp [e]
theorem z_s7_ur {I : AwI} {g : Nat → Int} {r v : Int} : z_up (z_s7 I g r) 224 3 v = z_s7 I g v := by
  funext a j
  unfold z_up z_s7
  by_cases e : a = 224 ∧ j = 3
  · obtain ⟨rfl, rfl⟩ := e
    simp
  · simp [e]
theorem z_s7_id (I : AwI) : z_s7 I (I 225) (I 224 3) = I := by
  funext a j
  unfold z_s7
  by_cases e : a = 225
  · subst e; simp
  · rw [if_neg e]
    by_cases e2 : a = 224 ∧ j = 3
    · obtain ⟨rfl, rfl⟩ := e2; simp
    · rw [if_neg e2]
def z_sg (s r : Nat) : Int := if s.testBit r then 1 else -1
def z_mg (I : AwI) (g : Nat → Int) (s : Nat) : Nat → Nat → Int
  | 0 => g
  | x + 1 => z_pf (fun n => z_mg I g s x n + z_sg s x * I (6 + x) n) (z_mg I g s x) (I 1 5).toNat
def z_mr (I : AwI) (r : Int) (s : Nat) : Nat → Int
  | 0 => r
  | x + 1 => z_mr I r s x + z_sg s x * I 16 x
theorem z_mvb : ∀ s, s < 1024 → 1 ≤ s → ∀ r, r < 10 → (s ^^^ (s - 1)).testBit r = decide (s % 2 ^ r = 0) := by decide +kernel
theorem z_mvc : ∀ s, s < 1024 → 1 ≤ s → ∀ r, r < 10 → (s - 1).testBit r = (s.testBit r ^^ decide (s % 2 ^ r = 0)) := by decide +kernel
theorem z_mvm {s x r : Nat} (h : s % 2 ^ x ≠ 0) (hr : x ≤ r) : s % 2 ^ r ≠ 0 := fun q => h (Nat.mod_eq_zero_of_dvd (Nat.dvd_trans (Nat.pow_dvd_pow 2 hr) (Nat.dvd_of_mod_eq_zero q)))
theorem z_xlt {s : Nat} (h : s < 1024) : s ^^^ (s - 1) < 1024 := Nat.xor_lt_two_pow (n := 10) h (by omega)
set_option maxHeartbeats 4000000 in
theorem c_X7_moveSumTo {π : Nat → Nat} {I J : AwI} {g : Nat → Int} {r : Int} {set : Nat} (h : z_M I J) (hset : set < 1024) (h1 : 1 ≤ set) : CT m_X7_moveSumTo [zr 224, zi (set : Int)] 255 (z_s7 I g r) J (z_R π) (fun q sz' I' J' R' => q = none ∧ sz' = 255 ∧ J' = J ∧ R' = z_R π ∧ ∃ x : Nat, (x : Int) ≤ I 1 6 ∧ (∀ j, j < x → set % 2 ^ j = 0) ∧ ((x : Int) = I 1 6 ∨ set % 2 ^ x ≠ 0) ∧ I' = z_s7 I (z_mg I g set x) (z_mr I r set x)) := by
  have hnm := h.nm
  have hrw := h.rw
  have hxl := z_xlt hset
  refine CT.of (by decide) (Nat.le_of_ble_eq_true rfl) ?_
  show AW _ 0 0 _ 0 [some (zr 224), some (zi (set : Int)), none, none, none, none] [] _ _ _
  have inner : ∀ (x : Nat) (sg : Int), x < 10 → (∀ v : Option AwV, AW (FM m_X7_moveSumTo (fun q sz' I' J' R' => q = none ∧ sz' = 255 ∧ J' = J ∧ R' = z_R π ∧ ∃ x : Nat, (x : Int) ≤ I 1 6 ∧ (∀ j, j < x → set % 2 ^ j = 0) ∧ ((x : Int) = I 1 6 ∨ set % 2 ^ x ≠ 0) ∧ I' = z_s7 I (z_mg I g set x) (z_mr I r set x))) 0 0 255 88 [some (zr 224), some (zi (set : Int)), some (zi ((set ^^^ (set - 1) : Nat) : Int)), some (zi (x : Int)), some (zi sg), v] [] (z_s7 I (z_pf (fun n => z_mg I g set x n + sg * I (6 + x) n) (z_mg I g set x) (I 1 5).toNat) (z_mr I r set x)) J (z_R π)) → AW (FM m_X7_moveSumTo (fun q sz' I' J' R' => q = none ∧ sz' = 255 ∧ J' = J ∧ R' = z_R π ∧ ∃ x : Nat, (x : Int) ≤ I 1 6 ∧ (∀ j, j < x → set % 2 ^ j = 0) ∧ ((x : Int) = I 1 6 ∨ set % 2 ^ x ≠ 0) ∧ I' = z_s7 I (z_mg I g set x) (z_mr I r set x))) 0 0 255 45 [some (zr 224), some (zi (set : Int)), some (zi ((set ^^^ (set - 1) : Nat) : Int)), some (zi (x : Int)), some (zi sg), some (zi 0)] [] (z_s7 I (z_mg I g set x) (z_mr I r set x)) J (z_R π) := by
    intro x sg hx10 hK
    have loop : ∀ (k : Nat) (y : Int), 0 ≤ y → y + k = I 1 5 → AW (FM m_X7_moveSumTo (fun q sz' I' J' R' => q = none ∧ sz' = 255 ∧ J' = J ∧ R' = z_R π ∧ ∃ x : Nat, (x : Int) ≤ I 1 6 ∧ (∀ j, j < x → set % 2 ^ j = 0) ∧ ((x : Int) = I 1 6 ∨ set % 2 ^ x ≠ 0) ∧ I' = z_s7 I (z_mg I g set x) (z_mr I r set x))) 0 0 255 45 [some (zr 224), some (zi (set : Int)), some (zi ((set ^^^ (set - 1) : Nat) : Int)), some (zi (x : Int)), some (zi sg), some (zi y)] [] (z_s7 I (z_pf (fun n => z_mg I g set x n + sg * I (6 + x) n) (z_mg I g set x) y.toNat) (z_mr I r set x)) J (z_R π) := by
      intro k
      induction k with
      | zero =>
        intro y hy he
        have hy2 : y.toNat = (I 1 5).toNat := by omega
        rw [hy2]
        refine aw_iload (pc := 45) dX7_moveSumTo_45 rfl ?_
        refine aw_aload_n (pc := 47) dX7_moveSumTo_47 rfl ?_
        refine aw_getR (pc := 48) dX7_moveSumTo_48 k_fl_X7_15 rfl (by omega) (by first | rfl | exact z_shr _ (by omega) | exact z_shc0 (by omega) | exact z_shc1 (by omega) | exact z_shc2 (by omega) | exact z_shc3 (by omega) | exact z_shc4 (by omega)) (by first | rfl | exact z_Rc0 _ (by omega) | exact z_Rc1 _ (by omega) | exact z_Rc2 _ (by omega) | exact z_Rc3 _ (by omega)) ?_
        refine aw_getV (pc := 51) (v := I 1 5) dX7_moveSumTo_51 k_fl_X7_53 rfl (by omega) (by first | rfl | exact z_shr _ (by omega) | exact z_shc0 (by omega) | exact z_shc1 (by omega) | exact z_shc2 (by omega) | exact z_shc3 (by omega) | exact z_shc4 (by omega)) (z_s7_o (by omega)) ?_
        refine aw_icmp_ge (pc := 54) (tgt := 88) dX7_moveSumTo_54 rfl (by first | omega | exact z_bl_r _) (by first | omega | exact z_bl_r _) (fun h54 => ?_) (fun h54 => absurd h54 (by omega))
        exact hK _
      | succ k ih =>
        intro y hy he
        refine aw_iload (pc := 45) dX7_moveSumTo_45 rfl ?_
        refine aw_aload_n (pc := 47) dX7_moveSumTo_47 rfl ?_
        refine aw_getR (pc := 48) dX7_moveSumTo_48 k_fl_X7_15 rfl (by omega) (by first | rfl | exact z_shr _ (by omega) | exact z_shc0 (by omega) | exact z_shc1 (by omega) | exact z_shc2 (by omega) | exact z_shc3 (by omega) | exact z_shc4 (by omega)) (by first | rfl | exact z_Rc0 _ (by omega) | exact z_Rc1 _ (by omega) | exact z_Rc2 _ (by omega) | exact z_Rc3 _ (by omega)) ?_
        refine aw_getV (pc := 51) (v := I 1 5) dX7_moveSumTo_51 k_fl_X7_53 rfl (by omega) (by first | rfl | exact z_shr _ (by omega) | exact z_shc0 (by omega) | exact z_shc1 (by omega) | exact z_shc2 (by omega) | exact z_shc3 (by omega) | exact z_shc4 (by omega)) (z_s7_o (by omega)) ?_
        refine aw_icmp_ge (pc := 54) (tgt := 88) dX7_moveSumTo_54 rfl (by first | omega | exact z_bl_r _) (by first | omega | exact z_bl_r _) (fun h54 => absurd h54 (by omega)) (fun h54 => ?_)
        refine aw_aload_n (pc := 57) dX7_moveSumTo_57 rfl ?_
        refine aw_getR (pc := 58) dX7_moveSumTo_58 k_fl_X7_9 rfl (by omega) (by first | rfl | exact z_shr _ (by omega) | exact z_shc0 (by omega) | exact z_shc1 (by omega) | exact z_shc2 (by omega) | exact z_shc3 (by omega) | exact z_shc4 (by omega)) (by first | rfl | exact z_Rc0 _ (by omega) | exact z_Rc1 _ (by omega) | exact z_Rc2 _ (by omega) | exact z_Rc3 _ (by omega)) ?_
        refine aw_iload (pc := 61) dX7_moveSumTo_61 rfl ?_
        refine aw_dup2 (pc := 63) dX7_moveSumTo_63 (fun _ h => by cases h) (fun _ h => by cases h) ?_
        refine aw_ialoadV (pc := 64) (v := z_mg I g set x y.toNat) dX7_moveSumTo_64 (by omega) (Nat.le_refl _) (by first | rfl | exact z_shr _ (by omega) | exact z_shc0 (by omega) | exact z_shc1 (by omega) | exact z_shc2 (by omega) | exact z_shc3 (by omega) | exact z_shc4 (by omega)) (by first | omega | exact z_bl_r _) ((z_s7_g _).trans z_pf_at) ?_
        refine aw_iload (pc := 65) dX7_moveSumTo_65 rfl ?_
        refine aw_aload_n (pc := 67) dX7_moveSumTo_67 rfl ?_
        refine aw_getR (pc := 68) dX7_moveSumTo_68 k_fl_X7_15 rfl (by omega) (by first | rfl | exact z_shr _ (by omega) | exact z_shc0 (by omega) | exact z_shc1 (by omega) | exact z_shc2 (by omega) | exact z_shc3 (by omega) | exact z_shc4 (by omega)) (by first | rfl | exact z_Rc0 _ (by omega) | exact z_Rc1 _ (by omega) | exact z_Rc2 _ (by omega) | exact z_Rc3 _ (by omega)) ?_
        refine aw_getR (pc := 71) dX7_moveSumTo_71 k_fl_X7_56 rfl (by omega) (by first | rfl | exact z_shr _ (by omega) | exact z_shc0 (by omega) | exact z_shc1 (by omega) | exact z_shc2 (by omega) | exact z_shc3 (by omega) | exact z_shc4 (by omega)) (by first | rfl | exact z_Rc0 _ (by omega) | exact z_Rc1 _ (by omega) | exact z_Rc2 _ (by omega) | exact z_Rc3 _ (by omega)) ?_
        refine aw_iload_n (pc := 74) dX7_moveSumTo_74 rfl ?_
        refine aw_aaloadG (b := 6 + x) (pc := 75) dX7_moveSumTo_75 (by omega) (Nat.le_refl _) rfl (by omega) (by rfl) ?_
        refine aw_iload (pc := 76) dX7_moveSumTo_76 rfl ?_
        refine aw_ialoadV (pc := 78) (v := I (6 + x) y.toNat) dX7_moveSumTo_78 (by omega) (Nat.le_refl _) (by first | rfl | exact z_shr _ (by omega) | exact z_shc0 (by omega) | exact z_shc1 (by omega) | exact z_shc2 (by omega) | exact z_shc3 (by omega) | exact z_shc4 (by omega)) (by first | omega | exact z_bl_r _) (z_s7_o (by omega)) ?_
        refine aw_imul (pc := 79) dX7_moveSumTo_79 ?_
        refine aw_iadd (pc := 80) dX7_moveSumTo_80 ?_
        refine aw_iastore (pc := 81) dX7_moveSumTo_81 (by omega) (Nat.le_refl _) (by first | rfl | exact z_shr _ (by omega) | exact z_shc0 (by omega) | exact z_shc1 (by omega) | exact z_shc2 (by omega) | exact z_shc3 (by omega) | exact z_shc4 (by omega)) (by first | omega | exact z_bl_r _) ?_
        rw [z_s7_ug, z_pf_s hy rfl]
        refine aw_iinc (pc := 82) (lv' := [_, _, _, _, _, _]) dX7_moveSumTo_82 (Nat.le_of_ble_eq_true rfl) rfl rfl ?_
        refine aw_goto (pc := 85) (tgt := 45) dX7_moveSumTo_85 rfl ?_
        exact ih (y + 1) (by omega) (by omega)
    have K := loop (I 1 5).toNat 0 (by omega) (by omega)
    rw [show (0 : Int).toNat = 0 from rfl, z_pf_0] at K
    exact K
  have outer : ∀ (k : Nat) (x : Nat) (u v : Option AwV), (x : Int) ≤ I 1 6 → (x : Int) + k = I 1 6 → (∀ j, j < x → set % 2 ^ j = 0) → AW (FM m_X7_moveSumTo (fun q sz' I' J' R' => q = none ∧ sz' = 255 ∧ J' = J ∧ R' = z_R π ∧ ∃ x : Nat, (x : Int) ≤ I 1 6 ∧ (∀ j, j < x → set % 2 ^ j = 0) ∧ ((x : Int) = I 1 6 ∨ set % 2 ^ x ≠ 0) ∧ I' = z_s7 I (z_mg I g set x) (z_mr I r set x))) 0 0 255 8 [some (zr 224), some (zi (set : Int)), some (zi ((set ^^^ (set - 1) : Nat) : Int)), some (zi (x : Int)), u, v] [] (z_s7 I (z_mg I g set x) (z_mr I r set x)) J (z_R π) := by
    intro k
    induction k with
    | zero =>
      intro x u v hx he hlow
      refine aw_iload_n (pc := 8) dX7_moveSumTo_8 rfl ?_
      refine aw_aload_n (pc := 9) dX7_moveSumTo_9 rfl ?_
      refine aw_getR (pc := 10) dX7_moveSumTo_10 k_fl_X7_15 rfl (by omega) (by first | rfl | exact z_shr _ (by omega) | exact z_shc0 (by omega) | exact z_shc1 (by omega) | exact z_shc2 (by omega) | exact z_shc3 (by omega) | exact z_shc4 (by omega)) (by first | rfl | exact z_Rc0 _ (by omega) | exact z_Rc1 _ (by omega) | exact z_Rc2 _ (by omega) | exact z_Rc3 _ (by omega)) ?_
      refine aw_getV (pc := 13) (v := I 1 6) dX7_moveSumTo_13 k_fl_X7_33 rfl (by omega) (by first | rfl | exact z_shr _ (by omega) | exact z_shc0 (by omega) | exact z_shc1 (by omega) | exact z_shc2 (by omega) | exact z_shc3 (by omega) | exact z_shc4 (by omega)) (z_s7_o (by omega)) ?_
      refine aw_icmp_ge (pc := 16) (tgt := 115) dX7_moveSumTo_16 rfl (by first | omega | exact z_bl_r _) (by first | omega | exact z_bl_r _) (fun h16 => ?_) (fun h16 => absurd h16 (by omega))
      exact aw_return (pc := 115) dX7_moveSumTo_115 rfl ⟨Nat.zero_le _, Nat.zero_le _⟩ (⟨rfl, rfl, rfl, rfl, x, by omega, hlow, Or.inl (by omega), rfl⟩)
    | succ k ih =>
      intro x u v hx he hlow
      refine aw_iload_n (pc := 8) dX7_moveSumTo_8 rfl ?_
      refine aw_aload_n (pc := 9) dX7_moveSumTo_9 rfl ?_
      refine aw_getR (pc := 10) dX7_moveSumTo_10 k_fl_X7_15 rfl (by omega) (by first | rfl | exact z_shr _ (by omega) | exact z_shc0 (by omega) | exact z_shc1 (by omega) | exact z_shc2 (by omega) | exact z_shc3 (by omega) | exact z_shc4 (by omega)) (by first | rfl | exact z_Rc0 _ (by omega) | exact z_Rc1 _ (by omega) | exact z_Rc2 _ (by omega) | exact z_Rc3 _ (by omega)) ?_
      refine aw_getV (pc := 13) (v := I 1 6) dX7_moveSumTo_13 k_fl_X7_33 rfl (by omega) (by first | rfl | exact z_shr _ (by omega) | exact z_shc0 (by omega) | exact z_shc1 (by omega) | exact z_shc2 (by omega) | exact z_shc3 (by omega) | exact z_shc4 (by omega)) (z_s7_o (by omega)) ?_
      refine aw_icmp_ge (pc := 16) (tgt := 115) dX7_moveSumTo_16 rfl (by first | omega | exact z_bl_r _) (by first | omega | exact z_bl_r _) (fun h16 => absurd h16 (by omega)) (fun h16 => ?_)
      refine aw_iload_n (pc := 19) dX7_moveSumTo_19 rfl ?_
      refine aw_iload_n (pc := 20) dX7_moveSumTo_20 rfl ?_
      refine aw_qN (pc := 21) (d := m_X8_isIn) (c_X8_isIn (s := set ^^^ (set - 1)) (w := x) (by omega) (by omega)) k_X8_isIn dX7_moveSumTo_21 k_nl_X7_50 rfl ⟨rfl, rfl⟩ ⟨Nat.le_of_ble_eq_true rfl, Nat.le_of_ble_eq_true rfl⟩ ⟨Nat.zero_le _, Nat.zero_le _⟩ rfl (Nat.le_of_ble_eq_true rfl) (z_Pk ?_)
      refine aw_if_eq (pc := 24) (tgt := 115) dX7_moveSumTo_24 rfl (z_bl_r _) (fun h24 => ?_) (fun h24 => ?_)
      · exact aw_return (pc := 115) dX7_moveSumTo_115 rfl ⟨Nat.zero_le _, Nat.zero_le _⟩ (⟨rfl, rfl, rfl, rfl, x, by omega, hlow, Or.inr (fun q => z_bl_0.mp h24 (by rw [z_mvb set hset h1 x (by omega)]; exact decide_eq_true q)), rfl⟩)
      · refine aw_iload_n (pc := 27) dX7_moveSumTo_27 rfl ?_
        refine aw_iload_n (pc := 28) dX7_moveSumTo_28 rfl ?_
        refine aw_qN (pc := 29) (d := m_X8_isIn) (c_X8_isIn (s := set) (w := x) (by omega) (by omega)) k_X8_isIn dX7_moveSumTo_29 k_nl_X7_50 rfl ⟨rfl, rfl⟩ ⟨Nat.le_of_ble_eq_true rfl, Nat.le_of_ble_eq_true rfl⟩ ⟨Nat.zero_le _, Nat.zero_le _⟩ rfl (Nat.le_of_ble_eq_true rfl) (z_Pk ?_)
        refine aw_if_eq (pc := 32) (tgt := 39) dX7_moveSumTo_32 rfl (z_bl_r _) (fun h32 => ?_) (fun h32 => ?_)
        · refine aw_iconst (pc := 39) dX7_moveSumTo_39 ?_
          refine aw_istore (pc := 40) (lv' := [_, _, _, _, _, _]) dX7_moveSumTo_40 (Nat.le_of_ble_eq_true rfl) rfl ?_
          refine aw_iconst (pc := 42) dX7_moveSumTo_42 ?_
          refine aw_istore (pc := 43) (lv' := [_, _, _, _, _, _]) dX7_moveSumTo_43 (Nat.le_of_ble_eq_true rfl) rfl ?_
          refine inner x (-1) (by omega) (fun v2 => ?_)
          refine aw_aload_n (pc := 88) dX7_moveSumTo_88 rfl ?_
          refine aw_dup (pc := 89) dX7_moveSumTo_89 (fun _ h => by cases h) ?_
          refine aw_getV (pc := 90) (v := z_mr I r set x) dX7_moveSumTo_90 k_fl_X7_29 rfl (by omega) (by first | rfl | exact z_shr _ (by omega) | exact z_shc0 (by omega) | exact z_shc1 (by omega) | exact z_shc2 (by omega) | exact z_shc3 (by omega) | exact z_shc4 (by omega)) (z_s7_r) ?_
          refine aw_iload (pc := 93) dX7_moveSumTo_93 rfl ?_
          refine aw_aload_n (pc := 95) dX7_moveSumTo_95 rfl ?_
          refine aw_getR (pc := 96) dX7_moveSumTo_96 k_fl_X7_15 rfl (by omega) (by first | rfl | exact z_shr _ (by omega) | exact z_shc0 (by omega) | exact z_shc1 (by omega) | exact z_shc2 (by omega) | exact z_shc3 (by omega) | exact z_shc4 (by omega)) (by first | rfl | exact z_Rc0 _ (by omega) | exact z_Rc1 _ (by omega) | exact z_Rc2 _ (by omega) | exact z_Rc3 _ (by omega)) ?_
          refine aw_getR (pc := 99) dX7_moveSumTo_99 k_fl_X7_60 rfl (by omega) (by first | rfl | exact z_shr _ (by omega) | exact z_shc0 (by omega) | exact z_shc1 (by omega) | exact z_shc2 (by omega) | exact z_shc3 (by omega) | exact z_shc4 (by omega)) (by first | rfl | exact z_Rc0 _ (by omega) | exact z_Rc1 _ (by omega) | exact z_Rc2 _ (by omega) | exact z_Rc3 _ (by omega)) ?_
          refine aw_iload_n (pc := 102) dX7_moveSumTo_102 rfl ?_
          refine aw_ialoadV (pc := 103) (v := I 16 x) dX7_moveSumTo_103 (by omega) (Nat.le_refl _) (by first | rfl | exact z_shr _ (by omega) | exact z_shc0 (by omega) | exact z_shc1 (by omega) | exact z_shc2 (by omega) | exact z_shc3 (by omega) | exact z_shc4 (by omega)) (by first | omega | exact z_bl_r _) (z_s7_o (by omega)) ?_
          refine aw_imul (pc := 104) dX7_moveSumTo_104 ?_
          refine aw_iadd (pc := 105) dX7_moveSumTo_105 ?_
          refine aw_putI (pc := 106) dX7_moveSumTo_106 k_fl_X7_29 rfl (by omega) (by first | rfl | exact z_shr _ (by omega) | exact z_shc0 (by omega) | exact z_shc1 (by omega) | exact z_shc2 (by omega) | exact z_shc3 (by omega) | exact z_shc4 (by omega)) ?_
          rw [z_s7_ur]
          refine aw_iinc (pc := 109) (lv' := [_, _, _, _, _, _]) dX7_moveSumTo_109 (Nat.le_of_ble_eq_true rfl) rfl rfl ?_
          refine aw_goto (pc := 112) (tgt := 8) dX7_moveSumTo_112 rfl ?_
          have hs0 : set % 2 ^ x = 0 := of_decide_eq_true ((z_mvb set hset h1 x (by omega)).symm.trans (z_bl_n.mp h24))
          have es : z_sg set x = (-1) := by unfold z_sg; rw [if_neg (z_bl_0.mp h32)]
          have K := ih (x + 1) (some (zi (-1))) v2 (by omega) (by omega) (fun j hj => by by_cases e : j = x; (subst e; exact hs0); exact hlow j (by omega))
          rw [show z_mg I g set (x + 1) = z_pf (fun n => z_mg I g set x n + z_sg set x * I (6 + x) n) (z_mg I g set x) (I 1 5).toNat from rfl, show z_mr I r set (x + 1) = z_mr I r set x + z_sg set x * I 16 x from rfl, es, show ((x + 1 : Nat) : Int) = (x : Int) + 1 from rfl] at K
          exact K
        · refine aw_iconst (pc := 35) dX7_moveSumTo_35 ?_
          refine aw_goto (pc := 36) (tgt := 40) dX7_moveSumTo_36 rfl ?_
          refine aw_istore (pc := 40) (lv' := [_, _, _, _, _, _]) dX7_moveSumTo_40 (Nat.le_of_ble_eq_true rfl) rfl ?_
          refine aw_iconst (pc := 42) dX7_moveSumTo_42 ?_
          refine aw_istore (pc := 43) (lv' := [_, _, _, _, _, _]) dX7_moveSumTo_43 (Nat.le_of_ble_eq_true rfl) rfl ?_
          refine inner x 1 (by omega) (fun v2 => ?_)
          refine aw_aload_n (pc := 88) dX7_moveSumTo_88 rfl ?_
          refine aw_dup (pc := 89) dX7_moveSumTo_89 (fun _ h => by cases h) ?_
          refine aw_getV (pc := 90) (v := z_mr I r set x) dX7_moveSumTo_90 k_fl_X7_29 rfl (by omega) (by first | rfl | exact z_shr _ (by omega) | exact z_shc0 (by omega) | exact z_shc1 (by omega) | exact z_shc2 (by omega) | exact z_shc3 (by omega) | exact z_shc4 (by omega)) (z_s7_r) ?_
          refine aw_iload (pc := 93) dX7_moveSumTo_93 rfl ?_
          refine aw_aload_n (pc := 95) dX7_moveSumTo_95 rfl ?_
          refine aw_getR (pc := 96) dX7_moveSumTo_96 k_fl_X7_15 rfl (by omega) (by first | rfl | exact z_shr _ (by omega) | exact z_shc0 (by omega) | exact z_shc1 (by omega) | exact z_shc2 (by omega) | exact z_shc3 (by omega) | exact z_shc4 (by omega)) (by first | rfl | exact z_Rc0 _ (by omega) | exact z_Rc1 _ (by omega) | exact z_Rc2 _ (by omega) | exact z_Rc3 _ (by omega)) ?_
          refine aw_getR (pc := 99) dX7_moveSumTo_99 k_fl_X7_60 rfl (by omega) (by first | rfl | exact z_shr _ (by omega) | exact z_shc0 (by omega) | exact z_shc1 (by omega) | exact z_shc2 (by omega) | exact z_shc3 (by omega) | exact z_shc4 (by omega)) (by first | rfl | exact z_Rc0 _ (by omega) | exact z_Rc1 _ (by omega) | exact z_Rc2 _ (by omega) | exact z_Rc3 _ (by omega)) ?_
          refine aw_iload_n (pc := 102) dX7_moveSumTo_102 rfl ?_
          refine aw_ialoadV (pc := 103) (v := I 16 x) dX7_moveSumTo_103 (by omega) (Nat.le_refl _) (by first | rfl | exact z_shr _ (by omega) | exact z_shc0 (by omega) | exact z_shc1 (by omega) | exact z_shc2 (by omega) | exact z_shc3 (by omega) | exact z_shc4 (by omega)) (by first | omega | exact z_bl_r _) (z_s7_o (by omega)) ?_
          refine aw_imul (pc := 104) dX7_moveSumTo_104 ?_
          refine aw_iadd (pc := 105) dX7_moveSumTo_105 ?_
          refine aw_putI (pc := 106) dX7_moveSumTo_106 k_fl_X7_29 rfl (by omega) (by first | rfl | exact z_shr _ (by omega) | exact z_shc0 (by omega) | exact z_shc1 (by omega) | exact z_shc2 (by omega) | exact z_shc3 (by omega) | exact z_shc4 (by omega)) ?_
          rw [z_s7_ur]
          refine aw_iinc (pc := 109) (lv' := [_, _, _, _, _, _]) dX7_moveSumTo_109 (Nat.le_of_ble_eq_true rfl) rfl rfl ?_
          refine aw_goto (pc := 112) (tgt := 8) dX7_moveSumTo_112 rfl ?_
          have hs0 : set % 2 ^ x = 0 := of_decide_eq_true ((z_mvb set hset h1 x (by omega)).symm.trans (z_bl_n.mp h24))
          have es : z_sg set x = 1 := by unfold z_sg; rw [if_pos (z_bl_n.mp h32)]
          have K := ih (x + 1) (some (zi 1)) v2 (by omega) (by omega) (fun j hj => by by_cases e : j = x; (subst e; exact hs0); exact hlow j (by omega))
          rw [show z_mg I g set (x + 1) = z_pf (fun n => z_mg I g set x n + z_sg set x * I (6 + x) n) (z_mg I g set x) (I 1 5).toNat from rfl, show z_mr I r set (x + 1) = z_mr I r set x + z_sg set x * I 16 x from rfl, es, show ((x + 1 : Nat) : Int) = (x : Int) + 1 from rfl] at K
          exact K
  refine aw_iload_n (pc := 0) dX7_moveSumTo_0 rfl ?_
  refine aw_iload_n (pc := 1) dX7_moveSumTo_1 rfl ?_
  refine aw_iconst (pc := 2) dX7_moveSumTo_2 ?_
  refine aw_isub (pc := 3) dX7_moveSumTo_3 ?_
  refine aw_ixor (pc := 4) dX7_moveSumTo_4 rfl (b := set - 1) (by omega) ?_
  refine aw_istore_n (pc := 5) (lv' := [_, _, _, _, _, _]) dX7_moveSumTo_5 (Nat.le_of_ble_eq_true rfl) rfl ?_
  refine aw_iconst (pc := 6) dX7_moveSumTo_6 ?_
  refine aw_istore_n (pc := 7) (lv' := [_, _, _, _, _, _]) dX7_moveSumTo_7 (Nat.le_of_ble_eq_true rfl) rfl ?_
  exact outer (I 1 6).toNat 0 none none (by omega) (by omega) (fun j hj => absurd hj (by omega))
