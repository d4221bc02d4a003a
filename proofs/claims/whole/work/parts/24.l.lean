/-- the heap with the cover search's numbers -/
def z_s3 (I : AwI) (k : Int) (cap : Int) (ln wt al lg : Nat → Int) : AwI := fun a j => if a = 227 then ln j else if a = 228 then wt j else if a = 229 then al j else if a = 230 then lg j else if a = 226 then (if j = 6 then k else if j = 7 then cap else I a j) else I a j
theorem z_s3_o {I : AwI} {k : Int} {cap : Int} {ln wt al lg : Nat → Int} {a j : Nat} (h : a < 226 ∨ 230 < a) : z_s3 I k cap ln wt al lg a j = I a j := by
  unfold z_s3
  rw [if_neg (by omega), if_neg (by omega), if_neg (by omega), if_neg (by omega), if_neg (by omega)]
theorem z_s3_k {I : AwI} {k : Int} {cap : Int} {ln wt al lg : Nat → Int} : z_s3 I k cap ln wt al lg 226 6 = k := rfl
theorem z_s3_c {I : AwI} {k : Int} {cap : Int} {ln wt al lg : Nat → Int} : z_s3 I k cap ln wt al lg 226 7 = cap := rfl
theorem z_s3_id (I : AwI) : z_s3 I (I 226 6) (I 226 7) (I 227) (I 228) (I 229) (I 230) = I := by
  funext a j
  unfold z_s3
  by_cases e1 : a = 227
  · subst e1; simp
  by_cases e2 : a = 228
  · subst e2; simp
  by_cases e3 : a = 229
  · subst e3; simp
  by_cases e4 : a = 230
  · subst e4; simp
  by_cases e5 : a = 226
  · subst e5
    by_cases j6 : j = 6
    · subst j6; simp
    by_cases j7 : j = 7
    · subst j7; simp
    simp [j6, j7]
  simp [e1, e2, e3, e4, e5]
theorem z_s3_ln {I : AwI} {k : Int} {cap : Int} {ln wt al lg : Nat → Int} (j : Nat) : z_s3 I k cap ln wt al lg 227 j = ln j := rfl
theorem z_s3_uln {I : AwI} {k : Int} {cap : Int} {ln wt al lg : Nat → Int} {q : Nat} {v : Int} : z_up (z_s3 I k cap ln wt al lg) 227 q v = z_s3 I k cap (va_up ln q v) wt al lg := by
  funext a j
  unfold z_up
  by_cases e : a = 227
  · subst e
    rw [z_s3_ln, z_s3_ln]
    unfold va_up
    by_cases e2 : j = q
    · rw [if_pos ⟨rfl, e2⟩, if_pos e2]
    · rw [if_neg (fun z => e2 z.2), if_neg e2]
  · rw [if_neg (fun z => e z.1)]
    unfold z_s3
    simp only [e, if_false]
theorem z_s3_wt {I : AwI} {k : Int} {cap : Int} {ln wt al lg : Nat → Int} (j : Nat) : z_s3 I k cap ln wt al lg 228 j = wt j := rfl
theorem z_s3_uwt {I : AwI} {k : Int} {cap : Int} {ln wt al lg : Nat → Int} {q : Nat} {v : Int} : z_up (z_s3 I k cap ln wt al lg) 228 q v = z_s3 I k cap ln (va_up wt q v) al lg := by
  funext a j
  unfold z_up
  by_cases e : a = 228
  · subst e
    rw [z_s3_wt, z_s3_wt]
    unfold va_up
    by_cases e2 : j = q
    · rw [if_pos ⟨rfl, e2⟩, if_pos e2]
    · rw [if_neg (fun z => e2 z.2), if_neg e2]
  · rw [if_neg (fun z => e z.1)]
    unfold z_s3
    simp only [e, if_false]
theorem z_s3_al {I : AwI} {k : Int} {cap : Int} {ln wt al lg : Nat → Int} (j : Nat) : z_s3 I k cap ln wt al lg 229 j = al j := rfl
theorem z_s3_ual {I : AwI} {k : Int} {cap : Int} {ln wt al lg : Nat → Int} {q : Nat} {v : Int} : z_up (z_s3 I k cap ln wt al lg) 229 q v = z_s3 I k cap ln wt (va_up al q v) lg := by
  funext a j
  unfold z_up
  by_cases e : a = 229
  · subst e
    rw [z_s3_al, z_s3_al]
    unfold va_up
    by_cases e2 : j = q
    · rw [if_pos ⟨rfl, e2⟩, if_pos e2]
    · rw [if_neg (fun z => e2 z.2), if_neg e2]
  · rw [if_neg (fun z => e z.1)]
    unfold z_s3
    simp only [e, if_false]
theorem z_s3_lg {I : AwI} {k : Int} {cap : Int} {ln wt al lg : Nat → Int} (j : Nat) : z_s3 I k cap ln wt al lg 230 j = lg j := rfl
theorem z_s3_ulg {I : AwI} {k : Int} {cap : Int} {ln wt al lg : Nat → Int} {q : Nat} {v : Int} : z_up (z_s3 I k cap ln wt al lg) 230 q v = z_s3 I k cap ln wt al (va_up lg q v) := by
  funext a j
  unfold z_up
  by_cases e : a = 230
  · subst e
    rw [z_s3_lg, z_s3_lg]
    unfold va_up
    by_cases e2 : j = q
    · rw [if_pos ⟨rfl, e2⟩, if_pos e2]
    · rw [if_neg (fun z => e2 z.2), if_neg e2]
  · rw [if_neg (fun z => e z.1)]
    unfold z_s3
    simp only [e, if_false]
theorem z_s3_uk {I : AwI} {k : Int} {cap : Int} {ln wt al lg : Nat → Int} {v : Int} : z_up (z_s3 I k cap ln wt al lg) 226 6 v = z_s3 I v cap ln wt al lg := by
  funext a j
  unfold z_up
  by_cases e : a = 226
  · subst e
    by_cases e2 : j = 6
    · subst e2
      rw [if_pos ⟨rfl, rfl⟩]; rfl
    · rw [if_neg (fun z => e2 z.2)]
      unfold z_s3
      simp only [e2, if_false]
  · rw [if_neg (fun z => e z.1)]
    unfold z_s3
    simp only [e, if_false]
theorem z_s3_ucap {I : AwI} {k : Int} {cap : Int} {ln wt al lg : Nat → Int} {v : Int} : z_up (z_s3 I k cap ln wt al lg) 226 7 v = z_s3 I k v ln wt al lg := by
  funext a j
  unfold z_up
  by_cases e : a = 226
  · subst e
    by_cases e2 : j = 7
    · subst e2
      rw [if_pos ⟨rfl, rfl⟩]; rfl
    · rw [if_neg (fun z => e2 z.2)]
      unfold z_s3
      simp only [e2, if_false]
  · rw [if_neg (fun z => e z.1)]
    unfold z_s3
    simp only [e, if_false]
theorem z_M.s3 {I J : AwI} {k cap : Int} {ln wt al lg : Nat → Int} (h : z_M I J) : z_M (z_s3 I k cap ln wt al lg) J := h.congr (fun a j ha => z_s3_o (by omega)) (fun _ => rfl)
/-- reading the literals of a row: how many, which, weights, capacity -/
def z_bin (m : z_MM) (n : Nat) : Prop := mlo m n = 0 ∧ mhi m n = 1
def z_rl (m : z_MM) (r : Nat) (b1 b2 : Nat → Int) : Nat → Nat × (Nat → Int) × (Nat → Int) × Int
  | 0 => (0, b1, b2, mrt m r)
  | x + 1 =>
    let q := z_rl m r b1 b2 x
    if ¬ (mlo m x = 0 ∧ mhi m x = 1) then (q.1, q.2.1, q.2.2.1, q.2.2.2 - z_le (mF m r x) (mlo m x) (mhi m x))
    else if mF m r x = 0 then q
    else (q.1 + 1, va_up q.2.1 q.1 x, va_up q.2.2.1 q.1 (z_ab (mF m r x)), if mF m r x < 0 then q.2.2.2 - mF m r x else q.2.2.2)
theorem z_rl_n {m : z_MM} {r : Nat} {b1 b2 : Nat → Int} {x : Nat} (h : ¬ (mlo m x = 0 ∧ mhi m x = 1)) : z_rl m r b1 b2 (x + 1) = ((z_rl m r b1 b2 x).1, (z_rl m r b1 b2 x).2.1, (z_rl m r b1 b2 x).2.2.1, (z_rl m r b1 b2 x).2.2.2 - z_le (mF m r x) (mlo m x) (mhi m x)) := by
  show (if _ then _ else _) = _
  rw [if_pos h]
theorem z_rl_z {m : z_MM} {r : Nat} {b1 b2 : Nat → Int} {x : Nat} (h : mlo m x = 0 ∧ mhi m x = 1) (hf : mF m r x = 0) : z_rl m r b1 b2 (x + 1) = z_rl m r b1 b2 x := by
  show (if _ then _ else _) = _
  rw [if_neg (fun q => q h), if_pos hf]
theorem z_rl_y {m : z_MM} {r : Nat} {b1 b2 : Nat → Int} {x : Nat} (h : mlo m x = 0 ∧ mhi m x = 1) (hf : mF m r x ≠ 0) : z_rl m r b1 b2 (x + 1) = ((z_rl m r b1 b2 x).1 + 1, va_up (z_rl m r b1 b2 x).2.1 (z_rl m r b1 b2 x).1 x, va_up (z_rl m r b1 b2 x).2.2.1 (z_rl m r b1 b2 x).1 (z_ab (mF m r x)), if mF m r x < 0 then (z_rl m r b1 b2 x).2.2.2 - mF m r x else (z_rl m r b1 b2 x).2.2.2) := by
  show (if _ then _ else _) = _
  rw [if_neg (fun q => q h), if_neg hf]
theorem z_clM_lob {I J : AwI} (h : z_M I J) (n : Nat) : -30 ≤ mlo (z_clM I J) n ∧ mlo (z_clM I J) n ≤ 30 := by
  show -30 ≤ z_mk _ _ n ∧ z_mk _ _ n ≤ 30
  unfold z_mk
  split
  · exact h.lo n
  · omega
theorem z_clM_hib {I J : AwI} (h : z_M I J) (n : Nat) : -30 ≤ mhi (z_clM I J) n ∧ mhi (z_clM I J) n ≤ 30 := by
  show -30 ≤ z_mk _ _ n ∧ z_mk _ _ n ≤ 30
  unfold z_mk
  split
  · exact h.hi n
  · omega
/-- bounds of a model -/
def z_mb (m : z_MM) : Prop := mN m ≤ 8 ∧ mR m ≤ 10 ∧ (∀ n, -30 ≤ mlo m n ∧ mlo m n ≤ 30) ∧ (∀ n, -30 ≤ mhi m n ∧ mhi m n ≤ 30) ∧ (∀ r n, -50 ≤ mF m r n ∧ mF m r n ≤ 50) ∧ (∀ r, -9999 ≤ mrt m r ∧ mrt m r ≤ 9999)
theorem z_clM_mb {I J : AwI} (h : z_M I J) : z_mb (z_clM I J) := ⟨by show (I 1 5).toNat ≤ 8; have := h.nm; omega, by show (I 1 6).toNat ≤ 10; have := h.rw; omega, z_clM_lob h, z_clM_hib h, z_clM_Fb h, z_clM_rtb h⟩
theorem z_rl_b {m : z_MM} (h : z_mb m) {r : Nat} {b1 b2 : Nat → Int} : ∀ x : Nat, (z_rl m r b1 b2 x).1 ≤ x ∧ (∀ j, j < (z_rl m r b1 b2 x).1 → 0 ≤ (z_rl m r b1 b2 x).2.1 j ∧ (z_rl m r b1 b2 x).2.1 j < x ∧ 1 ≤ (z_rl m r b1 b2 x).2.2.1 j ∧ (z_rl m r b1 b2 x).2.2.1 j ≤ 50) ∧ (-9999 - 1550 * (x : Int) ≤ (z_rl m r b1 b2 x).2.2.2 ∧ (z_rl m r b1 b2 x).2.2.2 ≤ 9999 + 1550 * (x : Int))
  | 0 => ⟨Nat.le_refl _, fun j hj => absurd hj (by show ¬ j < 0; omega), by show _ ≤ mrt m r ∧ mrt m r ≤ _; have := h.2.2.2.2.2 r; omega⟩
  | x + 1 => by
    obtain ⟨h1, h2, h3⟩ := z_rl_b h (r := r) (b1 := b1) (b2 := b2) x
    have hF := h.2.2.2.2.1 r x
    by_cases hb : mlo m x = 0 ∧ mhi m x = 1
    · by_cases hf : mF m r x = 0
      · rw [z_rl_z hb hf]
        exact ⟨by omega, fun j hj => by have := h2 j hj; omega, by omega⟩
      · rw [z_rl_y hb hf]
        refine ⟨by show _ + 1 ≤ _; omega, fun j hj => ?_, by dsimp only; split <;> omega⟩
        show 0 ≤ va_up _ _ _ j ∧ va_up _ _ _ j < _ ∧ 1 ≤ va_up _ _ _ j ∧ va_up _ _ _ j ≤ 50
        unfold va_up
        by_cases e : j = (z_rl m r b1 b2 x).1
        · rw [if_pos e, if_pos e]
          have hab : 1 ≤ z_ab (mF m r x) ∧ z_ab (mF m r x) ≤ 50 := by unfold z_ab; split <;> omega
          omega
        · rw [if_neg e, if_neg e]
          have hj2 : j < (z_rl m r b1 b2 x).1 + 1 := hj
          have := h2 j (by omega)
          omega
    · rw [z_rl_n hb]
      have hl := z_le_b (hF) (h.2.2.1 x) (h.2.2.2.1 x)
      exact ⟨by show _ ≤ _; omega, fun j hj => by have := h2 j hj; dsimp only; omega, by dsimp only; omega⟩
theorem z_rl_base {m : z_MM} {r : Nat} {b1 b2 c1 c2 : Nat → Int} : ∀ x : Nat, (z_rl m r b1 b2 x).1 = (z_rl m r c1 c2 x).1 ∧ (z_rl m r b1 b2 x).2.2.2 = (z_rl m r c1 c2 x).2.2.2 ∧ ∀ j, j < (z_rl m r b1 b2 x).1 → (z_rl m r b1 b2 x).2.1 j = (z_rl m r c1 c2 x).2.1 j ∧ (z_rl m r b1 b2 x).2.2.1 j = (z_rl m r c1 c2 x).2.2.1 j
  | 0 => ⟨rfl, rfl, fun j hj => absurd hj (by show ¬ j < 0; omega)⟩
  | x + 1 => by
    obtain ⟨h1, h2, h3⟩ := z_rl_base (m := m) (r := r) (b1 := b1) (b2 := b2) (c1 := c1) (c2 := c2) x
    by_cases hb : mlo m x = 0 ∧ mhi m x = 1
    · by_cases hf : mF m r x = 0
      · rw [z_rl_z hb hf, z_rl_z hb hf]
        exact ⟨h1, h2, h3⟩
      · rw [z_rl_y hb hf, z_rl_y hb hf]
        refine ⟨by show _ + 1 = _ + 1; rw [h1], by dsimp only; rw [h2], fun j hj => ?_⟩
        show va_up _ _ _ j = va_up _ _ _ j ∧ va_up _ _ _ j = va_up _ _ _ j
        unfold va_up
        rw [← h1]
        by_cases e : j = (z_rl m r b1 b2 x).1
        · rw [if_pos e, if_pos e, if_pos e, if_pos e]
          exact ⟨rfl, rfl⟩
        · rw [if_neg e, if_neg e, if_neg e, if_neg e]
          have hj2 : j < (z_rl m r b1 b2 x).1 + 1 := hj
          exact h3 j (by omega)
    · rw [z_rl_n hb, z_rl_n hb]
      exact ⟨h1, by dsimp only; rw [h2], h3⟩
set_option maxHeartbeats 4000000 in
theorem c_X3_readLiterals {π : Nat → Nat} {I J : AwI} {k0 cap0 : Int} {ln wt al lg : Nat → Int} {r : Nat} (h : z_M I J) (hr : r < (I 1 6).toNat) : CT m_X3_readLiterals [zr 226, zi (r : Int)] 255 (z_s3 I k0 cap0 ln wt al lg) J (z_R π) (z_P none 255 (z_s3 I ((z_rl (z_clM I J) r ln wt (I 1 5).toNat).1 : Int) (z_rl (z_clM I J) r ln wt (I 1 5).toNat).2.2.2 (z_rl (z_clM I J) r ln wt (I 1 5).toNat).2.1 (z_rl (z_clM I J) r ln wt (I 1 5).toNat).2.2.1 al lg) J (z_R π)) := by
  have hnm := h.nm
  have hrw := h.rw
  refine CT.of (by decide) (Nat.le_of_ble_eq_true rfl) ?_
  show AW _ 0 0 _ 0 [some (zr 226), some (zi (r : Int)), none, none] [] _ _ _
  have loop : ∀ (k : Nat) (x : Nat) (v : Option AwV), (x : Int) ≤ I 1 5 → (x : Int) + k = I 1 5 → AW (FM m_X3_readLiterals (z_P none 255 (z_s3 I ((z_rl (z_clM I J) r ln wt (I 1 5).toNat).1 : Int) (z_rl (z_clM I J) r ln wt (I 1 5).toNat).2.2.2 (z_rl (z_clM I J) r ln wt (I 1 5).toNat).2.1 (z_rl (z_clM I J) r ln wt (I 1 5).toNat).2.2.1 al lg) J (z_R π))) 0 0 255 20 [some (zr 226), some (zi (r : Int)), some (zi (x : Int)), v] [] (z_s3 I ((z_rl (z_clM I J) r ln wt x).1 : Int) (z_rl (z_clM I J) r ln wt x).2.2.2 (z_rl (z_clM I J) r ln wt x).2.1 (z_rl (z_clM I J) r ln wt x).2.2.1 al lg) J (z_R π) := by
    intro k
    induction k with
    | zero =>
      intro x v hx he
      rw [show (I 1 5).toNat = x by omega]
      refine aw_iload_n (pc := 20) dX3_readLiterals_20 rfl ?_
      refine aw_aload_n (pc := 21) dX3_readLiterals_21 rfl ?_
      refine aw_getR (pc := 22) dX3_readLiterals_22 k_fl_X3_24 rfl (by omega) (by first | rfl | exact z_shr _ (by omega) | exact z_shc0 (by omega) | exact z_shc1 (by omega) | exact z_shc2 (by omega) | exact z_shc3 (by omega) | exact z_shc4 (by omega)) (by first | rfl | exact z_Rc0 _ (by omega) | exact z_Rc1 _ (by omega) | exact z_Rc2 _ (by omega) | exact z_Rc3 _ (by omega)) ?_
      refine aw_getV (pc := 25) (v := I 1 5) dX3_readLiterals_25 k_fl_X3_59 rfl (by omega) (by first | rfl | exact z_shr _ (by omega) | exact z_shc0 (by omega) | exact z_shc1 (by omega) | exact z_shc2 (by omega) | exact z_shc3 (by omega) | exact z_shc4 (by omega)) (z_s3_o (by omega)) ?_
      refine aw_icmp_ge (pc := 28) (tgt := 132) dX3_readLiterals_28 rfl (by first | omega | exact z_bl_r _) (by first | omega | exact z_bl_r _) (fun h28 => ?_) (fun h28 => absurd h28 (by omega))
      exact aw_return (pc := 132) dX3_readLiterals_132 rfl ⟨Nat.zero_le _, Nat.zero_le _⟩ (⟨rfl, rfl, rfl, rfl, rfl⟩)
    | succ k ih =>
      intro x v hx he
      refine aw_iload_n (pc := 20) dX3_readLiterals_20 rfl ?_
      refine aw_aload_n (pc := 21) dX3_readLiterals_21 rfl ?_
      refine aw_getR (pc := 22) dX3_readLiterals_22 k_fl_X3_24 rfl (by omega) (by first | rfl | exact z_shr _ (by omega) | exact z_shc0 (by omega) | exact z_shc1 (by omega) | exact z_shc2 (by omega) | exact z_shc3 (by omega) | exact z_shc4 (by omega)) (by first | rfl | exact z_Rc0 _ (by omega) | exact z_Rc1 _ (by omega) | exact z_Rc2 _ (by omega) | exact z_Rc3 _ (by omega)) ?_
      refine aw_getV (pc := 25) (v := I 1 5) dX3_readLiterals_25 k_fl_X3_59 rfl (by omega) (by first | rfl | exact z_shr _ (by omega) | exact z_shc0 (by omega) | exact z_shc1 (by omega) | exact z_shc2 (by omega) | exact z_shc3 (by omega) | exact z_shc4 (by omega)) (z_s3_o (by omega)) ?_
      refine aw_icmp_ge (pc := 28) (tgt := 132) dX3_readLiterals_28 rfl (by first | omega | exact z_bl_r _) (by first | omega | exact z_bl_r _) (fun h28 => absurd h28 (by omega)) (fun h28 => ?_)
      have hxn : x < (I 1 5).toNat := by omega
      have eF : mF (z_clM I J) r x = I (6 + r) x := z_clM_F hr hxn
      have el : mlo (z_clM I J) x = I 2 x := z_clM_lo hxn
      have eh : mhi (z_clM I J) x = I 3 x := z_clM_hi hxn
      have hF := h.fc r x (by omega)
      obtain ⟨hk1, -, -⟩ := z_rl_b (z_clM_mb h) (r := r) (b1 := ln) (b2 := wt) x
      refine aw_aload_n (pc := 31) dX3_readLiterals_31 rfl ?_
      refine aw_getR (pc := 32) dX3_readLiterals_32 k_fl_X3_24 rfl (by omega) (by first | rfl | exact z_shr _ (by omega) | exact z_shc0 (by omega) | exact z_shc1 (by omega) | exact z_shc2 (by omega) | exact z_shc3 (by omega) | exact z_shc4 (by omega)) (by first | rfl | exact z_Rc0 _ (by omega) | exact z_Rc1 _ (by omega) | exact z_Rc2 _ (by omega) | exact z_Rc3 _ (by omega)) ?_
      refine aw_getR (pc := 35) dX3_readLiterals_35 k_fl_X3_62 rfl (by omega) (by first | rfl | exact z_shr _ (by omega) | exact z_shc0 (by omega) | exact z_shc1 (by omega) | exact z_shc2 (by omega) | exact z_shc3 (by omega) | exact z_shc4 (by omega)) (by first | rfl | exact z_Rc0 _ (by omega) | exact z_Rc1 _ (by omega) | exact z_Rc2 _ (by omega) | exact z_Rc3 _ (by omega)) ?_
      refine aw_iload_n (pc := 38) dX3_readLiterals_38 rfl ?_
      refine aw_aaloadG (b := 6 + r) (pc := 39) dX3_readLiterals_39 (by omega) (Nat.le_refl _) rfl (by omega) (by rfl) ?_
      refine aw_iload_n (pc := 40) dX3_readLiterals_40 rfl ?_
      refine aw_ialoadV (pc := 41) (v := I (6 + r) x) dX3_readLiterals_41 (by omega) (Nat.le_refl _) (by first | rfl | exact z_shr _ (by omega) | exact z_shc0 (by omega) | exact z_shc1 (by omega) | exact z_shc2 (by omega) | exact z_shc3 (by omega) | exact z_shc4 (by omega)) (by first | omega | exact z_bl_r _) (z_s3_o (by omega)) ?_
      refine aw_istore_n (pc := 42) (lv' := [_, _, _, _]) dX3_readLiterals_42 (Nat.le_of_ble_eq_true rfl) rfl ?_
      refine aw_aload_n (pc := 43) dX3_readLiterals_43 rfl ?_
      refine aw_getR (pc := 44) dX3_readLiterals_44 k_fl_X3_24 rfl (by omega) (by first | rfl | exact z_shr _ (by omega) | exact z_shc0 (by omega) | exact z_shc1 (by omega) | exact z_shc2 (by omega) | exact z_shc3 (by omega) | exact z_shc4 (by omega)) (by first | rfl | exact z_Rc0 _ (by omega) | exact z_Rc1 _ (by omega) | exact z_Rc2 _ (by omega) | exact z_Rc3 _ (by omega)) ?_
      refine aw_iload_n (pc := 47) dX3_readLiterals_47 rfl ?_
      refine aw_qV (pc := 48) (d := m_X6_isBinary) (c_X6_isBinary h.s3 (by omega)) k_X6_isBinary dX3_readLiterals_48 k_ml_X3_66 rfl ⟨rfl, rfl⟩ (by omega) (by first | rfl | exact z_shr _ (by omega) | exact z_shc0 (by omega) | exact z_shc1 (by omega) | exact z_shc2 (by omega) | exact z_shc3 (by omega) | exact z_shc4 (by omega)) rfl ⟨Nat.le_of_ble_eq_true rfl, Nat.le_of_ble_eq_true rfl⟩ ⟨Nat.zero_le _, Nat.zero_le _⟩ rfl (Nat.le_of_ble_eq_true rfl) (z_Pk ?_)
      refine aw_if_ne (pc := 51) (tgt := 75) dX3_readLiterals_51 rfl (z_bl_r _) (fun h51 => ?_) (fun h51 => ?_)
      · refine aw_iload_n (pc := 75) dX3_readLiterals_75 rfl ?_
        refine aw_if_eq (pc := 76) (tgt := 126) dX3_readLiterals_76 rfl (by omega) (fun h76 => ?_) (fun h76 => ?_)
        · refine aw_iinc (pc := 126) (lv' := [_, _, _, _]) dX3_readLiterals_126 (Nat.le_of_ble_eq_true rfl) rfl rfl ?_
          refine aw_goto (pc := 129) (tgt := 20) dX3_readLiterals_129 rfl ?_
          have K := ih (x + 1) (some (zi (I (6 + r) x))) (by omega) (by omega)
          rw [z_rl_z (by rw [el, eh]; have q2 := z_bl_n.mp h51; rw [z_s3_o (by omega), z_s3_o (by omega)] at q2; exact q2) (by rw [eF]; exact h76)] at K
          rw [show ((x + 1 : Nat) : Int) = (x : Int) + 1 from rfl] at K
          exact K
        · refine aw_aload_n (pc := 79) dX3_readLiterals_79 rfl ?_
          refine aw_getR (pc := 80) dX3_readLiterals_80 k_fl_X3_9 rfl (by omega) (by first | rfl | exact z_shr _ (by omega) | exact z_shc0 (by omega) | exact z_shc1 (by omega) | exact z_shc2 (by omega) | exact z_shc3 (by omega) | exact z_shc4 (by omega)) (by first | rfl | exact z_Rc0 _ (by omega) | exact z_Rc1 _ (by omega) | exact z_Rc2 _ (by omega) | exact z_Rc3 _ (by omega)) ?_
          refine aw_aload_n (pc := 83) dX3_readLiterals_83 rfl ?_
          refine aw_getV (pc := 84) (v := ((z_rl (z_clM I J) r ln wt x).1 : Int)) dX3_readLiterals_84 k_fl_X3_42 rfl (by omega) (by first | rfl | exact z_shr _ (by omega) | exact z_shc0 (by omega) | exact z_shc1 (by omega) | exact z_shc2 (by omega) | exact z_shc3 (by omega) | exact z_shc4 (by omega)) (z_s3_k) ?_
          refine aw_iload_n (pc := 87) dX3_readLiterals_87 rfl ?_
          refine aw_iastore (pc := 88) dX3_readLiterals_88 (by omega) (Nat.le_refl _) (by first | rfl | exact z_shr _ (by omega) | exact z_shc0 (by omega) | exact z_shc1 (by omega) | exact z_shc2 (by omega) | exact z_shc3 (by omega) | exact z_shc4 (by omega)) (by first | omega | exact z_bl_r _) ?_
          rw [z_s3_uln]
          refine aw_aload_n (pc := 89) dX3_readLiterals_89 rfl ?_
          refine aw_getR (pc := 90) dX3_readLiterals_90 k_fl_X3_15 rfl (by omega) (by first | rfl | exact z_shr _ (by omega) | exact z_shc0 (by omega) | exact z_shc1 (by omega) | exact z_shc2 (by omega) | exact z_shc3 (by omega) | exact z_shc4 (by omega)) (by first | rfl | exact z_Rc0 _ (by omega) | exact z_Rc1 _ (by omega) | exact z_Rc2 _ (by omega) | exact z_Rc3 _ (by omega)) ?_
          refine aw_aload_n (pc := 93) dX3_readLiterals_93 rfl ?_
          refine aw_getV (pc := 94) (v := ((z_rl (z_clM I J) r ln wt x).1 : Int)) dX3_readLiterals_94 k_fl_X3_42 rfl (by omega) (by first | rfl | exact z_shr _ (by omega) | exact z_shc0 (by omega) | exact z_shc1 (by omega) | exact z_shc2 (by omega) | exact z_shc3 (by omega) | exact z_shc4 (by omega)) (z_s3_k) ?_
          refine aw_iload_n (pc := 97) dX3_readLiterals_97 rfl ?_
          refine aw_qS (pc := 98) (d := m_J9_abs_0f7a4) (c_abs (by omega)) k_J9_abs_0f7a4 dX3_readLiterals_98 k_ml_X3_73 rfl ⟨rfl, rfl⟩ ⟨Nat.le_of_ble_eq_true rfl, Nat.le_of_ble_eq_true rfl⟩ ⟨Nat.zero_le _, Nat.zero_le _⟩ rfl (Nat.le_of_ble_eq_true rfl) (z_Pk ?_)
          refine aw_iastore (pc := 101) dX3_readLiterals_101 (by omega) (Nat.le_refl _) (by first | rfl | exact z_shr _ (by omega) | exact z_shc0 (by omega) | exact z_shc1 (by omega) | exact z_shc2 (by omega) | exact z_shc3 (by omega) | exact z_shc4 (by omega)) (by first | omega | exact z_bl_r _) ?_
          rw [z_s3_uwt]
          refine aw_aload_n (pc := 102) dX3_readLiterals_102 rfl ?_
          refine aw_dup (pc := 103) dX3_readLiterals_103 (fun _ h => by cases h) ?_
          refine aw_getV (pc := 104) (v := ((z_rl (z_clM I J) r ln wt x).1 : Int)) dX3_readLiterals_104 k_fl_X3_42 rfl (by omega) (by first | rfl | exact z_shr _ (by omega) | exact z_shc0 (by omega) | exact z_shc1 (by omega) | exact z_shc2 (by omega) | exact z_shc3 (by omega) | exact z_shc4 (by omega)) (z_s3_k) ?_
          refine aw_iconst (pc := 107) dX3_readLiterals_107 ?_
          refine aw_iadd (pc := 108) dX3_readLiterals_108 ?_
          refine aw_putI (pc := 109) dX3_readLiterals_109 k_fl_X3_42 rfl (by omega) (by first | rfl | exact z_shr _ (by omega) | exact z_shc0 (by omega) | exact z_shc1 (by omega) | exact z_shc2 (by omega) | exact z_shc3 (by omega) | exact z_shc4 (by omega)) ?_
          rw [z_s3_uk]
          refine aw_iload_n (pc := 112) dX3_readLiterals_112 rfl ?_
          refine aw_if_ge (pc := 113) (tgt := 126) dX3_readLiterals_113 rfl (by omega) (fun h113 => ?_) (fun h113 => ?_)
          · refine aw_iinc (pc := 126) (lv' := [_, _, _, _]) dX3_readLiterals_126 (Nat.le_of_ble_eq_true rfl) rfl rfl ?_
            refine aw_goto (pc := 129) (tgt := 20) dX3_readLiterals_129 rfl ?_
            have K := ih (x + 1) (some (zi (I (6 + r) x))) (by omega) (by omega)
            rw [z_rl_y (by rw [el, eh]; have q2 := z_bl_n.mp h51; rw [z_s3_o (by omega), z_s3_o (by omega)] at q2; exact q2) (by rw [eF]; exact h76), eF, if_neg (by omega)] at K
            rw [show ((x + 1 : Nat) : Int) = (x : Int) + 1 from rfl] at K
            exact K
          · refine aw_aload_n (pc := 116) dX3_readLiterals_116 rfl ?_
            refine aw_dup (pc := 117) dX3_readLiterals_117 (fun _ h => by cases h) ?_
            refine aw_getV (pc := 118) (v := (z_rl (z_clM I J) r ln wt x).2.2.2) dX3_readLiterals_118 k_fl_X3_56 rfl (by omega) (by first | rfl | exact z_shr _ (by omega) | exact z_shc0 (by omega) | exact z_shc1 (by omega) | exact z_shc2 (by omega) | exact z_shc3 (by omega) | exact z_shc4 (by omega)) (z_s3_c) ?_
            refine aw_iload_n (pc := 121) dX3_readLiterals_121 rfl ?_
            refine aw_isub (pc := 122) dX3_readLiterals_122 ?_
            refine aw_putI (pc := 123) dX3_readLiterals_123 k_fl_X3_56 rfl (by omega) (by first | rfl | exact z_shr _ (by omega) | exact z_shc0 (by omega) | exact z_shc1 (by omega) | exact z_shc2 (by omega) | exact z_shc3 (by omega) | exact z_shc4 (by omega)) ?_
            refine aw_iinc (pc := 126) (lv' := [_, _, _, _]) dX3_readLiterals_126 (Nat.le_of_ble_eq_true rfl) rfl rfl ?_
            refine aw_goto (pc := 129) (tgt := 20) dX3_readLiterals_129 rfl ?_
            have K := ih (x + 1) (some (zi (I (6 + r) x))) (by omega) (by omega)
            rw [z_rl_y (by rw [el, eh]; have q2 := z_bl_n.mp h51; rw [z_s3_o (by omega), z_s3_o (by omega)] at q2; exact q2) (by rw [eF]; exact h76), eF, if_pos h113] at K
            rw [z_s3_ucap]
            rw [show ((x + 1 : Nat) : Int) = (x : Int) + 1 from rfl] at K
            exact K
      · refine aw_aload_n (pc := 54) dX3_readLiterals_54 rfl ?_
        refine aw_dup (pc := 55) dX3_readLiterals_55 (fun _ h => by cases h) ?_
        refine aw_getV (pc := 56) (v := (z_rl (z_clM I J) r ln wt x).2.2.2) dX3_readLiterals_56 k_fl_X3_56 rfl (by omega) (by first | rfl | exact z_shr _ (by omega) | exact z_shc0 (by omega) | exact z_shc1 (by omega) | exact z_shc2 (by omega) | exact z_shc3 (by omega) | exact z_shc4 (by omega)) (z_s3_c) ?_
        refine aw_aload_n (pc := 59) dX3_readLiterals_59 rfl ?_
        refine aw_getR (pc := 60) dX3_readLiterals_60 k_fl_X3_24 rfl (by omega) (by first | rfl | exact z_shr _ (by omega) | exact z_shc0 (by omega) | exact z_shc1 (by omega) | exact z_shc2 (by omega) | exact z_shc3 (by omega) | exact z_shc4 (by omega)) (by first | rfl | exact z_Rc0 _ (by omega) | exact z_Rc1 _ (by omega) | exact z_Rc2 _ (by omega) | exact z_Rc3 _ (by omega)) ?_
        refine aw_iload_n (pc := 63) dX3_readLiterals_63 rfl ?_
        refine aw_iload_n (pc := 64) dX3_readLiterals_64 rfl ?_
        refine aw_qV (pc := 65) (d := m_X6_least) (c_X6_least h.s3 (by omega) (by omega)) k_X6_least dX3_readLiterals_65 k_ml_X3_69 rfl ⟨rfl, rfl⟩ (by omega) (by first | rfl | exact z_shr _ (by omega) | exact z_shc0 (by omega) | exact z_shc1 (by omega) | exact z_shc2 (by omega) | exact z_shc3 (by omega) | exact z_shc4 (by omega)) rfl ⟨Nat.le_of_ble_eq_true rfl, Nat.le_of_ble_eq_true rfl⟩ ⟨Nat.zero_le _, Nat.zero_le _⟩ rfl (Nat.le_of_ble_eq_true rfl) (z_Pk ?_)
        refine aw_isub (pc := 68) dX3_readLiterals_68 ?_
        refine aw_putI (pc := 69) dX3_readLiterals_69 k_fl_X3_56 rfl (by omega) (by first | rfl | exact z_shr _ (by omega) | exact z_shc0 (by omega) | exact z_shc1 (by omega) | exact z_shc2 (by omega) | exact z_shc3 (by omega) | exact z_shc4 (by omega)) ?_
        rw [z_s3_ucap]
        refine aw_goto (pc := 72) (tgt := 126) dX3_readLiterals_72 rfl ?_
        refine aw_iinc (pc := 126) (lv' := [_, _, _, _]) dX3_readLiterals_126 (Nat.le_of_ble_eq_true rfl) rfl rfl ?_
        refine aw_goto (pc := 129) (tgt := 20) dX3_readLiterals_129 rfl ?_
        have K := ih (x + 1) (some (zi (I (6 + r) x))) (by omega) (by omega)
        have ec : z_cl (z_s3 I ((z_rl (z_clM I J) r ln wt x).1 : Int) (z_rl (z_clM I J) r ln wt x).2.2.2 (z_rl (z_clM I J) r ln wt x).2.1 (z_rl (z_clM I J) r ln wt x).2.2.1 al lg) r x = z_le (mF (z_clM I J) r x) (mlo (z_clM I J) x) (mhi (z_clM I J) x) := by
          unfold z_cl
          rw [z_s3_o (by omega), z_s3_o (by omega), z_s3_o (by omega), eF, el, eh]
        rw [z_rl_n (by rw [el, eh]; intro q2; exact z_bl_0.mp h51 (by rw [z_s3_o (by omega), z_s3_o (by omega)]; exact q2)), ← ec] at K
        rw [show ((x + 1 : Nat) : Int) = (x : Int) + 1 from rfl] at K
        exact K
  refine aw_aload_n (pc := 0) dX3_readLiterals_0 rfl ?_
  refine aw_iconst (pc := 1) dX3_readLiterals_1 ?_
  refine aw_putI (pc := 2) dX3_readLiterals_2 k_fl_X3_42 rfl (by omega) (by first | rfl | exact z_shr _ (by omega) | exact z_shc0 (by omega) | exact z_shc1 (by omega) | exact z_shc2 (by omega) | exact z_shc3 (by omega) | exact z_shc4 (by omega)) ?_
  rw [z_s3_uk]
  refine aw_aload_n (pc := 5) dX3_readLiterals_5 rfl ?_
  refine aw_aload_n (pc := 6) dX3_readLiterals_6 rfl ?_
  refine aw_getR (pc := 7) dX3_readLiterals_7 k_fl_X3_24 rfl (by omega) (by first | rfl | exact z_shr _ (by omega) | exact z_shc0 (by omega) | exact z_shc1 (by omega) | exact z_shc2 (by omega) | exact z_shc3 (by omega) | exact z_shc4 (by omega)) (by first | rfl | exact z_Rc0 _ (by omega) | exact z_Rc1 _ (by omega) | exact z_Rc2 _ (by omega) | exact z_Rc3 _ (by omega)) ?_
  refine aw_getR (pc := 10) dX3_readLiterals_10 k_fl_X3_53 rfl (by omega) (by first | rfl | exact z_shr _ (by omega) | exact z_shc0 (by omega) | exact z_shc1 (by omega) | exact z_shc2 (by omega) | exact z_shc3 (by omega) | exact z_shc4 (by omega)) (by first | rfl | exact z_Rc0 _ (by omega) | exact z_Rc1 _ (by omega) | exact z_Rc2 _ (by omega) | exact z_Rc3 _ (by omega)) ?_
  refine aw_iload_n (pc := 13) dX3_readLiterals_13 rfl ?_
  refine aw_ialoadV (pc := 14) (v := I 16 r) dX3_readLiterals_14 (by omega) (Nat.le_refl _) (by first | rfl | exact z_shr _ (by omega) | exact z_shc0 (by omega) | exact z_shc1 (by omega) | exact z_shc2 (by omega) | exact z_shc3 (by omega) | exact z_shc4 (by omega)) (by first | omega | exact z_bl_r _) (z_s3_o (by omega)) ?_
  refine aw_putI (pc := 15) dX3_readLiterals_15 k_fl_X3_56 rfl (by omega) (by first | rfl | exact z_shr _ (by omega) | exact z_shc0 (by omega) | exact z_shc1 (by omega) | exact z_shc2 (by omega) | exact z_shc3 (by omega) | exact z_shc4 (by omega)) ?_
  rw [z_s3_ucap]
  refine aw_iconst (pc := 18) dX3_readLiterals_18 ?_
  refine aw_istore_n (pc := 19) (lv' := [_, _, _, _]) dX3_readLiterals_19 (Nat.le_of_ble_eq_true rfl) rfl ?_
  have K := loop (I 1 5).toNat 0 none (by omega) (by omega)
  rw [show z_rl (z_clM I J) r ln wt 0 = (0, ln, wt, mrt (z_clM I J) r) from rfl, z_clM_rt hr] at K
  exact K
/-- a set of literals is a cover without a spare one -/
def z_wsu (wt : Nat → Int) (s k : Nat) : Int := z_sum (fun j => z_bt s j * wt j) k
def z_cov (k : Nat) (wt : Nat → Int) (cap : Int) (s : Nat) : Prop := cap < z_wsu wt s k ∧ ∀ j, j < k → s.testBit j = true → z_wsu wt s k - wt j ≤ cap
theorem z_nbit {s k : Nat} (h : 1 ≤ s) (hk : s < 2 ^ k) : ∃ j, j < k ∧ s.testBit j = true := by
  apply Classical.byContradiction
  intro hn
  have h0 : s = 0 := Nat.eq_of_testBit_eq (fun i => by
    rw [Nat.zero_testBit]
    by_cases hi : i < k
    · cases hb : s.testBit i with
      | false => rfl
      | true => exact absurd ⟨i, hi, hb⟩ hn
    · exact Nat.testBit_lt_two_pow (Nat.lt_of_lt_of_le hk (Nat.pow_le_pow_right (by omega) (by omega))))
  omega
set_option maxHeartbeats 4000000 in
theorem c_X3_isMinimalCover {π : Nat → Nat} {I J : AwI} {cap : Int} {ln wt al lg : Nat → Int} {k s : Nat} (hk : k ≤ 8) (hw : ∀ j, j < k → 1 ≤ wt j ∧ wt j ≤ 50) (hcap : -100000 ≤ cap ∧ cap ≤ 100000) (hs1 : 1 ≤ s) (hs2 : s < 2 ^ k) : CT m_X3_isMinimalCover [zr 226, zi (s : Int)] 255 (z_s3 I (k : Int) cap ln wt al lg) J (z_R π) (z_P (some (zi (z_bl (z_cov k wt cap s)))) 255 (z_s3 I (k : Int) cap ln wt al lg) J (z_R π)) := by
  refine CT.of (by decide) (Nat.le_of_ble_eq_true rfl) ?_
  show AW _ 0 0 _ 0 [some (zr 226), some (zi (s : Int)), none, none, none] [] _ _ _
  have hk2 : 2 ^ k ≤ 2 ^ 8 := Nat.pow_le_pow_right (by omega) hk
  have loop : ∀ (n : Nat) (x : Nat) (mn : Int), (x : Int) + n = k → (∀ j, j < x → s.testBit j = true → mn ≤ wt j) → (mn = 1000000 ∧ (∀ j, j < x → s.testBit j = false) ∨ ∃ j, j < x ∧ s.testBit j = true ∧ mn = wt j) → AW (FM m_X3_isMinimalCover (z_P (some (zi (z_bl (z_cov k wt cap s)))) 255 (z_s3 I (k : Int) cap ln wt al lg) J (z_R π))) 0 0 255 8 [some (zr 226), some (zi (s : Int)), some (zi (z_wsu wt s x)), some (zi mn), some (zi (x : Int))] [] (z_s3 I (k : Int) cap ln wt al lg) J (z_R π) := by
    intro n
    induction n with
    | zero =>
      intro x mn he h2 h3
      refine aw_iload (pc := 8) dX3_isMinimalCover_8 rfl ?_
      refine aw_aload_n (pc := 10) dX3_isMinimalCover_10 rfl ?_
      refine aw_getV (pc := 11) (v := (k : Int)) dX3_isMinimalCover_11 k_fl_X3_42 rfl (by omega) (by first | rfl | exact z_shr _ (by omega) | exact z_shc0 (by omega) | exact z_shc1 (by omega) | exact z_shc2 (by omega) | exact z_shc3 (by omega) | exact z_shc4 (by omega)) (z_s3_k) ?_
      refine aw_icmp_ge (pc := 14) (tgt := 57) dX3_isMinimalCover_14 rfl (by first | omega | exact z_bl_r _) (by first | omega | exact z_bl_r _) (fun h14 => ?_) (fun h14 => absurd h14 (by omega))
      have hxk : x = k := by omega
      subst hxk
      have hwb := z_sum_b (f := fun j => z_bt s j * wt j) 50 x (fun j hj => by have a := z_mulb (a := z_bt s j) (A := 1) (by have := z_bt_b s j; omega) (b := wt j) (B := 50) (by have := hw j hj; omega); omega)
      have hwe : z_wsu wt s x = z_sum (fun j => z_bt s j * wt j) x := rfl
      obtain ⟨j0, hj0, hb0⟩ := z_nbit hs1 hs2
      have hmn : 1 ≤ mn ∧ mn ≤ 50 := by
        rcases h3 with ⟨_, q⟩ | ⟨j, hj, _, q⟩
        · exact absurd hb0 (by rw [q j0 hj0]; decide)
        · have := hw j hj; omega
      refine aw_iload_n (pc := 57) dX3_isMinimalCover_57 rfl ?_
      refine aw_aload_n (pc := 58) dX3_isMinimalCover_58 rfl ?_
      refine aw_getV (pc := 59) (v := cap) dX3_isMinimalCover_59 k_fl_X3_56 rfl (by omega) (by first | rfl | exact z_shr _ (by omega) | exact z_shc0 (by omega) | exact z_shc1 (by omega) | exact z_shc2 (by omega) | exact z_shc3 (by omega) | exact z_shc4 (by omega)) (z_s3_c) ?_
      refine aw_icmp_le (pc := 62) (tgt := 79) dX3_isMinimalCover_62 rfl (by first | omega | exact z_bl_r _) (by first | omega | exact z_bl_r _) (fun h62 => ?_) (fun h62 => ?_)
      · refine aw_iconst (pc := 79) dX3_isMinimalCover_79 ?_
        refine aw_zreturn (pc := 80) dX3_isMinimalCover_80 rfl (by first | exact Or.inl rfl | exact Or.inr rfl | omega) ⟨Nat.zero_le _, Nat.zero_le _⟩ ?_
        first
          | exact ⟨z_r1 ⟨by omega, fun j hj hb => by have := h2 j hj hb; omega⟩, rfl, rfl, rfl, rfl⟩
          | exact ⟨z_r0 (fun q => by obtain ⟨q1, q2⟩ := q; omega), rfl, rfl, rfl, rfl⟩
          | exact ⟨z_r0 (fun q => by
              obtain ⟨q1, q2⟩ := q
              rcases h3 with ⟨_, q⟩ | ⟨j, hj, hb, q⟩
              · exact absurd hb0 (by rw [q j0 hj0]; decide)
              · have := q2 j hj hb; omega), rfl, rfl, rfl, rfl⟩
      · refine aw_iload_n (pc := 65) dX3_isMinimalCover_65 rfl ?_
        refine aw_iload_n (pc := 66) dX3_isMinimalCover_66 rfl ?_
        refine aw_isub (pc := 67) dX3_isMinimalCover_67 ?_
        refine aw_aload_n (pc := 68) dX3_isMinimalCover_68 rfl ?_
        refine aw_getV (pc := 69) (v := cap) dX3_isMinimalCover_69 k_fl_X3_56 rfl (by omega) (by first | rfl | exact z_shr _ (by omega) | exact z_shc0 (by omega) | exact z_shc1 (by omega) | exact z_shc2 (by omega) | exact z_shc3 (by omega) | exact z_shc4 (by omega)) (z_s3_c) ?_
        refine aw_icmp_gt (pc := 72) (tgt := 79) dX3_isMinimalCover_72 rfl (by first | omega | exact z_bl_r _) (by first | omega | exact z_bl_r _) (fun h72 => ?_) (fun h72 => ?_)
        · refine aw_iconst (pc := 79) dX3_isMinimalCover_79 ?_
          refine aw_zreturn (pc := 80) dX3_isMinimalCover_80 rfl (by first | exact Or.inl rfl | exact Or.inr rfl | omega) ⟨Nat.zero_le _, Nat.zero_le _⟩ ?_
          first
            | exact ⟨z_r1 ⟨by omega, fun j hj hb => by have := h2 j hj hb; omega⟩, rfl, rfl, rfl, rfl⟩
            | exact ⟨z_r0 (fun q => by obtain ⟨q1, q2⟩ := q; omega), rfl, rfl, rfl, rfl⟩
            | exact ⟨z_r0 (fun q => by
                obtain ⟨q1, q2⟩ := q
                rcases h3 with ⟨_, q⟩ | ⟨j, hj, hb, q⟩
                · exact absurd hb0 (by rw [q j0 hj0]; decide)
                · have := q2 j hj hb; omega), rfl, rfl, rfl, rfl⟩
        · refine aw_iconst (pc := 75) dX3_isMinimalCover_75 ?_
          refine aw_goto (pc := 76) (tgt := 80) dX3_isMinimalCover_76 rfl ?_
          refine aw_zreturn (pc := 80) dX3_isMinimalCover_80 rfl (by first | exact Or.inl rfl | exact Or.inr rfl | omega) ⟨Nat.zero_le _, Nat.zero_le _⟩ ?_
          first
            | exact ⟨z_r1 ⟨by omega, fun j hj hb => by have := h2 j hj hb; omega⟩, rfl, rfl, rfl, rfl⟩
            | exact ⟨z_r0 (fun q => by obtain ⟨q1, q2⟩ := q; omega), rfl, rfl, rfl, rfl⟩
            | exact ⟨z_r0 (fun q => by
                obtain ⟨q1, q2⟩ := q
                rcases h3 with ⟨_, q⟩ | ⟨j, hj, hb, q⟩
                · exact absurd hb0 (by rw [q j0 hj0]; decide)
                · have := q2 j hj hb; omega), rfl, rfl, rfl, rfl⟩
    | succ n ih =>
      intro x mn he h2 h3
      refine aw_iload (pc := 8) dX3_isMinimalCover_8 rfl ?_
      refine aw_aload_n (pc := 10) dX3_isMinimalCover_10 rfl ?_
      refine aw_getV (pc := 11) (v := (k : Int)) dX3_isMinimalCover_11 k_fl_X3_42 rfl (by omega) (by first | rfl | exact z_shr _ (by omega) | exact z_shc0 (by omega) | exact z_shc1 (by omega) | exact z_shc2 (by omega) | exact z_shc3 (by omega) | exact z_shc4 (by omega)) (z_s3_k) ?_
      refine aw_icmp_ge (pc := 14) (tgt := 57) dX3_isMinimalCover_14 rfl (by first | omega | exact z_bl_r _) (by first | omega | exact z_bl_r _) (fun h14 => absurd h14 (by omega)) (fun h14 => ?_)
      have hwx := hw x (by omega)
      have hmnb : 1 ≤ mn ∧ mn ≤ 1000000 := by
        rcases h3 with ⟨q, _⟩ | ⟨j, hj, _, q⟩
        · omega
        · have := hw j (by omega); omega
      refine aw_iload_n (pc := 17) dX3_isMinimalCover_17 rfl ?_
      refine aw_iload (pc := 18) dX3_isMinimalCover_18 rfl ?_
      refine aw_qN (pc := 20) (d := m_X8_isIn) (c_X8_isIn (s := s) (w := x) (by omega) (by omega)) k_X8_isIn dX3_isMinimalCover_20 k_nl_X3_80 rfl ⟨rfl, rfl⟩ ⟨Nat.le_of_ble_eq_true rfl, Nat.le_of_ble_eq_true rfl⟩ ⟨Nat.zero_le _, Nat.zero_le _⟩ rfl (Nat.le_of_ble_eq_true rfl) (z_Pk ?_)
      refine aw_if_ne (pc := 23) (tgt := 29) dX3_isMinimalCover_23 rfl (z_bl_r _) (fun h23 => ?_) (fun h23 => ?_)
      · refine aw_iload_n (pc := 29) dX3_isMinimalCover_29 rfl ?_
        refine aw_aload_n (pc := 30) dX3_isMinimalCover_30 rfl ?_
        refine aw_getR (pc := 31) dX3_isMinimalCover_31 k_fl_X3_15 rfl (by omega) (by first | rfl | exact z_shr _ (by omega) | exact z_shc0 (by omega) | exact z_shc1 (by omega) | exact z_shc2 (by omega) | exact z_shc3 (by omega) | exact z_shc4 (by omega)) (by first | rfl | exact z_Rc0 _ (by omega) | exact z_Rc1 _ (by omega) | exact z_Rc2 _ (by omega) | exact z_Rc3 _ (by omega)) ?_
        refine aw_iload (pc := 34) dX3_isMinimalCover_34 rfl ?_
        refine aw_ialoadV (pc := 36) (v := wt x) dX3_isMinimalCover_36 (by omega) (Nat.le_refl _) (by first | rfl | exact z_shr _ (by omega) | exact z_shc0 (by omega) | exact z_shc1 (by omega) | exact z_shc2 (by omega) | exact z_shc3 (by omega) | exact z_shc4 (by omega)) (by first | omega | exact z_bl_r _) (z_s3_wt x) ?_
        refine aw_iadd (pc := 37) dX3_isMinimalCover_37 ?_
        refine aw_istore_n (pc := 38) (lv' := [_, _, _, _, _]) dX3_isMinimalCover_38 (Nat.le_of_ble_eq_true rfl) rfl ?_
        refine aw_iload_n (pc := 39) dX3_isMinimalCover_39 rfl ?_
        refine aw_aload_n (pc := 40) dX3_isMinimalCover_40 rfl ?_
        refine aw_getR (pc := 41) dX3_isMinimalCover_41 k_fl_X3_15 rfl (by omega) (by first | rfl | exact z_shr _ (by omega) | exact z_shc0 (by omega) | exact z_shc1 (by omega) | exact z_shc2 (by omega) | exact z_shc3 (by omega) | exact z_shc4 (by omega)) (by first | rfl | exact z_Rc0 _ (by omega) | exact z_Rc1 _ (by omega) | exact z_Rc2 _ (by omega) | exact z_Rc3 _ (by omega)) ?_
        refine aw_iload (pc := 44) dX3_isMinimalCover_44 rfl ?_
        refine aw_ialoadV (pc := 46) (v := wt x) dX3_isMinimalCover_46 (by omega) (Nat.le_refl _) (by first | rfl | exact z_shr _ (by omega) | exact z_shc0 (by omega) | exact z_shc1 (by omega) | exact z_shc2 (by omega) | exact z_shc3 (by omega) | exact z_shc4 (by omega)) (by first | omega | exact z_bl_r _) (z_s3_wt x) ?_
        refine aw_qS (pc := 47) (d := m_J9_min_7cf53) (c_min (by omega) (by omega)) k_J9_min_7cf53 dX3_isMinimalCover_47 k_ml_X3_83 rfl ⟨rfl, rfl⟩ ⟨Nat.le_of_ble_eq_true rfl, Nat.le_of_ble_eq_true rfl⟩ ⟨Nat.zero_le _, Nat.zero_le _⟩ rfl (Nat.le_of_ble_eq_true rfl) (z_Pk ?_)
        refine aw_istore_n (pc := 50) (lv' := [_, _, _, _, _]) dX3_isMinimalCover_50 (Nat.le_of_ble_eq_true rfl) rfl ?_
        refine aw_iinc (pc := 51) (lv' := [_, _, _, _, _]) dX3_isMinimalCover_51 (Nat.le_of_ble_eq_true rfl) rfl rfl ?_
        refine aw_goto (pc := 54) (tgt := 8) dX3_isMinimalCover_54 rfl ?_
        have es : z_wsu wt s (x + 1) = z_wsu wt s x + z_bt s x * wt x := rfl
        rw [show z_bt s x = 1 by unfold z_bt; rw [if_pos (z_bl_n.mp h23)]] at es
        rw [show z_wsu wt s x + wt x = z_wsu wt s (x + 1) by omega]
        have hyb := z_bl_n.mp h23
        have emn : z_mn mn (wt x) ≤ mn ∧ z_mn mn (wt x) ≤ wt x ∧ (z_mn mn (wt x) = mn ∨ z_mn mn (wt x) = wt x) := by unfold z_mn; split <;> omega
        exact ih (x + 1) (z_mn mn (wt x)) (by omega) (fun j hj hb => by by_cases e : j = x; (subst e; omega); have := h2 j (by omega) hb; omega) (Or.inr (by
          rcases emn.2.2 with q | q
          · rcases h3 with ⟨q1, q2⟩ | ⟨j, q1, q2, q3⟩
            · exact ⟨x, by omega, hyb, by omega⟩
            · exact ⟨j, by omega, q2, by omega⟩
          · exact ⟨x, by omega, hyb, q⟩))
      · refine aw_goto (pc := 26) (tgt := 51) dX3_isMinimalCover_26 rfl ?_
        refine aw_iinc (pc := 51) (lv' := [_, _, _, _, _]) dX3_isMinimalCover_51 (Nat.le_of_ble_eq_true rfl) rfl rfl ?_
        refine aw_goto (pc := 54) (tgt := 8) dX3_isMinimalCover_54 rfl ?_
        have es : z_wsu wt s (x + 1) = z_wsu wt s x + z_bt s x * wt x := rfl
        rw [show z_bt s x = 0 by unfold z_bt; rw [if_neg (z_bl_0.mp h23)]] at es
        rw [show z_wsu wt s x = z_wsu wt s (x + 1) by omega]
        have hnb : s.testBit x = false := by cases hb : s.testBit x; rfl; exact absurd hb (z_bl_0.mp h23)
        exact ih (x + 1) mn (by omega) (fun j hj hb => by by_cases e : j = x; (subst e; rw [hnb] at hb; cases hb); exact h2 j (by omega) hb) (h3.elim (fun q => Or.inl ⟨q.1, fun j hj => by by_cases e : j = x; (subst e; exact hnb); exact q.2 j (by omega)⟩) (fun ⟨j, q1, q2, q3⟩ => Or.inr ⟨j, by omega, q2, q3⟩))
  refine aw_iconst (pc := 0) dX3_isMinimalCover_0 ?_
  refine aw_istore_n (pc := 1) (lv' := [_, _, _, _, _]) dX3_isMinimalCover_1 (Nat.le_of_ble_eq_true rfl) rfl ?_
  refine aw_ldc (pc := 2) (v := 1000000) dX3_isMinimalCover_2 k_cst_X3_79 ?_
  refine aw_istore_n (pc := 4) (lv' := [_, _, _, _, _]) dX3_isMinimalCover_4 (Nat.le_of_ble_eq_true rfl) rfl ?_
  refine aw_iconst (pc := 5) dX3_isMinimalCover_5 ?_
  refine aw_istore (pc := 6) (lv' := [_, _, _, _, _]) dX3_isMinimalCover_6 (Nat.le_of_ble_eq_true rfl) rfl ?_
  exact loop k 0 1000000 (by omega) (fun j hj => absurd hj (by omega)) (Or.inl ⟨rfl, fun j hj => absurd hj (by omega)⟩)
