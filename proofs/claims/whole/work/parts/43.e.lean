/-- bounds taken one name after the other -/
def z_D2 (m : z_MM) (sv tl th : Nat → Int) (R0 : Int) (rt : Nat → Int) (x : Nat) (f : Nat → Int) (r : Int) (s : Nat → Int) : Prop :=
  (∀ i, i < 8 → f i = if i < x then sv i - tl i + th i else sv i) ∧ r = R0 + z_sum (fun n => th n * mhi m n - tl n * mlo m n) x ∧ (∀ j, j < mR m → s j = rt j) ∧ (∀ n, n < 8 → s (10 + n) = if n < x then tl n else 0) ∧ (∀ n, n < 8 → s (18 + n) = if n < x then th n else 0) ∧ (∀ j, j < 27 → 0 ≤ s j ∧ s j ≤ 9)
section D2S
variable {m : z_MM} {sv tl th rt f s : Nat → Int} {R0 r : Int} {x : Nat}
theorem z_D2_skip (h : z_D2 m sv tl th R0 rt x f r s) (h1 : tl x = 0) (h2 : th x = 0) : z_D2 m sv tl th R0 rt (x + 1) f r s := by
  obtain ⟨g1, g2, g3, g4, g5, g6⟩ := h
  refine ⟨fun i hi => ?_, ?_, g3, fun n hn => ?_, fun n hn => ?_, g6⟩
  · rw [g1 i hi]
    by_cases e : i = x
    · subst e; rw [if_neg (by omega), if_pos (by omega), h1, h2]; omega
    · by_cases e2 : i < x
      · rw [if_pos e2, if_pos (by omega)]
      · rw [if_neg e2, if_neg (by omega)]
  · rw [g2]
    show _ = R0 + (z_sum _ x + (th x * mhi m x - tl x * mlo m x))
    rw [h1, h2, Int.zero_mul, Int.zero_mul]
    omega
  · rw [g4 n hn]
    by_cases e : n = x
    · subst e; rw [if_neg (by omega), if_pos (by omega), h1]
    · by_cases e2 : n < x
      · rw [if_pos e2, if_pos (by omega)]
      · rw [if_neg e2, if_neg (by omega)]
  · rw [g5 n hn]
    by_cases e : n = x
    · subst e; rw [if_neg (by omega), if_pos (by omega), h2]
    · by_cases e2 : n < x
      · rw [if_pos e2, if_pos (by omega)]
      · rw [if_neg e2, if_neg (by omega)]
theorem z_D2_low (h : z_D2 m sv tl th R0 rt x f r s) (hx : x < 8) (hR : mR m ≤ 10) (hb : 0 ≤ tl x ∧ tl x ≤ 9) (h2 : th x = 0) : z_D2 m sv tl th R0 rt (x + 1) (va_up f x (f x - tl x)) (r - tl x * mlo m x) (va_up s (10 + x) (s (10 + x) + tl x)) := by
  obtain ⟨g1, g2, g3, g4, g5, g6⟩ := h
  have s0 : s (10 + x) = 0 := by rw [g4 x hx, if_neg (by omega)]
  refine ⟨fun i hi => ?_, ?_, fun j hj => by rw [z_vn_ne (by omega)]; exact g3 j hj, fun n hn => ?_, fun n hn => ?_, fun j hj => ?_⟩
  · by_cases e : i = x
    · subst e; rw [z_vs, if_pos (by omega), h2, g1 i hi, if_neg (by omega)]; omega
    · rw [z_vn_ne e, g1 i hi]
      by_cases e2 : i < x
      · rw [if_pos e2, if_pos (by omega)]
      · rw [if_neg e2, if_neg (by omega)]
  · rw [g2]
    show _ = R0 + (z_sum _ x + (th x * mhi m x - tl x * mlo m x))
    rw [h2, Int.zero_mul]
    omega
  · by_cases e : n = x
    · subst e; rw [z_vs, if_pos (by omega), s0]; omega
    · rw [z_vn_ne (by omega), g4 n hn]
      by_cases e2 : n < x
      · rw [if_pos e2, if_pos (by omega)]
      · rw [if_neg e2, if_neg (by omega)]
  · rw [z_vn_ne (by omega), g5 n hn]
    by_cases e : n = x
    · subst e; rw [if_neg (by omega), if_pos (by omega), h2]
    · by_cases e2 : n < x
      · rw [if_pos e2, if_pos (by omega)]
      · rw [if_neg e2, if_neg (by omega)]
  · by_cases e : j = 10 + x
    · rw [e, z_vs, s0]; omega
    · rw [z_vn_ne e]; exact g6 j hj
theorem z_D2_high (h : z_D2 m sv tl th R0 rt x f r s) (hx : x < 8) (hR : mR m ≤ 10) (hb : 0 ≤ th x ∧ th x ≤ 9) (h1 : tl x = 0) : z_D2 m sv tl th R0 rt (x + 1) (va_up f x (f x + th x)) (r + th x * mhi m x) (va_up s (18 + x) (s (18 + x) + th x)) := by
  obtain ⟨g1, g2, g3, g4, g5, g6⟩ := h
  have s0 : s (18 + x) = 0 := by rw [g5 x hx, if_neg (by omega)]
  refine ⟨fun i hi => ?_, ?_, fun j hj => by rw [z_vn_ne (by omega)]; exact g3 j hj, fun n hn => ?_, fun n hn => ?_, fun j hj => ?_⟩
  · by_cases e : i = x
    · subst e; rw [z_vs, if_pos (by omega), h1, g1 i hi, if_neg (by omega)]; omega
    · rw [z_vn_ne e, g1 i hi]
      by_cases e2 : i < x
      · rw [if_pos e2, if_pos (by omega)]
      · rw [if_neg e2, if_neg (by omega)]
  · rw [g2]
    show _ = R0 + (z_sum _ x + (th x * mhi m x - tl x * mlo m x))
    rw [h1, Int.zero_mul]
    omega
  · rw [z_vn_ne (by omega), g4 n hn]
    by_cases e : n = x
    · subst e; rw [if_neg (by omega), if_pos (by omega), h1]
    · by_cases e2 : n < x
      · rw [if_pos e2, if_pos (by omega)]
      · rw [if_neg e2, if_neg (by omega)]
  · by_cases e : n = x
    · subst e; rw [z_vs, if_pos (by omega), s0]; omega
    · rw [z_vn_ne (by omega), g5 n hn]
      by_cases e2 : n < x
      · rw [if_pos e2, if_pos (by omega)]
      · rw [if_neg e2, if_neg (by omega)]
  · by_cases e : j = 18 + x
    · rw [e, z_vs, s0]; omega
    · rw [z_vn_ne e]; exact g6 j hj
theorem z_D2_dC {kd D : Int} (h : z_D2 m sv tl th R0 rt (mN m) f r s) (hN : mN m ≤ 8) (hR : mR m ≤ 10) (hk : kd = 0 ∨ kd = 1) : z_dC m (z_rc m kd D sv tl th R0 rt) (z_pf (fun i => f i / D) f (mN m)) (r / D) kd (va_up s 26 D) := by
  obtain ⟨g1, g2, g3, g4, g5, g6⟩ := h
  refine ⟨fun n hn => ?_, ?_, rfl, rfl, fun _ => ⟨fun j hj => ?_, fun n hn => ?_, fun n hn => ?_, ?_⟩, fun q => ?_⟩
  · rw [z_pf_lt hn, z_rc_f hn, g1 n (by omega), if_pos hn]
  · rw [z_rc_r, g2]
  · rw [z_rc_s, z_vn_ne (by omega), g3 j hj]
    unfold z_rs
    rw [if_pos (by omega), z_mk_in hj]
  · rw [z_rc_s, z_vn_ne (by omega), g4 n (by omega), if_pos hn]
    unfold z_rs
    rw [if_neg (by omega), if_pos (by omega), show 10 + n - 10 = n by omega, z_mk_in hn]
  · rw [z_rc_s, z_vn_ne (by omega), g5 n (by omega), if_pos hn]
    unfold z_rs
    rw [if_neg (by omega), if_neg (by omega), if_pos (by omega), show 18 + n - 18 = n by omega, z_mk_in hn]
  · rw [z_rc_s, z_vs]
    unfold z_rs
    rw [if_neg (by omega), if_neg (by omega), if_neg (by omega), if_pos rfl]
  · have q : kd = 2 := q
    omega
theorem z_D2_b (h : z_D2 m sv tl th R0 rt x f r s) (hx : x ≤ 8) (hm : z_mb m) (hs : ∀ i, i < 8 → -600 ≤ sv i ∧ sv i ≤ 600) (hR0 : -100000 ≤ R0 ∧ R0 ≤ 100000) (hl : ∀ n, 0 ≤ tl n ∧ tl n ≤ 9) (hh : ∀ n, 0 ≤ th n ∧ th n ≤ 9) : (∀ i, i < 8 → -700 ≤ f i ∧ f i ≤ 700) ∧ (-150000 ≤ r ∧ r ≤ 150000) := by
  obtain ⟨g1, g2, -⟩ := h
  refine ⟨fun i hi => ?_, ?_⟩
  · have a := hs i hi
    have b := hl i
    have c := hh i
    rw [g1 i hi]
    split <;> omega
  · have a := z_sum_b (f := fun n => th n * mhi m n - tl n * mlo m n) 540 x (fun k hk => by
      have b := z_mulb (a := th k) (b := mhi m k) (A := 9) (B := 30) (by have := hh k; omega) (hm.2.2.2.1 k)
      have c := z_mulb (a := tl k) (b := mlo m k) (A := 9) (B := 30) (by have := hl k; omega) (hm.2.2.1 k)
      omega)
    omega
end D2S
def z_SQ (I J : AwI) (m : z_MM) (L : List z_CC) (S : List z_CC × Int) (I1 J1 : AwI) : Prop := z_RI I1 J1 m S.1 S.2 ∧ z_FQ I J I1 J1 ∧ I1 237 14 = (S.1.length : Int) - (L.length : Int)
theorem z_RI.rds {I J : AwI} {m : z_MM} {L : List z_CC} {t : Int} (h : z_RI I J m L t) : z_RM I J ∧ z_rfM I J = m ∧ I 237 0 = (mN m : Int) ∧ I 237 4 = (mR m : Int) ∧ (∀ n, n < mN m → I 238 n = mlo m n) ∧ (∀ n, n < mN m → I 239 n = mhi m n) ∧ (∀ n, n < mN m → J 240 n = mpt m n) ∧ (∀ r n, r < mR m → n < mN m → I 242 (8 * r + n) = mF m r n) ∧ (∀ r, r < mR m → I 241 r = mrt m r) ∧ z_mb m ∧ (∀ n, -11088000 ≤ mpt m n ∧ mpt m n ≤ 11088000) ∧ (∀ r n, mN m ≤ n → mF m r n = 0) := by
  obtain ⟨h1, h2, -⟩ := h
  have hnm := h1.nm
  have hrw := h1.rw
  subst h2
  exact ⟨h1, rfl, by show _ = (((I 237 0).toNat : Nat) : Int); omega, by show _ = (((I 237 4).toNat : Nat) : Int); omega, fun n hn => (z_rfM_lo hn).symm, fun n hn => (z_rfM_hi hn).symm, fun n hn => (z_rfM_pt hn).symm, fun r n hr hn => (z_rfM_F hr hn).symm, fun r hr => (z_rfM_rt hr).symm, z_rfM_mb h1, z_mk_b (B := 11088000) (by omega) h1.pt, fun r n hn => z_mkM_F0 hn⟩
theorem z_FQ.off {I J I1 J1 I2 J2 : AwI} {s f : Nat → Int} {r : Int} (h : z_FQ I J I1 J1) (h1 : ∀ a k, (a = 237 → k ≠ 7 ∧ k ≠ 13 ∧ k ≠ 14) → (a < 245 ∨ 247 < a) → I2 a k = z_dI I1 s a k) (h2 : ∀ a k, (a < 243 ∨ 244 < a) → J2 a k = z_dJ J1 f r a k) : z_FQ I J I2 J2 := ⟨fun a k q => by rw [h1 a k (by omega) (by omega), z_dI_o (by omega)]; exact h.1 a k q, fun a k q => by rw [h2 a k (by omega), z_dJ_o (by omega) (by omega)]; exact h.2 a k q⟩
theorem z_fo_s {m : z_MM} {s : List z_CC × Int} {cand : Nat → z_CC} {k j : Nat} (h : k + 1 = j) : z_of m ((z_fo m s cand k).1, (z_fo m s cand k).2) (cand k) = z_fo m s cand j := by
  subst h
  rfl
theorem z_sHb {m : z_MM} (h : z_mb m) (s n : Nat) : -500 ≤ z_sH m s n ∧ z_sH m s n ≤ 500 := by
  have a := z_sum_b (f := fun r => z_bt s r * mF m r n) 50 (mR m) (fun k hk => by
    have b := z_bt_b s k
    have c := z_mulb (a := z_bt s k) (b := mF m k n) (A := 1) (B := 50) (by omega) (h.2.2.2.2.1 k n)
    omega)
  have := h.2.1
  unfold z_sH
  omega
theorem z_rHb {m : z_MM} (h : z_mb m) (s : Nat) : -100000 ≤ z_rH m s ∧ z_rH m s ≤ 100000 := by
  have a := z_sum_b (f := fun r => z_bt s r * mrt m r) 9999 (mR m) (fun k hk => by
    have b := z_bt_b s k
    have c := z_mulb (a := z_bt s k) (b := mrt m k) (A := 1) (B := 9999) (by omega) (h.2.2.2.2.2 k)
    omega)
  have := h.2.1
  unfold z_rH
  omega
theorem z_tlHb (m : z_MM) (s : Nat → Int) (n : Nat) : 0 ≤ z_tlH m s n ∧ z_tlH m s n ≤ 9 := by have := z_tlH_b m s n; omega
theorem z_thHb (m : z_MM) (s : Nat → Int) (n : Nat) : 0 ≤ z_thH m s n ∧ z_thH m s n ≤ 9 := by have := z_thH_b m s n; omega
set_option maxHeartbeats 4000000 in
theorem c_X9_halves {π : Nat → Nat} {I J : AwI} {m : z_MM} {L : List z_CC} (hI : z_RI I J m L 1) (h140 : I 237 14 = 0) : CT m_X9_halves [zr 237] 255 I J (z_R π) (fun q9 sz' I' J' R' => q9 = none ∧ sz' = 255 ∧ R' = z_R π ∧ z_SQ I J m L (z_fo m (L, 1) (fun j => z_cH m (j + 1)) (2 ^ mR m - 1)) I' J') := by
  refine CT.of (by decide) (Nat.le_of_ble_eq_true rfl) ?_
  show AW _ 0 0 _ 0 [some (zr 237), none, none] [] _ _ _
  have loop : ∀ (n : Nat) (set : Nat) (I1 J1 : AwI) (v : Option AwV), set + n = 2 ^ mR m → 1 ≤ set → z_RI I1 J1 m (z_fo m (L, 1) (fun j => z_cH m (j + 1)) (set - 1)).1 (z_fo m (L, 1) (fun j => z_cH m (j + 1)) (set - 1)).2 → z_FQ I J I1 J1 → I1 237 14 = ((z_fo m (L, 1) (fun j => z_cH m (j + 1)) (set - 1)).1.length : Int) - (L.length : Int) → AW (FM m_X9_halves (fun q9 sz' I' J' R' => q9 = none ∧ sz' = 255 ∧ R' = z_R π ∧ z_SQ I J m L (z_fo m (L, 1) (fun j => z_cH m (j + 1)) (2 ^ mR m - 1)) I' J')) 0 0 255 2 [some (zr 237), some (zi (set : Int)), v] [] I1 J1 (z_R π) := by
    intro n
    induction n with
    | zero =>
      intro set I1 J1 v he hs1 h1 hf h14
      obtain ⟨hM1, hm1, e0, e4, elo, ehi, ept, eF, ert, hmb, hptb, hF0⟩ := h1.rds
      have hN8 := hmb.1
      have hR10 := hmb.2.1
      have hp10 : 2 ^ mR m ≤ 2 ^ 10 := Nat.pow_le_pow_right (by omega) hR10
      refine aw_iload_n (pc := 2) dX9_halves_2 rfl ?_
      refine aw_iconst (pc := 3) dX9_halves_3 ?_
      refine aw_aload_n (pc := 4) dX9_halves_4 rfl ?_
      refine aw_getV (pc := 5) (v := (mR m : Int)) dX9_halves_5 k_fl_X9_72 rfl (by omega) (by first | rfl | exact z_shr _ (by omega) | exact z_shc0 (by omega) | exact z_shc1 (by omega) | exact z_shc2 (by omega) | exact z_shc3 (by omega) | exact z_shc4 (by omega)) (e4) ?_
      refine aw_shl1 (pc := 8) dX9_halves_8 (w := mR m) rfl (by omega) ?_
      refine aw_icmp_ge (pc := 9) (tgt := 146) dX9_halves_9 rfl (by omega) (by omega) (fun h9 => ?_) (fun h9 => absurd h9 (by omega))
      exact aw_return (pc := 146) dX9_halves_146 rfl ⟨Nat.zero_le _, Nat.zero_le _⟩ (⟨rfl, rfl, rfl, by rw [show 2 ^ mR m - 1 = set - 1 by omega]; exact ⟨h1, hf, h14⟩⟩)
    | succ n ih =>
      intro set I1 J1 v he hs1 h1 hf h14
      obtain ⟨hM1, hm1, e0, e4, elo, ehi, ept, eF, ert, hmb, hptb, hF0⟩ := h1.rds
      have hN8 := hmb.1
      have hR10 := hmb.2.1
      have hp10 : 2 ^ mR m ≤ 2 ^ 10 := Nat.pow_le_pow_right (by omega) hR10
      refine aw_iload_n (pc := 2) dX9_halves_2 rfl ?_
      refine aw_iconst (pc := 3) dX9_halves_3 ?_
      refine aw_aload_n (pc := 4) dX9_halves_4 rfl ?_
      refine aw_getV (pc := 5) (v := (mR m : Int)) dX9_halves_5 k_fl_X9_72 rfl (by omega) (by first | rfl | exact z_shr _ (by omega) | exact z_shc0 (by omega) | exact z_shc1 (by omega) | exact z_shc2 (by omega) | exact z_shc3 (by omega) | exact z_shc4 (by omega)) (e4) ?_
      refine aw_shl1 (pc := 8) dX9_halves_8 (w := mR m) rfl (by omega) ?_
      refine aw_icmp_ge (pc := 9) (tgt := 146) dX9_halves_9 rfl (by omega) (by omega) (fun h9 => absurd h9 (by omega)) (fun h9 => ?_)
      have hsv : ∀ i, -500 ≤ z_sH m set i ∧ z_sH m set i ≤ 500 := z_sHb hmb set
      have hrh := z_rHb hmb set
      have st2 : ∀ (j2 : Nat) (x : Nat) (f s : Nat → Int) (r : Int), (x : Int) + j2 = (mN m : Int) → z_D2 m (z_sH m set) (z_tlH m (z_sH m set)) (z_thH m (z_sH m set)) (z_rH m set) (z_bt set) x f r s → AW (FM m_X9_halves (fun q9 sz' I' J' R' => q9 = none ∧ sz' = 255 ∧ R' = z_R π ∧ z_SQ I J m L (z_fo m (L, 1) (fun j => z_cH m (j + 1)) (2 ^ mR m - 1)) I' J')) 0 0 255 48 [some (zr 237), some (zi (set : Int)), some (zi (x : Int))] [] (z_dI I1 s) (z_dJ J1 f r) (z_R π) := by
        intro j2
        induction j2 with
        | zero =>
          intro x f s r he2 g
          refine aw_iload_n (pc := 48) dX9_halves_48 rfl ?_
          refine aw_aload_n (pc := 49) dX9_halves_49 rfl ?_
          refine aw_getV (pc := 50) (v := (mN m : Int)) dX9_halves_50 k_fl_X9_66 rfl (by omega) (by first | rfl | exact z_shr _ (by omega) | exact z_shc0 (by omega) | exact z_shc1 (by omega) | exact z_shc2 (by omega) | exact z_shc3 (by omega) | exact z_shc4 (by omega)) ((z_dI_o (by omega)).trans (e0)) ?_
          refine aw_icmp_ge (pc := 53) (tgt := 130) dX9_halves_53 rfl (by first | omega | exact z_bl_r _) (by first | omega | exact z_bl_r _) (fun h53 => ?_) (fun h53 => absurd h53 (by omega))
          have ex : x = mN m := by omega
          subst ex
          obtain ⟨fb, rb⟩ := z_D2_b g hN8 hmb (fun i hi => by have := hsv i; omega) hrh (z_tlHb m _) (z_thHb m _)
          have K2 := c_X9_divide (π := π) (s := s) (f := f) (d := 2) hM1 (by omega) (fun i hi => by have := fb i hi; omega) (r := r) (by omega)
          rw [show (I1 237 0).toNat = mN m by omega] at K2
          have hd := z_D2_dC (kd := 0) (D := 2) g hN8 hR10 (Or.inl rfl)
          have K3 := c_X9_offer (π := π) (L := (z_fo m (L, 1) (fun j => z_cH m (j + 1)) (set - 1)).1) (t := (z_fo m (L, 1) (fun j => z_cH m (j + 1)) (set - 1)).2) (C := z_cH m set) (kd := 0) (f := z_pf (fun i => f i / 2) f (mN m)) (r := r / 2) (s := va_up s 26 2) (by rw [hm1]; exact h1) (by rw [hm1]; exact hd) (fun i hi => by have := fb i hi; show -1000 ≤ (if i < mN m then f i / 2 else f i) ∧ (if i < mN m then f i / 2 else f i) ≤ 1000; split <;> omega) (by omega) (fun j hj => by have := g.2.2.2.2.2 j hj; unfold va_up; split <;> omega) (by omega)
          rw [hm1] at K3
          refine aw_aload_n (pc := 130) dX9_halves_130 rfl ?_
          refine aw_iconst (pc := 131) dX9_halves_131 ?_
          refine aw_qV (pc := 132) (d := m_X9_divide) (K2) k_X9_divide dX9_halves_132 k_ml_X9_115 rfl ⟨rfl, rfl⟩ (by omega) (by first | rfl | exact z_shr _ (by omega) | exact z_shc0 (by omega) | exact z_shc1 (by omega) | exact z_shc2 (by omega) | exact z_shc3 (by omega) | exact z_shc4 (by omega)) rfl ⟨Nat.le_of_ble_eq_true rfl, Nat.le_of_ble_eq_true rfl⟩ ⟨Nat.zero_le _, Nat.zero_le _⟩ rfl (Nat.le_of_ble_eq_true rfl) (z_Pk ?_)
          refine aw_aload_n (pc := 135) dX9_halves_135 rfl ?_
          refine aw_iconst (pc := 136) dX9_halves_136 ?_
          refine aw_qV (pc := 137) (d := m_X9_offer) (K3) k_X9_offer dX9_halves_137 k_ml_X9_118 rfl ⟨rfl, rfl⟩ (by omega) (by first | rfl | exact z_shr _ (by omega) | exact z_shc0 (by omega) | exact z_shc1 (by omega) | exact z_shc2 (by omega) | exact z_shc3 (by omega) | exact z_shc4 (by omega)) rfl ⟨Nat.le_of_ble_eq_true rfl, Nat.le_of_ble_eq_true rfl⟩ ⟨Nat.zero_le _, Nat.zero_le _⟩ rfl (Nat.le_of_ble_eq_true rfl) ?_
          rintro q9 sz2 I2 J2 R2 ⟨rfl, rfl, rfl, o1, o2, o3, o4⟩
          have eS := z_fo_s (m := m) (s := (L, 1)) (cand := (fun j => z_cH m (j + 1))) (k := set - 1) (j := set) (by omega)
          rw [show set - 1 + 1 = set by omega] at eS
          rw [eS] at o1 o2
          refine aw_iinc (pc := 140) (lv' := [_, _, _]) dX9_halves_140 (Nat.le_of_ble_eq_true rfl) rfl rfl ?_
          refine aw_goto (pc := 143) (tgt := 2) dX9_halves_143 rfl ?_
          exact ih (set + 1) I2 J2 _ (by omega) (by omega) (by rw [show set + 1 - 1 = set by omega]; exact o1) (hf.off o3 o4) (by rw [show set + 1 - 1 = set by omega, o2, h14]; omega)
        | succ j2 ih2 =>
          intro x f s r he2 g
          refine aw_iload_n (pc := 48) dX9_halves_48 rfl ?_
          refine aw_aload_n (pc := 49) dX9_halves_49 rfl ?_
          refine aw_getV (pc := 50) (v := (mN m : Int)) dX9_halves_50 k_fl_X9_66 rfl (by omega) (by first | rfl | exact z_shr _ (by omega) | exact z_shc0 (by omega) | exact z_shc1 (by omega) | exact z_shc2 (by omega) | exact z_shc3 (by omega) | exact z_shc4 (by omega)) ((z_dI_o (by omega)).trans (e0)) ?_
          refine aw_icmp_ge (pc := 53) (tgt := 130) dX9_halves_53 rfl (by first | omega | exact z_bl_r _) (by first | omega | exact z_bl_r _) (fun h53 => absurd h53 (by omega)) (fun h53 => ?_)
          have hv := hsv x
          have b1 := hmb.2.2.1 x
          have b2 := hmb.2.2.2.1 x
          have b3 := hptb x
          refine aw_aload_n (pc := 56) dX9_halves_56 rfl ?_
          refine aw_getR (pc := 57) dX9_halves_57 k_fl_X9_45 rfl (by omega) (by first | rfl | exact z_shr _ (by omega) | exact z_shc0 (by omega) | exact z_shc1 (by omega) | exact z_shc2 (by omega) | exact z_shc3 (by omega) | exact z_shc4 (by omega)) (by first | rfl | exact z_Rc0 _ (by omega) | exact z_Rc1 _ (by omega) | exact z_Rc2 _ (by omega) | exact z_Rc3 _ (by omega)) ?_
          refine aw_iload_n (pc := 60) dX9_halves_60 rfl ?_
          refine aw_laloadV (pc := 61) (v := z_sH m set x) dX9_halves_61 (by omega) (Nat.le_refl _) (by first | rfl | exact z_shr _ (by omega) | exact z_shc0 (by omega) | exact z_shc1 (by omega) | exact z_shc2 (by omega) | exact z_shc3 (by omega) | exact z_shc4 (by omega)) (by first | omega | exact z_bl_r _) ((z_dJ_f x).trans ((g.1 x (by omega)).trans (if_neg (by omega)))) ?_
          refine aw_lconst (pc := 62) (v := 1) dX9_halves_62 rfl ?_
          refine aw_land1 (pc := 63) dX9_halves_63 ?_
          refine aw_lconst (pc := 64) (v := 1) dX9_halves_64 rfl ?_
          refine aw_lcmp_ne (pc := 65) (tgt := 124) dX9_halves_65 dX9_halves_66 rfl (by omega) (by omega) (fun h65 => ?_) (fun h65 => ?_)
          · refine aw_iinc (pc := 124) (lv' := [_, _, _]) dX9_halves_124 (Nat.le_of_ble_eq_true rfl) rfl rfl ?_
            refine aw_goto (pc := 127) (tgt := 48) dX9_halves_127 rfl ?_
            have q0 : (z_sH m set) x % 2 = 0 := by omega
            exact ih2 (x + 1) f s r (by omega) (z_D2_skip g (by unfold z_tlH; rw [if_pos q0]) (by unfold z_thH; rw [if_pos q0]))
          · refine aw_aload_n (pc := 69) dX9_halves_69 rfl ?_
            refine aw_getR (pc := 70) dX9_halves_70 k_fl_X9_13 rfl (by omega) (by first | rfl | exact z_shr _ (by omega) | exact z_shc0 (by omega) | exact z_shc1 (by omega) | exact z_shc2 (by omega) | exact z_shc3 (by omega) | exact z_shc4 (by omega)) (by first | rfl | exact z_Rc0 _ (by omega) | exact z_Rc1 _ (by omega) | exact z_Rc2 _ (by omega) | exact z_Rc3 _ (by omega)) ?_
            refine aw_iload_n (pc := 73) dX9_halves_73 rfl ?_
            refine aw_ialoadV (pc := 74) (v := mhi m x) dX9_halves_74 (by omega) (Nat.le_refl _) (by first | rfl | exact z_shr _ (by omega) | exact z_shc0 (by omega) | exact z_shc1 (by omega) | exact z_shc2 (by omega) | exact z_shc3 (by omega) | exact z_shc4 (by omega)) (by first | omega | exact z_bl_r _) ((z_dI_o (by omega)).trans (ehi x (by omega))) ?_
            refine aw_i2l (pc := 75) dX9_halves_75 (by have := hmb.2.2.2.1 x; omega) ?_
            refine aw_ldc2 (pc := 76) (v := 27720) dX9_halves_76 k_cst_X9_82 ?_
            refine aw_lmul (pc := 79) dX9_halves_79 ?_
            refine aw_aload_n (pc := 80) dX9_halves_80 rfl ?_
            refine aw_getR (pc := 81) dX9_halves_81 k_fl_X9_16 rfl (by omega) (by first | rfl | exact z_shr _ (by omega) | exact z_shc0 (by omega) | exact z_shc1 (by omega) | exact z_shc2 (by omega) | exact z_shc3 (by omega) | exact z_shc4 (by omega)) (by first | rfl | exact z_Rc0 _ (by omega) | exact z_Rc1 _ (by omega) | exact z_Rc2 _ (by omega) | exact z_Rc3 _ (by omega)) ?_
            refine aw_iload_n (pc := 84) dX9_halves_84 rfl ?_
            refine aw_laloadV (pc := 85) (v := mpt m x) dX9_halves_85 (by omega) (Nat.le_refl _) (by first | rfl | exact z_shr _ (by omega) | exact z_shc0 (by omega) | exact z_shc1 (by omega) | exact z_shc2 (by omega) | exact z_shc3 (by omega) | exact z_shc4 (by omega)) (by first | omega | exact z_bl_r _) ((z_dJ_o (by omega) (by omega)).trans (ept x (by omega))) ?_
            refine aw_lsub (pc := 86) dX9_halves_86 ?_
            refine aw_aload_n (pc := 87) dX9_halves_87 rfl ?_
            refine aw_getR (pc := 88) dX9_halves_88 k_fl_X9_16 rfl (by omega) (by first | rfl | exact z_shr _ (by omega) | exact z_shc0 (by omega) | exact z_shc1 (by omega) | exact z_shc2 (by omega) | exact z_shc3 (by omega) | exact z_shc4 (by omega)) (by first | rfl | exact z_Rc0 _ (by omega) | exact z_Rc1 _ (by omega) | exact z_Rc2 _ (by omega) | exact z_Rc3 _ (by omega)) ?_
            refine aw_iload_n (pc := 91) dX9_halves_91 rfl ?_
            refine aw_laloadV (pc := 92) (v := mpt m x) dX9_halves_92 (by omega) (Nat.le_refl _) (by first | rfl | exact z_shr _ (by omega) | exact z_shc0 (by omega) | exact z_shc1 (by omega) | exact z_shc2 (by omega) | exact z_shc3 (by omega) | exact z_shc4 (by omega)) (by first | omega | exact z_bl_r _) ((z_dJ_o (by omega) (by omega)).trans (ept x (by omega))) ?_
            refine aw_aload_n (pc := 93) dX9_halves_93 rfl ?_
            refine aw_getR (pc := 94) dX9_halves_94 k_fl_X9_7 rfl (by omega) (by first | rfl | exact z_shr _ (by omega) | exact z_shc0 (by omega) | exact z_shc1 (by omega) | exact z_shc2 (by omega) | exact z_shc3 (by omega) | exact z_shc4 (by omega)) (by first | rfl | exact z_Rc0 _ (by omega) | exact z_Rc1 _ (by omega) | exact z_Rc2 _ (by omega) | exact z_Rc3 _ (by omega)) ?_
            refine aw_iload_n (pc := 97) dX9_halves_97 rfl ?_
            refine aw_ialoadV (pc := 98) (v := mlo m x) dX9_halves_98 (by omega) (Nat.le_refl _) (by first | rfl | exact z_shr _ (by omega) | exact z_shc0 (by omega) | exact z_shc1 (by omega) | exact z_shc2 (by omega) | exact z_shc3 (by omega) | exact z_shc4 (by omega)) (by first | omega | exact z_bl_r _) ((z_dI_o (by omega)).trans (elo x (by omega))) ?_
            refine aw_i2l (pc := 99) dX9_halves_99 (by have := hmb.2.2.1 x; omega) ?_
            refine aw_ldc2 (pc := 100) (v := 27720) dX9_halves_100 k_cst_X9_82 ?_
            refine aw_lmul (pc := 103) dX9_halves_103 ?_
            refine aw_lsub (pc := 104) dX9_halves_104 ?_
            refine aw_lcmp_gt (pc := 105) (tgt := 118) dX9_halves_105 dX9_halves_106 rfl (by omega) (by omega) (fun h105 => ?_) (fun h105 => ?_)
            · refine aw_aload_n (pc := 118) dX9_halves_118 rfl ?_
              refine aw_iload_n (pc := 119) dX9_halves_119 rfl ?_
              refine aw_iconst (pc := 120) dX9_halves_120 ?_
              refine aw_qV (pc := 121) (d := m_X9_takeLow) (c_X9_takeLow hM1 (by omega) (by omega)) k_X9_takeLow dX9_halves_121 k_ml_X9_112 rfl ⟨rfl, rfl⟩ (by omega) (by first | rfl | exact z_shr _ (by omega) | exact z_shc0 (by omega) | exact z_shc1 (by omega) | exact z_shc2 (by omega) | exact z_shc3 (by omega) | exact z_shc4 (by omega)) rfl ⟨Nat.le_of_ble_eq_true rfl, Nat.le_of_ble_eq_true rfl⟩ ⟨Nat.zero_le _, Nat.zero_le _⟩ rfl (Nat.le_of_ble_eq_true rfl) (z_Pk ?_)
              refine aw_iinc (pc := 124) (lv' := [_, _, _]) dX9_halves_124 (Nat.le_of_ble_eq_true rfl) rfl rfl ?_
              refine aw_goto (pc := 127) (tgt := 48) dX9_halves_127 rfl ?_
              have q0 : ¬ (z_sH m set) x % 2 = 0 := by omega
              have hn : ¬ z_hnM m x := by unfold z_hnM; omega
              have t1 : (z_tlH m (z_sH m set)) x = 1 := by unfold z_tlH; rw [if_neg q0, z_if_f hn]
              have t2 : (z_thH m (z_sH m set)) x = 0 := by unfold z_thH; rw [if_neg q0, z_if_f hn]
              have G := z_D2_low g (by omega) hR10 (by omega) t2
              rw [t1] at G
              rw [elo x (by omega)]
              exact ih2 (x + 1) _ _ _ (by omega) G
            · refine aw_aload_n (pc := 109) dX9_halves_109 rfl ?_
              refine aw_iload_n (pc := 110) dX9_halves_110 rfl ?_
              refine aw_iconst (pc := 111) dX9_halves_111 ?_
              refine aw_qV (pc := 112) (d := m_X9_takeHigh) (c_X9_takeHigh hM1 (by omega) (by omega)) k_X9_takeHigh dX9_halves_112 k_ml_X9_108 rfl ⟨rfl, rfl⟩ (by omega) (by first | rfl | exact z_shr _ (by omega) | exact z_shc0 (by omega) | exact z_shc1 (by omega) | exact z_shc2 (by omega) | exact z_shc3 (by omega) | exact z_shc4 (by omega)) rfl ⟨Nat.le_of_ble_eq_true rfl, Nat.le_of_ble_eq_true rfl⟩ ⟨Nat.zero_le _, Nat.zero_le _⟩ rfl (Nat.le_of_ble_eq_true rfl) (z_Pk ?_)
              refine aw_goto (pc := 115) (tgt := 124) dX9_halves_115 rfl ?_
              refine aw_iinc (pc := 124) (lv' := [_, _, _]) dX9_halves_124 (Nat.le_of_ble_eq_true rfl) rfl rfl ?_
              refine aw_goto (pc := 127) (tgt := 48) dX9_halves_127 rfl ?_
              have q0 : ¬ (z_sH m set) x % 2 = 0 := by omega
              have hn : z_hnM m x := by unfold z_hnM; omega
              have t1 : (z_tlH m (z_sH m set)) x = 0 := by unfold z_tlH; rw [if_neg q0, z_if_t hn]
              have t2 : (z_thH m (z_sH m set)) x = 1 := by unfold z_thH; rw [if_neg q0, z_if_t hn]
              have G := z_D2_high g (by omega) hR10 (by omega) t1
              rw [t2] at G
              rw [ehi x (by omega)]
              exact ih2 (x + 1) _ _ _ (by omega) G
      have st1 : ∀ (j1 : Nat) (x : Nat) (f s : Nat → Int) (r : Int), (x : Int) + j1 = (mR m : Int) → (∀ i, i < 8 → f i = z_sum (fun q => z_bt set q * mF m q i) x) → r = z_sum (fun q => z_bt set q * mrt m q) x → (∀ j, j < 27 → s j = if j < x then z_bt set j else 0) → AW (FM m_X9_halves (fun q9 sz' I' J' R' => q9 = none ∧ sz' = 255 ∧ R' = z_R π ∧ z_SQ I J m L (z_fo m (L, 1) (fun j => z_cH m (j + 1)) (2 ^ mR m - 1)) I' J')) 0 0 255 18 [some (zr 237), some (zi (set : Int)), some (zi (x : Int))] [] (z_dI I1 s) (z_dJ J1 f r) (z_R π) := by
        intro j1
        induction j1 with
        | zero =>
          intro x f s r he1 g1 g2 g3
          refine aw_iload_n (pc := 18) dX9_halves_18 rfl ?_
          refine aw_aload_n (pc := 19) dX9_halves_19 rfl ?_
          refine aw_getV (pc := 20) (v := (mR m : Int)) dX9_halves_20 k_fl_X9_72 rfl (by omega) (by first | rfl | exact z_shr _ (by omega) | exact z_shc0 (by omega) | exact z_shc1 (by omega) | exact z_shc2 (by omega) | exact z_shc3 (by omega) | exact z_shc4 (by omega)) ((z_dI_o (by omega)).trans (e4)) ?_
          refine aw_icmp_ge (pc := 23) (tgt := 46) dX9_halves_23 rfl (by first | omega | exact z_bl_r _) (by first | omega | exact z_bl_r _) (fun h23 => ?_) (fun h23 => absurd h23 (by omega))
          refine aw_iconst (pc := 46) dX9_halves_46 ?_
          refine aw_istore_n (pc := 47) (lv' := [_, _, _]) dX9_halves_47 (Nat.le_of_ble_eq_true rfl) rfl ?_
          exact st2 (mN m) 0 f s r (by omega) ⟨fun i hi => by rw [if_neg (by omega), g1 i hi, show x = mR m by omega]; rfl, by rw [g2, show x = mR m by omega]; exact (Int.add_zero _).symm, fun j hj => by rw [g3 j (by omega), if_pos (by omega)], fun n hn => by rw [g3 _ (by omega), if_neg (by omega), if_neg (by omega)], fun n hn => by rw [g3 _ (by omega), if_neg (by omega), if_neg (by omega)], fun j hj => by rw [g3 j hj]; have := z_bt_b set j; split <;> omega⟩
        | succ j1 ih1 =>
          intro x f s r he1 g1 g2 g3
          refine aw_iload_n (pc := 18) dX9_halves_18 rfl ?_
          refine aw_aload_n (pc := 19) dX9_halves_19 rfl ?_
          refine aw_getV (pc := 20) (v := (mR m : Int)) dX9_halves_20 k_fl_X9_72 rfl (by omega) (by first | rfl | exact z_shr _ (by omega) | exact z_shc0 (by omega) | exact z_shc1 (by omega) | exact z_shc2 (by omega) | exact z_shc3 (by omega) | exact z_shc4 (by omega)) ((z_dI_o (by omega)).trans (e4)) ?_
          refine aw_icmp_ge (pc := 23) (tgt := 46) dX9_halves_23 rfl (by first | omega | exact z_bl_r _) (by first | omega | exact z_bl_r _) (fun h23 => absurd h23 (by omega)) (fun h23 => ?_)
          have hbb := z_bt_b set x
          refine aw_iload_n (pc := 26) dX9_halves_26 rfl ?_
          refine aw_iload_n (pc := 27) dX9_halves_27 rfl ?_
          refine aw_shr (pc := 28) dX9_halves_28 (a := set) (w := x) rfl rfl (by omega) (by omega) ?_
          refine aw_iconst (pc := 29) dX9_halves_29 ?_
          refine aw_iand (pc := 30) dX9_halves_30 rfl (b := 1) rfl ?_
          rw [z_btn]
          refine aw_iconst (pc := 31) dX9_halves_31 ?_
          refine aw_icmp_ne (pc := 32) (tgt := 40) dX9_halves_32 rfl (by omega) (by omega) (fun h32 => ?_) (fun h32 => ?_)
          · refine aw_iinc (pc := 40) (lv' := [_, _, _]) dX9_halves_40 (Nat.le_of_ble_eq_true rfl) rfl rfl ?_
            refine aw_goto (pc := 43) (tgt := 18) dX9_halves_43 rfl ?_
            have b0 : z_bt set x = 0 := by omega
            exact ih1 (x + 1) f s r (by omega) (fun i hi => by rw [g1 i hi]; show _ = z_sum _ x + z_bt set x * mF m x i; rw [b0, Int.zero_mul, Int.add_zero]) (by rw [g2]; show _ = z_sum _ x + z_bt set x * mrt m x; rw [b0, Int.zero_mul, Int.add_zero]) (fun j hj => by rw [g3 j hj]; by_cases e : j = x; (rw [e, if_neg (by omega), if_pos (by omega), b0]); (by_cases e2 : j < x; (rw [if_pos e2, if_pos (by omega)]); (rw [if_neg e2, if_neg (by omega)])))
          · refine aw_aload_n (pc := 35) dX9_halves_35 rfl ?_
            refine aw_iload_n (pc := 36) dX9_halves_36 rfl ?_
            refine aw_qV (pc := 37) (d := m_X9_takeRow) (c_X9_takeRow hM1 (by omega)) k_X9_takeRow dX9_halves_37 k_ml_X9_104 rfl ⟨rfl, rfl⟩ (by omega) (by first | rfl | exact z_shr _ (by omega) | exact z_shc0 (by omega) | exact z_shc1 (by omega) | exact z_shc2 (by omega) | exact z_shc3 (by omega) | exact z_shc4 (by omega)) rfl ⟨Nat.le_of_ble_eq_true rfl, Nat.le_of_ble_eq_true rfl⟩ ⟨Nat.zero_le _, Nat.zero_le _⟩ rfl (Nat.le_of_ble_eq_true rfl) (z_Pk ?_)
            refine aw_iinc (pc := 40) (lv' := [_, _, _]) dX9_halves_40 (Nat.le_of_ble_eq_true rfl) rfl rfl ?_
            refine aw_goto (pc := 43) (tgt := 18) dX9_halves_43 rfl ?_
            have b1 : z_bt set x = 1 := by omega
            rw [ert x (by omega), show (I1 237 0).toNat = mN m by omega]
            refine ih1 (x + 1) _ _ _ (by omega) (fun i hi => ?_) ?_ (fun j hj => ?_)
            · show _ = z_sum _ x + z_bt set x * mF m x i
              rw [b1, Int.one_mul, ← g1 i hi]
              by_cases e : i < mN m
              · rw [z_pf_lt e]; show f i + I1 242 (8 * x + i) = _; rw [eF x i (by omega) e]
              · show (if i < mN m then _ else f i) = _; rw [if_neg e, hF0 x i (by omega), Int.add_zero]
            · show _ = z_sum _ x + z_bt set x * mrt m x
              rw [b1, Int.one_mul, ← g2]
            · by_cases e : j = x
              · rw [e, z_vs, if_pos (by omega), b1, g3 x (by omega), if_neg (by omega)]; rfl
              · rw [z_vn_ne e, g3 j hj]; by_cases e2 : j < x; (rw [if_pos e2, if_pos (by omega)]); (rw [if_neg e2, if_neg (by omega)])
      have K1 := c_X9_emptied (π := π) (I := I1) (J := J1) (s := I1 249) (f := J1 248) (r := J1 237 17)
      rw [z_dI_id, z_dJ_id] at K1
      refine aw_aload_n (pc := 12) dX9_halves_12 rfl ?_
      refine aw_qV (pc := 13) (d := m_X9_emptied) (K1) k_X9_emptied dX9_halves_13 k_ml_X9_101 rfl ⟨rfl, rfl⟩ (by omega) (by first | rfl | exact z_shr _ (by omega) | exact z_shc0 (by omega) | exact z_shc1 (by omega) | exact z_shc2 (by omega) | exact z_shc3 (by omega) | exact z_shc4 (by omega)) rfl ⟨Nat.le_of_ble_eq_true rfl, Nat.le_of_ble_eq_true rfl⟩ ⟨Nat.zero_le _, Nat.zero_le _⟩ rfl (Nat.le_of_ble_eq_true rfl) (z_Pk ?_)
      refine aw_iconst (pc := 16) dX9_halves_16 ?_
      refine aw_istore_n (pc := 17) (lv' := [_, _, _]) dX9_halves_17 (Nat.le_of_ble_eq_true rfl) rfl ?_
      exact st1 (mR m) 0 _ _ _ (by omega) (fun i hi => by rw [z_pf_lt hi]; rfl) rfl (fun j hj => by rw [z_pf_lt hj, if_neg (by omega)])
  refine aw_iconst (pc := 0) dX9_halves_0 ?_
  refine aw_istore_n (pc := 1) (lv' := [_, _, _]) dX9_halves_1 (Nat.le_of_ble_eq_true rfl) rfl ?_
  exact loop (2 ^ mR m - 1) 1 I J _ (by have := Nat.one_le_two_pow (n := mR m); omega) (by omega) hI z_FQ.rf (by rw [h140]; show _ = (L.length : Int) - L.length; omega)
set_option maxHeartbeats 4000000 in
theorem c_X9_rounded {π : Nat → Nat} {I J : AwI} {m : z_MM} {L : List z_CC} (hI : z_RI I J m L 1) (h140 : I 237 14 = 0) : CT m_X9_rounded [zr 237] 255 I J (z_R π) (fun q9 sz' I' J' R' => q9 = none ∧ sz' = 255 ∧ R' = z_R π ∧ z_SQ I J m L (z_fo m (L, 1) (fun j => z_cR m (j / 8) ((j % 8 : Nat) + 2)) (8 * mR m)) I' J') := by
  refine CT.of (by decide) (Nat.le_of_ble_eq_true rfl) ?_
  show AW _ 0 0 _ 0 [some (zr 237), none, none, none, none] [] _ _ _
  have loop : ∀ (nr : Nat) (rr : Nat) (I1 J1 : AwI) (u v w : Option AwV), rr + nr = mR m → z_RI I1 J1 m (z_fo m (L, 1) (fun j => z_cR m (j / 8) ((j % 8 : Nat) + 2)) (8 * rr)).1 (z_fo m (L, 1) (fun j => z_cR m (j / 8) ((j % 8 : Nat) + 2)) (8 * rr)).2 → z_FQ I J I1 J1 → I1 237 14 = ((z_fo m (L, 1) (fun j => z_cR m (j / 8) ((j % 8 : Nat) + 2)) (8 * rr)).1.length : Int) - (L.length : Int) → AW (FM m_X9_rounded (fun q9 sz' I' J' R' => q9 = none ∧ sz' = 255 ∧ R' = z_R π ∧ z_SQ I J m L (z_fo m (L, 1) (fun j => z_cR m (j / 8) ((j % 8 : Nat) + 2)) (8 * mR m)) I' J')) 0 0 255 2 [some (zr 237), some (zi (rr : Int)), u, v, w] [] I1 J1 (z_R π) := by
    intro nr
    induction nr with
    | zero =>
      intro rr I1 J1 u v w he h1 hf h14
      obtain ⟨hM1, hm1, e0, e4, elo, ehi, ept, eF, ert, hmb, hptb, hF0⟩ := h1.rds
      have hN8 := hmb.1
      have hR10 := hmb.2.1
      refine aw_iload_n (pc := 2) dX9_rounded_2 rfl ?_
      refine aw_aload_n (pc := 3) dX9_rounded_3 rfl ?_
      refine aw_getV (pc := 4) (v := (mR m : Int)) dX9_rounded_4 k_fl_X9_72 rfl (by omega) (by first | rfl | exact z_shr _ (by omega) | exact z_shc0 (by omega) | exact z_shc1 (by omega) | exact z_shc2 (by omega) | exact z_shc3 (by omega) | exact z_shc4 (by omega)) (e4) ?_
      refine aw_icmp_ge (pc := 7) (tgt := 158) dX9_rounded_7 rfl (by first | omega | exact z_bl_r _) (by first | omega | exact z_bl_r _) (fun h7 => ?_) (fun h7 => absurd h7 (by omega))
      exact aw_return (pc := 158) dX9_rounded_158 rfl ⟨Nat.zero_le _, Nat.zero_le _⟩ (⟨rfl, rfl, rfl, by rw [show 8 * mR m = 8 * rr by omega]; exact ⟨h1, hf, h14⟩⟩)
    | succ nr ihr =>
      intro rr I1 J1 u v w he h1 hf h14
      obtain ⟨hM1, hm1, e0, e4, elo, ehi, ept, eF, ert, hmb, hptb, hF0⟩ := h1.rds
      have hN8 := hmb.1
      have hR10 := hmb.2.1
      refine aw_iload_n (pc := 2) dX9_rounded_2 rfl ?_
      refine aw_aload_n (pc := 3) dX9_rounded_3 rfl ?_
      refine aw_getV (pc := 4) (v := (mR m : Int)) dX9_rounded_4 k_fl_X9_72 rfl (by omega) (by first | rfl | exact z_shr _ (by omega) | exact z_shc0 (by omega) | exact z_shc1 (by omega) | exact z_shc2 (by omega) | exact z_shc3 (by omega) | exact z_shc4 (by omega)) (e4) ?_
      refine aw_icmp_ge (pc := 7) (tgt := 158) dX9_rounded_7 rfl (by first | omega | exact z_bl_r _) (by first | omega | exact z_bl_r _) (fun h7 => absurd h7 (by omega)) (fun h7 => ?_)
      have dl : ∀ (n : Nat) (d : Nat) (I1 J1 : AwI) (v w : Option AwV), d + n = 10 → 2 ≤ d → z_RI I1 J1 m (z_fo m (L, 1) (fun j => z_cR m (j / 8) ((j % 8 : Nat) + 2)) (8 * rr + (d - 2))).1 (z_fo m (L, 1) (fun j => z_cR m (j / 8) ((j % 8 : Nat) + 2)) (8 * rr + (d - 2))).2 → z_FQ I J I1 J1 → I1 237 14 = ((z_fo m (L, 1) (fun j => z_cR m (j / 8) ((j % 8 : Nat) + 2)) (8 * rr + (d - 2))).1.length : Int) - (L.length : Int) → AW (FM m_X9_rounded (fun q9 sz' I' J' R' => q9 = none ∧ sz' = 255 ∧ R' = z_R π ∧ z_SQ I J m L (z_fo m (L, 1) (fun j => z_cR m (j / 8) ((j % 8 : Nat) + 2)) (8 * mR m)) I' J')) 0 0 255 12 [some (zr 237), some (zi (rr : Int)), some (zi (d : Int)), v, w] [] I1 J1 (z_R π) := by
        intro n
        induction n with
        | zero =>
          intro d I1 J1 v w he hd2 h1 hf h14
          refine aw_iload_n (pc := 12) dX9_rounded_12 rfl ?_
          refine aw_bipush (pc := 13) dX9_rounded_13 rfl ?_
          refine aw_icmp_gt (pc := 15) (tgt := 152) dX9_rounded_15 rfl (by first | omega | exact z_bl_r _) (by first | omega | exact z_bl_r _) (fun h15 => ?_) (fun h15 => absurd h15 (by omega))
          refine aw_iinc (pc := 152) (lv' := [_, _, _, _, _]) dX9_rounded_152 (Nat.le_of_ble_eq_true rfl) rfl rfl ?_
          refine aw_goto (pc := 155) (tgt := 2) dX9_rounded_155 rfl ?_
          exact ihr (rr + 1) I1 J1 _ _ _ (by omega) (by rw [show 8 * (rr + 1) = 8 * rr + (d - 2) by omega]; exact h1) hf (by rw [show 8 * (rr + 1) = 8 * rr + (d - 2) by omega]; exact h14)
        | succ n ih =>
          intro d I1 J1 v w he hd2 h1 hf h14
          refine aw_iload_n (pc := 12) dX9_rounded_12 rfl ?_
          refine aw_bipush (pc := 13) dX9_rounded_13 rfl ?_
          refine aw_icmp_gt (pc := 15) (tgt := 152) dX9_rounded_15 rfl (by first | omega | exact z_bl_r _) (by first | omega | exact z_bl_r _) (fun h15 => absurd h15 (by omega)) (fun h15 => ?_)
          obtain ⟨hM1, hm1, e0, e4, elo, ehi, ept, eF, ert, hmb, hptb, hF0⟩ := h1.rds
          have hN8 := hmb.1
          have hR10 := hmb.2.1
          have hdd : 2 ≤ (d : Int) ∧ (d : Int) ≤ 9 := by omega
          have st2 : ∀ (j2 : Nat) (x : Nat) (f s : Nat → Int) (r : Int) (v : Option AwV), (x : Int) + j2 = (mN m : Int) → z_D2 m (mF m rr) (z_tlR m (d : Int) (mF m rr)) (z_thR m (d : Int) (mF m rr)) (mrt m rr) (fun j => if j = rr then 1 else 0) x f r s → AW (FM m_X9_rounded (fun q9 sz' I' J' R' => q9 = none ∧ sz' = 255 ∧ R' = z_R π ∧ z_SQ I J m L (z_fo m (L, 1) (fun j => z_cR m (j / 8) ((j % 8 : Nat) + 2)) (8 * mR m)) I' J')) 0 0 255 29 [some (zr 237), some (zi (rr : Int)), some (zi (d : Int)), some (zi (x : Int)), v] [] (z_dI I1 s) (z_dJ J1 f r) (z_R π) := by
            intro j2
            induction j2 with
            | zero =>
              intro x f s r v he2 g
              refine aw_iload_n (pc := 29) dX9_rounded_29 rfl ?_
              refine aw_aload_n (pc := 30) dX9_rounded_30 rfl ?_
              refine aw_getV (pc := 31) (v := (mN m : Int)) dX9_rounded_31 k_fl_X9_66 rfl (by omega) (by first | rfl | exact z_shr _ (by omega) | exact z_shc0 (by omega) | exact z_shc1 (by omega) | exact z_shc2 (by omega) | exact z_shc3 (by omega) | exact z_shc4 (by omega)) ((z_dI_o (by omega)).trans (e0)) ?_
              refine aw_icmp_ge (pc := 34) (tgt := 136) dX9_rounded_34 rfl (by first | omega | exact z_bl_r _) (by first | omega | exact z_bl_r _) (fun h34 => ?_) (fun h34 => absurd h34 (by omega))
              have ex : x = mN m := by omega
              subst ex
              obtain ⟨fb, rb⟩ := z_D2_b g hN8 hmb (fun i hi => by have := hmb.2.2.2.2.1 rr i; omega) (by have := hmb.2.2.2.2.2 rr; omega) (z_tlR_b m hdd _) (z_thR_b m hdd _)
              have fd : ∀ i, i < 8 → -1000 ≤ f i / (d : Int) ∧ f i / (d : Int) ≤ 1000 := fun i hi => by have := fb i hi; have := z_edb (f i) (d := (d : Int)) (by omega); omega
              have rd := z_edb r (d := (d : Int)) (by omega)
              have K2 := c_X9_divide (π := π) (s := s) (f := f) (d := (d : Int)) hM1 (by omega) (fun i hi => by have := fb i hi; omega) (r := r) (by omega)
              rw [show (I1 237 0).toNat = mN m by omega] at K2
              have hd := z_D2_dC (kd := 1) (D := (d : Int)) g hN8 hR10 (Or.inr rfl)
              have K3 := c_X9_offer (π := π) (L := (z_fo m (L, 1) (fun j => z_cR m (j / 8) ((j % 8 : Nat) + 2)) (8 * rr + (d - 2))).1) (t := (z_fo m (L, 1) (fun j => z_cR m (j / 8) ((j % 8 : Nat) + 2)) (8 * rr + (d - 2))).2) (C := z_cR m rr (d : Int)) (kd := 1) (f := z_pf (fun i => f i / (d : Int)) f (mN m)) (r := r / (d : Int)) (s := va_up s 26 (d : Int)) (by rw [hm1]; exact h1) (by rw [hm1]; exact hd) (fun i hi => by have := fb i hi; have := fd i hi; show -1000 ≤ (if i < mN m then f i / (d : Int) else f i) ∧ (if i < mN m then f i / (d : Int) else f i) ≤ 1000; split <;> omega) (by omega) (fun j hj => by have := g.2.2.2.2.2 j hj; unfold va_up; split <;> omega) (by omega)
              rw [hm1] at K3
              refine aw_aload_n (pc := 136) dX9_rounded_136 rfl ?_
              refine aw_iload_n (pc := 137) dX9_rounded_137 rfl ?_
              refine aw_qV (pc := 138) (d := m_X9_divide) (K2) k_X9_divide dX9_rounded_138 k_ml_X9_115 rfl ⟨rfl, rfl⟩ (by omega) (by first | rfl | exact z_shr _ (by omega) | exact z_shc0 (by omega) | exact z_shc1 (by omega) | exact z_shc2 (by omega) | exact z_shc3 (by omega) | exact z_shc4 (by omega)) rfl ⟨Nat.le_of_ble_eq_true rfl, Nat.le_of_ble_eq_true rfl⟩ ⟨Nat.zero_le _, Nat.zero_le _⟩ rfl (Nat.le_of_ble_eq_true rfl) (z_Pk ?_)
              refine aw_aload_n (pc := 141) dX9_rounded_141 rfl ?_
              refine aw_iconst (pc := 142) dX9_rounded_142 ?_
              refine aw_qV (pc := 143) (d := m_X9_offer) (K3) k_X9_offer dX9_rounded_143 k_ml_X9_118 rfl ⟨rfl, rfl⟩ (by omega) (by first | rfl | exact z_shr _ (by omega) | exact z_shc0 (by omega) | exact z_shc1 (by omega) | exact z_shc2 (by omega) | exact z_shc3 (by omega) | exact z_shc4 (by omega)) rfl ⟨Nat.le_of_ble_eq_true rfl, Nat.le_of_ble_eq_true rfl⟩ ⟨Nat.zero_le _, Nat.zero_le _⟩ rfl (Nat.le_of_ble_eq_true rfl) ?_
              rintro q9 sz2 I2 J2 R2 ⟨rfl, rfl, rfl, o1, o2, o3, o4⟩
              have eS := z_fo_s (m := m) (s := (L, 1)) (cand := (fun j => z_cR m (j / 8) ((j % 8 : Nat) + 2))) (k := 8 * rr + (d - 2)) (j := 8 * rr + (d + 1 - 2)) (by omega)
              rw [show (8 * rr + (d - 2)) / 8 = rr by omega, show (((8 * rr + (d - 2)) % 8 : Nat) : Int) + 2 = (d : Int) by omega] at eS
              rw [eS] at o1 o2
              refine aw_iinc (pc := 146) (lv' := [_, _, _, _, _]) dX9_rounded_146 (Nat.le_of_ble_eq_true rfl) rfl rfl ?_
              refine aw_goto (pc := 149) (tgt := 12) dX9_rounded_149 rfl ?_
              exact ih (d + 1) I2 J2 _ _ (by omega) (by omega) o1 (hf.off o3 o4) (by rw [o2, h14]; omega)
            | succ j2 ih2 =>
              intro x f s r v he2 g
              refine aw_iload_n (pc := 29) dX9_rounded_29 rfl ?_
              refine aw_aload_n (pc := 30) dX9_rounded_30 rfl ?_
              refine aw_getV (pc := 31) (v := (mN m : Int)) dX9_rounded_31 k_fl_X9_66 rfl (by omega) (by first | rfl | exact z_shr _ (by omega) | exact z_shc0 (by omega) | exact z_shc1 (by omega) | exact z_shc2 (by omega) | exact z_shc3 (by omega) | exact z_shc4 (by omega)) ((z_dI_o (by omega)).trans (e0)) ?_
              refine aw_icmp_ge (pc := 34) (tgt := 136) dX9_rounded_34 rfl (by first | omega | exact z_bl_r _) (by first | omega | exact z_bl_r _) (fun h34 => absurd h34 (by omega)) (fun h34 => ?_)
              have hv := hmb.2.2.2.2.1 rr x
              have b1 := hmb.2.2.1 x
              have b2 := hmb.2.2.2.1 x
              have b3 := hptb x
              have q1 := Int.emod_nonneg (mF m rr x) (show (d : Int) ≠ 0 by omega)
              have q2 := Int.emod_lt_of_pos (mF m rr x) (show 0 < (d : Int) by omega)
              have p1 := z_mulb (a := (mF m rr x % (d : Int))) (b := mpt m x - mlo m x * 27720) (A := 9) (B := 20000000) (by omega) (by omega)
              have p2 := z_mulb (a := (d : Int) - (mF m rr x % (d : Int))) (b := mhi m x * 27720 - mpt m x) (A := 9) (B := 20000000) (by omega) (by omega)
              have el : z_lcM m x (mF m rr x % (d : Int)) (d : Int) ↔ (mF m rr x % (d : Int)) * (mpt m x - mlo m x * 27720) ≤ ((d : Int) - (mF m rr x % (d : Int))) * (mhi m x * 27720 - mpt m x) := by unfold z_lcM; rw [Int.mul_comm 27720 (mlo m x), Int.mul_comm 27720 (mhi m x)]
              refine aw_aload_n (pc := 37) dX9_rounded_37 rfl ?_
              refine aw_getR (pc := 38) dX9_rounded_38 k_fl_X9_45 rfl (by omega) (by first | rfl | exact z_shr _ (by omega) | exact z_shc0 (by omega) | exact z_shc1 (by omega) | exact z_shc2 (by omega) | exact z_shc3 (by omega) | exact z_shc4 (by omega)) (by first | rfl | exact z_Rc0 _ (by omega) | exact z_Rc1 _ (by omega) | exact z_Rc2 _ (by omega) | exact z_Rc3 _ (by omega)) ?_
              refine aw_iload_n (pc := 41) dX9_rounded_41 rfl ?_
              refine aw_laloadV (pc := 42) (v := mF m rr x) dX9_rounded_42 (by omega) (Nat.le_refl _) (by first | rfl | exact z_shr _ (by omega) | exact z_shc0 (by omega) | exact z_shc1 (by omega) | exact z_shc2 (by omega) | exact z_shc3 (by omega) | exact z_shc4 (by omega)) (by first | omega | exact z_bl_r _) ((z_dJ_f x).trans ((g.1 x (by omega)).trans (if_neg (by omega)))) ?_
              refine aw_iload_n (pc := 43) dX9_rounded_43 rfl ?_
              refine aw_i2l (pc := 44) dX9_rounded_44 (by omega) ?_
              refine aw_qS (pc := 45) (d := m_J9_floorMod_f86c9) (c_floorModL (by omega) (by omega)) k_J9_floorMod_f86c9 dX9_rounded_45 k_ml_X9_121 rfl ⟨rfl, rfl⟩ ⟨Nat.le_of_ble_eq_true rfl, Nat.le_of_ble_eq_true rfl⟩ ⟨Nat.zero_le _, Nat.zero_le _⟩ rfl (Nat.le_of_ble_eq_true rfl) (z_Pk ?_)
              refine aw_l2i (pc := 48) dX9_rounded_48 ?_
              refine aw_istore (pc := 49) (lv' := [_, _, _, _, _]) dX9_rounded_49 (Nat.le_of_ble_eq_true rfl) rfl ?_
              refine aw_iload (pc := 51) dX9_rounded_51 rfl ?_
              refine aw_if_le (pc := 53) (tgt := 116) dX9_rounded_53 rfl (by first | omega | exact z_bl_r _) (fun h53 => ?_) (fun h53 => ?_)
              · refine aw_iload (pc := 116) dX9_rounded_116 rfl ?_
                refine aw_if_le (pc := 118) (tgt := 130) dX9_rounded_118 rfl (by first | omega | exact z_bl_r _) (fun h118 => ?_) (fun h118 => ?_)
                · refine aw_iinc (pc := 130) (lv' := [_, _, _, _, _]) dX9_rounded_130 (Nat.le_of_ble_eq_true rfl) rfl rfl ?_
                  refine aw_goto (pc := 133) (tgt := 29) dX9_rounded_133 rfl ?_
                  exact ih2 (x + 1) f s r _ (by omega) (z_D2_skip g (by unfold z_tlR; rw [z_if_f (fun q => q.1 (by omega))]) (by unfold z_thR; rw [z_if_f (fun q => q.1 (by omega))]))
                · refine aw_aload_n (pc := 121) dX9_rounded_121 rfl ?_
                  refine aw_iload_n (pc := 122) dX9_rounded_122 rfl ?_
                  refine aw_iload_n (pc := 123) dX9_rounded_123 rfl ?_
                  refine aw_iload (pc := 124) dX9_rounded_124 rfl ?_
                  refine aw_isub (pc := 126) dX9_rounded_126 ?_
                  refine aw_qV (pc := 127) (d := m_X9_takeHigh) (c_X9_takeHigh hM1 (by omega) (by omega)) k_X9_takeHigh dX9_rounded_127 k_ml_X9_108 rfl ⟨rfl, rfl⟩ (by omega) (by first | rfl | exact z_shr _ (by omega) | exact z_shc0 (by omega) | exact z_shc1 (by omega) | exact z_shc2 (by omega) | exact z_shc3 (by omega) | exact z_shc4 (by omega)) rfl ⟨Nat.le_of_ble_eq_true rfl, Nat.le_of_ble_eq_true rfl⟩ ⟨Nat.zero_le _, Nat.zero_le _⟩ rfl (Nat.le_of_ble_eq_true rfl) (z_Pk ?_)
                  refine aw_iinc (pc := 130) (lv' := [_, _, _, _, _]) dX9_rounded_130 (Nat.le_of_ble_eq_true rfl) rfl rfl ?_
                  refine aw_goto (pc := 133) (tgt := 29) dX9_rounded_133 rfl ?_
                  exfalso; omega
              · refine aw_iload (pc := 56) dX9_rounded_56 rfl ?_
                refine aw_i2l (pc := 58) dX9_rounded_58 (by omega) ?_
                refine aw_aload_n (pc := 59) dX9_rounded_59 rfl ?_
                refine aw_getR (pc := 60) dX9_rounded_60 k_fl_X9_16 rfl (by omega) (by first | rfl | exact z_shr _ (by omega) | exact z_shc0 (by omega) | exact z_shc1 (by omega) | exact z_shc2 (by omega) | exact z_shc3 (by omega) | exact z_shc4 (by omega)) (by first | rfl | exact z_Rc0 _ (by omega) | exact z_Rc1 _ (by omega) | exact z_Rc2 _ (by omega) | exact z_Rc3 _ (by omega)) ?_
                refine aw_iload_n (pc := 63) dX9_rounded_63 rfl ?_
                refine aw_laloadV (pc := 64) (v := mpt m x) dX9_rounded_64 (by omega) (Nat.le_refl _) (by first | rfl | exact z_shr _ (by omega) | exact z_shc0 (by omega) | exact z_shc1 (by omega) | exact z_shc2 (by omega) | exact z_shc3 (by omega) | exact z_shc4 (by omega)) (by first | omega | exact z_bl_r _) ((z_dJ_o (by omega) (by omega)).trans (ept x (by omega))) ?_
                refine aw_aload_n (pc := 65) dX9_rounded_65 rfl ?_
                refine aw_getR (pc := 66) dX9_rounded_66 k_fl_X9_7 rfl (by omega) (by first | rfl | exact z_shr _ (by omega) | exact z_shc0 (by omega) | exact z_shc1 (by omega) | exact z_shc2 (by omega) | exact z_shc3 (by omega) | exact z_shc4 (by omega)) (by first | rfl | exact z_Rc0 _ (by omega) | exact z_Rc1 _ (by omega) | exact z_Rc2 _ (by omega) | exact z_Rc3 _ (by omega)) ?_
                refine aw_iload_n (pc := 69) dX9_rounded_69 rfl ?_
                refine aw_ialoadV (pc := 70) (v := mlo m x) dX9_rounded_70 (by omega) (Nat.le_refl _) (by first | rfl | exact z_shr _ (by omega) | exact z_shc0 (by omega) | exact z_shc1 (by omega) | exact z_shc2 (by omega) | exact z_shc3 (by omega) | exact z_shc4 (by omega)) (by first | omega | exact z_bl_r _) ((z_dI_o (by omega)).trans (elo x (by omega))) ?_
                refine aw_i2l (pc := 71) dX9_rounded_71 (by omega) ?_
                refine aw_ldc2 (pc := 72) (v := 27720) dX9_rounded_72 k_cst_X9_82 ?_
                refine aw_lmul (pc := 75) dX9_rounded_75 ?_
                refine aw_lsub (pc := 76) dX9_rounded_76 ?_
                refine aw_lmul (pc := 77) dX9_rounded_77 ?_
                refine aw_iload_n (pc := 78) dX9_rounded_78 rfl ?_
                refine aw_iload (pc := 79) dX9_rounded_79 rfl ?_
                refine aw_isub (pc := 81) dX9_rounded_81 ?_
                refine aw_i2l (pc := 82) dX9_rounded_82 (by omega) ?_
                refine aw_aload_n (pc := 83) dX9_rounded_83 rfl ?_
                refine aw_getR (pc := 84) dX9_rounded_84 k_fl_X9_13 rfl (by omega) (by first | rfl | exact z_shr _ (by omega) | exact z_shc0 (by omega) | exact z_shc1 (by omega) | exact z_shc2 (by omega) | exact z_shc3 (by omega) | exact z_shc4 (by omega)) (by first | rfl | exact z_Rc0 _ (by omega) | exact z_Rc1 _ (by omega) | exact z_Rc2 _ (by omega) | exact z_Rc3 _ (by omega)) ?_
                refine aw_iload_n (pc := 87) dX9_rounded_87 rfl ?_
                refine aw_ialoadV (pc := 88) (v := mhi m x) dX9_rounded_88 (by omega) (Nat.le_refl _) (by first | rfl | exact z_shr _ (by omega) | exact z_shc0 (by omega) | exact z_shc1 (by omega) | exact z_shc2 (by omega) | exact z_shc3 (by omega) | exact z_shc4 (by omega)) (by first | omega | exact z_bl_r _) ((z_dI_o (by omega)).trans (ehi x (by omega))) ?_
                refine aw_i2l (pc := 89) dX9_rounded_89 (by omega) ?_
                refine aw_ldc2 (pc := 90) (v := 27720) dX9_rounded_90 k_cst_X9_82 ?_
                refine aw_lmul (pc := 93) dX9_rounded_93 ?_
                refine aw_aload_n (pc := 94) dX9_rounded_94 rfl ?_
                refine aw_getR (pc := 95) dX9_rounded_95 k_fl_X9_16 rfl (by omega) (by first | rfl | exact z_shr _ (by omega) | exact z_shc0 (by omega) | exact z_shc1 (by omega) | exact z_shc2 (by omega) | exact z_shc3 (by omega) | exact z_shc4 (by omega)) (by first | rfl | exact z_Rc0 _ (by omega) | exact z_Rc1 _ (by omega) | exact z_Rc2 _ (by omega) | exact z_Rc3 _ (by omega)) ?_
                refine aw_iload_n (pc := 98) dX9_rounded_98 rfl ?_
                refine aw_laloadV (pc := 99) (v := mpt m x) dX9_rounded_99 (by omega) (Nat.le_refl _) (by first | rfl | exact z_shr _ (by omega) | exact z_shc0 (by omega) | exact z_shc1 (by omega) | exact z_shc2 (by omega) | exact z_shc3 (by omega) | exact z_shc4 (by omega)) (by first | omega | exact z_bl_r _) ((z_dJ_o (by omega) (by omega)).trans (ept x (by omega))) ?_
                refine aw_lsub (pc := 100) dX9_rounded_100 ?_
                refine aw_lmul (pc := 101) dX9_rounded_101 ?_
                refine aw_lcmp_gt (pc := 102) (tgt := 116) dX9_rounded_102 dX9_rounded_103 rfl (by omega) (by omega) (fun h102 => ?_) (fun h102 => ?_)
                · refine aw_iload (pc := 116) dX9_rounded_116 rfl ?_
                  refine aw_if_le (pc := 118) (tgt := 130) dX9_rounded_118 rfl (by first | omega | exact z_bl_r _) (fun h118 => ?_) (fun h118 => ?_)
                  · refine aw_iinc (pc := 130) (lv' := [_, _, _, _, _]) dX9_rounded_130 (Nat.le_of_ble_eq_true rfl) rfl rfl ?_
                    refine aw_goto (pc := 133) (tgt := 29) dX9_rounded_133 rfl ?_
                    exfalso; omega
                  · refine aw_aload_n (pc := 121) dX9_rounded_121 rfl ?_
                    refine aw_iload_n (pc := 122) dX9_rounded_122 rfl ?_
                    refine aw_iload_n (pc := 123) dX9_rounded_123 rfl ?_
                    refine aw_iload (pc := 124) dX9_rounded_124 rfl ?_
                    refine aw_isub (pc := 126) dX9_rounded_126 ?_
                    refine aw_qV (pc := 127) (d := m_X9_takeHigh) (c_X9_takeHigh hM1 (by omega) (by omega)) k_X9_takeHigh dX9_rounded_127 k_ml_X9_108 rfl ⟨rfl, rfl⟩ (by omega) (by first | rfl | exact z_shr _ (by omega) | exact z_shc0 (by omega) | exact z_shc1 (by omega) | exact z_shc2 (by omega) | exact z_shc3 (by omega) | exact z_shc4 (by omega)) rfl ⟨Nat.le_of_ble_eq_true rfl, Nat.le_of_ble_eq_true rfl⟩ ⟨Nat.zero_le _, Nat.zero_le _⟩ rfl (Nat.le_of_ble_eq_true rfl) (z_Pk ?_)
                    refine aw_iinc (pc := 130) (lv' := [_, _, _, _, _]) dX9_rounded_130 (Nat.le_of_ble_eq_true rfl) rfl rfl ?_
                    refine aw_goto (pc := 133) (tgt := 29) dX9_rounded_133 rfl ?_
                    have hn : ¬ z_lcM m x (mF m rr x % (d : Int)) (d : Int) := fun q => by have := el.mp q; omega
                    have t1 : (z_tlR m (d : Int) (mF m rr)) x = 0 := by unfold z_tlR; rw [z_if_f (fun q => hn q.2)]
                    have t2 : (z_thR m (d : Int) (mF m rr)) x = (d : Int) - (mF m rr x % (d : Int)) := by unfold z_thR; rw [z_if_t ⟨by omega, hn⟩]
                    have G := z_D2_high g (by omega) hR10 (by omega) t1
                    rw [t2] at G
                    rw [ehi x (by omega)]
                    exact ih2 (x + 1) _ _ _ _ (by omega) G
                · refine aw_aload_n (pc := 106) dX9_rounded_106 rfl ?_
                  refine aw_iload_n (pc := 107) dX9_rounded_107 rfl ?_
                  refine aw_iload (pc := 108) dX9_rounded_108 rfl ?_
                  refine aw_qV (pc := 110) (d := m_X9_takeLow) (c_X9_takeLow hM1 (by omega) (by omega)) k_X9_takeLow dX9_rounded_110 k_ml_X9_112 rfl ⟨rfl, rfl⟩ (by omega) (by first | rfl | exact z_shr _ (by omega) | exact z_shc0 (by omega) | exact z_shc1 (by omega) | exact z_shc2 (by omega) | exact z_shc3 (by omega) | exact z_shc4 (by omega)) rfl ⟨Nat.le_of_ble_eq_true rfl, Nat.le_of_ble_eq_true rfl⟩ ⟨Nat.zero_le _, Nat.zero_le _⟩ rfl (Nat.le_of_ble_eq_true rfl) (z_Pk ?_)
                  refine aw_goto (pc := 113) (tgt := 130) dX9_rounded_113 rfl ?_
                  refine aw_iinc (pc := 130) (lv' := [_, _, _, _, _]) dX9_rounded_130 (Nat.le_of_ble_eq_true rfl) rfl rfl ?_
                  refine aw_goto (pc := 133) (tgt := 29) dX9_rounded_133 rfl ?_
                  have hn : z_lcM m x (mF m rr x % (d : Int)) (d : Int) := el.mpr (by omega)
                  have t1 : (z_tlR m (d : Int) (mF m rr)) x = (mF m rr x % (d : Int)) := by unfold z_tlR; rw [z_if_t ⟨by omega, hn⟩]
                  have t2 : (z_thR m (d : Int) (mF m rr)) x = 0 := by unfold z_thR; rw [z_if_f (fun q => q.2 hn)]
                  have G := z_D2_low g (by omega) hR10 (by omega) t2
                  rw [t1] at G
                  rw [elo x (by omega)]
                  exact ih2 (x + 1) _ _ _ _ (by omega) G
          have K1 := c_X9_emptied (π := π) (I := I1) (J := J1) (s := I1 249) (f := J1 248) (r := J1 237 17)
          rw [z_dI_id, z_dJ_id] at K1
          refine aw_aload_n (pc := 18) dX9_rounded_18 rfl ?_
          refine aw_qV (pc := 19) (d := m_X9_emptied) (K1) k_X9_emptied dX9_rounded_19 k_ml_X9_101 rfl ⟨rfl, rfl⟩ (by omega) (by first | rfl | exact z_shr _ (by omega) | exact z_shc0 (by omega) | exact z_shc1 (by omega) | exact z_shc2 (by omega) | exact z_shc3 (by omega) | exact z_shc4 (by omega)) rfl ⟨Nat.le_of_ble_eq_true rfl, Nat.le_of_ble_eq_true rfl⟩ ⟨Nat.zero_le _, Nat.zero_le _⟩ rfl (Nat.le_of_ble_eq_true rfl) (z_Pk ?_)
          refine aw_aload_n (pc := 22) dX9_rounded_22 rfl ?_
          refine aw_iload_n (pc := 23) dX9_rounded_23 rfl ?_
          refine aw_qV (pc := 24) (d := m_X9_takeRow) (c_X9_takeRow hM1 (by omega)) k_X9_takeRow dX9_rounded_24 k_ml_X9_104 rfl ⟨rfl, rfl⟩ (by omega) (by first | rfl | exact z_shr _ (by omega) | exact z_shc0 (by omega) | exact z_shc1 (by omega) | exact z_shc2 (by omega) | exact z_shc3 (by omega) | exact z_shc4 (by omega)) rfl ⟨Nat.le_of_ble_eq_true rfl, Nat.le_of_ble_eq_true rfl⟩ ⟨Nat.zero_le _, Nat.zero_le _⟩ rfl (Nat.le_of_ble_eq_true rfl) (z_Pk ?_)
          rw [ert rr (by omega), show (I1 237 0).toNat = mN m by omega]
          refine aw_iconst (pc := 27) dX9_rounded_27 ?_
          refine aw_istore_n (pc := 28) (lv' := [_, _, _, _, _]) dX9_rounded_28 (Nat.le_of_ble_eq_true rfl) rfl ?_
          refine st2 (mN m) 0 _ _ _ _ (by omega) ⟨fun i hi => ?_, by show 0 + mrt m rr = mrt m rr + 0; omega, fun j hj => ?_, fun n hn => ?_, fun n hn => ?_, fun j hj => ?_⟩
          · rw [if_neg (by omega)]
            by_cases e : i < mN m
            · rw [z_pf_lt e]; show z_pf (fun _ => 0) (J1 248) 8 i + I1 242 (8 * rr + i) = _; rw [z_pf_lt hi, eF rr i (by omega) e, Int.zero_add]
            · show (if i < mN m then _ else z_pf (fun _ => 0) (J1 248) 8 i) = _; rw [if_neg e, z_pf_lt hi, hF0 rr i (by omega)]
          · by_cases e : j = rr
            · rw [e, z_vs, z_pf_lt (by omega)]; show _ = if rr = rr then (1 : Int) else 0; rw [if_pos rfl]; rfl
            · rw [z_vn_ne e, z_pf_lt (by omega)]; show _ = if j = rr then (1 : Int) else 0; rw [if_neg e]
          · rw [z_vn_ne (by omega), z_pf_lt (by omega), if_neg (by omega)]
          · rw [z_vn_ne (by omega), z_pf_lt (by omega), if_neg (by omega)]
          · by_cases e : j = rr
            · rw [e, z_vs, z_pf_lt (by omega)]; omega
            · rw [z_vn_ne e, z_pf_lt (by omega)]; omega
      refine aw_iconst (pc := 10) dX9_rounded_10 ?_
      refine aw_istore_n (pc := 11) (lv' := [_, _, _, _, _]) dX9_rounded_11 (Nat.le_of_ble_eq_true rfl) rfl ?_
      exact dl 8 2 I1 J1 _ _ (by omega) (by omega) h1 hf h14
  refine aw_iconst (pc := 0) dX9_rounded_0 ?_
  refine aw_istore_n (pc := 1) (lv' := [_, _, _, _, _]) dX9_rounded_1 (Nat.le_of_ble_eq_true rfl) rfl ?_
  exact loop (mR m) 0 I J _ _ _ (by omega) hI z_FQ.rf (by rw [h140]; show _ = (L.length : Int) - L.length; omega)
