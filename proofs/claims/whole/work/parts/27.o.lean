/-- factors and right of a lifted cover -/
def z_cb (F lit al f0 : Nat → Int) (r0 : Int) : Nat → (Nat → Int) × Int
  | 0 => (f0, r0)
  | x + 1 => if 0 < F (lit x).toNat then (va_up (z_cb F lit al f0 r0 x).1 (lit x).toNat (al x), (z_cb F lit al f0 r0 x).2) else (va_up (z_cb F lit al f0 r0 x).1 (lit x).toNat (-al x), (z_cb F lit al f0 r0 x).2 - al x)
theorem z_cb_t {F lit al f0 : Nat → Int} {r0 : Int} {x : Nat} (h : 0 < F (lit x).toNat) : z_cb F lit al f0 r0 (x + 1) = (va_up (z_cb F lit al f0 r0 x).1 (lit x).toNat (al x), (z_cb F lit al f0 r0 x).2) := if_pos h
theorem z_cb_f {F lit al f0 : Nat → Int} {r0 : Int} {x : Nat} (h : ¬ 0 < F (lit x).toNat) : z_cb F lit al f0 r0 (x + 1) = (va_up (z_cb F lit al f0 r0 x).1 (lit x).toNat (-al x), (z_cb F lit al f0 r0 x).2 - al x) := if_neg h
theorem z_cb_c {F lit al f0 F' lit' al' f0' : Nat → Int} {r0 : Int} {n : Nat} (hf : f0 n = f0' n) : ∀ k : Nat, (∀ x, x < k → lit x = lit' x ∧ al x = al' x ∧ F (lit x).toNat = F' (lit x).toNat) → (z_cb F lit al f0 r0 k).1 n = (z_cb F' lit' al' f0' r0 k).1 n ∧ (z_cb F lit al f0 r0 k).2 = (z_cb F' lit' al' f0' r0 k).2
  | 0, _ => ⟨hf, rfl⟩
  | k + 1, h => by
    obtain ⟨h1, h2⟩ := z_cb_c hf k (fun x hx => h x (by omega))
    obtain ⟨e1, e2, e3⟩ := h k (by omega)
    by_cases hp : 0 < F (lit k).toNat
    · rw [z_cb_t hp, z_cb_t (by rw [← e1, ← e3]; exact hp)]
      refine ⟨?_, h2⟩
      show va_up _ _ _ n = va_up _ _ _ n
      unfold va_up
      rw [e1, e2, h1]
    · rw [z_cb_f hp, z_cb_f (by rw [← e1, ← e3]; exact hp)]
      refine ⟨?_, by dsimp only; rw [h2, e2]⟩
      show va_up _ _ _ n = va_up _ _ _ n
      unfold va_up
      rw [e1, e2, h1]
theorem z_cb_b {F lit al f0 : Nat → Int} {r0 : Int} (hf : ∀ n, -1000 ≤ f0 n ∧ f0 n ≤ 1000) : ∀ k : Nat, (∀ x, x < k → -64 ≤ al x ∧ al x ≤ 64) → (∀ n, -1000 ≤ (z_cb F lit al f0 r0 k).1 n ∧ (z_cb F lit al f0 r0 k).1 n ≤ 1000) ∧ r0 - 64 * (k : Int) ≤ (z_cb F lit al f0 r0 k).2 ∧ (z_cb F lit al f0 r0 k).2 ≤ r0 + 64 * (k : Int)
  | 0, _ => ⟨hf, by show _ ≤ r0 ∧ r0 ≤ _; omega⟩
  | k + 1, h => by
    obtain ⟨h1, h2⟩ := z_cb_b (F := F) (lit := lit) (r0 := r0) hf k (fun x hx => h x (by omega))
    have ha := h k (by omega)
    by_cases hp : 0 < F (lit k).toNat
    · rw [z_cb_t hp]
      refine ⟨fun n => ?_, by dsimp only; omega⟩
      show -1000 ≤ va_up _ _ _ n ∧ va_up _ _ _ n ≤ 1000
      unfold va_up
      split
      · omega
      · exact h1 n
    · rw [z_cb_f hp]
      refine ⟨fun n => ?_, by dsimp only; omega⟩
      show -1000 ≤ va_up _ _ _ n ∧ va_up _ _ _ n ≤ 1000
      unfold va_up
      split
      · omega
      · exact h1 n
/-- the literals of row r -/
def z_q (m : z_MM) (r : Nat) : Nat × (Nat → Int) × (Nat → Int) × Int := z_rl m r (fun _ => 0) (fun _ => 0) (mN m)
noncomputable def z_al (m : z_MM) (r s : Nat) : Nat → Int := Classical.epsilon (z_AOK (z_q m r).1 (z_q m r).2.2.1 (z_q m r).2.2.2 s ((z_cnt s 10 : Int) - 1))
theorem z_al_ok {m : z_MM} {r s : Nat} (h : ∃ a, z_AOK (z_q m r).1 (z_q m r).2.2.1 (z_q m r).2.2.2 s ((z_cnt s 10 : Int) - 1) a) : z_AOK (z_q m r).1 (z_q m r).2.2.1 (z_q m r).2.2.2 s ((z_cnt s 10 : Int) - 1) (z_al m r s) := Classical.epsilon_spec h
noncomputable def z_cV (m : z_MM) (r s : Nat) : z_CC := ((z_cb (mF m r) (z_q m r).2.1 (z_al m r s) (fun _ => 0) ((z_cnt s 10 : Int) - 1) (z_q m r).1).1, (z_cb (mF m r) (z_q m r).2.1 (z_al m r s) (fun _ => 0) ((z_cnt s 10 : Int) - 1) (z_q m r).1).2, 2, 0, fun j => if j = 0 then (r : Int) else 0)
def z_C0 : z_CC := (fun _ => 0, 0, 0, 0, fun _ => 0)
theorem z_of_C0 {m : z_MM} {s : List z_CC × Int} : z_of m s z_C0 = s := by
  unfold z_of
  refine z_if_t (Or.inl ?_)
  unfold z_str2
  show z_sum (fun n => 0 * mpt m n) (mN m) - 0 * 27720 ≤ 0
  rw [z_sum_c (g := fun _ => 0) _ (fun k _ => by rw [Int.zero_mul]), z_sum_z]
  omega
noncomputable def z_cdV (m : z_MM) (r i : Nat) : z_CC := z_if (z_cov (z_q m r).1 (z_q m r).2.2.1 (z_q m r).2.2.2 (i + 1)) (z_cV m r (i + 1)) z_C0
noncomputable def z_cvO (m : z_MM) (s : List z_CC × Int) : Nat → List z_CC × Int
  | 0 => s
  | r + 1 => z_fo m (z_cvO m s r) (z_cdV m r) (2 ^ (z_q m r).1 - 1)
theorem z_AOK_w {k : Nat} {wt wt' : Nat → Int} {cap : Int} {set : Nat} {most : Int} {al : Nat → Int} (h : z_AOK k wt cap set most al) (hw : ∀ j, j < k → wt j = wt' j) : z_AOK k wt' cap set most al := fun j hj => ⟨(h j hj).1, fun q => by
  obtain ⟨b, q1, q2⟩ := (h j hj).2 q
  exact ⟨b, by rw [← hw j hj]; exact z_best_c q1 hw (fun _ _ => rfl), q2⟩⟩
theorem z_wsu_c {wt wt' : Nat → Int} {s k : Nat} (h : ∀ j, j < k → wt j = wt' j) : z_wsu wt s k = z_wsu wt' s k := z_sum_c k (fun j hj => by rw [h j hj])
theorem z_cov_c {k : Nat} {wt wt' : Nat → Int} {cap : Int} {s : Nat} (h : ∀ j, j < k → wt j = wt' j) : z_cov k wt cap s ↔ z_cov k wt' cap s := by
  unfold z_cov
  rw [z_wsu_c h]
  exact and_congr_right (fun _ => ⟨fun q j hj hb => by rw [← h j hj]; exact q j hj hb, fun q j hj hb => by rw [h j hj]; exact q j hj hb⟩)
set_option maxHeartbeats 4000000 in
theorem c_X3_tryCover {π : Nat → Nat} {I J : AwI} {L : List z_CC} {cap : Int} {ln wt al0 lg0 : Nat → Int} {k r s : Nat} (h : z_M I J) (hL : z_L I π) (hc : z_clL I π (z_clM I J) L) (ht : I 17 2 = 1) (hr : r < (I 1 6).toNat) (hk8 : k ≤ 8) (hkq : k = (z_q (z_clM I J) r).1) (hcq : cap = (z_q (z_clM I J) r).2.2.2) (hlw : ∀ j, j < k → ln j = (z_q (z_clM I J) r).2.1 j ∧ wt j = (z_q (z_clM I J) r).2.2.1 j) (hlb : ∀ j, j < k → 0 ≤ ln j ∧ ln j < I 1 5) (hw : ∀ j, j < k → 1 ≤ wt j ∧ wt j ≤ 50) (hcap : -100000 ≤ cap ∧ cap ≤ 100000) (hs1 : 1 ≤ s) (hs2 : s < 2 ^ k) : CT m_X3_tryCover [zr 226, zi (r : Int), zi (s : Int)] 255 (z_s3 I (k : Int) cap ln wt al0 lg0) J (z_R π) (fun q9 sz' I' J' R' => q9 = some (zi (z_of (z_clM I J) (L, 1) (z_cV (z_clM I J) r s)).2) ∧ sz' = 255 ∧ J' = J ∧ R' = z_R π ∧ (∀ a j, a < 17 ∨ (224 ≤ a ∧ a ≠ 229 ∧ a ≠ 230) → I' a j = (z_s3 I (k : Int) cap ln wt al0 lg0) a j) ∧ z_L I' π ∧ z_clL I' π (z_clM I J) (z_of (z_clM I J) (L, 1) (z_cV (z_clM I J) r s)).1 ∧ I' 17 2 = (z_of (z_clM I J) (L, 1) (z_cV (z_clM I J) r s)).2) := by
  have hnm := h.nm
  have hrw := h.rw
  have hn4 := hL.n
  have hk2 : 2 ^ k ≤ 2 ^ 8 := Nat.pow_le_pow_right (by omega) hk8
  have hp := hL.p (k := (I 17 1).toNat) (by omega)
  have hcn := z_cnt_b s 10
  refine CT.of (by decide) (Nat.le_of_ble_eq_true rfl) ?_
  show AW _ 0 0 _ 0 [some (zr 226), some (zi (r : Int)), some (zi (s : Int)), none, none, none] [] _ _ _
  have main : ∀ (al lg : Nat → Int), z_AOK k wt cap s ((z_cnt s 10 : Int) - 1) al → (∀ j, j < k → -64 ≤ al j ∧ al j ≤ 7) → AW (FM m_X3_tryCover (fun q9 sz' I' J' R' => q9 = some (zi (z_of (z_clM I J) (L, 1) (z_cV (z_clM I J) r s)).2) ∧ sz' = 255 ∧ J' = J ∧ R' = z_R π ∧ (∀ a j, a < 17 ∨ (224 ≤ a ∧ a ≠ 229 ∧ a ≠ 230) → I' a j = (z_s3 I (k : Int) cap ln wt al0 lg0) a j) ∧ z_L I' π ∧ z_clL I' π (z_clM I J) (z_of (z_clM I J) (L, 1) (z_cV (z_clM I J) r s)).1 ∧ I' 17 2 = (z_of (z_clM I J) (L, 1) (z_cV (z_clM I J) r s)).2)) 0 0 255 5 [some (zr 226), some (zi (r : Int)), some (zi (s : Int)), none, none, none] [] (z_s3 I (k : Int) cap ln wt al lg) J (z_R π) := by
    intro al lg hAOK hal
    have hM1 : z_M (z_s3 I (k : Int) cap ln wt al lg) J := h.s3
    have hL1 : z_L (z_s3 I (k : Int) cap ln wt al lg) π := hL.frame (fun a j h1 h2 => z_s3_o (by omega))
    have em1 : z_clM (z_s3 I (k : Int) cap ln wt al lg) J = z_clM I J := z_clM.congr h (fun a j ha => z_s3_o (by omega)) (fun _ => rfl)
    have hc1 : z_clL (z_s3 I (k : Int) cap ln wt al lg) π (z_clM I J) L := hc.frame hL (fun a j h1 h2 => z_s3_o (by omega))
    obtain ⟨b1, b2, b3, b4⟩ := hL1.f0 hp
    have hz3 : ∀ a j, a ≠ 229 ∧ a ≠ 230 → (z_s3 I (k : Int) cap ln wt al lg) a j = (z_s3 I (k : Int) cap ln wt al0 lg0) a j := fun a j ha => by unfold z_s3; simp only [ha.1, ha.2, if_false]
    have loop : ∀ (n : Nat) (x : Nat) (v : Option AwV), (x : Int) + n = k → AW (FM m_X3_tryCover (fun q9 sz' I' J' R' => q9 = some (zi (z_of (z_clM I J) (L, 1) (z_cV (z_clM I J) r s)).2) ∧ sz' = 255 ∧ J' = J ∧ R' = z_R π ∧ (∀ a j, a < 17 ∨ (224 ≤ a ∧ a ≠ 229 ∧ a ≠ 230) → I' a j = (z_s3 I (k : Int) cap ln wt al0 lg0) a j) ∧ z_L I' π ∧ z_clL I' π (z_clM I J) (z_of (z_clM I J) (L, 1) (z_cV (z_clM I J) r s)).1 ∧ I' 17 2 = (z_of (z_clM I J) (L, 1) (z_cV (z_clM I J) r s)).2)) 0 0 255 32 [some (zr 226), some (zi (r : Int)), some (zi (s : Int)), some (zr (19 + 5 * (π (I 17 1).toNat))), some (zi (x : Int)), v] [] (z_ct9 (z_s3 I (k : Int) cap ln wt al lg) (π (I 17 1).toNat) (z_cb (fun n => I (6 + r) n) ln al (z_f0 (z_s3 I (k : Int) cap ln wt al lg) (19 + 5 * (π (I 17 1).toNat) + 1) 8) ((z_cnt s 10 : Int) - 1) x).1 (z_f0 (z_s3 I (k : Int) cap ln wt al lg) (19 + 5 * (π (I 17 1).toNat) + 2) 10) (z_f0 (z_s3 I (k : Int) cap ln wt al lg) (19 + 5 * (π (I 17 1).toNat) + 3) 8) (z_f0 (z_s3 I (k : Int) cap ln wt al lg) (19 + 5 * (π (I 17 1).toNat) + 4) 8) (z_cb (fun n => I (6 + r) n) ln al (z_f0 (z_s3 I (k : Int) cap ln wt al lg) (19 + 5 * (π (I 17 1).toNat) + 1) 8) ((z_cnt s 10 : Int) - 1) x).2 2 0 0 (r : Int)) J (z_R π) := by
      intro n
      induction n with
      | zero =>
        intro x v he
        refine aw_iload (pc := 32) dX3_tryCover_32 rfl ?_
        refine aw_aload_n (pc := 34) dX3_tryCover_34 rfl ?_
        refine aw_getV (pc := 35) (v := (k : Int)) dX3_tryCover_35 k_fl_X3_42 rfl (by omega) (by first | rfl | exact z_shr _ (by omega) | exact z_shc0 (by omega) | exact z_shc1 (by omega) | exact z_shc2 (by omega) | exact z_shc3 (by omega) | exact z_shc4 (by omega)) ((z_c9_o (by omega)).trans z_s3_k) ?_
        refine aw_icmp_ge (pc := 38) (tgt := 119) dX3_tryCover_38 rfl (by first | omega | exact z_bl_r _) (by first | omega | exact z_bl_r _) (fun h38 => ?_) (fun h38 => absurd h38 (by omega))
        have hxk : k = x := by omega
        subst hxk
        have hcb := z_cb_b (F := fun n => I (6 + r) n) (lit := ln) (al := al) (r0 := ((z_cnt s 10 : Int) - 1)) b1 k (fun j hj => by have := hal j hj; omega)
        refine aw_aload_n (pc := 119) dX3_tryCover_119 rfl ?_
        refine aw_getR (pc := 120) dX3_tryCover_120 k_fl_X3_28 rfl (by omega) (by first | rfl | exact z_shr _ (by omega) | exact z_shc0 (by omega) | exact z_shc1 (by omega) | exact z_shc2 (by omega) | exact z_shc3 (by omega) | exact z_shc4 (by omega)) (by first | rfl | exact z_Rc0 _ (by omega) | exact z_Rc1 _ (by omega) | exact z_Rc2 _ (by omega) | exact z_Rc3 _ (by omega)) ?_
        refine aw_qV (pc := 123) (d := m_X5_settleDraft) (c_X5_settleDraft hM1.c9 (hL1.c9 hcb.1 b2 b3 b4 (by omega) (by omega) (by omega) (by omega) (by omega))) k_X5_settleDraft dX3_tryCover_123 k_ml_X3_110 rfl ⟨rfl, rfl⟩ (by omega) (by first | rfl | exact z_shr _ (by omega) | exact z_shc0 (by omega) | exact z_shc1 (by omega) | exact z_shc2 (by omega) | exact z_shc3 (by omega) | exact z_shc4 (by omega)) rfl ⟨Nat.le_of_ble_eq_true rfl, Nat.le_of_ble_eq_true rfl⟩ ⟨Nat.zero_le _, Nat.zero_le _⟩ rfl (Nat.le_of_ble_eq_true rfl) (z_Pk ?_)
        refine aw_zreturn (pc := 126) dX3_tryCover_126 rfl (z_sd01 _ _ _) ⟨Nat.zero_le _, Nat.zero_le _⟩ ?_
        have eal : ∀ j, j < k → al j = z_al (z_clM I J) r s j := fun j hj => z_AOK_u hAOK (by
          have hA2 : ∃ a, z_AOK (z_q (z_clM I J) r).1 (z_q (z_clM I J) r).2.2.1 (z_q (z_clM I J) r).2.2.2 s ((z_cnt s 10 : Int) - 1) a := ⟨al, by rw [← hkq, ← hcq]; exact z_AOK_w hAOK (fun j hj => (hlw j hj).2)⟩
          have q := z_al_ok hA2
          rw [← hkq, ← hcq] at q
          exact z_AOK_w q (fun j hj => (hlw j hj).2.symm)) j hj
        have hcc : ∀ n, n < 8 → (z_cb (fun n => I (6 + r) n) ln al (z_f0 (z_s3 I (k : Int) cap ln wt al lg) (19 + 5 * (π (I 17 1).toNat) + 1) 8) ((z_cnt s 10 : Int) - 1) k).1 n = cF (z_cV (z_clM I J) r s) n ∧ (z_cb (fun n => I (6 + r) n) ln al (z_f0 (z_s3 I (k : Int) cap ln wt al lg) (19 + 5 * (π (I 17 1).toNat) + 1) 8) ((z_cnt s 10 : Int) - 1) k).2 = cR (z_cV (z_clM I J) r s) := fun n hn => by
          have q := z_cb_c (F := fun n => I (6 + r) n) (lit := ln) (al := al) (f0 := (z_f0 (z_s3 I (k : Int) cap ln wt al lg) (19 + 5 * (π (I 17 1).toNat) + 1) 8)) (F' := mF (z_clM I J) r) (lit' := (z_q (z_clM I J) r).2.1) (al' := z_al (z_clM I J) r s) (f0' := fun _ => 0) (r0 := ((z_cnt s 10 : Int) - 1)) (n := n) (if_pos hn) k (fun j hj => ⟨(hlw j hj).1, eal j hj, by
            have g := hlb j hj
            exact (z_clM_F hr (by omega)).symm⟩)
          show _ = (z_cb _ _ _ _ _ (z_q (z_clM I J) r).1).1 n ∧ _ = (z_cb _ _ _ _ _ (z_q (z_clM I J) r).1).2
          rw [← hkq]
          exact q
        have hC : z_clC (z_ct9 (z_s3 I (k : Int) cap ln wt al lg) (π (I 17 1).toNat) (z_cb (fun n => I (6 + r) n) ln al (z_f0 (z_s3 I (k : Int) cap ln wt al lg) (19 + 5 * (π (I 17 1).toNat) + 1) 8) ((z_cnt s 10 : Int) - 1) k).1 (z_f0 (z_s3 I (k : Int) cap ln wt al lg) (19 + 5 * (π (I 17 1).toNat) + 2) 10) (z_f0 (z_s3 I (k : Int) cap ln wt al lg) (19 + 5 * (π (I 17 1).toNat) + 3) 8) (z_f0 (z_s3 I (k : Int) cap ln wt al lg) (19 + 5 * (π (I 17 1).toNat) + 4) 8) (z_cb (fun n => I (6 + r) n) ln al (z_f0 (z_s3 I (k : Int) cap ln wt al lg) (19 + 5 * (π (I 17 1).toNat) + 1) 8) ((z_cnt s 10 : Int) - 1) k).2 2 0 0 (r : Int)) (π (I 17 1).toNat) (z_clM I J) (z_cV (z_clM I J) r s) := z_clC9 (fun n hn => (hcc n (by have hn : n < (I 1 5).toNat := hn; omega)).1) (hcc 0 (by omega)).2 rfl rfl (fun q => absurd q (by show ¬ ((2 : Int) = 0 ∨ (2 : Int) = 1); omega)) (fun _ => rfl)
        have e17 : (z_s3 I (k : Int) cap ln wt al lg) 17 1 = I 17 1 := z_s3_o (by omega)
        have key := z_draft (I := (z_s3 I (k : Int) cap ln wt al lg)) (L := L) hM1 hL1 (by rw [em1]; exact hc1) (by rw [z_s3_o (by omega)]; exact ht) hcb.1 b2 b3 b4 (r := (z_cb (fun n => I (6 + r) n) ln al (z_f0 (z_s3 I (k : Int) cap ln wt al lg) (19 + 5 * (π (I 17 1).toNat) + 1) 8) ((z_cnt s 10 : Int) - 1) k).2) (by omega) (kd := 2) (by omega) (dv := 0) (by omega) (cr := (r : Int)) (by omega) (C := z_cV (z_clM I J) r s) (by rw [e17, em1]; exact hC)
        rw [e17, em1] at key
        obtain ⟨k1, k2, k3, k4, k5⟩ := key
        exact ⟨by rw [k1], rfl, rfl, rfl, fun a j ha => (k4 a j (by omega)).trans (hz3 a j (by omega)), k5, k2, k3⟩
      | succ n ih =>
        intro x v he
        refine aw_iload (pc := 32) dX3_tryCover_32 rfl ?_
        refine aw_aload_n (pc := 34) dX3_tryCover_34 rfl ?_
        refine aw_getV (pc := 35) (v := (k : Int)) dX3_tryCover_35 k_fl_X3_42 rfl (by omega) (by first | rfl | exact z_shr _ (by omega) | exact z_shc0 (by omega) | exact z_shc1 (by omega) | exact z_shc2 (by omega) | exact z_shc3 (by omega) | exact z_shc4 (by omega)) ((z_c9_o (by omega)).trans z_s3_k) ?_
        refine aw_icmp_ge (pc := 38) (tgt := 119) dX3_tryCover_38 rfl (by first | omega | exact z_bl_r _) (by first | omega | exact z_bl_r _) (fun h38 => absurd h38 (by omega)) (fun h38 => ?_)
        have g1 := hlb x (by omega)
        have g2 := h.fc r (ln x).toNat (by omega)
        refine aw_aload_n (pc := 41) dX3_tryCover_41 rfl ?_
        refine aw_getR (pc := 42) dX3_tryCover_42 k_fl_X3_9 rfl (by omega) (by first | rfl | exact z_shr _ (by omega) | exact z_shc0 (by omega) | exact z_shc1 (by omega) | exact z_shc2 (by omega) | exact z_shc3 (by omega) | exact z_shc4 (by omega)) (by first | rfl | exact z_Rc0 _ (by omega) | exact z_Rc1 _ (by omega) | exact z_Rc2 _ (by omega) | exact z_Rc3 _ (by omega)) ?_
        refine aw_iload (pc := 45) dX3_tryCover_45 rfl ?_
        refine aw_ialoadV (pc := 47) (v := ln x) dX3_tryCover_47 (by omega) (Nat.le_refl _) (by first | rfl | exact z_shr _ (by omega) | exact z_shc0 (by omega) | exact z_shc1 (by omega) | exact z_shc2 (by omega) | exact z_shc3 (by omega) | exact z_shc4 (by omega)) (by first | omega | exact z_bl_r _) ((z_c9_o (by omega)).trans (z_s3_ln x)) ?_
        refine aw_istore (pc := 48) (lv' := [_, _, _, _, _, _]) dX3_tryCover_48 (Nat.le_of_ble_eq_true rfl) rfl ?_
        refine aw_aload_n (pc := 50) dX3_tryCover_50 rfl ?_
        refine aw_getR (pc := 51) dX3_tryCover_51 k_fl_X3_24 rfl (by omega) (by first | rfl | exact z_shr _ (by omega) | exact z_shc0 (by omega) | exact z_shc1 (by omega) | exact z_shc2 (by omega) | exact z_shc3 (by omega) | exact z_shc4 (by omega)) (by first | rfl | exact z_Rc0 _ (by omega) | exact z_Rc1 _ (by omega) | exact z_Rc2 _ (by omega) | exact z_Rc3 _ (by omega)) ?_
        refine aw_getR (pc := 54) dX3_tryCover_54 k_fl_X3_62 rfl (by omega) (by first | rfl | exact z_shr _ (by omega) | exact z_shc0 (by omega) | exact z_shc1 (by omega) | exact z_shc2 (by omega) | exact z_shc3 (by omega) | exact z_shc4 (by omega)) (by first | rfl | exact z_Rc0 _ (by omega) | exact z_Rc1 _ (by omega) | exact z_Rc2 _ (by omega) | exact z_Rc3 _ (by omega)) ?_
        refine aw_iload_n (pc := 57) dX3_tryCover_57 rfl ?_
        refine aw_aaloadG (b := 6 + r) (pc := 58) dX3_tryCover_58 (by omega) (Nat.le_refl _) rfl (by omega) (by rfl) ?_
        refine aw_iload (pc := 59) dX3_tryCover_59 rfl ?_
        refine aw_ialoadV (pc := 61) (v := I (6 + r) (ln x).toNat) dX3_tryCover_61 (by omega) (Nat.le_refl _) (by first | rfl | exact z_shr _ (by omega) | exact z_shc0 (by omega) | exact z_shc1 (by omega) | exact z_shc2 (by omega) | exact z_shc3 (by omega) | exact z_shc4 (by omega)) (by first | omega | exact z_bl_r _) ((z_c9_o (by omega)).trans (z_s3_o (by omega))) ?_
        refine aw_if_le (pc := 62) (tgt := 82) dX3_tryCover_62 rfl (by omega) (fun h62 => ?_) (fun h62 => ?_)
        · refine aw_aload_n (pc := 82) dX3_tryCover_82 rfl ?_
          refine aw_getR (pc := 83) dX3_tryCover_83 k_fl_X3_108 rfl (by omega) (by first | rfl | exact z_shr _ (by omega) | exact z_shc0 (by omega) | exact z_shc1 (by omega) | exact z_shc2 (by omega) | exact z_shc3 (by omega) | exact z_shc4 (by omega)) (by first | rfl | exact z_Rc0 _ (by omega) | exact z_Rc1 _ (by omega) | exact z_Rc2 _ (by omega) | exact z_Rc3 _ (by omega)) ?_
          refine aw_iload (pc := 86) dX3_tryCover_86 rfl ?_
          refine aw_aload_n (pc := 88) dX3_tryCover_88 rfl ?_
          refine aw_getR (pc := 89) dX3_tryCover_89 k_fl_X3_18 rfl (by omega) (by first | rfl | exact z_shr _ (by omega) | exact z_shc0 (by omega) | exact z_shc1 (by omega) | exact z_shc2 (by omega) | exact z_shc3 (by omega) | exact z_shc4 (by omega)) (by first | rfl | exact z_Rc0 _ (by omega) | exact z_Rc1 _ (by omega) | exact z_Rc2 _ (by omega) | exact z_Rc3 _ (by omega)) ?_
          refine aw_iload (pc := 92) dX3_tryCover_92 rfl ?_
          refine aw_ialoadV (pc := 94) (v := al x) dX3_tryCover_94 (by omega) (Nat.le_refl _) (by first | rfl | exact z_shr _ (by omega) | exact z_shc0 (by omega) | exact z_shc1 (by omega) | exact z_shc2 (by omega) | exact z_shc3 (by omega) | exact z_shc4 (by omega)) (by first | omega | exact z_bl_r _) ((z_c9_o (by omega)).trans (z_s3_al x)) ?_
          refine aw_ineg (pc := 95) dX3_tryCover_95 ?_
          refine aw_iastore (pc := 96) dX3_tryCover_96 (by omega) (Nat.le_refl _) (by first | rfl | exact z_shr _ (by omega) | exact z_shc0 (by omega) | exact z_shc1 (by omega) | exact z_shc2 (by omega) | exact z_shc3 (by omega) | exact z_shc4 (by omega)) (by first | omega | exact z_bl_r _) ?_
          rw [z_c9_uf]
          refine aw_aload_n (pc := 97) dX3_tryCover_97 rfl ?_
          refine aw_dup (pc := 98) dX3_tryCover_98 (fun _ h => by cases h) ?_
          refine aw_getV (pc := 99) (v := (z_cb (fun n => I (6 + r) n) ln al (z_f0 (z_s3 I (k : Int) cap ln wt al lg) (19 + 5 * (π (I 17 1).toNat) + 1) 8) ((z_cnt s 10 : Int) - 1) x).2) dX3_tryCover_99 k_fl_X3_105 rfl (by omega) (by first | rfl | exact z_shr _ (by omega) | exact z_shc0 (by omega) | exact z_shc1 (by omega) | exact z_shc2 (by omega) | exact z_shc3 (by omega) | exact z_shc4 (by omega)) (z_c9_r) ?_
          refine aw_aload_n (pc := 102) dX3_tryCover_102 rfl ?_
          refine aw_getR (pc := 103) dX3_tryCover_103 k_fl_X3_18 rfl (by omega) (by first | rfl | exact z_shr _ (by omega) | exact z_shc0 (by omega) | exact z_shc1 (by omega) | exact z_shc2 (by omega) | exact z_shc3 (by omega) | exact z_shc4 (by omega)) (by first | rfl | exact z_Rc0 _ (by omega) | exact z_Rc1 _ (by omega) | exact z_Rc2 _ (by omega) | exact z_Rc3 _ (by omega)) ?_
          refine aw_iload (pc := 106) dX3_tryCover_106 rfl ?_
          refine aw_ialoadV (pc := 108) (v := al x) dX3_tryCover_108 (by omega) (Nat.le_refl _) (by first | rfl | exact z_shr _ (by omega) | exact z_shc0 (by omega) | exact z_shc1 (by omega) | exact z_shc2 (by omega) | exact z_shc3 (by omega) | exact z_shc4 (by omega)) (by first | omega | exact z_bl_r _) ((z_c9_o (by omega)).trans (z_s3_al x)) ?_
          refine aw_isub (pc := 109) dX3_tryCover_109 ?_
          refine aw_putI (pc := 110) dX3_tryCover_110 k_fl_X3_105 rfl (by omega) (by first | rfl | exact z_shr _ (by omega) | exact z_shc0 (by omega) | exact z_shc1 (by omega) | exact z_shc2 (by omega) | exact z_shc3 (by omega) | exact z_shc4 (by omega)) ?_
          refine aw_iinc (pc := 113) (lv' := [_, _, _, _, _, _]) dX3_tryCover_113 (Nat.le_of_ble_eq_true rfl) rfl rfl ?_
          refine aw_goto (pc := 116) (tgt := 32) dX3_tryCover_116 rfl ?_
          rw [z_c9_ur]
          have K := ih (x + 1) (some (zi (ln x))) (by omega)
          rw [z_cb_f (by show ¬ 0 < I (6 + r) (ln x).toNat; omega), show ((x + 1 : Nat) : Int) = (x : Int) + 1 from rfl] at K
          exact K
        · refine aw_aload_n (pc := 65) dX3_tryCover_65 rfl ?_
          refine aw_getR (pc := 66) dX3_tryCover_66 k_fl_X3_108 rfl (by omega) (by first | rfl | exact z_shr _ (by omega) | exact z_shc0 (by omega) | exact z_shc1 (by omega) | exact z_shc2 (by omega) | exact z_shc3 (by omega) | exact z_shc4 (by omega)) (by first | rfl | exact z_Rc0 _ (by omega) | exact z_Rc1 _ (by omega) | exact z_Rc2 _ (by omega) | exact z_Rc3 _ (by omega)) ?_
          refine aw_iload (pc := 69) dX3_tryCover_69 rfl ?_
          refine aw_aload_n (pc := 71) dX3_tryCover_71 rfl ?_
          refine aw_getR (pc := 72) dX3_tryCover_72 k_fl_X3_18 rfl (by omega) (by first | rfl | exact z_shr _ (by omega) | exact z_shc0 (by omega) | exact z_shc1 (by omega) | exact z_shc2 (by omega) | exact z_shc3 (by omega) | exact z_shc4 (by omega)) (by first | rfl | exact z_Rc0 _ (by omega) | exact z_Rc1 _ (by omega) | exact z_Rc2 _ (by omega) | exact z_Rc3 _ (by omega)) ?_
          refine aw_iload (pc := 75) dX3_tryCover_75 rfl ?_
          refine aw_ialoadV (pc := 77) (v := al x) dX3_tryCover_77 (by omega) (Nat.le_refl _) (by first | rfl | exact z_shr _ (by omega) | exact z_shc0 (by omega) | exact z_shc1 (by omega) | exact z_shc2 (by omega) | exact z_shc3 (by omega) | exact z_shc4 (by omega)) (by first | omega | exact z_bl_r _) ((z_c9_o (by omega)).trans (z_s3_al x)) ?_
          refine aw_iastore (pc := 78) dX3_tryCover_78 (by omega) (Nat.le_refl _) (by first | rfl | exact z_shr _ (by omega) | exact z_shc0 (by omega) | exact z_shc1 (by omega) | exact z_shc2 (by omega) | exact z_shc3 (by omega) | exact z_shc4 (by omega)) (by first | omega | exact z_bl_r _) ?_
          rw [z_c9_uf]
          refine aw_goto (pc := 79) (tgt := 113) dX3_tryCover_79 rfl ?_
          refine aw_iinc (pc := 113) (lv' := [_, _, _, _, _, _]) dX3_tryCover_113 (Nat.le_of_ble_eq_true rfl) rfl rfl ?_
          refine aw_goto (pc := 116) (tgt := 32) dX3_tryCover_116 rfl ?_
          have K := ih (x + 1) (some (zi (ln x))) (by omega)
          rw [z_cb_t (by show 0 < I (6 + r) (ln x).toNat; omega), show ((x + 1 : Nat) : Int) = (x : Int) + 1 from rfl] at K
          exact K
    refine aw_aload_n (pc := 5) dX3_tryCover_5 rfl ?_
    refine aw_getR (pc := 6) dX3_tryCover_6 k_fl_X3_28 rfl (by omega) (by first | rfl | exact z_shr _ (by omega) | exact z_shc0 (by omega) | exact z_shc1 (by omega) | exact z_shc2 (by omega) | exact z_shc3 (by omega) | exact z_shc4 (by omega)) (by first | rfl | exact z_Rc0 _ (by omega) | exact z_Rc1 _ (by omega) | exact z_Rc2 _ (by omega) | exact z_Rc3 _ (by omega)) ?_
    refine aw_iconst (pc := 9) dX3_tryCover_9 ?_
    refine aw_qV (pc := 10) (d := m_X5_newDraft) (c_X5_newDraft hL1) k_X5_newDraft dX3_tryCover_10 k_ml_X3_89 rfl ⟨rfl, rfl⟩ (by omega) (by first | rfl | exact z_shr _ (by omega) | exact z_shc0 (by omega) | exact z_shc1 (by omega) | exact z_shc2 (by omega) | exact z_shc3 (by omega) | exact z_shc4 (by omega)) rfl ⟨Nat.le_of_ble_eq_true rfl, Nat.le_of_ble_eq_true rfl⟩ ⟨Nat.zero_le _, Nat.zero_le _⟩ rfl (Nat.le_of_ble_eq_true rfl) (z_Pk ?_)
    rw [z_bg9, show (z_s3 I (k : Int) cap ln wt al lg) 17 1 = I 17 1 from z_s3_o (by omega)]
    refine aw_astore_n (pc := 13) (lv' := [_, _, _, _, _, _]) dX3_tryCover_13 (Nat.le_of_ble_eq_true rfl) rfl ?_
    refine aw_aload_n (pc := 14) dX3_tryCover_14 rfl ?_
    refine aw_iload_n (pc := 15) dX3_tryCover_15 rfl ?_
    refine aw_putI (pc := 16) dX3_tryCover_16 k_fl_X3_95 rfl (by omega) (by first | rfl | exact z_shr _ (by omega) | exact z_shc0 (by omega) | exact z_shc1 (by omega) | exact z_shc2 (by omega) | exact z_shc3 (by omega) | exact z_shc4 (by omega)) ?_
    rw [z_c9_ucr]
    refine aw_aload_n (pc := 19) dX3_tryCover_19 rfl ?_
    refine aw_iload_n (pc := 20) dX3_tryCover_20 rfl ?_
    refine aw_qS (pc := 21) (d := m_J6_bitCount_0f7a4) (c_bitCount (by omega)) k_J6_bitCount_0f7a4 dX3_tryCover_21 k_ml_X3_100 rfl ⟨rfl, rfl⟩ ⟨Nat.le_of_ble_eq_true rfl, Nat.le_of_ble_eq_true rfl⟩ ⟨Nat.zero_le _, Nat.zero_le _⟩ rfl (Nat.le_of_ble_eq_true rfl) (z_Pk ?_)
    refine aw_iconst (pc := 24) dX3_tryCover_24 ?_
    refine aw_isub (pc := 25) dX3_tryCover_25 ?_
    refine aw_putI (pc := 26) dX3_tryCover_26 k_fl_X3_105 rfl (by omega) (by first | rfl | exact z_shr _ (by omega) | exact z_shc0 (by omega) | exact z_shc1 (by omega) | exact z_shc2 (by omega) | exact z_shc3 (by omega) | exact z_shc4 (by omega)) ?_
    rw [z_c9_ur]
    refine aw_iconst (pc := 29) dX3_tryCover_29 ?_
    refine aw_istore (pc := 30) (lv' := [_, _, _, _, _, _]) dX3_tryCover_30 (Nat.le_of_ble_eq_true rfl) rfl ?_
    exact loop k 0 none (by omega)
  refine aw_aload_n (pc := 0) dX3_tryCover_0 rfl ?_
  refine aw_iload_n (pc := 1) dX3_tryCover_1 rfl ?_
  refine aw_qV (pc := 2) (d := m_X3_lift) (c_X3_lift hk8 hw (by omega) hs1 hs2) k_X3_lift dX3_tryCover_2 k_ml_X3_86 rfl ⟨rfl, rfl⟩ (by omega) (by first | rfl | exact z_shr _ (by omega) | exact z_shc0 (by omega) | exact z_shc1 (by omega) | exact z_shc2 (by omega) | exact z_shc3 (by omega) | exact z_shc4 (by omega)) rfl ⟨Nat.le_of_ble_eq_true rfl, Nat.le_of_ble_eq_true rfl⟩ ⟨Nat.zero_le _, Nat.zero_le _⟩ rfl (Nat.le_of_ble_eq_true rfl) ?_
  rintro q9 sz2 I2 J2 R2 ⟨rfl, rfl, rfl, rfl, al, lg, rfl, hA, hB⟩
  exact main al lg hA hB
