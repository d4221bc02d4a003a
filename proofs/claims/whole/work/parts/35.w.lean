theorem z_hN_o {I : AwI} {l hh : Int} {a k : Nat} (hR : I 1 6 ≤ 10) (h : 16 ≤ a) : z_hN I l hh a k = I a k := by
  unfold z_hN
  rw [z_up_a _ _ (by omega), z_nc_o (by omega), z_up_a _ _ (by omega), z_up_a _ _ (by omega)]
theorem z_hN_5 {I : AwI} {l hh : Int} : z_hN I l hh 1 5 = I 1 5 + 1 := z_up_s _ _ _ _
theorem z_hN_6 {I : AwI} {l hh : Int} : z_hN I l hh 1 6 = I 1 6 := by
  unfold z_hN
  rw [z_up_k _ _ (by omega), z_nc_o (by omega), z_up_a _ _ (by omega), z_up_a _ _ (by omega)]
theorem z_hN_2 {I : AwI} {l hh : Int} {n : Nat} : z_hN I l hh 2 n = if n = (I 1 5).toNat then l else I 2 n := by
  unfold z_hN
  rw [z_up_a _ _ (by omega), z_nc_o (by omega), z_up_a _ _ (by omega)]
  unfold z_up
  by_cases e : n = (I 1 5).toNat
  · rw [if_pos ⟨rfl, e⟩, if_pos e]
  · rw [if_neg (fun q => e q.2), if_neg e]
theorem z_hN_3 {I : AwI} {l hh : Int} {n : Nat} : z_hN I l hh 3 n = if n = (I 1 5).toNat then hh else I 3 n := by
  unfold z_hN
  rw [z_up_a _ _ (by omega), z_nc_o (by omega)]
  by_cases e : n = (I 1 5).toNat
  · subst e; rw [z_up_s, if_pos rfl]
  · rw [z_up_k _ _ e, z_up_a _ _ (by omega), if_neg e]
theorem z_hN_F {I : AwI} {l hh : Int} {r n : Nat} : z_hN I l hh (6 + r) n = if r < (I 1 6).toNat ∧ n = (I 1 5).toNat then 0 else I (6 + r) n := by
  unfold z_hN
  rw [z_up_a _ _ (by omega)]
  unfold z_nc
  by_cases e : r < (I 1 6).toNat ∧ n = (I 1 5).toNat
  · rw [if_pos (by omega), if_pos e]
  · rw [if_neg (by omega), if_neg e, z_up_a _ _ (by omega), z_up_a _ _ (by omega)]
theorem z_M.hN {I J : AwI} {l hh : Int} (h : z_M I J) (h8 : I 1 5 < 8) (hl : -30 ≤ l ∧ l ≤ 30) (hb : -30 ≤ hh ∧ hh ≤ 30) : z_M (z_hN I l hh) (z_up J 4 (I 1 5).toNat 0) := by
  have hnm := h.nm
  have hrw := h.rw
  refine ⟨?_, ?_, fun n => ?_, fun n => ?_, fun n => ?_, fun r n hr => ?_, fun r => ?_, fun r n h1 h2 h3 => ?_⟩
  · rw [z_hN_5]; omega
  · rw [z_hN_6]; omega
  · rw [z_hN_2]; have := h.lo n; split <;> omega
  · rw [z_hN_3]; have := h.hi n; split <;> omega
  · have := h.pt n
    by_cases e : n = (I 1 5).toNat
    · subst e; rw [z_up_s]; omega
    · rw [z_up_k _ _ e]; exact this
  · rw [z_hN_F]; have := h.fc r n hr; split <;> omega
  · rw [z_hN_o (by omega) (by omega)]; exact h.rt r
  · rw [z_hN_6] at h1; rw [z_hN_5] at h2; rw [z_hN_F, if_neg (by omega)]; exact h.zz r n h1 (by omega) h3
theorem z_clM_hN {I J : AwI} {l hh : Int} (h : z_M I J) : z_clM (z_hN I l hh) (z_up J 4 (I 1 5).toNat 0) = z_spN (z_clM I J) l hh := by
  have hnm := h.nm
  have hrw := h.rw
  rw [z_clM_mk, z_hN_5, z_hN_6, show (I 1 5 + 1).toNat = (I 1 5).toNat + 1 by omega]
  refine z_mkM_sN (fun n hn => ⟨?_, ?_, ?_⟩) ?_ ?_ (z_up_s _ _ _ _) (fun r hr => ⟨fun n hn => ?_, ?_⟩) (fun r hr => ?_)
  · rw [z_hN_2, if_neg (by omega)]
  · rw [z_hN_3, if_neg (by omega)]
  · exact z_up_k _ _ (by omega)
  · rw [z_hN_2, if_pos rfl]
  · rw [z_hN_3, if_pos rfl]
  · show z_hN I l hh (6 + r) n = _
    rw [z_hN_F, if_neg (by omega)]
  · show z_hN I l hh (6 + r) _ = _
    rw [z_hN_F, if_pos ⟨hr, rfl⟩]
  · exact z_hN_o (by omega) (by omega)
theorem z_hR_o {I : AwI} {v : Int} {a k : Nat} (hR : I 1 6 < 10) (h : 17 ≤ a ∨ a < 6 ∧ a ≠ 1 ∨ a = 1 ∧ k ≠ 6) : z_hR I v a k = I a k := by
  unfold z_hR
  have e : ¬ (a = 1 ∧ k = 6) := by omega
  show (if a = 1 ∧ k = 6 then _ else _) = _
  rw [if_neg e, z_fl_a _ _ (by omega), z_up_a _ _ (by omega)]
theorem z_hR_6 {I : AwI} {v : Int} : z_hR I v 1 6 = I 1 6 + 1 := z_up_s _ _ _ _
theorem z_hR_F {I : AwI} {v : Int} {r n : Nat} (hr : r < 10) : z_hR I v (6 + r) n = if r = (I 1 6).toNat ∧ n < 8 then 0 else I (6 + r) n := by
  unfold z_hR
  rw [z_up_a _ _ (by omega)]
  unfold z_fl
  by_cases e : r = (I 1 6).toNat ∧ n < 8
  · rw [if_pos (by omega), if_pos e]
  · rw [if_neg (by omega), if_neg e, z_up_a _ _ (by omega)]
theorem z_hR_16 {I : AwI} {v : Int} {r : Nat} (hR : I 1 6 < 10) : z_hR I v 16 r = if r = (I 1 6).toNat then v else I 16 r := by
  unfold z_hR
  rw [z_up_a _ _ (by omega), z_fl_a _ _ (by omega)]
  by_cases e : r = (I 1 6).toNat
  · subst e; rw [z_up_s, if_pos rfl]
  · rw [z_up_k _ _ e, if_neg e]
theorem z_M.hR {I J : AwI} {v : Int} (h : z_M I J) (h8 : I 1 6 < 10) (hv : -9999 ≤ v ∧ v ≤ 9999) : z_M (z_hR I v) J := by
  have hnm := h.nm
  have hrw := h.rw
  refine ⟨?_, ?_, fun n => ?_, fun n => ?_, h.pt, fun r n hr => ?_, fun r => ?_, fun r n h1 h2 h3 => ?_⟩
  · rw [z_hR_o h8 (by omega)]; exact hnm
  · rw [z_hR_6]; omega
  · rw [z_hR_o h8 (by omega)]; exact h.lo n
  · rw [z_hR_o h8 (by omega)]; exact h.hi n
  · rw [z_hR_F hr]; have := h.fc r n hr; split <;> omega
  · rw [z_hR_16 h8]; have := h.rt r; split <;> omega
  · rw [z_hR_6] at h1; rw [z_hR_o h8 (by omega)] at h2; rw [z_hR_F (by omega)]
    by_cases e : r = (I 1 6).toNat ∧ n < 8
    · rw [if_pos e]
    · rw [if_neg e]; exact h.zz r n (by omega) h2 h3
theorem z_clM_hR {I J : AwI} {v : Int} (h : z_M I J) (h8 : I 1 6 < 10) : z_clM (z_hR I v) J = z_spR (z_clM I J) v := by
  have hnm := h.nm
  have hrw := h.rw
  rw [z_clM_mk, z_hR_6, z_hR_o (k := 5) h8 (by omega), show (I 1 6 + 1).toNat = (I 1 6).toNat + 1 by omega]
  refine z_mkM_sR (fun n hn => ⟨?_, ?_, rfl⟩) (fun r n hr hn => ?_) (fun n hn => ?_) (fun r hr => ?_) ?_
  · exact z_hR_o h8 (by omega)
  · exact z_hR_o h8 (by omega)
  · show z_hR I v (6 + r) n = _
    rw [z_hR_F (by omega), if_neg (by omega)]
  · show z_hR I v (6 + (I 1 6).toNat) n = _
    rw [z_hR_F (by omega), if_pos ⟨rfl, by omega⟩]
  · rw [z_hR_16 h8, if_neg (by omega)]
  · rw [z_hR_16 h8, if_pos rfl]
theorem z_spN_lh {m : z_MM} {l h : Int} (hm : ∀ n, n < mN m → mlo m n ≤ mhi m n) (hl : l ≤ h) : ∀ n, n < mN (z_spN m l h) → mlo (z_spN m l h) n ≤ mhi (z_spN m l h) n := by
  intro n hn
  have hn : n < mN m + 1 := hn
  unfold z_spN
  rw [z_mkM_lo hn, z_mkM_hi hn]
  by_cases e : n = mN m
  · subst e; rw [z_vs, z_vs]; exact hl
  · rw [z_vn_ne e, z_vn_ne e]; exact hm n (by omega)
theorem z_spR_lh {m : z_MM} {v : Int} (hm : ∀ n, n < mN m → mlo m n ≤ mhi m n) : ∀ n, n < mN (z_spR m v) → mlo (z_spR m v) n ≤ mhi (z_spR m v) n := by
  intro n hn
  have hn : n < mN m := hn
  unfold z_spR
  rw [z_mkM_lo hn, z_mkM_hi hn]
  exact hm n hn
theorem z_spF_lh {m : z_MM} {r k : Nat} {v : Int} (hm : ∀ n, n < mN m → mlo m n ≤ mhi m n) : ∀ n, n < mN (z_spF m r k v) → mlo (z_spF m r k v) n ≤ mhi (z_spF m r k v) n := by
  intro n hn
  have hn : n < mN m := hn
  unfold z_spF
  rw [z_mkM_lo hn, z_mkM_hi hn]
  exact hm n hn
theorem z_spP_lh {m : z_MM} {k : Nat} {v : Int} (hm : ∀ n, n < mN m → mlo m n ≤ mhi m n) : ∀ n, n < mN (z_spP m k v) → mlo (z_spP m k v) n ≤ mhi (z_spP m k v) n := by
  intro n hn
  have hn : n < mN m := hn
  unfold z_spP
  rw [z_mkM_lo hn, z_mkM_hi hn]
  exact hm n hn
theorem z_clL.m {I : AwI} {π : Nat → Nat} {m m' : z_MM} {L : List z_CC} (h : z_clL I π m L) (h1 : mN m' = mN m) (h2 : mR m' = mR m) : z_clL I π m' L := by
  refine ⟨h.1, fun k C hk => ?_⟩
  obtain ⟨g1, g2, g3, g4, g5, g6⟩ := h.2 k C hk
  exact ⟨by rw [h1]; exact g1, g2, g3, g4, by rw [h1, h2]; exact g5, g6⟩
/-! what the calls answer, and the state behind them -/
def z_rN (m : z_MM) (L : List z_CC) (t l h : Int) : z_RS := if l < -30 ∨ 30 < l ∨ h < -30 ∨ 30 < h ∨ h < l then (-2, m, L, t) else if 8 ≤ mN m then (-4, m, L, t) else ((mN m : Int), z_spN m l h, [], t)
def z_rR (m : z_MM) (L : List z_CC) (t v : Int) : z_RS := if v < -9999 ∨ 9999 < v then (-2, m, L, t) else if 10 ≤ mR m then (-4, m, L, t) else ((mR m : Int), z_spR m v, [], t)
def z_rF (m : z_MM) (L : List z_CC) (t r n v : Int) : z_RS := if ¬ ((0 ≤ r ∧ r < (mR m : Int)) ∧ (0 ≤ n ∧ n < (mN m : Int))) then (-1, m, L, t) else if v < -50 ∨ 50 < v then (-2, m, L, t) else (mF m r.toNat n.toNat, z_spF m r.toNat n.toNat v, [], t)
def z_rPt (m : z_MM) (L : List z_CC) (t n a b : Int) : z_RS := if ¬ (0 ≤ n ∧ n < (mN m : Int)) then (-1, m, L, t) else if b < 1 ∨ 12 < b ∨ a < -400 ∨ 400 < a then (-2, m, L, t) else (1, z_spP m n.toNat (a * (27720 / b)), L, t)
noncomputable def z_fd (m : z_MM) (L : List z_CC) (kd : Int) : List z_CC × Int := if kd = 0 then z_fo m (L, 1) (fun j => z_cH m (j + 1)) (2 ^ mR m - 1) else if kd = 1 then z_fo m (L, 1) (fun j => z_cR m (j / 8) ((j % 8 : Nat) + 2)) (8 * mR m) else if kd = 2 then z_cvO m (L, 1) (mR m) else z_fo m (L, 1) (z_cdQ m) (2 ^ mN m - 1)
noncomputable def z_rFd (m : z_MM) (L : List z_CC) (t kd : Int) : z_RS := if kd < 0 ∨ 3 < kd then (-2, m, L, t) else (((z_fd m L kd).1.length : Int) - (L.length : Int), m, (z_fd m L kd).1, (z_fd m L kd).2)
/-- ages of what a search finds -/
theorem z_of_age {m : z_MM} {s : List z_CC × Int} {C : z_CC} (h : ∀ D ∈ s.1, cA D ≤ 2) (hC : cA C = 0) : ∀ D ∈ (z_of m s C).1, cA D ≤ 2 := by
  intro D hD
  unfold z_of at hD
  by_cases hp : z_str2 m C ≤ 0 ∨ ∃ D ∈ s.1, z_same m D C
  · rw [z_if_t hp] at hD; exact h D hD
  · rw [z_if_f hp] at hD
    split at hD
    · exact h D hD
    · rcases List.mem_append.mp hD with q | q
      · exact h D q
      · rw [List.mem_singleton.mp q, hC]; omega
theorem z_fo_age {m : z_MM} {s : List z_CC × Int} {cand : Nat → z_CC} (h : ∀ D ∈ s.1, cA D ≤ 2) (hC : ∀ j, cA (cand j) = 0) : ∀ k, ∀ D ∈ (z_fo m s cand k).1, cA D ≤ 2
  | 0 => h
  | k + 1 => z_of_age (z_fo_age h hC k) (hC k)
theorem z_cdV_age {m : z_MM} {r j : Nat} : cA (z_cdV m r j) = 0 := by
  unfold z_cdV
  by_cases h : z_cov (z_q m r).1 (z_q m r).2.2.1 (z_q m r).2.2.2 (j + 1)
  · rw [z_if_t h]; rfl
  · rw [z_if_f h]; rfl
theorem z_cdQ_age {m : z_MM} {j : Nat} : cA (z_cdQ m j) = 0 := by
  unfold z_cdQ
  by_cases h : z_wiq m (j + 1)
  · rw [z_if_t h]; rfl
  · rw [z_if_f h]; rfl
theorem z_cvO_age {m : z_MM} {s : List z_CC × Int} (h : ∀ D ∈ s.1, cA D ≤ 2) : ∀ k, ∀ D ∈ (z_cvO m s k).1, cA D ≤ 2
  | 0 => h
  | k + 1 => z_fo_age (z_cvO_age h k) (fun _ => z_cdV_age) _
theorem z_fd_age {m : z_MM} {L : List z_CC} {kd : Int} (h : ∀ D ∈ L, cA D ≤ 2) : ∀ D ∈ (z_fd m L kd).1, cA D ≤ 2 := by
  unfold z_fd
  split
  · exact z_fo_age (s := (L, 1)) h (fun _ => rfl) _
  · split
    · exact z_fo_age (s := (L, 1)) h (fun _ => rfl) _
    · split
      · exact z_cvO_age (s := (L, 1)) h _
      · exact z_fo_age (s := (L, 1)) h (fun _ => z_cdQ_age) _
theorem z_fd_01 {m : z_MM} {L : List z_CC} {kd : Int} : (z_fd m L kd).2 = 0 ∨ (z_fd m L kd).2 = 1 := by
  unfold z_fd
  split
  · exact (z_fo_inv _).2
  · split
    · exact (z_fo_inv _).2
    · split
      · exact (z_cvO_inv _).2
      · exact (z_fo_inv _).2
set_option maxHeartbeats 4000000 in
theorem c_X8_name {π : Nat → Nat} {I J : AwI} {m : z_MM} {L : List z_CC} {t : Int} {l h2 : Int} (hI : z_CI I J π m L t) (hl : -2147483648 ≤ l ∧ l ≤ 2147483647) (hh2 : -2147483648 ≤ h2 ∧ h2 ≤ 2147483647) : CT m_X8_name [zr 0, zi l, zi h2] 255 I J (z_R π) (z_PC (z_rN m L t l h2) I J) := by
  have hI0 := hI
  obtain ⟨h, hm, hlh, hL, hc, ht, h01, h225, h232, hA⟩ := hI0
  subst hm
  have hnm := h.nm
  have hrw := h.rw
  have hn4 := hL.n
  have eN : mN (z_clM I J) = (I 1 5).toNat := rfl
  have eR : mR (z_clM I J) = (I 1 6).toNat := rfl
  have eL := hc.1
  refine CT.of (by decide) (Nat.le_of_ble_eq_true rfl) ?_
  show AW _ 0 0 _ 0 [some (zr 0), some (zi l), some (zi h2)] [] _ _ _
  refine aw_iload_n (pc := 0) dX8_name_0 rfl ?_
  refine aw_bipush (pc := 1) dX8_name_1 rfl ?_
  refine aw_qS (pc := 3) (d := m_X8_isBeyond) (c_X8_isBeyond (t := 30) hl (by omega)) k_X8_isBeyond dX8_name_3 k_ml_X8_62 rfl ⟨rfl, rfl⟩ ⟨Nat.le_of_ble_eq_true rfl, Nat.le_of_ble_eq_true rfl⟩ ⟨Nat.zero_le _, Nat.zero_le _⟩ rfl (Nat.le_of_ble_eq_true rfl) (z_Pk ?_)
  refine aw_if_ne (pc := 6) (tgt := 23) dX8_name_6 rfl (by first | omega | exact z_bl_r _) (fun h6 => ?_) (fun h6 => ?_)
  · refine aw_bipush (pc := 23) dX8_name_23 rfl ?_
    refine aw_ireturn (pc := 25) dX8_name_25 rfl ⟨Nat.zero_le _, Nat.zero_le _⟩ ?_
    first | rw [z_bl_n] at h6 | rw [z_bl_0] at h6 | skip
    first | rw [z_bl_n] at h15 | rw [z_bl_0] at h15 | skip
    first | rw [z_bl_n] at h20 | rw [z_bl_0] at h20 | skip
    exact z_PCr (if_pos (by omega)) hI z_FR.rf
  · refine aw_iload_n (pc := 9) dX8_name_9 rfl ?_
    refine aw_bipush (pc := 10) dX8_name_10 rfl ?_
    refine aw_qS (pc := 12) (d := m_X8_isBeyond) (c_X8_isBeyond (t := 30) hh2 (by omega)) k_X8_isBeyond dX8_name_12 k_ml_X8_62 rfl ⟨rfl, rfl⟩ ⟨Nat.le_of_ble_eq_true rfl, Nat.le_of_ble_eq_true rfl⟩ ⟨Nat.zero_le _, Nat.zero_le _⟩ rfl (Nat.le_of_ble_eq_true rfl) (z_Pk ?_)
    refine aw_if_ne (pc := 15) (tgt := 23) dX8_name_15 rfl (by first | omega | exact z_bl_r _) (fun h15 => ?_) (fun h15 => ?_)
    · refine aw_bipush (pc := 23) dX8_name_23 rfl ?_
      refine aw_ireturn (pc := 25) dX8_name_25 rfl ⟨Nat.zero_le _, Nat.zero_le _⟩ ?_
      first | rw [z_bl_n] at h6 | rw [z_bl_0] at h6 | skip
      first | rw [z_bl_n] at h15 | rw [z_bl_0] at h15 | skip
      first | rw [z_bl_n] at h20 | rw [z_bl_0] at h20 | skip
      exact z_PCr (if_pos (by omega)) hI z_FR.rf
    · refine aw_iload_n (pc := 18) dX8_name_18 rfl ?_
      refine aw_iload_n (pc := 19) dX8_name_19 rfl ?_
      refine aw_icmp_ge (pc := 20) (tgt := 26) dX8_name_20 rfl (by first | omega | exact z_bl_r _) (by first | omega | exact z_bl_r _) (fun h20 => ?_) (fun h20 => ?_)
      · refine aw_aload_n (pc := 26) dX8_name_26 rfl ?_
        refine aw_getR (pc := 27) dX8_name_27 k_fl_X8_10 rfl (by omega) (by first | rfl | exact z_shr _ (by omega) | exact z_shc0 (by omega) | exact z_shc1 (by omega) | exact z_shc2 (by omega) | exact z_shc3 (by omega) | exact z_shc4 (by omega)) (by first | rfl | exact z_Rc0 _ (by omega) | exact z_Rc1 _ (by omega) | exact z_Rc2 _ (by omega) | exact z_Rc3 _ (by omega)) ?_
        refine aw_getI (pc := 30) dX8_name_30 k_fl_X8_66 rfl (by omega) (by first | rfl | exact z_shr _ (by omega) | exact z_shc0 (by omega) | exact z_shc1 (by omega) | exact z_shc2 (by omega) | exact z_shc3 (by omega) | exact z_shc4 (by omega)) ?_
        refine aw_bipush (pc := 33) dX8_name_33 rfl ?_
        refine aw_icmp_lt (pc := 35) (tgt := 41) dX8_name_35 rfl (by first | omega | exact z_bl_r _) (by first | omega | exact z_bl_r _) (fun h35 => ?_) (fun h35 => ?_)
        · first | rw [z_bl_n] at h6 | rw [z_bl_0] at h6 | skip
          first | rw [z_bl_n] at h15 | rw [z_bl_0] at h15 | skip
          first | rw [z_bl_n] at h20 | rw [z_bl_0] at h20 | skip
          have e5 : z_up I 17 1 0 1 5 = I 1 5 := z_up_a _ _ (by omega)
          have e6 : z_up I 17 1 0 1 6 = I 1 6 := z_up_a _ _ (by omega)
          have hM1 : z_M (z_up I 17 1 0) J := h.congr (fun a k ha => z_up_a _ _ (by omega)) (fun _ => rfl)
          have hm1 : z_clM (z_up I 17 1 0) J = z_clM I J := z_clM.congr h (fun a k ha => z_up_a _ _ (by omega)) (fun _ => rfl)
          have K1 := c_X6_addName (π := π) (J := J) (l := l) (hh := h2) hM1 (by rw [e5]; omega)
          have K2 := hM1.hN (l := l) (hh := h2) (by rw [e5]; omega) (by omega) (by omega)
          have K3 := z_clM_hN (l := l) (hh := h2) hM1
          rw [hm1] at K3
          rw [e5] at K1 K2 K3
          refine aw_aload_n (pc := 41) dX8_name_41 rfl ?_
          refine aw_getR (pc := 42) dX8_name_42 k_fl_X8_21 rfl (by omega) (by first | rfl | exact z_shr _ (by omega) | exact z_shc0 (by omega) | exact z_shc1 (by omega) | exact z_shc2 (by omega) | exact z_shc3 (by omega) | exact z_shc4 (by omega)) (by first | rfl | exact z_Rc0 _ (by omega) | exact z_Rc1 _ (by omega) | exact z_Rc2 _ (by omega) | exact z_Rc3 _ (by omega)) ?_
          refine aw_iconst (pc := 45) dX8_name_45 ?_
          refine aw_putI (pc := 46) dX8_name_46 k_fl_X8_70 rfl (by omega) (by first | rfl | exact z_shr _ (by omega) | exact z_shc0 (by omega) | exact z_shc1 (by omega) | exact z_shc2 (by omega) | exact z_shc3 (by omega) | exact z_shc4 (by omega)) ?_
          refine aw_aload_n (pc := 49) dX8_name_49 rfl ?_
          refine aw_getR (pc := 50) dX8_name_50 k_fl_X8_10 rfl (by omega) (by first | rfl | exact z_shr _ (by omega) | exact z_shc0 (by omega) | exact z_shc1 (by omega) | exact z_shc2 (by omega) | exact z_shc3 (by omega) | exact z_shc4 (by omega)) (by first | rfl | exact z_Rc0 _ (by omega) | exact z_Rc1 _ (by omega) | exact z_Rc2 _ (by omega) | exact z_Rc3 _ (by omega)) ?_
          refine aw_iload_n (pc := 53) dX8_name_53 rfl ?_
          refine aw_iload_n (pc := 54) dX8_name_54 rfl ?_
          refine aw_qV (pc := 55) (d := m_X6_addName) (K1) k_X6_addName dX8_name_55 k_ml_X8_73 rfl ⟨rfl, rfl⟩ (by omega) (by first | rfl | exact z_shr _ (by omega) | exact z_shc0 (by omega) | exact z_shc1 (by omega) | exact z_shc2 (by omega) | exact z_shc3 (by omega) | exact z_shc4 (by omega)) rfl ⟨Nat.le_of_ble_eq_true rfl, Nat.le_of_ble_eq_true rfl⟩ ⟨Nat.zero_le _, Nat.zero_le _⟩ rfl (Nat.le_of_ble_eq_true rfl) (z_Pk ?_)
          refine aw_ireturn (pc := 58) dX8_name_58 rfl ⟨Nat.zero_le _, Nat.zero_le _⟩ ?_
          refine z_PCr (((if_neg (by omega)).trans (if_neg (by omega))).trans (by rw [eN, Int.toNat_of_nonneg hnm.1])) (hI.cut0 K2 K3 (z_spN_lh hlh (by omega)) ?_ (fun a k h1 h2 => ?_)) ⟨fun a k h1 => ?_, fun a k h1 => z_up_a _ _ (by omega)⟩
          · rw [z_hN_o (by rw [e6]; omega) (by omega)]; exact z_up_s _ _ _ _
          · rw [z_hN_o (by rw [e6]; omega) (by omega)]; show (if a = 17 ∧ k = 1 then _ else _) = _; rw [if_neg (by omega)]
          · rw [z_hN_o (by rw [e6]; omega) (by omega)]; exact z_up_a _ _ (by omega)
        · refine aw_bipush (pc := 38) dX8_name_38 rfl ?_
          refine aw_ireturn (pc := 40) dX8_name_40 rfl ⟨Nat.zero_le _, Nat.zero_le _⟩ ?_
          first | rw [z_bl_n] at h6 | rw [z_bl_0] at h6 | skip
          first | rw [z_bl_n] at h15 | rw [z_bl_0] at h15 | skip
          first | rw [z_bl_n] at h20 | rw [z_bl_0] at h20 | skip
          refine z_PCr ((if_neg (by omega)).trans (if_pos (by omega))) hI z_FR.rf
      · refine aw_bipush (pc := 23) dX8_name_23 rfl ?_
        refine aw_ireturn (pc := 25) dX8_name_25 rfl ⟨Nat.zero_le _, Nat.zero_le _⟩ ?_
        first | rw [z_bl_n] at h6 | rw [z_bl_0] at h6 | skip
        first | rw [z_bl_n] at h15 | rw [z_bl_0] at h15 | skip
        first | rw [z_bl_n] at h20 | rw [z_bl_0] at h20 | skip
        exact z_PCr (if_pos (by omega)) hI z_FR.rf
set_option maxHeartbeats 4000000 in
theorem c_X8_row {π : Nat → Nat} {I J : AwI} {m : z_MM} {L : List z_CC} {t : Int} {v : Int} (hI : z_CI I J π m L t) (hv : -2147483648 ≤ v ∧ v ≤ 2147483647) : CT m_X8_row [zr 0, zi v] 255 I J (z_R π) (z_PC (z_rR m L t v) I J) := by
  have hI0 := hI
  obtain ⟨h, hm, hlh, hL, hc, ht, h01, h225, h232, hA⟩ := hI0
  subst hm
  have hnm := h.nm
  have hrw := h.rw
  have hn4 := hL.n
  have eN : mN (z_clM I J) = (I 1 5).toNat := rfl
  have eR : mR (z_clM I J) = (I 1 6).toNat := rfl
  have eL := hc.1
  refine CT.of (by decide) (Nat.le_of_ble_eq_true rfl) ?_
  show AW _ 0 0 _ 0 [some (zr 0), some (zi v)] [] _ _ _
  refine aw_iload_n (pc := 0) dX8_row_0 rfl ?_
  refine aw_sipush (pc := 1) dX8_row_1 rfl ?_
  refine aw_qS (pc := 4) (d := m_X8_isBeyond) (c_X8_isBeyond (t := 9999) hv (by omega)) k_X8_isBeyond dX8_row_4 k_ml_X8_62 rfl ⟨rfl, rfl⟩ ⟨Nat.le_of_ble_eq_true rfl, Nat.le_of_ble_eq_true rfl⟩ ⟨Nat.zero_le _, Nat.zero_le _⟩ rfl (Nat.le_of_ble_eq_true rfl) (z_Pk ?_)
  refine aw_if_eq (pc := 7) (tgt := 13) dX8_row_7 rfl (by first | omega | exact z_bl_r _) (fun h7 => ?_) (fun h7 => ?_)
  · refine aw_aload_n (pc := 13) dX8_row_13 rfl ?_
    refine aw_getR (pc := 14) dX8_row_14 k_fl_X8_10 rfl (by omega) (by first | rfl | exact z_shr _ (by omega) | exact z_shc0 (by omega) | exact z_shc1 (by omega) | exact z_shc2 (by omega) | exact z_shc3 (by omega) | exact z_shc4 (by omega)) (by first | rfl | exact z_Rc0 _ (by omega) | exact z_Rc1 _ (by omega) | exact z_Rc2 _ (by omega) | exact z_Rc3 _ (by omega)) ?_
    refine aw_getI (pc := 17) dX8_row_17 k_fl_X8_77 rfl (by omega) (by first | rfl | exact z_shr _ (by omega) | exact z_shc0 (by omega) | exact z_shc1 (by omega) | exact z_shc2 (by omega) | exact z_shc3 (by omega) | exact z_shc4 (by omega)) ?_
    refine aw_bipush (pc := 20) dX8_row_20 rfl ?_
    refine aw_icmp_lt (pc := 22) (tgt := 28) dX8_row_22 rfl (by first | omega | exact z_bl_r _) (by first | omega | exact z_bl_r _) (fun h22 => ?_) (fun h22 => ?_)
    · first | rw [z_bl_n] at h7 | rw [z_bl_0] at h7 | skip
      have e6 : z_up I 17 1 0 1 6 = I 1 6 := z_up_a _ _ (by omega)
      have hM1 : z_M (z_up I 17 1 0) J := h.congr (fun a k ha => z_up_a _ _ (by omega)) (fun _ => rfl)
      have hm1 : z_clM (z_up I 17 1 0) J = z_clM I J := z_clM.congr h (fun a k ha => z_up_a _ _ (by omega)) (fun _ => rfl)
      have h6 : z_up I 17 1 0 1 6 < 10 := by rw [e6]; omega
      have K1 := c_X6_addRow (π := π) (J := J) (v := v) hM1 h6
      have K2 := hM1.hR (v := v) h6 (by omega)
      have K3 := z_clM_hR (v := v) hM1 h6
      rw [hm1] at K3
      rw [e6] at K1
      refine aw_aload_n (pc := 28) dX8_row_28 rfl ?_
      refine aw_getR (pc := 29) dX8_row_29 k_fl_X8_21 rfl (by omega) (by first | rfl | exact z_shr _ (by omega) | exact z_shc0 (by omega) | exact z_shc1 (by omega) | exact z_shc2 (by omega) | exact z_shc3 (by omega) | exact z_shc4 (by omega)) (by first | rfl | exact z_Rc0 _ (by omega) | exact z_Rc1 _ (by omega) | exact z_Rc2 _ (by omega) | exact z_Rc3 _ (by omega)) ?_
      refine aw_iconst (pc := 32) dX8_row_32 ?_
      refine aw_putI (pc := 33) dX8_row_33 k_fl_X8_70 rfl (by omega) (by first | rfl | exact z_shr _ (by omega) | exact z_shc0 (by omega) | exact z_shc1 (by omega) | exact z_shc2 (by omega) | exact z_shc3 (by omega) | exact z_shc4 (by omega)) ?_
      refine aw_aload_n (pc := 36) dX8_row_36 rfl ?_
      refine aw_getR (pc := 37) dX8_row_37 k_fl_X8_10 rfl (by omega) (by first | rfl | exact z_shr _ (by omega) | exact z_shc0 (by omega) | exact z_shc1 (by omega) | exact z_shc2 (by omega) | exact z_shc3 (by omega) | exact z_shc4 (by omega)) (by first | rfl | exact z_Rc0 _ (by omega) | exact z_Rc1 _ (by omega) | exact z_Rc2 _ (by omega) | exact z_Rc3 _ (by omega)) ?_
      refine aw_iload_n (pc := 40) dX8_row_40 rfl ?_
      refine aw_qV (pc := 41) (d := m_X6_addRow) (K1) k_X6_addRow dX8_row_41 k_ml_X8_80 rfl ⟨rfl, rfl⟩ (by omega) (by first | rfl | exact z_shr _ (by omega) | exact z_shc0 (by omega) | exact z_shc1 (by omega) | exact z_shc2 (by omega) | exact z_shc3 (by omega) | exact z_shc4 (by omega)) rfl ⟨Nat.le_of_ble_eq_true rfl, Nat.le_of_ble_eq_true rfl⟩ ⟨Nat.zero_le _, Nat.zero_le _⟩ rfl (Nat.le_of_ble_eq_true rfl) (z_Pk ?_)
      refine aw_ireturn (pc := 44) dX8_row_44 rfl ⟨Nat.zero_le _, Nat.zero_le _⟩ ?_
      refine z_PCr (((if_neg (by omega)).trans (if_neg (by omega))).trans (by rw [eR, Int.toNat_of_nonneg hrw.1])) (hI.cut0 K2 K3 (z_spR_lh hlh) ?_ (fun a k h1 h2 => ?_)) ⟨fun a k h1 => ?_, fun a k h1 => rfl⟩
      · rw [z_hR_o h6 (by omega)]; exact z_up_s _ _ _ _
      · rw [z_hR_o h6 (by omega)]; show (if a = 17 ∧ k = 1 then _ else _) = _; rw [if_neg (by omega)]
      · rw [z_hR_o h6 (by omega)]; exact z_up_a _ _ (by omega)
    · refine aw_bipush (pc := 25) dX8_row_25 rfl ?_
      refine aw_ireturn (pc := 27) dX8_row_27 rfl ⟨Nat.zero_le _, Nat.zero_le _⟩ ?_
      first | rw [z_bl_n] at h7 | rw [z_bl_0] at h7 | skip
      refine z_PCr ((if_neg (by omega)).trans (if_pos (by omega))) hI z_FR.rf
  · refine aw_bipush (pc := 10) dX8_row_10 rfl ?_
    refine aw_ireturn (pc := 12) dX8_row_12 rfl ⟨Nat.zero_le _, Nat.zero_le _⟩ ?_
    first | rw [z_bl_n] at h7 | rw [z_bl_0] at h7 | skip
    exact z_PCr (if_pos (by omega)) hI z_FR.rf
set_option maxHeartbeats 4000000 in
theorem c_X8_factor {π : Nat → Nat} {I J : AwI} {m : z_MM} {L : List z_CC} {t : Int} {r n v : Int} (hI : z_CI I J π m L t) (hr : -2147483648 ≤ r ∧ r ≤ 2147483647) (hn : -2147483648 ≤ n ∧ n ≤ 2147483647) (hv : -2147483648 ≤ v ∧ v ≤ 2147483647) : CT m_X8_factor [zr 0, zi r, zi n, zi v] 255 I J (z_R π) (z_PC (z_rF m L t r n v) I J) := by
  have hI0 := hI
  obtain ⟨h, hm, hlh, hL, hc, ht, h01, h225, h232, hA⟩ := hI0
  subst hm
  have hnm := h.nm
  have hrw := h.rw
  have hn4 := hL.n
  have eN : mN (z_clM I J) = (I 1 5).toNat := rfl
  have eR : mR (z_clM I J) = (I 1 6).toNat := rfl
  have eL := hc.1
  refine CT.of (by decide) (Nat.le_of_ble_eq_true rfl) ?_
  show AW _ 0 0 _ 0 [some (zr 0), some (zi r), some (zi n), some (zi v), none] [] _ _ _
  refine aw_aload_n (pc := 0) dX8_factor_0 rfl ?_
  refine aw_getR (pc := 1) dX8_factor_1 k_fl_X8_10 rfl (by omega) (by first | rfl | exact z_shr _ (by omega) | exact z_shc0 (by omega) | exact z_shc1 (by omega) | exact z_shc2 (by omega) | exact z_shc3 (by omega) | exact z_shc4 (by omega)) (by first | rfl | exact z_Rc0 _ (by omega) | exact z_Rc1 _ (by omega) | exact z_Rc2 _ (by omega) | exact z_Rc3 _ (by omega)) ?_
  refine aw_iload_n (pc := 4) dX8_factor_4 rfl ?_
  refine aw_qV (pc := 5) (d := m_X6_hasRow) (c_X6_hasRow h hr) k_X6_hasRow dX8_factor_5 k_ml_X8_84 rfl ⟨rfl, rfl⟩ (by omega) (by first | rfl | exact z_shr _ (by omega) | exact z_shc0 (by omega) | exact z_shc1 (by omega) | exact z_shc2 (by omega) | exact z_shc3 (by omega) | exact z_shc4 (by omega)) rfl ⟨Nat.le_of_ble_eq_true rfl, Nat.le_of_ble_eq_true rfl⟩ ⟨Nat.zero_le _, Nat.zero_le _⟩ rfl (Nat.le_of_ble_eq_true rfl) (z_Pk ?_)
  refine aw_if_eq (pc := 8) (tgt := 22) dX8_factor_8 rfl (by first | omega | exact z_bl_r _) (fun h8 => ?_) (fun h8 => ?_)
  · refine aw_iconst (pc := 22) dX8_factor_22 ?_
    refine aw_ireturn (pc := 23) dX8_factor_23 rfl ⟨Nat.zero_le _, Nat.zero_le _⟩ ?_
    first | rw [z_bl_n] at h8 | rw [z_bl_0] at h8 | skip
    first | rw [z_bl_n] at h19 | rw [z_bl_0] at h19 | skip
    exact z_PCr (if_pos (by omega)) hI z_FR.rf
  · refine aw_aload_n (pc := 11) dX8_factor_11 rfl ?_
    refine aw_getR (pc := 12) dX8_factor_12 k_fl_X8_10 rfl (by omega) (by first | rfl | exact z_shr _ (by omega) | exact z_shc0 (by omega) | exact z_shc1 (by omega) | exact z_shc2 (by omega) | exact z_shc3 (by omega) | exact z_shc4 (by omega)) (by first | rfl | exact z_Rc0 _ (by omega) | exact z_Rc1 _ (by omega) | exact z_Rc2 _ (by omega) | exact z_Rc3 _ (by omega)) ?_
    refine aw_iload_n (pc := 15) dX8_factor_15 rfl ?_
    refine aw_qV (pc := 16) (d := m_X6_hasName) (c_X6_hasName h hn) k_X6_hasName dX8_factor_16 k_ml_X8_88 rfl ⟨rfl, rfl⟩ (by omega) (by first | rfl | exact z_shr _ (by omega) | exact z_shc0 (by omega) | exact z_shc1 (by omega) | exact z_shc2 (by omega) | exact z_shc3 (by omega) | exact z_shc4 (by omega)) rfl ⟨Nat.le_of_ble_eq_true rfl, Nat.le_of_ble_eq_true rfl⟩ ⟨Nat.zero_le _, Nat.zero_le _⟩ rfl (Nat.le_of_ble_eq_true rfl) (z_Pk ?_)
    refine aw_if_ne (pc := 19) (tgt := 24) dX8_factor_19 rfl (by first | omega | exact z_bl_r _) (fun h19 => ?_) (fun h19 => ?_)
    · first | rw [z_bl_n] at h8 | rw [z_bl_0] at h8 | skip
      first | rw [z_bl_n] at h19 | rw [z_bl_0] at h19 | skip
      refine aw_iload_n (pc := 24) dX8_factor_24 rfl ?_
      refine aw_bipush (pc := 25) dX8_factor_25 rfl ?_
      refine aw_qS (pc := 27) (d := m_X8_isBeyond) (c_X8_isBeyond (t := 50) hv (by omega)) k_X8_isBeyond dX8_factor_27 k_ml_X8_62 rfl ⟨rfl, rfl⟩ ⟨Nat.le_of_ble_eq_true rfl, Nat.le_of_ble_eq_true rfl⟩ ⟨Nat.zero_le _, Nat.zero_le _⟩ rfl (Nat.le_of_ble_eq_true rfl) (z_Pk ?_)
      refine aw_if_eq (pc := 30) (tgt := 36) dX8_factor_30 rfl (by first | omega | exact z_bl_r _) (fun h30 => ?_) (fun h30 => ?_)
      · refine aw_aload_n (pc := 36) dX8_factor_36 rfl ?_
        refine aw_getR (pc := 37) dX8_factor_37 k_fl_X8_10 rfl (by omega) (by first | rfl | exact z_shr _ (by omega) | exact z_shc0 (by omega) | exact z_shc1 (by omega) | exact z_shc2 (by omega) | exact z_shc3 (by omega) | exact z_shc4 (by omega)) (by first | rfl | exact z_Rc0 _ (by omega) | exact z_Rc1 _ (by omega) | exact z_Rc2 _ (by omega) | exact z_Rc3 _ (by omega)) ?_
        refine aw_getR (pc := 40) dX8_factor_40 k_fl_X8_91 rfl (by omega) (by first | rfl | exact z_shr _ (by omega) | exact z_shc0 (by omega) | exact z_shc1 (by omega) | exact z_shc2 (by omega) | exact z_shc3 (by omega) | exact z_shc4 (by omega)) (by first | rfl | exact z_Rc0 _ (by omega) | exact z_Rc1 _ (by omega) | exact z_Rc2 _ (by omega) | exact z_Rc3 _ (by omega)) ?_
        refine aw_iload_n (pc := 43) dX8_factor_43 rfl ?_
        refine aw_aaloadG (b := 6 + r.toNat) (pc := 44) dX8_factor_44 (by omega) (Nat.le_refl _) rfl (by omega) (by rfl) ?_
        refine aw_iload_n (pc := 45) dX8_factor_45 rfl ?_
        refine aw_iaload (pc := 46) dX8_factor_46 (by omega) (Nat.le_refl _) (by first | rfl | exact z_shr _ (by omega) | exact z_shc0 (by omega) | exact z_shc1 (by omega) | exact z_shc2 (by omega) | exact z_shc3 (by omega) | exact z_shc4 (by omega)) (by first | omega | exact z_bl_r _) ?_
        refine aw_istore (pc := 47) (lv' := [_, _, _, _, _]) dX8_factor_47 (Nat.le_of_ble_eq_true rfl) rfl ?_
        refine aw_aload_n (pc := 49) dX8_factor_49 rfl ?_
        refine aw_getR (pc := 50) dX8_factor_50 k_fl_X8_10 rfl (by omega) (by first | rfl | exact z_shr _ (by omega) | exact z_shc0 (by omega) | exact z_shc1 (by omega) | exact z_shc2 (by omega) | exact z_shc3 (by omega) | exact z_shc4 (by omega)) (by first | rfl | exact z_Rc0 _ (by omega) | exact z_Rc1 _ (by omega) | exact z_Rc2 _ (by omega) | exact z_Rc3 _ (by omega)) ?_
        refine aw_getR (pc := 53) dX8_factor_53 k_fl_X8_91 rfl (by omega) (by first | rfl | exact z_shr _ (by omega) | exact z_shc0 (by omega) | exact z_shc1 (by omega) | exact z_shc2 (by omega) | exact z_shc3 (by omega) | exact z_shc4 (by omega)) (by first | rfl | exact z_Rc0 _ (by omega) | exact z_Rc1 _ (by omega) | exact z_Rc2 _ (by omega) | exact z_Rc3 _ (by omega)) ?_
        refine aw_iload_n (pc := 56) dX8_factor_56 rfl ?_
        refine aw_aaloadG (b := 6 + r.toNat) (pc := 57) dX8_factor_57 (by omega) (Nat.le_refl _) rfl (by omega) (by rfl) ?_
        refine aw_iload_n (pc := 58) dX8_factor_58 rfl ?_
        refine aw_iload_n (pc := 59) dX8_factor_59 rfl ?_
        refine aw_iastore (pc := 60) dX8_factor_60 (by omega) (Nat.le_refl _) (by first | rfl | exact z_shr _ (by omega) | exact z_shc0 (by omega) | exact z_shc1 (by omega) | exact z_shc2 (by omega) | exact z_shc3 (by omega) | exact z_shc4 (by omega)) (by first | omega | exact z_bl_r _) ?_
        refine aw_aload_n (pc := 61) dX8_factor_61 rfl ?_
        refine aw_getR (pc := 62) dX8_factor_62 k_fl_X8_21 rfl (by omega) (by first | rfl | exact z_shr _ (by omega) | exact z_shc0 (by omega) | exact z_shc1 (by omega) | exact z_shc2 (by omega) | exact z_shc3 (by omega) | exact z_shc4 (by omega)) (by first | rfl | exact z_Rc0 _ (by omega) | exact z_Rc1 _ (by omega) | exact z_Rc2 _ (by omega) | exact z_Rc3 _ (by omega)) ?_
        refine aw_iconst (pc := 65) dX8_factor_65 ?_
        refine aw_putI (pc := 66) dX8_factor_66 k_fl_X8_70 rfl (by omega) (by first | rfl | exact z_shr _ (by omega) | exact z_shc0 (by omega) | exact z_shc1 (by omega) | exact z_shc2 (by omega) | exact z_shc3 (by omega) | exact z_shc4 (by omega)) ?_
        refine aw_iload (pc := 69) dX8_factor_69 rfl ?_
        refine aw_ireturn (pc := 71) dX8_factor_71 rfl ⟨Nat.zero_le _, Nat.zero_le _⟩ ?_
        first | rw [z_bl_n] at h30 | rw [z_bl_0] at h30 | skip
        have e1 : ∀ a k, a ≠ 6 + r.toNat → (a ≠ 17 ∨ k ≠ 1) → z_up (z_up I (6 + r.toNat) n.toNat v) 17 1 0 a k = I a k := fun a k h1 h2 => by
          show (if a = 17 ∧ k = 1 then _ else _) = _
          rw [if_neg (by omega), z_up_a _ _ h1]
        have e2 : ∀ b k, b < 10 → z_up (z_up I (6 + r.toNat) n.toNat v) 17 1 0 (6 + b) k = z_up (fun r => I (6 + r)) r.toNat n.toNat v b k := fun b k hb => by
          rw [z_up_a _ _ (by omega)]
          unfold z_up
          by_cases e : b = r.toNat ∧ k = n.toNat
          · rw [if_pos (by omega), if_pos e]
          · rw [if_neg (by omega), if_neg e]
        have K2 : z_M (z_up (z_up I (6 + r.toNat) n.toNat v) 17 1 0) J := by
          refine ⟨?_, ?_, fun n => ?_, fun n => ?_, h.pt, fun b k hb => ?_, fun k => ?_, fun b k q1 q2 q3 => ?_⟩
          · rw [e1 _ _ (by omega) (by omega)]; exact hnm
          · rw [e1 _ _ (by omega) (by omega)]; exact hrw
          · rw [e1 _ _ (by omega) (by omega)]; exact h.lo n
          · rw [e1 _ _ (by omega) (by omega)]; exact h.hi n
          · rw [e2 b k hb]; have := h.fc b k hb; unfold z_up; split <;> omega
          · rw [e1 _ _ (by omega) (by omega)]; exact h.rt k
          · rw [e1 _ _ (by omega) (by omega)] at q1 q2; rw [e2 b k (by omega)]; show (if b = r.toNat ∧ k = n.toNat then _ else _) = _; rw [if_neg (by omega)]; exact h.zz b k q1 q2 q3
        have K3 : z_clM (z_up (z_up I (6 + r.toNat) n.toNat v) 17 1 0) J = z_spF (z_clM I J) r.toNat n.toNat v := by
          rw [z_clM_mk, e1 1 5 (by omega) (by omega), e1 1 6 (by omega) (by omega)]
          exact z_mkM_sF (fun n hn => ⟨e1 _ _ (by omega) (by omega), e1 _ _ (by omega) (by omega), rfl⟩) (fun a b ha hb => e2 a b (by omega)) (fun r hr => e1 _ _ (by omega) (by omega))
        refine z_PCr (((if_neg (by omega)).trans (if_neg (by omega))).trans (by rw [z_clM_F (by omega) (by omega)])) (hI.cut0 K2 K3 (z_spF_lh hlh) (z_up_s _ _ _ _) (fun a k h1 h2 => e1 a k (by omega) h2)) ⟨fun a k h1 => e1 a k (by omega) (by omega), fun a k h1 => rfl⟩
      · refine aw_bipush (pc := 33) dX8_factor_33 rfl ?_
        refine aw_ireturn (pc := 35) dX8_factor_35 rfl ⟨Nat.zero_le _, Nat.zero_le _⟩ ?_
        first | rw [z_bl_n] at h30 | rw [z_bl_0] at h30 | skip
        refine z_PCr ((if_neg (by omega)).trans (if_pos (by omega))) hI z_FR.rf
    · refine aw_iconst (pc := 22) dX8_factor_22 ?_
      refine aw_ireturn (pc := 23) dX8_factor_23 rfl ⟨Nat.zero_le _, Nat.zero_le _⟩ ?_
      first | rw [z_bl_n] at h8 | rw [z_bl_0] at h8 | skip
      first | rw [z_bl_n] at h19 | rw [z_bl_0] at h19 | skip
      exact z_PCr (if_pos (by omega)) hI z_FR.rf
set_option maxHeartbeats 4000000 in
theorem c_X8_point {π : Nat → Nat} {I J : AwI} {m : z_MM} {L : List z_CC} {t : Int} {n a b : Int} (hI : z_CI I J π m L t) (hn : -2147483648 ≤ n ∧ n ≤ 2147483647) (ha : -2147483648 ≤ a ∧ a ≤ 2147483647) (hb : -2147483648 ≤ b ∧ b ≤ 2147483647) : CT m_X8_point [zr 0, zi n, zi a, zi b] 255 I J (z_R π) (z_PC (z_rPt m L t n a b) I J) := by
  have hI0 := hI
  obtain ⟨h, hm, hlh, hL, hc, ht, h01, h225, h232, hA⟩ := hI0
  subst hm
  have hnm := h.nm
  have hrw := h.rw
  have hn4 := hL.n
  have eN : mN (z_clM I J) = (I 1 5).toNat := rfl
  have eR : mR (z_clM I J) = (I 1 6).toNat := rfl
  have eL := hc.1
  refine CT.of (by decide) (Nat.le_of_ble_eq_true rfl) ?_
  show AW _ 0 0 _ 0 [some (zr 0), some (zi n), some (zi a), some (zi b)] [] _ _ _
  refine aw_aload_n (pc := 0) dX8_point_0 rfl ?_
  refine aw_getR (pc := 1) dX8_point_1 k_fl_X8_10 rfl (by omega) (by first | rfl | exact z_shr _ (by omega) | exact z_shc0 (by omega) | exact z_shc1 (by omega) | exact z_shc2 (by omega) | exact z_shc3 (by omega) | exact z_shc4 (by omega)) (by first | rfl | exact z_Rc0 _ (by omega) | exact z_Rc1 _ (by omega) | exact z_Rc2 _ (by omega) | exact z_Rc3 _ (by omega)) ?_
  refine aw_iload_n (pc := 4) dX8_point_4 rfl ?_
  refine aw_qV (pc := 5) (d := m_X6_hasName) (c_X6_hasName h hn) k_X6_hasName dX8_point_5 k_ml_X8_88 rfl ⟨rfl, rfl⟩ (by omega) (by first | rfl | exact z_shr _ (by omega) | exact z_shc0 (by omega) | exact z_shc1 (by omega) | exact z_shc2 (by omega) | exact z_shc3 (by omega) | exact z_shc4 (by omega)) rfl ⟨Nat.le_of_ble_eq_true rfl, Nat.le_of_ble_eq_true rfl⟩ ⟨Nat.zero_le _, Nat.zero_le _⟩ rfl (Nat.le_of_ble_eq_true rfl) (z_Pk ?_)
  refine aw_if_ne (pc := 8) (tgt := 13) dX8_point_8 rfl (by first | omega | exact z_bl_r _) (fun h8 => ?_) (fun h8 => ?_)
  · first | rw [z_bl_n] at h8 | rw [z_bl_0] at h8 | skip
    refine aw_iload_n (pc := 13) dX8_point_13 rfl ?_
    refine aw_iconst (pc := 14) dX8_point_14 ?_
    refine aw_icmp_lt (pc := 15) (tgt := 34) dX8_point_15 rfl (by first | omega | exact z_bl_r _) (by first | omega | exact z_bl_r _) (fun h15 => ?_) (fun h15 => ?_)
    · refine aw_bipush (pc := 34) dX8_point_34 rfl ?_
      refine aw_ireturn (pc := 36) dX8_point_36 rfl ⟨Nat.zero_le _, Nat.zero_le _⟩ ?_
      first | rw [z_bl_n] at h31 | rw [z_bl_0] at h31 | skip
      refine z_PCr ((if_neg (by omega)).trans (if_pos (by omega))) hI z_FR.rf
    · refine aw_iload_n (pc := 18) dX8_point_18 rfl ?_
      refine aw_bipush (pc := 19) dX8_point_19 rfl ?_
      refine aw_icmp_gt (pc := 21) (tgt := 34) dX8_point_21 rfl (by first | omega | exact z_bl_r _) (by first | omega | exact z_bl_r _) (fun h21 => ?_) (fun h21 => ?_)
      · refine aw_bipush (pc := 34) dX8_point_34 rfl ?_
        refine aw_ireturn (pc := 36) dX8_point_36 rfl ⟨Nat.zero_le _, Nat.zero_le _⟩ ?_
        first | rw [z_bl_n] at h31 | rw [z_bl_0] at h31 | skip
        refine z_PCr ((if_neg (by omega)).trans (if_pos (by omega))) hI z_FR.rf
      · refine aw_iload_n (pc := 24) dX8_point_24 rfl ?_
        refine aw_sipush (pc := 25) dX8_point_25 rfl ?_
        refine aw_qS (pc := 28) (d := m_X8_isBeyond) (c_X8_isBeyond (t := 400) ha (by omega)) k_X8_isBeyond dX8_point_28 k_ml_X8_62 rfl ⟨rfl, rfl⟩ ⟨Nat.le_of_ble_eq_true rfl, Nat.le_of_ble_eq_true rfl⟩ ⟨Nat.zero_le _, Nat.zero_le _⟩ rfl (Nat.le_of_ble_eq_true rfl) (z_Pk ?_)
        refine aw_if_eq (pc := 31) (tgt := 37) dX8_point_31 rfl (by first | omega | exact z_bl_r _) (fun h31 => ?_) (fun h31 => ?_)
        · first | rw [z_bl_n] at h31 | rw [z_bl_0] at h31 | skip
          have ed : (27720 : Int).tdiv b = 27720 / b := by rw [z_td (by omega), if_neg (by omega)]
          have eb : 0 ≤ 27720 / b ∧ 27720 / b ≤ 27720 := ⟨Int.ediv_nonneg (by omega) (by omega), Int.ediv_le_self _ (by omega)⟩
          refine aw_aload_n (pc := 37) dX8_point_37 rfl ?_
          refine aw_getR (pc := 38) dX8_point_38 k_fl_X8_10 rfl (by omega) (by first | rfl | exact z_shr _ (by omega) | exact z_shc0 (by omega) | exact z_shc1 (by omega) | exact z_shc2 (by omega) | exact z_shc3 (by omega) | exact z_shc4 (by omega)) (by first | rfl | exact z_Rc0 _ (by omega) | exact z_Rc1 _ (by omega) | exact z_Rc2 _ (by omega) | exact z_Rc3 _ (by omega)) ?_
          refine aw_getR (pc := 41) dX8_point_41 k_fl_X8_95 rfl (by omega) (by first | rfl | exact z_shr _ (by omega) | exact z_shc0 (by omega) | exact z_shc1 (by omega) | exact z_shc2 (by omega) | exact z_shc3 (by omega) | exact z_shc4 (by omega)) (by first | rfl | exact z_Rc0 _ (by omega) | exact z_Rc1 _ (by omega) | exact z_Rc2 _ (by omega) | exact z_Rc3 _ (by omega)) ?_
          refine aw_iload_n (pc := 44) dX8_point_44 rfl ?_
          refine aw_iload_n (pc := 45) dX8_point_45 rfl ?_
          refine aw_i2l (pc := 46) dX8_point_46 (by first | omega | exact z_bl_r _) ?_
          refine aw_sipush (pc := 47) dX8_point_47 rfl ?_
          refine aw_iload_n (pc := 50) dX8_point_50 rfl ?_
          refine aw_idiv (pc := 51) dX8_point_51 (by omega) (by omega) (by omega) ?_
          rw [ed]
          refine aw_i2l (pc := 52) dX8_point_52 (by first | omega | exact z_bl_r _) ?_
          refine aw_lmul (pc := 53) dX8_point_53 ?_
          refine aw_lastore (pc := 54) dX8_point_54 (by omega) (Nat.le_refl _) (by first | rfl | exact z_shr _ (by omega) | exact z_shc0 (by omega) | exact z_shc1 (by omega) | exact z_shc2 (by omega) | exact z_shc3 (by omega) | exact z_shc4 (by omega)) (by first | omega | exact z_bl_r _) ?_
          refine aw_iconst (pc := 55) dX8_point_55 ?_
          refine aw_ireturn (pc := 56) dX8_point_56 rfl ⟨Nat.zero_le _, Nat.zero_le _⟩ ?_
          have hab := z_mulb (a := a) (b := 27720 / b) (A := 400) (B := 27720) (by omega) (by omega)
          have K2 : z_M I (z_up J 4 n.toNat (a * (27720 / b))) := ⟨hnm, hrw, h.lo, h.hi, fun k => by have := h.pt k; unfold z_up; split <;> omega, h.fc, h.rt, h.zz⟩
          have K3 : z_clM I (z_up J 4 n.toNat (a * (27720 / b))) = z_spP (z_clM I J) n.toNat (a * (27720 / b)) := by
            rw [z_clM_mk]
            refine z_mkM_sP (fun n hn => ⟨rfl, rfl⟩) (fun b hb => ?_) (fun a b ha hb => rfl) (fun r hr => rfl)
            unfold z_up va_up
            by_cases e : b = n.toNat
            · rw [if_pos ⟨rfl, e⟩, if_pos e]
            · rw [if_neg (fun q => e q.2), if_neg e]
          exact z_PCr ((if_neg (by omega)).trans (if_neg (by omega))) ⟨K2, K3, z_spP_lh hlh, hL, hc.m rfl rfl, ht, h01, h225, h232, hA⟩ ⟨fun a k h1 => rfl, fun a k h1 => z_up_a _ _ (by omega)⟩
        · refine aw_bipush (pc := 34) dX8_point_34 rfl ?_
          refine aw_ireturn (pc := 36) dX8_point_36 rfl ⟨Nat.zero_le _, Nat.zero_le _⟩ ?_
          first | rw [z_bl_n] at h31 | rw [z_bl_0] at h31 | skip
          refine z_PCr ((if_neg (by omega)).trans (if_pos (by omega))) hI z_FR.rf
  · refine aw_iconst (pc := 11) dX8_point_11 ?_
    refine aw_ireturn (pc := 12) dX8_point_12 rfl ⟨Nat.zero_le _, Nat.zero_le _⟩ ?_
    first | rw [z_bl_n] at h8 | rw [z_bl_0] at h8 | skip
    exact z_PCr (if_pos (by omega)) hI z_FR.rf
set_option maxHeartbeats 4000000 in
theorem c_X8_closed {π : Nat → Nat} {I J : AwI} {m : z_MM} {L : List z_CC} {t : Int} (hI : z_CI I J π m L t) : CT m_X8_closed [zr 0] 255 I J (z_R π) (z_PC (t, m, L, t) I J) := by
  have hI0 := hI
  obtain ⟨h, hm, hlh, hL, hc, ht, h01, h225, h232, hA⟩ := hI0
  subst hm
  have hnm := h.nm
  have hrw := h.rw
  have hn4 := hL.n
  have eN : mN (z_clM I J) = (I 1 5).toNat := rfl
  have eR : mR (z_clM I J) = (I 1 6).toNat := rfl
  have eL := hc.1
  refine CT.of (by decide) (Nat.le_of_ble_eq_true rfl) ?_
  show AW _ 0 0 _ 0 [some (zr 0)] [] _ _ _
  refine aw_aload_n (pc := 0) dX8_closed_0 rfl ?_
  refine aw_getR (pc := 1) dX8_closed_1 k_fl_X8_21 rfl (by omega) (by first | rfl | exact z_shr _ (by omega) | exact z_shc0 (by omega) | exact z_shc1 (by omega) | exact z_shc2 (by omega) | exact z_shc3 (by omega) | exact z_shc4 (by omega)) (by first | rfl | exact z_Rc0 _ (by omega) | exact z_Rc1 _ (by omega) | exact z_Rc2 _ (by omega) | exact z_Rc3 _ (by omega)) ?_
  refine aw_getI (pc := 4) dX8_closed_4 k_fl_X8_99 rfl (by omega) (by first | rfl | exact z_shr _ (by omega) | exact z_shc0 (by omega) | exact z_shc1 (by omega) | exact z_shc2 (by omega) | exact z_shc3 (by omega) | exact z_shc4 (by omega)) ?_
  refine aw_if_eq (pc := 7) (tgt := 14) dX8_closed_7 rfl (by omega) (fun h7 => ?_) (fun h7 => ?_)
  · refine aw_iconst (pc := 14) dX8_closed_14 ?_
    refine aw_ireturn (pc := 15) dX8_closed_15 rfl ⟨Nat.zero_le _, Nat.zero_le _⟩ ?_
    first | exact z_PCr (by rw [show t = 1 by omega]) hI z_FR.rf | exact z_PCr (by rw [show t = 0 by omega]) hI z_FR.rf
  · refine aw_iconst (pc := 10) dX8_closed_10 ?_
    refine aw_goto (pc := 11) (tgt := 15) dX8_closed_11 rfl ?_
    refine aw_ireturn (pc := 15) dX8_closed_15 rfl ⟨Nat.zero_le _, Nat.zero_le _⟩ ?_
    first | exact z_PCr (by rw [show t = 1 by omega]) hI z_FR.rf | exact z_PCr (by rw [show t = 0 by omega]) hI z_FR.rf
