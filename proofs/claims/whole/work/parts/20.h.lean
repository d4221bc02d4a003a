theorem z_clC9 {I : AwI} {c : Nat} {m : z_MM} {C : z_CC} {f rt lt ht : Nat → Int} {r kd ag dv cr : Int} (h1 : ∀ n, n < mN m → f n = cF C n) (h2 : r = cR C) (h3 : kd = cK C) (h4 : ag = cA C) (h5 : cK C = 0 ∨ cK C = 1 → (∀ j, j < mR m → rt j = cS C j) ∧ (∀ n, n < mN m → lt n = cS C (10 + n)) ∧ (∀ n, n < mN m → ht n = cS C (18 + n)) ∧ dv = cS C 26) (h6 : cK C = 2 → cr = cS C 0) : z_clC (z_ct9 I c f rt lt ht r kd ag dv cr) c m C :=
  ⟨fun n hn => (z_c9_f n).trans (h1 n hn), z_c9_r.trans h2, z_c9_kd.trans h3, z_c9_ag.trans h4, fun q => ⟨fun j hj => (z_c9_rt j).trans ((h5 q).1 j hj), fun n hn => (z_c9_lt n).trans ((h5 q).2.1 n hn), fun n hn => (z_c9_ht n).trans ((h5 q).2.2.1 n hn), z_c9_dv.trans (h5 q).2.2.2⟩, fun q => z_c9_cr.trans (h6 q)⟩
/-- what find leaves as it was -/
def z_F (I I' : AwI) : Prop := ∀ a k, a < 17 ∨ 224 ≤ a → I' a k = I a k
theorem z_clL.c9 {I : AwI} {π : Nat → Nat} {m : z_MM} {L : List z_CC} {f rt lt ht : Nat → Int} {r kd ag dv cr : Int} (hL : z_L I π) (h : z_clL I π m L) : z_clL (z_ct9 I (π (I 17 1).toNat) f rt lt ht r kd ag dv cr) π m L := by
  have hn := hL.n
  have hlen := h.1
  refine ⟨by rw [z_c9_o (by omega)]; exact h.1, fun k C hk => (h.2 k C hk).congr (fun a j h1 h2 => z_c9_o ?_)⟩
  have hlt := (List.getElem?_eq_some_iff.mp hk).1
  have hne : π k ≠ π (I 17 1).toNat := fun e => by
    have := hL.2.1.2 k _ (by omega) (by omega) e
    omega
  omega
theorem z_draft {I J : AwI} {π : Nat → Nat} {L : List z_CC} {C : z_CC} {f rt lt ht : Nat → Int} {r kd dv cr : Int} (h : z_M I J) (hL : z_L I π) (hc : z_clL I π (z_clM I J) L) (ht1 : I 17 2 = 1) (hf : ∀ k, -1000 ≤ f k ∧ f k ≤ 1000) (hrt : ∀ k, -1000 ≤ rt k ∧ rt k ≤ 1000) (hlt : ∀ k, -1000 ≤ lt k ∧ lt k ≤ 1000) (hht : ∀ k, -1000 ≤ ht k ∧ ht k ≤ 1000) (hr : -200000 ≤ r ∧ r ≤ 200000) (hkd : 0 ≤ kd ∧ kd ≤ 3) (hdv : -1000 ≤ dv ∧ dv ≤ 1000) (hcr : -1000 ≤ cr ∧ cr ≤ 1000) (hC : z_clC (z_ct9 I (π (I 17 1).toNat) f rt lt ht r kd 0 dv cr) (π (I 17 1).toNat) (z_clM I J) C) :
    (z_sd (z_ct9 I (π (I 17 1).toNat) f rt lt ht r kd 0 dv cr) J π).1 = (z_of (z_clM I J) (L, 1) C).2 ∧ z_clL (z_sd (z_ct9 I (π (I 17 1).toNat) f rt lt ht r kd 0 dv cr) J π).2 π (z_clM I J) (z_of (z_clM I J) (L, 1) C).1 ∧ (z_sd (z_ct9 I (π (I 17 1).toNat) f rt lt ht r kd 0 dv cr) J π).2 17 2 = (z_of (z_clM I J) (L, 1) C).2 ∧ z_F I (z_sd (z_ct9 I (π (I 17 1).toNat) f rt lt ht r kd 0 dv cr) J π).2 ∧ z_L (z_sd (z_ct9 I (π (I 17 1).toNat) f rt lt ht r kd 0 dv cr) J π).2 π := by
  have hn := hL.n
  have hp := hL.p (k := (I 17 1).toNat) (by omega)
  have em : z_clM (z_ct9 I (π (I 17 1).toNat) f rt lt ht r kd 0 dv cr) J = z_clM I J := z_clM.congr h (fun a k ha => z_c9_o (by omega)) (fun _ => rfl)
  have e17 : z_ct9 I (π (I 17 1).toNat) f rt lt ht r kd 0 dv cr 17 1 = I 17 1 := z_c9_o (by omega)
  have hL9 : z_L (z_ct9 I (π (I 17 1).toNat) f rt lt ht r kd 0 dv cr) π := hL.c9 hf hrt hlt hht hr hkd (by omega) hdv hcr
  have key := z_settle (I := z_ct9 I (π (I 17 1).toNat) f rt lt ht r kd 0 dv cr) (J := J) (π := π) (L := L) (C := C) h.c9 hL9 (by rw [em]; exact hc.c9 hL) (by rw [em, e17]; exact hC) (by rw [z_c9_o (by omega)]; exact ht1)
  rw [em] at key
  obtain ⟨k1, k2, k3, k4, k5⟩ := key
  exact ⟨k1, k2, k3, fun a k ha => (k4 a k (by omega)).trans (z_c9_o (by omega)), k5⟩
def z_bt (s r : Nat) : Int := if s.testBit r then 1 else 0
theorem z_bt_b (s r : Nat) : 0 ≤ z_bt s r ∧ z_bt s r ≤ 1 := by unfold z_bt; split <;> omega
/-- a cut out of rows and bounds: base factors s and right R0, lows tl, highs th taken, all by D -/
def z_rs (j : Nat) (m : z_MM) (D : Int) (tl th rt : Nat → Int) : Int := if j < 10 then z_mk (mR m) rt j else if j < 18 then z_mk (mN m) tl (j - 10) else if j < 26 then z_mk (mN m) th (j - 18) else if j = 26 then D else 0
def z_rc (m : z_MM) (kd D : Int) (s tl th : Nat → Int) (R0 : Int) (rt : Nat → Int) : z_CC := (z_mk (mN m) (fun n => (s n - tl n + th n) / D), (R0 + z_sum (fun n => th n * mhi m n - tl n * mlo m n) (mN m)) / D, kd, 0, fun j => z_rs j m D tl th rt)
theorem z_rc_f {m : z_MM} {kd D R0 : Int} {s tl th rt : Nat → Int} {n : Nat} (h : n < mN m) : cF (z_rc m kd D s tl th R0 rt) n = (s n - tl n + th n) / D := by
  show z_mk (mN m) (fun n => (s n - tl n + th n) / D) n = _
  rw [z_mk_in h]
theorem z_rc_r {m : z_MM} {kd D R0 : Int} {s tl th rt : Nat → Int} : cR (z_rc m kd D s tl th R0 rt) = (R0 + z_sum (fun n => th n * mhi m n - tl n * mlo m n) (mN m)) / D := rfl
theorem z_rc_s {m : z_MM} {kd D R0 : Int} {s tl th rt : Nat → Int} {j : Nat} : cS (z_rc m kd D s tl th R0 rt) j = z_rs j m D tl th rt := rfl
def z_hnM (m : z_MM) (n : Nat) : Prop := 27720 * (mlo m n + mhi m n) ≤ 2 * mpt m n
noncomputable def z_tlH (m : z_MM) (s : Nat → Int) (n : Nat) : Int := if s n % 2 = 0 then 0 else z_if (z_hnM m n) 0 1
noncomputable def z_thH (m : z_MM) (s : Nat → Int) (n : Nat) : Int := if s n % 2 = 0 then 0 else z_if (z_hnM m n) 1 0
def z_sH (m : z_MM) (set : Nat) (n : Nat) : Int := z_sum (fun r => z_bt set r * mF m r n) (mR m)
def z_rH (m : z_MM) (set : Nat) : Int := z_sum (fun r => z_bt set r * mrt m r) (mR m)
theorem z_tlH_b (m : z_MM) (s : Nat → Int) (n : Nat) : 0 ≤ z_tlH m s n ∧ z_tlH m s n ≤ 1 := by
  unfold z_tlH
  split
  · omega
  · by_cases q : z_hnM m n
    · rw [z_if_t q]; omega
    · rw [z_if_f q]; omega
theorem z_thH_b (m : z_MM) (s : Nat → Int) (n : Nat) : 0 ≤ z_thH m s n ∧ z_thH m s n ≤ 1 := by
  unfold z_thH
  split
  · omega
  · by_cases q : z_hnM m n
    · rw [z_if_t q]; omega
    · rw [z_if_f q]; omega
theorem z_H_ev (m : z_MM) (s : Nat → Int) (n : Nat) : (s n - z_tlH m s n + z_thH m s n) % 2 = 0 := by
  unfold z_tlH z_thH
  split
  · omega
  · by_cases q : z_hnM m n
    · rw [z_if_t q, z_if_t q]; omega
    · rw [z_if_f q, z_if_f q]; omega
noncomputable def z_cH (m : z_MM) (set : Nat) : z_CC := z_rc m 0 2 (z_sH m set) (z_tlH m (z_sH m set)) (z_thH m (z_sH m set)) (z_rH m set) (z_bt set)
def z_lcM (m : z_MM) (n : Nat) (q d : Int) : Prop := q * (mpt m n - 27720 * mlo m n) ≤ (d - q) * (27720 * mhi m n - mpt m n)
noncomputable def z_tlR (m : z_MM) (D : Int) (s : Nat → Int) (n : Nat) : Int := z_if (s n % D ≠ 0 ∧ z_lcM m n (s n % D) D) (s n % D) 0
noncomputable def z_thR (m : z_MM) (D : Int) (s : Nat → Int) (n : Nat) : Int := z_if (s n % D ≠ 0 ∧ ¬ z_lcM m n (s n % D) D) (D - s n % D) 0
noncomputable def z_cR (m : z_MM) (r : Nat) (D : Int) : z_CC := z_rc m 1 D (mF m r) (z_tlR m D (mF m r)) (z_thR m D (mF m r)) (mrt m r) (fun j => if j = r then 1 else 0)
theorem z_sum_f {f g : Nat → Int} {n : Nat} (h : ∀ k, k < n → f k = g k) : z_sum f n = z_sum g n := z_sum_c n h
theorem z_clM_lo {I J : AwI} {n : Nat} (h : n < (I 1 5).toNat) : mlo (z_clM I J) n = I 2 n := z_mk_in h
theorem z_clM_hi {I J : AwI} {n : Nat} (h : n < (I 1 5).toNat) : mhi (z_clM I J) n = I 3 n := z_mk_in h
theorem z_clM_pt {I J : AwI} {n : Nat} (h : n < (I 1 5).toNat) : mpt (z_clM I J) n = J 4 n := z_mk_in h
theorem z_clM_rt {I J : AwI} {r : Nat} (h : r < (I 1 6).toNat) : mrt (z_clM I J) r = I 16 r := z_mk_in h
theorem z_clM_F {I J : AwI} {r n : Nat} (hr : r < (I 1 6).toNat) (h : n < (I 1 5).toNat) : mF (z_clM I J) r n = I (6 + r) n := by
  show z_mk (if r < (I 1 6).toNat then (I 1 5).toNat else 0) (fun n => I (6 + r) n) n = _
  rw [if_pos hr]
  exact z_mk_in h
theorem z_clM_hn {I J : AwI} {n : Nat} (h : n < (I 1 5).toNat) : z_hnM (z_clM I J) n ↔ z_hn I J n := by
  unfold z_hnM z_hn
  rw [z_clM_lo h, z_clM_hi h, z_clM_pt h]
theorem z_clM_lc {I J : AwI} {n : Nat} {q d : Int} (h : n < (I 1 5).toNat) : z_lcM (z_clM I J) n q d ↔ z_lc I J n q d := by
  unfold z_lcM z_lc
  rw [z_clM_lo h, z_clM_hi h, z_clM_pt h]
/-- the heap's cut is the rounding cut -/
theorem z_rc9 {I J : AwI} {c : Nat} (h : z_M I J) {f0 rt lt0 ht0 : Nat → Int} {kd D R0 : Int} {s tl th rtm : Nat → Int} (hD : 1 ≤ D) (hdv : ∀ n, n < (I 1 5).toNat → (s n - tl n + th n) % D = 0) (hrt : ∀ j, j < (I 1 6).toNat → rt j = rtm j) (hkd : kd = 0 ∨ kd = 1) :
    z_clC (z_ct9 I c (z_pf (fun k => (z_pf (fun n => s n - tl n + th n) f0 (I 1 5).toNat k).tdiv D) (z_pf (fun n => s n - tl n + th n) f0 (I 1 5).toNat) (I 1 5).toNat) rt (z_pf tl lt0 (I 1 5).toNat) (z_pf th ht0 (I 1 5).toNat) ((R0 + z_sm (fun n => th n * I 3 n - tl n * I 2 n) (I 1 5)) / D) kd 0 D 0) c (z_clM I J) (z_rc (z_clM I J) kd D s tl th R0 rtm) := by
  have hr := h.rw
  have hn := h.nm
  have eN : mN (z_clM I J) = (I 1 5).toNat := rfl
  have eR : mR (z_clM I J) = (I 1 6).toNat := rfl
  refine z_clC9 (fun n hn => ?_) ?_ rfl rfl (fun _ => ⟨fun j hj => ?_, fun n hn => ?_, fun n hn => ?_, ?_⟩) (fun q => ?_)
  · rw [eN] at hn
    rw [z_rc_f hn, z_pf_lt hn]
    show (z_pf _ _ _ n).tdiv D = _
    rw [z_pf_lt hn]
    have := hdv n hn
    rw [z_td (by omega), if_neg (by omega)]
  · rw [z_rc_r]
    unfold z_sm
    rw [eN]
    congr 2
    exact z_sum_c _ (fun k hk => by rw [z_clM_lo hk, z_clM_hi hk])
  · rw [eR] at hj
    rw [z_rc_s]
    unfold z_rs
    rw [if_pos (by omega), eR, z_mk_in hj]
    exact hrt j hj
  · rw [eN] at hn
    rw [z_rc_s]
    unfold z_rs
    rw [if_neg (by omega), if_pos (by omega), eN, show 10 + n - 10 = n by omega, z_mk_in hn, z_pf_lt hn]
  · rw [eN] at hn
    rw [z_rc_s]
    unfold z_rs
    rw [if_neg (by omega), if_neg (by omega), if_pos (by omega), eN, show 18 + n - 18 = n by omega, z_mk_in hn, z_pf_lt hn]
  · rfl
  · exact absurd q (by show ¬ kd = 2; omega)
set_option maxHeartbeats 4000000 in
theorem c_X7_tryHalves0 {π : Nat → Nat} {I J : AwI} {L : List z_CC} {set : Nat} (h : z_M I J) (hL : z_L I π) (hc : z_clL I π (z_clM I J) L) (ht : I 17 2 = 1) (hset : set < 1024) (hs : ∀ n, -600 ≤ I 225 n ∧ I 225 n ≤ 600) (hR : -120000 ≤ I 224 3 ∧ I 224 3 ≤ 120000) (hCC : (z_rc (z_clM I J) 0 2 (fun n => I 225 n) (z_tlH (z_clM I J) (fun n => I 225 n)) (z_thH (z_clM I J) (fun n => I 225 n)) (I 224 3) (fun r => z_bt set r)) = z_cH (z_clM I J) set) : CT m_X7_tryHalves [zr 224, zi (set : Int)] 255 I J (z_R π) (fun r sz' I' J' R' => r = some (zi (z_of (z_clM I J) (L, 1) (z_cH (z_clM I J) set)).2) ∧ sz' = 255 ∧ J' = J ∧ R' = z_R π ∧ z_F I I' ∧ z_L I' π ∧ z_clL I' π (z_clM I J) (z_of (z_clM I J) (L, 1) (z_cH (z_clM I J) set)).1 ∧ I' 17 2 = (z_of (z_clM I J) (L, 1) (z_cH (z_clM I J) set)).2) := by
  have hnm := h.nm
  have hrw := h.rw
  have hn4 := hL.n
  have hp := hL.p (k := (I 17 1).toNat) (by omega)
  obtain ⟨b1, b2, b3, b4⟩ := hL.f0 hp
  have hin : ∀ (x : Int), 0 ≤ x → x < 10 → ∀ {I9 : AwI}, CT m_X8_isIn [zi (set : Int), zi x] 255 I9 J (z_R π) (z_P (some (zi (z_bl (set.testBit x.toNat = true)))) 255 I9 J (z_R π)) := fun x h1 h2 I9 => by
    have K := c_X8_isIn (R := z_R π) (I := I9) (J := J) (s := set) (w := x.toNat) (by omega) (by omega)
    rw [show ((x.toNat : Nat) : Int) = x by omega] at K
    exact K
  refine CT.of (by decide) (Nat.le_of_ble_eq_true rfl) ?_
  show AW _ 0 0 _ 0 [some (zr 224), some (zi (set : Int)), none, none] [] _ _ _
  have htb := z_tlH_b (z_clM I J) (fun n => I 225 n)
  have hhb := z_thH_b (z_clM I J) (fun n => I 225 n)
  have hgb : ∀ k, -1000 ≤ I 225 k - (z_tlH (z_clM I J) (fun n => I 225 n)) k + (z_thH (z_clM I J) (fun n => I 225 n)) k ∧ I 225 k - (z_tlH (z_clM I J) (fun n => I 225 n)) k + (z_thH (z_clM I J) (fun n => I 225 n)) k ≤ 1000 := fun k => by have := hs k; have := htb k; have := hhb k; omega
  have loop2 : ∀ (k : Nat) (x : Int), 0 ≤ x → x + k = I 1 5 → AW (FM m_X7_tryHalves (fun r sz' I' J' R' => r = some (zi (z_of (z_clM I J) (L, 1) (z_cH (z_clM I J) set)).2) ∧ sz' = 255 ∧ J' = J ∧ R' = z_R π ∧ z_F I I' ∧ z_L I' π ∧ z_clL I' π (z_clM I J) (z_of (z_clM I J) (L, 1) (z_cH (z_clM I J) set)).1 ∧ I' 17 2 = (z_of (z_clM I J) (L, 1) (z_cH (z_clM I J) set)).2)) 0 0 255 62 [some (zr 224), some (zi (set : Int)), some (zr (19 + 5 * (π (I 17 1).toNat))), some (zi x)] [] (z_ct9 I (π (I 17 1).toNat) (z_pf (fun n => I 225 n - (z_tlH (z_clM I J) (fun n => I 225 n)) n + (z_thH (z_clM I J) (fun n => I 225 n)) n) (z_f0 I (19 + 5 * (π (I 17 1).toNat) + 1) 8) x.toNat) (z_pf (fun r => z_bt set r) (z_f0 I (19 + 5 * (π (I 17 1).toNat) + 2) 10) (I 1 6).toNat) (z_pf (z_tlH (z_clM I J) (fun n => I 225 n)) (z_f0 I (19 + 5 * (π (I 17 1).toNat) + 3) 8) x.toNat) (z_pf (z_thH (z_clM I J) (fun n => I 225 n)) (z_f0 I (19 + 5 * (π (I 17 1).toNat) + 4) 8) x.toNat) (I 224 3 + z_sm (fun n => (z_thH (z_clM I J) (fun n => I 225 n)) n * I 3 n - (z_tlH (z_clM I J) (fun n => I 225 n)) n * I 2 n) x) 0 0 2 0) J (z_R π) := by
    intro k
    induction k with
    | zero =>
      intro x hx he
      have he : x = I 1 5 := by omega
      subst he
      refine aw_iload_n (pc := 62) dX7_tryHalves_62 rfl ?_
      refine aw_aload_n (pc := 63) dX7_tryHalves_63 rfl ?_
      refine aw_getR (pc := 64) dX7_tryHalves_64 k_fl_X7_15 rfl (by omega) (by first | rfl | exact z_shr _ (by omega) | exact z_shc0 (by omega) | exact z_shc1 (by omega) | exact z_shc2 (by omega) | exact z_shc3 (by omega) | exact z_shc4 (by omega)) (by first | rfl | exact z_Rc0 _ (by omega) | exact z_Rc1 _ (by omega) | exact z_Rc2 _ (by omega) | exact z_Rc3 _ (by omega)) ?_
      refine aw_getV (pc := 67) (v := I 1 5) dX7_tryHalves_67 k_fl_X7_53 rfl (by omega) (by first | rfl | exact z_shr _ (by omega) | exact z_shc0 (by omega) | exact z_shc1 (by omega) | exact z_shc2 (by omega) | exact z_shc3 (by omega) | exact z_shc4 (by omega)) (z_c9_o (by omega)) ?_
      refine aw_icmp_ge (pc := 70) (tgt := 132) dX7_tryHalves_70 rfl (by first | omega | exact z_bl_r _) (by first | omega | exact z_bl_r _) (fun h70 => ?_) (fun h70 => absurd h70 (by omega))
      refine aw_aload_n (pc := 132) dX7_tryHalves_132 rfl ?_
      refine aw_aload_n (pc := 133) dX7_tryHalves_133 rfl ?_
      refine aw_iconst (pc := 134) dX7_tryHalves_134 ?_
      refine aw_qV (pc := 135) (d := m_X7_divideAndSettle) (c_X7_divideAndSettle h hL hp (by omega) (z_pf_b hgb b1) (z_pf_b (fun n => by have := z_bt_b set n; omega) b2) (z_pf_b (fun n => by have := htb n; omega) b3) (z_pf_b (fun n => by have := hhb n; omega) b4) (by have := z_sm_b (f := (fun n => (z_thH (z_clM I J) (fun n => I 225 n)) n * I 3 n - (z_tlH (z_clM I J) (fun n => I 225 n)) n * I 2 n)) 60 (I 1 5) 8 (by omega) (by omega) (fun n => by have a1 := z_mulb (a := (z_thH (z_clM I J) (fun n => I 225 n)) n) (A := 1) (by have := hhb n; omega) (h.hi n); have a2 := z_mulb (a := (z_tlH (z_clM I J) (fun n => I 225 n)) n) (A := 1) (by have := htb n; omega) (h.lo n); omega); omega) (by omega) (by omega) (by omega) (by omega)) k_X7_divideAndSettle dX7_tryHalves_135 k_ml_X7_98 rfl ⟨rfl, rfl⟩ (by omega) (by first | rfl | exact z_shr _ (by omega) | exact z_shc0 (by omega) | exact z_shc1 (by omega) | exact z_shc2 (by omega) | exact z_shc3 (by omega) | exact z_shc4 (by omega)) rfl ⟨Nat.le_of_ble_eq_true rfl, Nat.le_of_ble_eq_true rfl⟩ ⟨Nat.zero_le _, Nat.zero_le _⟩ rfl (Nat.le_of_ble_eq_true rfl) (z_Pk ?_)
      refine aw_zreturn (pc := 138) dX7_tryHalves_138 rfl (z_sd01 _ _ _) ⟨Nat.zero_le _, Nat.zero_le _⟩ ?_
      have hC := z_rc9 (J := J) (c := (π (I 17 1).toNat)) h (f0 := (z_f0 I (19 + 5 * (π (I 17 1).toNat) + 1) 8)) (rt := (z_pf (fun r => z_bt set r) (z_f0 I (19 + 5 * (π (I 17 1).toNat) + 2) 10) (I 1 6).toNat)) (lt0 := (z_f0 I (19 + 5 * (π (I 17 1).toNat) + 3) 8)) (ht0 := (z_f0 I (19 + 5 * (π (I 17 1).toNat) + 4) 8)) (kd := 0) (D := 2) (R0 := I 224 3) (s := (fun n => I 225 n)) (tl := (z_tlH (z_clM I J) (fun n => I 225 n))) (th := (z_thH (z_clM I J) (fun n => I 225 n))) (rtm := fun r => z_bt set r) (by omega) (fun n hn => z_H_ev _ _ n) (fun j hj => z_pf_lt hj) (Or.inl rfl)
      obtain ⟨k1, k2, k3, k4, k5⟩ := z_draft (L := L) h hL hc ht (z_pf_b (fun n => by have a1 := z_pf_b (x := (I 1 5).toNat) (g := (fun n => I 225 n - (z_tlH (z_clM I J) (fun n => I 225 n)) n + (z_thH (z_clM I J) (fun n => I 225 n)) n)) (B := 1000) hgb b1 n; have := z_tdb (z_pf (fun n => I 225 n - (z_tlH (z_clM I J) (fun n => I 225 n)) n + (z_thH (z_clM I J) (fun n => I 225 n)) n) (z_f0 I (19 + 5 * (π (I 17 1).toNat) + 1) 8) (I 1 5).toNat n) (d := 2) (by omega); omega) (z_pf_b hgb b1)) (z_pf_b (fun n => by have := z_bt_b set n; omega) b2) (z_pf_b (fun n => by have := htb n; omega) b3) (z_pf_b (fun n => by have := hhb n; omega) b4) (by have a0 := z_sm_b (f := (fun n => (z_thH (z_clM I J) (fun n => I 225 n)) n * I 3 n - (z_tlH (z_clM I J) (fun n => I 225 n)) n * I 2 n)) 60 (I 1 5) 8 (by omega) (by omega) (fun n => by have a1 := z_mulb (a := (z_thH (z_clM I J) (fun n => I 225 n)) n) (A := 1) (by have := hhb n; omega) (h.hi n); have a2 := z_mulb (a := (z_tlH (z_clM I J) (fun n => I 225 n)) n) (A := 1) (by have := htb n; omega) (h.lo n); omega); have := z_edb (I 224 3 + z_sm (fun n => (z_thH (z_clM I J) (fun n => I 225 n)) n * I 3 n - (z_tlH (z_clM I J) (fun n => I 225 n)) n * I 2 n) (I 1 5)) (d := 2) (by omega); omega) (by omega) (by omega) (by omega) hC
      have eC : (z_rc (z_clM I J) 0 2 (fun n => I 225 n) (z_tlH (z_clM I J) (fun n => I 225 n)) (z_thH (z_clM I J) (fun n => I 225 n)) (I 224 3) (fun r => z_bt set r)) = z_cH (z_clM I J) set := hCC
      rw [eC] at k1 k2 k3
      exact ⟨by rw [k1], rfl, rfl, rfl, k4, k5, k2, k3⟩
    | succ k ih =>
      intro x hx he
      refine aw_iload_n (pc := 62) dX7_tryHalves_62 rfl ?_
      refine aw_aload_n (pc := 63) dX7_tryHalves_63 rfl ?_
      refine aw_getR (pc := 64) dX7_tryHalves_64 k_fl_X7_15 rfl (by omega) (by first | rfl | exact z_shr _ (by omega) | exact z_shc0 (by omega) | exact z_shc1 (by omega) | exact z_shc2 (by omega) | exact z_shc3 (by omega) | exact z_shc4 (by omega)) (by first | rfl | exact z_Rc0 _ (by omega) | exact z_Rc1 _ (by omega) | exact z_Rc2 _ (by omega) | exact z_Rc3 _ (by omega)) ?_
      refine aw_getV (pc := 67) (v := I 1 5) dX7_tryHalves_67 k_fl_X7_53 rfl (by omega) (by first | rfl | exact z_shr _ (by omega) | exact z_shc0 (by omega) | exact z_shc1 (by omega) | exact z_shc2 (by omega) | exact z_shc3 (by omega) | exact z_shc4 (by omega)) (z_c9_o (by omega)) ?_
      refine aw_icmp_ge (pc := 70) (tgt := 132) dX7_tryHalves_70 rfl (by first | omega | exact z_bl_r _) (by first | omega | exact z_bl_r _) (fun h70 => absurd h70 (by omega)) (fun h70 => ?_)
      have g1 := hs x.toNat
      have hxn : x.toNat < (I 1 5).toNat := by omega
      have l0 : (z_f0 I (19 + 5 * (π (I 17 1).toNat) + 3) 8) x.toNat = 0 := if_pos (by omega)
      have r0 : (z_f0 I (19 + 5 * (π (I 17 1).toNat) + 4) 8) x.toNat = 0 := if_pos (by omega)
      refine aw_aload_n (pc := 73) dX7_tryHalves_73 rfl ?_
      refine aw_getR (pc := 74) dX7_tryHalves_74 k_fl_X7_80 rfl (by omega) (by first | rfl | exact z_shr _ (by omega) | exact z_shc0 (by omega) | exact z_shc1 (by omega) | exact z_shc2 (by omega) | exact z_shc3 (by omega) | exact z_shc4 (by omega)) (by first | rfl | exact z_Rc0 _ (by omega) | exact z_Rc1 _ (by omega) | exact z_Rc2 _ (by omega) | exact z_Rc3 _ (by omega)) ?_
      refine aw_iload_n (pc := 77) dX7_tryHalves_77 rfl ?_
      refine aw_aload_n (pc := 78) dX7_tryHalves_78 rfl ?_
      refine aw_getR (pc := 79) dX7_tryHalves_79 k_fl_X7_9 rfl (by omega) (by first | rfl | exact z_shr _ (by omega) | exact z_shc0 (by omega) | exact z_shc1 (by omega) | exact z_shc2 (by omega) | exact z_shc3 (by omega) | exact z_shc4 (by omega)) (by first | rfl | exact z_Rc0 _ (by omega) | exact z_Rc1 _ (by omega) | exact z_Rc2 _ (by omega) | exact z_Rc3 _ (by omega)) ?_
      refine aw_iload_n (pc := 82) dX7_tryHalves_82 rfl ?_
      refine aw_ialoadV (pc := 83) (v := I 225 x.toNat) dX7_tryHalves_83 (by omega) (Nat.le_refl _) (by first | rfl | exact z_shr _ (by omega) | exact z_shc0 (by omega) | exact z_shc1 (by omega) | exact z_shc2 (by omega) | exact z_shc3 (by omega) | exact z_shc4 (by omega)) (by first | omega | exact z_bl_r _) (z_c9_o (by omega)) ?_
      refine aw_iastore (pc := 84) dX7_tryHalves_84 (by omega) (Nat.le_refl _) (by first | rfl | exact z_shr _ (by omega) | exact z_shc0 (by omega) | exact z_shc1 (by omega) | exact z_shc2 (by omega) | exact z_shc3 (by omega) | exact z_shc4 (by omega)) (by first | omega | exact z_bl_r _) ?_
      rw [z_c9_uf]
      refine aw_aload_n (pc := 85) dX7_tryHalves_85 rfl ?_
      refine aw_getR (pc := 86) dX7_tryHalves_86 k_fl_X7_9 rfl (by omega) (by first | rfl | exact z_shr _ (by omega) | exact z_shc0 (by omega) | exact z_shc1 (by omega) | exact z_shc2 (by omega) | exact z_shc3 (by omega) | exact z_shc4 (by omega)) (by first | rfl | exact z_Rc0 _ (by omega) | exact z_Rc1 _ (by omega) | exact z_Rc2 _ (by omega) | exact z_Rc3 _ (by omega)) ?_
      refine aw_iload_n (pc := 89) dX7_tryHalves_89 rfl ?_
      refine aw_ialoadV (pc := 90) (v := I 225 x.toNat) dX7_tryHalves_90 (by omega) (Nat.le_refl _) (by first | rfl | exact z_shr _ (by omega) | exact z_shc0 (by omega) | exact z_shc1 (by omega) | exact z_shc2 (by omega) | exact z_shc3 (by omega) | exact z_shc4 (by omega)) (by first | omega | exact z_bl_r _) (z_c9_o (by omega)) ?_
      refine aw_iconst (pc := 91) dX7_tryHalves_91 ?_
      refine aw_qS (pc := 92) (d := m_J9_floorMod_7cf53) (c_floorMod (by omega) (by omega)) k_J9_floorMod_7cf53 dX7_tryHalves_92 k_ml_X7_82 rfl ⟨rfl, rfl⟩ ⟨Nat.le_of_ble_eq_true rfl, Nat.le_of_ble_eq_true rfl⟩ ⟨Nat.zero_le _, Nat.zero_le _⟩ rfl (Nat.le_of_ble_eq_true rfl) (z_Pk ?_)
      refine aw_if_ne (pc := 95) (tgt := 101) dX7_tryHalves_95 rfl (by omega) (fun h95 => ?_) (fun h95 => ?_)
      · refine aw_aload_n (pc := 101) dX7_tryHalves_101 rfl ?_
        refine aw_iload_n (pc := 102) dX7_tryHalves_102 rfl ?_
        refine aw_qV (pc := 103) (d := m_X7_isHighNearer) (c_X7_isHighNearer h.c9 (by omega)) k_X7_isHighNearer dX7_tryHalves_103 k_ml_X7_88 rfl ⟨rfl, rfl⟩ (by omega) (by first | rfl | exact z_shr _ (by omega) | exact z_shc0 (by omega) | exact z_shc1 (by omega) | exact z_shc2 (by omega) | exact z_shc3 (by omega) | exact z_shc4 (by omega)) rfl ⟨Nat.le_of_ble_eq_true rfl, Nat.le_of_ble_eq_true rfl⟩ ⟨Nat.zero_le _, Nat.zero_le _⟩ rfl (Nat.le_of_ble_eq_true rfl) (z_Pk ?_)
        refine aw_if_eq (pc := 106) (tgt := 119) dX7_tryHalves_106 rfl (z_bl_r _) (fun h106 => ?_) (fun h106 => ?_)
        · refine aw_aload_n (pc := 119) dX7_tryHalves_119 rfl ?_
          refine aw_aload_n (pc := 120) dX7_tryHalves_120 rfl ?_
          refine aw_iload_n (pc := 121) dX7_tryHalves_121 rfl ?_
          refine aw_iconst (pc := 122) dX7_tryHalves_122 ?_
          refine aw_qV (pc := 123) (d := m_X7_takeLow) (c_X7_takeLow hp (by omega)) k_X7_takeLow dX7_tryHalves_123 k_ml_X7_95 rfl ⟨rfl, rfl⟩ (by omega) (by first | rfl | exact z_shr _ (by omega) | exact z_shc0 (by omega) | exact z_shc1 (by omega) | exact z_shc2 (by omega) | exact z_shc3 (by omega) | exact z_shc4 (by omega)) rfl ⟨Nat.le_of_ble_eq_true rfl, Nat.le_of_ble_eq_true rfl⟩ ⟨Nat.zero_le _, Nat.zero_le _⟩ rfl (Nat.le_of_ble_eq_true rfl) (z_Pk ?_)
          refine aw_iinc (pc := 126) (lv' := [_, _, _, _]) dX7_tryHalves_126 (Nat.le_of_ble_eq_true rfl) rfl rfl ?_
          refine aw_goto (pc := 129) (tgt := 62) dX7_tryHalves_129 rfl ?_
          have e1 : (z_tlH (z_clM I J) (fun n => I 225 n)) x.toNat = 1 := by unfold z_tlH; rw [if_neg h95]; exact z_if_f (fun q => z_bl_0.mp h106 (by rw [z_hn9]; exact (z_clM_hn hxn).mp q))
          have e2 : (z_thH (z_clM I J) (fun n => I 225 n)) x.toNat = 0 := by unfold z_thH; rw [if_neg h95]; exact z_if_f (fun q => z_bl_0.mp h106 (by rw [z_hn9]; exact (z_clM_hn hxn).mp q))
          have e4 : I 224 3 + z_sm (fun n => (z_thH (z_clM I J) (fun n => I 225 n)) n * I 3 n - (z_tlH (z_clM I J) (fun n => I 225 n)) n * I 2 n) x - 1 * I 2 x.toNat = I 224 3 + z_sm (fun n => (z_thH (z_clM I J) (fun n => I 225 n)) n * I 3 n - (z_tlH (z_clM I J) (fun n => I 225 n)) n * I 2 n) (x + 1) := by rw [z_sm_s _ hx]; simp only [e1, e2]; omega
          rw [z_vs, z_vu, z_pf_s (g := (fun n => I 225 n - (z_tlH (z_clM I J) (fun n => I 225 n)) n + (z_thH (z_clM I J) (fun n => I 225 n)) n)) (v := I 225 x.toNat - 1) hx (by simp only [e1, e2]; omega), z_pf_s (g := (z_tlH (z_clM I J) (fun n => I 225 n))) (v := 1) hx e1.symm, z_pf_n (g := (z_thH (z_clM I J) (fun n => I 225 n))) (f := (z_f0 I (19 + 5 * (π (I 17 1).toNat) + 4) 8)) hx (e2.trans r0.symm), e4]
          exact ih (x + 1) (by omega) (by omega)
        · refine aw_aload_n (pc := 109) dX7_tryHalves_109 rfl ?_
          refine aw_aload_n (pc := 110) dX7_tryHalves_110 rfl ?_
          refine aw_iload_n (pc := 111) dX7_tryHalves_111 rfl ?_
          refine aw_iconst (pc := 112) dX7_tryHalves_112 ?_
          refine aw_qV (pc := 113) (d := m_X7_takeHigh) (c_X7_takeHigh hp (by omega)) k_X7_takeHigh dX7_tryHalves_113 k_ml_X7_91 rfl ⟨rfl, rfl⟩ (by omega) (by first | rfl | exact z_shr _ (by omega) | exact z_shc0 (by omega) | exact z_shc1 (by omega) | exact z_shc2 (by omega) | exact z_shc3 (by omega) | exact z_shc4 (by omega)) rfl ⟨Nat.le_of_ble_eq_true rfl, Nat.le_of_ble_eq_true rfl⟩ ⟨Nat.zero_le _, Nat.zero_le _⟩ rfl (Nat.le_of_ble_eq_true rfl) (z_Pk ?_)
          refine aw_goto (pc := 116) (tgt := 126) dX7_tryHalves_116 rfl ?_
          refine aw_iinc (pc := 126) (lv' := [_, _, _, _]) dX7_tryHalves_126 (Nat.le_of_ble_eq_true rfl) rfl rfl ?_
          refine aw_goto (pc := 129) (tgt := 62) dX7_tryHalves_129 rfl ?_
          have e1 : (z_tlH (z_clM I J) (fun n => I 225 n)) x.toNat = 0 := by unfold z_tlH; rw [if_neg h95]; exact z_if_t ((z_clM_hn hxn).mpr (by have q := z_bl_n.mp h106; rw [z_hn9] at q; exact q))
          have e2 : (z_thH (z_clM I J) (fun n => I 225 n)) x.toNat = 1 := by unfold z_thH; rw [if_neg h95]; exact z_if_t ((z_clM_hn hxn).mpr (by have q := z_bl_n.mp h106; rw [z_hn9] at q; exact q))
          have e4 : I 224 3 + z_sm (fun n => (z_thH (z_clM I J) (fun n => I 225 n)) n * I 3 n - (z_tlH (z_clM I J) (fun n => I 225 n)) n * I 2 n) x + 1 * I 3 x.toNat = I 224 3 + z_sm (fun n => (z_thH (z_clM I J) (fun n => I 225 n)) n * I 3 n - (z_tlH (z_clM I J) (fun n => I 225 n)) n * I 2 n) (x + 1) := by rw [z_sm_s _ hx]; simp only [e1, e2]; omega
          rw [z_vs, z_vu, z_pf_s (g := (fun n => I 225 n - (z_tlH (z_clM I J) (fun n => I 225 n)) n + (z_thH (z_clM I J) (fun n => I 225 n)) n)) (v := I 225 x.toNat + 1) hx (by simp only [e1, e2]; omega), z_pf_n (g := (z_tlH (z_clM I J) (fun n => I 225 n))) (f := (z_f0 I (19 + 5 * (π (I 17 1).toNat) + 3) 8)) hx (e1.trans l0.symm), z_pf_s (g := (z_thH (z_clM I J) (fun n => I 225 n))) (v := 1) hx e2.symm, e4]
          exact ih (x + 1) (by omega) (by omega)
      · refine aw_goto (pc := 98) (tgt := 126) dX7_tryHalves_98 rfl ?_
        refine aw_iinc (pc := 126) (lv' := [_, _, _, _]) dX7_tryHalves_126 (Nat.le_of_ble_eq_true rfl) rfl rfl ?_
        refine aw_goto (pc := 129) (tgt := 62) dX7_tryHalves_129 rfl ?_
        have e1 : (z_tlH (z_clM I J) (fun n => I 225 n)) x.toNat = 0 := by unfold z_tlH; rw [if_pos h95]
        have e2 : (z_thH (z_clM I J) (fun n => I 225 n)) x.toNat = 0 := by unfold z_thH; rw [if_pos h95]
        have e4 : I 224 3 + z_sm (fun n => (z_thH (z_clM I J) (fun n => I 225 n)) n * I 3 n - (z_tlH (z_clM I J) (fun n => I 225 n)) n * I 2 n) x = I 224 3 + z_sm (fun n => (z_thH (z_clM I J) (fun n => I 225 n)) n * I 3 n - (z_tlH (z_clM I J) (fun n => I 225 n)) n * I 2 n) (x + 1) := by rw [z_sm_s _ hx]; simp only [e1, e2]; omega
        rw [z_pf_s (g := (fun n => I 225 n - (z_tlH (z_clM I J) (fun n => I 225 n)) n + (z_thH (z_clM I J) (fun n => I 225 n)) n)) (v := I 225 x.toNat) hx (by simp only [e1, e2]; omega), z_pf_n (g := (z_tlH (z_clM I J) (fun n => I 225 n))) (f := (z_f0 I (19 + 5 * (π (I 17 1).toNat) + 3) 8)) hx (e1.trans l0.symm), z_pf_n (g := (z_thH (z_clM I J) (fun n => I 225 n))) (f := (z_f0 I (19 + 5 * (π (I 17 1).toNat) + 4) 8)) hx (e2.trans r0.symm), e4]
        exact ih (x + 1) (by omega) (by omega)
  have loop1 : ∀ (k : Nat) (x : Int), 0 ≤ x → x + k = I 1 6 → AW (FM m_X7_tryHalves (fun r sz' I' J' R' => r = some (zi (z_of (z_clM I J) (L, 1) (z_cH (z_clM I J) set)).2) ∧ sz' = 255 ∧ J' = J ∧ R' = z_R π ∧ z_F I I' ∧ z_L I' π ∧ z_clL I' π (z_clM I J) (z_of (z_clM I J) (L, 1) (z_cH (z_clM I J) set)).1 ∧ I' 17 2 = (z_of (z_clM I J) (L, 1) (z_cH (z_clM I J) set)).2)) 0 0 255 11 [some (zr 224), some (zi (set : Int)), some (zr (19 + 5 * (π (I 17 1).toNat))), some (zi x)] [] (z_ct9 I (π (I 17 1).toNat) (z_f0 I (19 + 5 * (π (I 17 1).toNat) + 1) 8) (z_pf (fun r => z_bt set r) (z_f0 I (19 + 5 * (π (I 17 1).toNat) + 2) 10) x.toNat) (z_f0 I (19 + 5 * (π (I 17 1).toNat) + 3) 8) (z_f0 I (19 + 5 * (π (I 17 1).toNat) + 4) 8) 0 0 0 0 0) J (z_R π) := by
    intro k
    induction k with
    | zero =>
      intro x hx he
      refine aw_iload_n (pc := 11) dX7_tryHalves_11 rfl ?_
      refine aw_aload_n (pc := 12) dX7_tryHalves_12 rfl ?_
      refine aw_getR (pc := 13) dX7_tryHalves_13 k_fl_X7_15 rfl (by omega) (by first | rfl | exact z_shr _ (by omega) | exact z_shc0 (by omega) | exact z_shc1 (by omega) | exact z_shc2 (by omega) | exact z_shc3 (by omega) | exact z_shc4 (by omega)) (by first | rfl | exact z_Rc0 _ (by omega) | exact z_Rc1 _ (by omega) | exact z_Rc2 _ (by omega) | exact z_Rc3 _ (by omega)) ?_
      refine aw_getV (pc := 16) (v := I 1 6) dX7_tryHalves_16 k_fl_X7_33 rfl (by omega) (by first | rfl | exact z_shr _ (by omega) | exact z_shc0 (by omega) | exact z_shc1 (by omega) | exact z_shc2 (by omega) | exact z_shc3 (by omega) | exact z_shc4 (by omega)) (z_c9_o (by omega)) ?_
      refine aw_icmp_ge (pc := 19) (tgt := 47) dX7_tryHalves_19 rfl (by first | omega | exact z_bl_r _) (by first | omega | exact z_bl_r _) (fun h19 => ?_) (fun h19 => absurd h19 (by omega))
      rw [show x.toNat = (I 1 6).toNat by omega]
      refine aw_aload_n (pc := 47) dX7_tryHalves_47 rfl ?_
      refine aw_iconst (pc := 48) dX7_tryHalves_48 ?_
      refine aw_putI (pc := 49) dX7_tryHalves_49 k_fl_X7_74 rfl (by omega) (by first | rfl | exact z_shr _ (by omega) | exact z_shc0 (by omega) | exact z_shc1 (by omega) | exact z_shc2 (by omega) | exact z_shc3 (by omega) | exact z_shc4 (by omega)) ?_
      rw [z_c9_udv]
      refine aw_aload_n (pc := 52) dX7_tryHalves_52 rfl ?_
      refine aw_aload_n (pc := 53) dX7_tryHalves_53 rfl ?_
      refine aw_getV (pc := 54) (v := I 224 3) dX7_tryHalves_54 k_fl_X7_29 rfl (by omega) (by first | rfl | exact z_shr _ (by omega) | exact z_shc0 (by omega) | exact z_shc1 (by omega) | exact z_shc2 (by omega) | exact z_shc3 (by omega) | exact z_shc4 (by omega)) (z_c9_o (by omega)) ?_
      refine aw_putI (pc := 57) dX7_tryHalves_57 k_fl_X7_77 rfl (by omega) (by first | rfl | exact z_shr _ (by omega) | exact z_shc0 (by omega) | exact z_shc1 (by omega) | exact z_shc2 (by omega) | exact z_shc3 (by omega) | exact z_shc4 (by omega)) ?_
      rw [z_c9_ur]
      refine aw_iconst (pc := 60) dX7_tryHalves_60 ?_
      refine aw_istore_n (pc := 61) (lv' := [_, _, _, _]) dX7_tryHalves_61 (Nat.le_of_ble_eq_true rfl) rfl ?_
      have K := loop2 (I 1 5).toNat 0 (by omega) (by omega)
      rw [show (0 : Int).toNat = 0 from rfl, z_pf_0, z_pf_0, z_pf_0, z_sm_0, Int.add_zero] at K
      exact K
    | succ k ih =>
      intro x hx he
      refine aw_iload_n (pc := 11) dX7_tryHalves_11 rfl ?_
      refine aw_aload_n (pc := 12) dX7_tryHalves_12 rfl ?_
      refine aw_getR (pc := 13) dX7_tryHalves_13 k_fl_X7_15 rfl (by omega) (by first | rfl | exact z_shr _ (by omega) | exact z_shc0 (by omega) | exact z_shc1 (by omega) | exact z_shc2 (by omega) | exact z_shc3 (by omega) | exact z_shc4 (by omega)) (by first | rfl | exact z_Rc0 _ (by omega) | exact z_Rc1 _ (by omega) | exact z_Rc2 _ (by omega) | exact z_Rc3 _ (by omega)) ?_
      refine aw_getV (pc := 16) (v := I 1 6) dX7_tryHalves_16 k_fl_X7_33 rfl (by omega) (by first | rfl | exact z_shr _ (by omega) | exact z_shc0 (by omega) | exact z_shc1 (by omega) | exact z_shc2 (by omega) | exact z_shc3 (by omega) | exact z_shc4 (by omega)) (z_c9_o (by omega)) ?_
      refine aw_icmp_ge (pc := 19) (tgt := 47) dX7_tryHalves_19 rfl (by first | omega | exact z_bl_r _) (by first | omega | exact z_bl_r _) (fun h19 => absurd h19 (by omega)) (fun h19 => ?_)
      refine aw_aload_n (pc := 22) dX7_tryHalves_22 rfl ?_
      refine aw_getR (pc := 23) dX7_tryHalves_23 k_fl_X7_69 rfl (by omega) (by first | rfl | exact z_shr _ (by omega) | exact z_shc0 (by omega) | exact z_shc1 (by omega) | exact z_shc2 (by omega) | exact z_shc3 (by omega) | exact z_shc4 (by omega)) (by first | rfl | exact z_Rc0 _ (by omega) | exact z_Rc1 _ (by omega) | exact z_Rc2 _ (by omega) | exact z_Rc3 _ (by omega)) ?_
      refine aw_iload_n (pc := 26) dX7_tryHalves_26 rfl ?_
      refine aw_iload_n (pc := 27) dX7_tryHalves_27 rfl ?_
      refine aw_iload_n (pc := 28) dX7_tryHalves_28 rfl ?_
      refine aw_qN (pc := 29) (d := m_X8_isIn) (hin x hx (by omega)) k_X8_isIn dX7_tryHalves_29 k_nl_X7_50 rfl ⟨rfl, rfl⟩ ⟨Nat.le_of_ble_eq_true rfl, Nat.le_of_ble_eq_true rfl⟩ ⟨Nat.zero_le _, Nat.zero_le _⟩ rfl (Nat.le_of_ble_eq_true rfl) (z_Pk ?_)
      refine aw_if_eq (pc := 32) (tgt := 39) dX7_tryHalves_32 rfl (z_bl_r _) (fun h32 => ?_) (fun h32 => ?_)
      · refine aw_iconst (pc := 39) dX7_tryHalves_39 ?_
        refine aw_iastore (pc := 40) dX7_tryHalves_40 (by omega) (Nat.le_refl _) (by first | rfl | exact z_shr _ (by omega) | exact z_shc0 (by omega) | exact z_shc1 (by omega) | exact z_shc2 (by omega) | exact z_shc3 (by omega) | exact z_shc4 (by omega)) (by first | omega | exact z_bl_r _) ?_
        rw [z_c9_urt]
        refine aw_iinc (pc := 41) (lv' := [_, _, _, _]) dX7_tryHalves_41 (Nat.le_of_ble_eq_true rfl) rfl rfl ?_
        refine aw_goto (pc := 44) (tgt := 11) dX7_tryHalves_44 rfl ?_
        rw [z_pf_s (g := fun r => z_bt set r) hx (by unfold z_bt; first | (rw [if_pos (z_bl_n.mp h32)]) | (rw [if_neg (z_bl_0.mp h32)]))]
        exact ih (x + 1) (by omega) (by omega)
      · refine aw_iconst (pc := 35) dX7_tryHalves_35 ?_
        refine aw_goto (pc := 36) (tgt := 40) dX7_tryHalves_36 rfl ?_
        refine aw_iastore (pc := 40) dX7_tryHalves_40 (by omega) (Nat.le_refl _) (by first | rfl | exact z_shr _ (by omega) | exact z_shc0 (by omega) | exact z_shc1 (by omega) | exact z_shc2 (by omega) | exact z_shc3 (by omega) | exact z_shc4 (by omega)) (by first | omega | exact z_bl_r _) ?_
        rw [z_c9_urt]
        refine aw_iinc (pc := 41) (lv' := [_, _, _, _]) dX7_tryHalves_41 (Nat.le_of_ble_eq_true rfl) rfl rfl ?_
        refine aw_goto (pc := 44) (tgt := 11) dX7_tryHalves_44 rfl ?_
        rw [z_pf_s (g := fun r => z_bt set r) hx (by unfold z_bt; first | (rw [if_pos (z_bl_n.mp h32)]) | (rw [if_neg (z_bl_0.mp h32)]))]
        exact ih (x + 1) (by omega) (by omega)
  refine aw_aload_n (pc := 0) dX7_tryHalves_0 rfl ?_
  refine aw_getR (pc := 1) dX7_tryHalves_1 k_fl_X7_19 rfl (by omega) (by first | rfl | exact z_shr _ (by omega) | exact z_shc0 (by omega) | exact z_shc1 (by omega) | exact z_shc2 (by omega) | exact z_shc3 (by omega) | exact z_shc4 (by omega)) (by first | rfl | exact z_Rc0 _ (by omega) | exact z_Rc1 _ (by omega) | exact z_Rc2 _ (by omega) | exact z_Rc3 _ (by omega)) ?_
  refine aw_iconst (pc := 4) dX7_tryHalves_4 ?_
  refine aw_qV (pc := 5) (d := m_X5_newDraft) (c_X5_newDraft hL) k_X5_newDraft dX7_tryHalves_5 k_ml_X7_63 rfl ⟨rfl, rfl⟩ (by omega) (by first | rfl | exact z_shr _ (by omega) | exact z_shc0 (by omega) | exact z_shc1 (by omega) | exact z_shc2 (by omega) | exact z_shc3 (by omega) | exact z_shc4 (by omega)) rfl ⟨Nat.le_of_ble_eq_true rfl, Nat.le_of_ble_eq_true rfl⟩ ⟨Nat.zero_le _, Nat.zero_le _⟩ rfl (Nat.le_of_ble_eq_true rfl) (z_Pk ?_)
  rw [z_bg9]
  refine aw_astore_n (pc := 8) (lv' := [_, _, _, _]) dX7_tryHalves_8 (Nat.le_of_ble_eq_true rfl) rfl ?_
  refine aw_iconst (pc := 9) dX7_tryHalves_9 ?_
  refine aw_istore_n (pc := 10) (lv' := [_, _, _, _]) dX7_tryHalves_10 (Nat.le_of_ble_eq_true rfl) rfl ?_
  have K := loop1 (I 1 6).toNat 0 (by omega) (by omega)
  rw [show (0 : Int).toNat = 0 from rfl, z_pf_0] at K
  exact K
