noncomputable def z_fo (m : z_MM) (s : List z_CC × Int) (cand : Nat → z_CC) : Nat → List z_CC × Int
  | 0 => s
  | k + 1 => z_of m (z_fo m s cand k) (cand k)
theorem z_of_inv {m : z_MM} {s : List z_CC × Int} {C : z_CC} (h : s.2 = 0 → 40 ≤ s.1.length) : (z_of m s C).2 = 0 → 40 ≤ (z_of m s C).1.length := by
  unfold z_of
  by_cases hp : z_str2 m C ≤ 0 ∨ ∃ D ∈ s.1, z_same m D C
  · rw [z_if_t hp]; exact h
  · rw [z_if_f hp]
    split
    · rename_i h4; intro _; exact h4
    · rename_i h4; intro q; exact absurd (h q) h4
theorem z_of_01 {m : z_MM} {s : List z_CC × Int} {C : z_CC} (h : s.2 = 0 ∨ s.2 = 1) : (z_of m s C).2 = 0 ∨ (z_of m s C).2 = 1 := by
  unfold z_of
  by_cases hp : z_str2 m C ≤ 0 ∨ ∃ D ∈ s.1, z_same m D C
  · rw [z_if_t hp]; exact h
  · rw [z_if_f hp]
    split
    · exact Or.inl rfl
    · exact h
theorem z_of_len {m : z_MM} {s : List z_CC × Int} {C : z_CC} (h : s.1.length ≤ 40) : (z_of m s C).1.length ≤ 40 := by
  unfold z_of
  by_cases hp : z_str2 m C ≤ 0 ∨ ∃ D ∈ s.1, z_same m D C
  · rw [z_if_t hp]; exact h
  · rw [z_if_f hp]
    split
    · exact h
    · rename_i h4
      show (s.1 ++ [C]).length ≤ 40
      rw [List.length_append]
      show s.1.length + 1 ≤ 40
      omega
theorem z_of_full {m : z_MM} {s : List z_CC × Int} {C : z_CC} (h : s.2 = 0) (hl : 40 ≤ s.1.length) : z_of m s C = s := by
  unfold z_of
  by_cases hp : z_str2 m C ≤ 0 ∨ ∃ D ∈ s.1, z_same m D C
  · rw [z_if_t hp]
  · rw [z_if_f hp, if_pos hl, ← h]
theorem z_fo_inv {m : z_MM} {L : List z_CC} {cand : Nat → z_CC} : ∀ k, ((z_fo m (L, 1) cand k).2 = 0 → 40 ≤ (z_fo m (L, 1) cand k).1.length) ∧ ((z_fo m (L, 1) cand k).2 = 0 ∨ (z_fo m (L, 1) cand k).2 = 1)
  | 0 => ⟨fun h => absurd h (by show ¬ (1 : Int) = 0; omega), Or.inr rfl⟩
  | k + 1 => ⟨z_of_inv (z_fo_inv k).1, z_of_01 (z_fo_inv k).2⟩
theorem z_fo_len {m : z_MM} {L : List z_CC} {cand : Nat → z_CC} (h : L.length ≤ 40) : ∀ k, (z_fo m (L, 1) cand k).1.length ≤ 40
  | 0 => h
  | k + 1 => z_of_len (z_fo_len h k)
theorem z_fo_stop {m : z_MM} {L : List z_CC} {cand : Nat → z_CC} {k : Nat} (h : (z_fo m (L, 1) cand k).2 = 0) : ∀ j, z_fo m (L, 1) cand (k + j) = z_fo m (L, 1) cand k
  | 0 => rfl
  | j + 1 => by
    show z_of m (z_fo m (L, 1) cand (k + j)) (cand (k + j)) = _
    rw [z_fo_stop h j, z_of_full h ((z_fo_inv k).1 h)]
theorem z_of_e {m : z_MM} {s : List z_CC × Int} {C : z_CC} (h : s.2 = 1) : z_of m (s.1, 1) C = z_of m s C := by
  have e : (s.1, (1 : Int)) = s := Prod.ext rfl h.symm
  rw [e]
theorem z_tlH_c {m : z_MM} {s s' : Nat → Int} {n : Nat} (h : s n = s' n) : z_tlH m s n = z_tlH m s' n := by
  unfold z_tlH
  rw [h]
theorem z_thH_c {m : z_MM} {s s' : Nat → Int} {n : Nat} (h : s n = s' n) : z_thH m s n = z_thH m s' n := by
  unfold z_thH
  rw [h]
theorem z_sum_add (f g : Nat → Int) : ∀ n, z_sum (fun k => f k + g k) n = z_sum f n + z_sum g n
  | 0 => rfl
  | n + 1 => by
    show z_sum (fun k => f k + g k) n + (f n + g n) = z_sum f n + f n + (z_sum g n + g n)
    rw [z_sum_add f g n]
    omega
theorem z_sum_lo (d : Nat → Int) (x : Nat) : ∀ n, z_sum (fun k => if k < x then d k else 0) (x + n) = z_sum d x
  | 0 => z_sum_c x (fun k hk => if_pos hk)
  | n + 1 => by
    show z_sum (fun k => if k < x then d k else 0) (x + n) + (if x + n < x then d (x + n) else 0) = _
    rw [z_sum_lo d x n, if_neg (by omega)]
    omega
theorem z_mg_in {I : AwI} {g : Nat → Int} {s n : Nat} (hn : n < (I 1 5).toNat) : ∀ x, z_mg I g s x n = g n + z_sum (fun r => z_sg s r * I (6 + r) n) x
  | 0 => by show g n = g n + 0; omega
  | x + 1 => by
    show z_pf _ _ _ n = g n + (z_sum (fun r => z_sg s r * I (6 + r) n) x + z_sg s x * I (6 + x) n)
    rw [z_pf_lt hn, z_mg_in hn x]
    omega
theorem z_mg_o {I : AwI} {g : Nat → Int} {s n : Nat} (hn : ¬ n < (I 1 5).toNat) : ∀ x, z_mg I g s x n = g n
  | 0 => rfl
  | x + 1 => by
    show z_pf _ _ _ n = g n
    unfold z_pf
    rw [if_neg hn, z_mg_o hn x]
theorem z_mr_in {I : AwI} {r : Int} {s : Nat} : ∀ x, z_mr I r s x = r + z_sum (fun j => z_sg s j * I 16 j) x
  | 0 => by show r = r + 0; omega
  | x + 1 => by
    show z_mr I r s x + z_sg s x * I 16 x = r + (z_sum (fun j => z_sg s j * I 16 j) x + z_sg s x * I 16 x)
    rw [z_mr_in x]
    omega
theorem z_bt_mv {s : Nat} (h : s < 1024) (h1 : 1 ≤ s) {x r : Nat} (hr : r < 10) (hlow : ∀ j, j < x → s % 2 ^ j = 0) (hx : x ≤ r → s % 2 ^ x ≠ 0) : z_bt s r = z_bt (s - 1) r + (if r < x then z_sg s r else 0) := by
  have hc := z_mvc s h h1 r hr
  unfold z_bt z_sg
  by_cases hrx : r < x
  · rw [if_pos hrx, hc, decide_eq_true (hlow r hrx)]
    cases s.testBit r <;> simp
  · rw [if_neg hrx, hc, decide_eq_false (z_mvm (hx (by omega)) (by omega))]
    cases s.testBit r <;> simp
theorem z_mv_sum {f : Nat → Int} {s x N : Nat} (h : s < 1024) (h1 : 1 ≤ s) (hN : N ≤ 10) (hxN : x ≤ N) (hlow : ∀ j, j < x → s % 2 ^ j = 0) (hx : x < N → s % 2 ^ x ≠ 0) : z_sum (fun r => z_bt s r * f r) N = z_sum (fun r => z_bt (s - 1) r * f r) N + z_sum (fun r => z_sg s r * f r) x := by
  have e1 : z_sum (fun r => z_bt s r * f r) N = z_sum (fun r => z_bt (s - 1) r * f r + (if r < x then z_sg s r * f r else 0)) N := by
    refine z_sum_c N (fun r hr => ?_)
    rw [z_bt_mv h h1 (by omega) hlow (fun q => hx (by omega)), Int.add_mul]
    congr 1
    split
    · rfl
    · rw [Int.zero_mul]
  rw [e1, z_sum_add]
  congr 1
  have e2 := z_sum_lo (fun r => z_sg s r * f r) x (N - x)
  rw [show x + (N - x) = N by omega] at e2
  exact e2
theorem z_rc_c {m : z_MM} {kd D R0 R1 : Int} {s tl th rt s' tl' th' rt' : Nat → Int} (h : ∀ n, n < mN m → s n = s' n ∧ tl n = tl' n ∧ th n = th' n) (hR : R0 = R1) (hrt : ∀ j, j < mR m → rt j = rt' j) : z_rc m kd D s tl th R0 rt = z_rc m kd D s' tl' th' R1 rt' := by
  subst hR
  have e1 : z_mk (mN m) (fun n => (s n - tl n + th n) / D) = z_mk (mN m) (fun n => (s' n - tl' n + th' n) / D) := by
    funext n
    unfold z_mk
    split
    · rename_i hn
      obtain ⟨a, b, c⟩ := h n hn
      dsimp only
      rw [a, b, c]
    · rfl
  have e2 : z_sum (fun n => th n * mhi m n - tl n * mlo m n) (mN m) = z_sum (fun n => th' n * mhi m n - tl' n * mlo m n) (mN m) := z_sum_c _ (fun n hn => by obtain ⟨a, b, c⟩ := h n hn; rw [b, c])
  have e3 : (fun j => z_rs j m D tl th rt) = fun j => z_rs j m D tl' th' rt' := by
    funext j
    unfold z_rs z_mk
    split
    · split
      · rename_i hj; exact hrt j hj
      · rfl
    · split
      · split
        · rename_i hj; exact (h _ hj).2.1
        · rfl
      · split
        · split
          · rename_i hj; exact (h _ hj).2.2
          · rfl
        · rfl
  unfold z_rc
  rw [e1, e2, e3]
theorem z_clM_Fb {I J : AwI} (h : z_M I J) (r n : Nat) : -50 ≤ mF (z_clM I J) r n ∧ mF (z_clM I J) r n ≤ 50 := by
  have hr := h.rw
  show -50 ≤ z_mk _ _ n ∧ z_mk _ _ n ≤ 50
  unfold z_mk
  by_cases h1 : r < (I 1 6).toNat
  · rw [if_pos h1]
    split
    · exact h.fc r n (by omega)
    · omega
  · rw [if_neg h1, if_neg (by omega)]; omega
theorem z_clM_rtb {I J : AwI} (h : z_M I J) (r : Nat) : -9999 ≤ mrt (z_clM I J) r ∧ mrt (z_clM I J) r ≤ 9999 := by
  show -9999 ≤ z_mk _ _ r ∧ z_mk _ _ r ≤ 9999
  unfold z_mk
  split
  · exact h.rt r
  · omega
theorem z_sH_b {I J : AwI} (h : z_M I J) (s n : Nat) : -500 ≤ z_sH (z_clM I J) s n ∧ z_sH (z_clM I J) s n ≤ 500 := by
  have hr := h.rw
  have h1 := z_sum_b (f := fun r => z_bt s r * mF (z_clM I J) r n) 50 (I 1 6).toNat (fun r _ => by have a := z_mulb (a := z_bt s r) (A := 1) (by have := z_bt_b s r; omega) (z_clM_Fb h r n); omega)
  unfold z_sH
  rw [show mR (z_clM I J) = (I 1 6).toNat from rfl]
  omega
theorem z_rH_b {I J : AwI} (h : z_M I J) (s : Nat) : -99990 ≤ z_rH (z_clM I J) s ∧ z_rH (z_clM I J) s ≤ 99990 := by
  have hr := h.rw
  have h1 := z_sum_b (f := fun r => z_bt s r * mrt (z_clM I J) r) 9999 (I 1 6).toNat (fun r _ => by have a := z_mulb (a := z_bt s r) (A := 1) (by have := z_bt_b s r; omega) (z_clM_rtb h r); omega)
  unfold z_rH
  rw [show mR (z_clM I J) = (I 1 6).toNat from rfl]
  omega
theorem z_mv_s {I J : AwI} (h : z_M I J) {s x : Nat} {g : Nat → Int} (hs : s < 1024) (h1 : 1 ≤ s) (hx1 : (x : Int) ≤ I 1 6) (hlow : ∀ j, j < x → s % 2 ^ j = 0) (hx : (x : Int) = I 1 6 ∨ s % 2 ^ x ≠ 0) {n : Nat} (hn : n < (I 1 5).toNat) (hg : g n = z_sH (z_clM I J) (s - 1) n) : z_mg I g s x n = z_sH (z_clM I J) s n := by
  have hr := h.rw
  rw [z_mg_in hn, hg]
  unfold z_sH
  rw [show mR (z_clM I J) = (I 1 6).toNat from rfl, z_mv_sum (s := s) (x := x) (f := fun r => mF (z_clM I J) r n) hs h1 (by omega) (by omega) hlow (fun q => by omega)]
  congr 1
  exact z_sum_c _ (fun r hr2 => by rw [z_clM_F (by omega) hn])
theorem z_mv_r {I J : AwI} (h : z_M I J) {s x : Nat} {r : Int} (hs : s < 1024) (h1 : 1 ≤ s) (hx1 : (x : Int) ≤ I 1 6) (hlow : ∀ j, j < x → s % 2 ^ j = 0) (hx : (x : Int) = I 1 6 ∨ s % 2 ^ x ≠ 0) (hg : r = z_rH (z_clM I J) (s - 1)) : z_mr I r s x = z_rH (z_clM I J) s := by
  have hr := h.rw
  rw [z_mr_in, hg]
  unfold z_rH
  rw [show mR (z_clM I J) = (I 1 6).toNat from rfl, z_mv_sum (s := s) (x := x) (f := fun r => mrt (z_clM I J) r) hs h1 (by omega) (by omega) hlow (fun q => by omega)]
  congr 1
  exact z_sum_c _ (fun r hr2 => by rw [z_clM_rt (by omega)])
theorem z_L.frame {I I' : AwI} {π : Nat → Nat} (h : z_L I π) (hI : ∀ a k, 17 ≤ a → a < 224 → I' a k = I a k) : z_L I' π := by
  refine ⟨by rw [hI _ _ (by omega) (by omega)]; exact h.n, h.2.1, fun c hc => ?_⟩
  have g := h.c hc
  refine ⟨fun n => ?_, fun n => ?_, fun n => ?_, fun n => ?_, ?_, ?_, ?_, ?_, ?_⟩
  · rw [hI _ _ (by omega) (by omega)]; exact g.f n
  · rw [hI _ _ (by omega) (by omega)]; exact g.rt n
  · rw [hI _ _ (by omega) (by omega)]; exact g.lt n
  · rw [hI _ _ (by omega) (by omega)]; exact g.ht n
  · rw [hI _ _ (by omega) (by omega)]; exact g.r
  · rw [hI _ _ (by omega) (by omega)]; exact g.kd
  · rw [hI _ _ (by omega) (by omega)]; exact g.ag
  · rw [hI _ _ (by omega) (by omega)]; exact g.dv
  · rw [hI _ _ (by omega) (by omega)]; exact g.cr
theorem z_clL.frame {I I' : AwI} {π : Nat → Nat} {m : z_MM} {L : List z_CC} (h : z_clL I π m L) (hL : z_L I π) (hI : ∀ a k, 17 ≤ a → a < 224 → I' a k = I a k) : z_clL I' π m L := by
  have hn := hL.n
  have hl := h.1
  exact h.congr hL.2.1.1 (by omega) (hI _ _ (by omega) (by omega)) (fun a k h1 h2 => hI a k (by omega) h2)
/-- what the searches leave as it was -/
def z_FF (I I' : AwI) : Prop := ∀ a k, a < 17 ∨ 226 ≤ a → I' a k = I a k
theorem z_sum_z : ∀ n, z_sum (fun _ => 0) n = 0
  | 0 => rfl
  | n + 1 => by show z_sum (fun _ => 0) n + 0 = 0; rw [z_sum_z n]; rfl
set_option maxHeartbeats 4000000 in
theorem c_X7_seekHalves {π : Nat → Nat} {I J : AwI} {L : List z_CC} (h : z_M I J) (hL : z_L I π) (hc : z_clL I π (z_clM I J) L) (ht : I 17 2 = 1) (hs : ∀ n, -600 ≤ I 225 n ∧ I 225 n ≤ 600) : CT m_X7_seekHalves [zr 224] 255 I J (z_R π) (fun r sz' I' J' R' => r = none ∧ sz' = 255 ∧ J' = J ∧ R' = z_R π ∧ z_FF I I' ∧ z_L I' π ∧ z_clL I' π (z_clM I J) (z_fo (z_clM I J) (L, 1) (fun j => z_cH (z_clM I J) (j + 1)) (2 ^ (I 1 6).toNat - 1)).1 ∧ I' 17 2 = (z_fo (z_clM I J) (L, 1) (fun j => z_cH (z_clM I J) (j + 1)) (2 ^ (I 1 6).toNat - 1)).2 ∧ (∀ n, -600 ≤ I' 225 n ∧ I' 225 n ≤ 600)) := by
  have hnm := h.nm
  have hrw := h.rw
  have hpw : 2 ^ (I 1 6).toNat ≤ 2 ^ 10 := Nat.pow_le_pow_right (by omega) (by omega)
  refine CT.of (by decide) (Nat.le_of_ble_eq_true rfl) ?_
  show AW _ 0 0 _ 0 [some (zr 224), none] [] _ _ _
  have loop : ∀ (k : Nat) (set : Nat) (I1 : AwI), 1 ≤ set → set + k = 2 ^ (I 1 6).toNat → (∀ a j, a < 17 ∨ 226 ≤ a → I1 a j = I a j) → z_L I1 π → z_clL I1 π (z_clM I J) (z_fo (z_clM I J) (L, 1) (fun j => z_cH (z_clM I J) (j + 1)) (set - 1)).1 → I1 17 2 = 1 → (∀ n, n < (I 1 5).toNat → I1 225 n = z_sH (z_clM I J) (set - 1) n) → I1 224 3 = z_rH (z_clM I J) (set - 1) → (∀ n, -600 ≤ I1 225 n ∧ I1 225 n ≤ 600) → (z_fo (z_clM I J) (L, 1) (fun j => z_cH (z_clM I J) (j + 1)) (set - 1)).2 = 1 → AW (FM m_X7_seekHalves (fun r sz' I' J' R' => r = none ∧ sz' = 255 ∧ J' = J ∧ R' = z_R π ∧ z_FF I I' ∧ z_L I' π ∧ z_clL I' π (z_clM I J) (z_fo (z_clM I J) (L, 1) (fun j => z_cH (z_clM I J) (j + 1)) (2 ^ (I 1 6).toNat - 1)).1 ∧ I' 17 2 = (z_fo (z_clM I J) (L, 1) (fun j => z_cH (z_clM I J) (j + 1)) (2 ^ (I 1 6).toNat - 1)).2 ∧ (∀ n, -600 ≤ I' 225 n ∧ I' 225 n ≤ 600))) 0 0 255 15 [some (zr 224), some (zi (set : Int))] [] I1 J (z_R π) := by
    intro k
    induction k with
    | zero =>
      intro set I1 h1 he hf hL1 hc1 h17 hs hr hb hS1
      refine aw_iload_n (pc := 15) dX7_seekHalves_15 rfl ?_
      refine aw_iconst (pc := 16) dX7_seekHalves_16 ?_
      refine aw_aload_n (pc := 17) dX7_seekHalves_17 rfl ?_
      refine aw_getR (pc := 18) dX7_seekHalves_18 k_fl_X7_15 rfl (by omega) (by first | rfl | exact z_shr _ (by omega) | exact z_shc0 (by omega) | exact z_shc1 (by omega) | exact z_shc2 (by omega) | exact z_shc3 (by omega) | exact z_shc4 (by omega)) (by first | rfl | exact z_Rc0 _ (by omega) | exact z_Rc1 _ (by omega) | exact z_Rc2 _ (by omega) | exact z_Rc3 _ (by omega)) ?_
      refine aw_getV (pc := 21) (v := I 1 6) dX7_seekHalves_21 k_fl_X7_33 rfl (by omega) (by first | rfl | exact z_shr _ (by omega) | exact z_shc0 (by omega) | exact z_shc1 (by omega) | exact z_shc2 (by omega) | exact z_shc3 (by omega) | exact z_shc4 (by omega)) (hf _ _ (Or.inl (by omega))) ?_
      refine aw_shl1 (pc := 24) dX7_seekHalves_24 (w := (I 1 6).toNat) (by omega) (by omega) ?_
      refine aw_icmp_ge (pc := 25) (tgt := 48) dX7_seekHalves_25 rfl (by first | omega | exact z_bl_r _) (by first | omega | exact z_bl_r _) (fun h25 => ?_) (fun h25 => absurd h25 (by omega))
      exact aw_return (pc := 48) dX7_seekHalves_48 rfl ⟨Nat.zero_le _, Nat.zero_le _⟩ (⟨rfl, rfl, rfl, rfl, fun a j ha => hf a j (by omega), hL1, by rw [show 2 ^ (I 1 6).toNat - 1 = set - 1 by omega]; exact hc1, by rw [show 2 ^ (I 1 6).toNat - 1 = set - 1 by omega, h17]; exact hS1.symm, hb⟩)
    | succ k ih =>
      intro set I1 h1 he hf hL1 hc1 h17 hs hr hb hS1
      refine aw_iload_n (pc := 15) dX7_seekHalves_15 rfl ?_
      refine aw_iconst (pc := 16) dX7_seekHalves_16 ?_
      refine aw_aload_n (pc := 17) dX7_seekHalves_17 rfl ?_
      refine aw_getR (pc := 18) dX7_seekHalves_18 k_fl_X7_15 rfl (by omega) (by first | rfl | exact z_shr _ (by omega) | exact z_shc0 (by omega) | exact z_shc1 (by omega) | exact z_shc2 (by omega) | exact z_shc3 (by omega) | exact z_shc4 (by omega)) (by first | rfl | exact z_Rc0 _ (by omega) | exact z_Rc1 _ (by omega) | exact z_Rc2 _ (by omega) | exact z_Rc3 _ (by omega)) ?_
      refine aw_getV (pc := 21) (v := I 1 6) dX7_seekHalves_21 k_fl_X7_33 rfl (by omega) (by first | rfl | exact z_shr _ (by omega) | exact z_shc0 (by omega) | exact z_shc1 (by omega) | exact z_shc2 (by omega) | exact z_shc3 (by omega) | exact z_shc4 (by omega)) (hf _ _ (Or.inl (by omega))) ?_
      refine aw_shl1 (pc := 24) dX7_seekHalves_24 (w := (I 1 6).toNat) (by omega) (by omega) ?_
      refine aw_icmp_ge (pc := 25) (tgt := 48) dX7_seekHalves_25 rfl (by first | omega | exact z_bl_r _) (by first | omega | exact z_bl_r _) (fun h25 => absurd h25 (by omega)) (fun h25 => ?_)
      have hM1 : z_M I1 J := h.congr (fun a j ha => hf a j (Or.inl ha)) (fun _ => rfl)
      have em1 : z_clM I1 J = z_clM I J := z_clM.congr h (fun a j ha => hf a j (Or.inl ha)) (fun _ => rfl)
      have K1 := c_X7_moveSumTo (π := π) (g := I1 225) (r := I1 224 3) (set := set) hM1 (by omega) h1
      rw [z_s7_id] at K1
      refine aw_aload_n (pc := 28) dX7_seekHalves_28 rfl ?_
      refine aw_iload_n (pc := 29) dX7_seekHalves_29 rfl ?_
      refine aw_qV (pc := 30) (d := m_X7_moveSumTo) (K1) k_X7_moveSumTo dX7_seekHalves_30 k_ml_X7_38 rfl ⟨rfl, rfl⟩ (by omega) (by first | rfl | exact z_shr _ (by omega) | exact z_shc0 (by omega) | exact z_shc1 (by omega) | exact z_shc2 (by omega) | exact z_shc3 (by omega) | exact z_shc4 (by omega)) rfl ⟨Nat.le_of_ble_eq_true rfl, Nat.le_of_ble_eq_true rfl⟩ ⟨Nat.zero_le _, Nat.zero_le _⟩ rfl (Nat.le_of_ble_eq_true rfl) ?_
      rintro r sz2 I2 J2 R2 ⟨rfl, rfl, rfl, rfl, x, hx1, hx2, hx3, rfl⟩
      have e16 : I1 1 6 = I 1 6 := hf _ _ (Or.inl (by omega))
      have e15 : I1 1 5 = I 1 5 := hf _ _ (Or.inl (by omega))
      have hM2 : z_M (z_s7 I1 (z_mg I1 (I1 225) set x) (z_mr I1 (I1 224 3) set x)) J2 := hM1.congr (fun a j ha => z_s7_o (by omega)) (fun _ => rfl)
      have em2 : z_clM (z_s7 I1 (z_mg I1 (I1 225) set x) (z_mr I1 (I1 224 3) set x)) J2 = z_clM I J2 := (z_clM.congr hM1 (fun a j ha => z_s7_o (by omega)) (fun _ => rfl)).trans em1
      have hL2 : z_L (z_s7 I1 (z_mg I1 (I1 225) set x) (z_mr I1 (I1 224 3) set x)) π := hL1.frame (fun a j h1 h2 => z_s7_o (by omega))
      have hc2 : z_clL (z_s7 I1 (z_mg I1 (I1 225) set x) (z_mr I1 (I1 224 3) set x)) π (z_clM I J2) _ := hc1.frame hL1 (fun a j h1 h2 => z_s7_o (by omega))
      have hsn : ∀ n, n < (I 1 5).toNat → z_mg I1 (I1 225) set x n = z_sH (z_clM I J2) set n := fun n hn => by
        have q := z_mv_s hM1 (g := I1 225) (by omega) h1 hx1 hx2 hx3 (n := n) (by rw [e15]; exact hn) (by rw [em1]; exact hs n hn)
        rw [em1] at q
        exact q
      have hsr : z_mr I1 (I1 224 3) set x = z_rH (z_clM I J2) set := by
        have q := z_mv_r hM1 (r := I1 224 3) (by omega) h1 hx1 hx2 hx3 (by rw [em1]; exact hr)
        rw [em1] at q
        exact q
      have hb2 : ∀ n, -600 ≤ z_s7 I1 (z_mg I1 (I1 225) set x) (z_mr I1 (I1 224 3) set x) 225 n ∧ z_s7 I1 (z_mg I1 (I1 225) set x) (z_mr I1 (I1 224 3) set x) 225 n ≤ 600 := fun n => by
        rw [z_s7_g]
        by_cases hn : n < (I 1 5).toNat
        · rw [hsn n hn]; have := z_sH_b h set n; omega
        · rw [z_mg_o (by rw [e15]; exact hn)]; exact hb n
      have hR2 : -120000 ≤ z_s7 I1 (z_mg I1 (I1 225) set x) (z_mr I1 (I1 224 3) set x) 224 3 ∧ z_s7 I1 (z_mg I1 (I1 225) set x) (z_mr I1 (I1 224 3) set x) 224 3 ≤ 120000 := by
        rw [z_s7_r, hsr]; have := z_rH_b h set; omega
      have K2 := c_X7_tryHalves0 (set := set) hM2 hL2 (by rw [em2]; exact hc2) (by rw [z_s7_o (by omega)]; exact h17) (by omega) hb2 hR2 (by
        rw [em2]
        exact z_rc_c (fun n hn => by
          have hn2 : n < (I 1 5).toNat := hn
          have e0 : z_s7 I1 (z_mg I1 (I1 225) set x) (z_mr I1 (I1 224 3) set x) 225 n = z_sH (z_clM I J2) set n := (z_s7_g n).trans (hsn n hn2)
          refine ⟨e0, ?_, ?_⟩
          · exact z_tlH_c e0
          · exact z_thH_c e0) (z_s7_r.trans hsr) (fun _ _ => rfl))
      rw [em2] at K2
      refine aw_aload_n (pc := 33) dX7_seekHalves_33 rfl ?_
      refine aw_iload_n (pc := 34) dX7_seekHalves_34 rfl ?_
      refine aw_qV (pc := 35) (d := m_X7_tryHalves) (K2) k_X7_tryHalves dX7_seekHalves_35 k_ml_X7_42 rfl ⟨rfl, rfl⟩ (by omega) (by first | rfl | exact z_shr _ (by omega) | exact z_shc0 (by omega) | exact z_shc1 (by omega) | exact z_shc2 (by omega) | exact z_shc3 (by omega) | exact z_shc4 (by omega)) rfl ⟨Nat.le_of_ble_eq_true rfl, Nat.le_of_ble_eq_true rfl⟩ ⟨Nat.zero_le _, Nat.zero_le _⟩ rfl (Nat.le_of_ble_eq_true rfl) ?_
      rintro r sz3 I3 J3 R3 ⟨rfl, rfl, rfl, rfl, f3, hL3, hc3, h173⟩
      have eS : z_of (z_clM I J3) ((z_fo (z_clM I J3) (L, 1) (fun j => z_cH (z_clM I J3) (j + 1)) (set - 1)).1, 1) (z_cH (z_clM I J3) set) = (z_fo (z_clM I J3) (L, 1) (fun j => z_cH (z_clM I J3) (j + 1)) (set)) := by
        rw [show (z_fo (z_clM I J3) (L, 1) (fun j => z_cH (z_clM I J3) (j + 1)) (set)) = z_fo (z_clM I J3) (L, 1) (fun j => z_cH (z_clM I J3) (j + 1)) ((set - 1) + 1) by rw [show set - 1 + 1 = set by omega]]
        show _ = z_of (z_clM I J3) (z_fo (z_clM I J3) (L, 1) (fun j => z_cH (z_clM I J3) (j + 1)) (set - 1)) (z_cH (z_clM I J3) (set - 1 + 1))
        rw [show set - 1 + 1 = set by omega]
        exact z_of_e hS1
      rw [eS] at hc3 h173 ⊢
      have hf3 : ∀ a j, a < 17 ∨ 226 ≤ a → I3 a j = I a j := fun a j ha => by rw [f3 a j (by omega), z_s7_o (by omega)]; exact hf a j ha
      have hb3 : ∀ n, -600 ≤ I3 225 n ∧ I3 225 n ≤ 600 := fun n => by rw [f3 225 n (by omega)]; exact hb2 n
      have h01 := (z_fo_inv (m := z_clM I J3) (L := L) (cand := fun j => z_cH (z_clM I J3) (j + 1)) set).2
      refine aw_if_ne (pc := 38) (tgt := 42) dX7_seekHalves_38 rfl (by omega) (fun h38 => ?_) (fun h38 => ?_)
      · refine aw_iinc (pc := 42) (lv' := [_, _]) dX7_seekHalves_42 (Nat.le_of_ble_eq_true rfl) rfl rfl ?_
        refine aw_goto (pc := 45) (tgt := 15) dX7_seekHalves_45 rfl ?_
        have K := ih (set + 1) I3 (by omega) (by omega) hf3 hL3 hc3 (by rw [h173]; omega) (fun n hn => by rw [f3 225 n (by omega), z_s7_g, hsn n hn, show set + 1 - 1 = set by omega]) (by rw [f3 224 3 (by omega), z_s7_r, hsr, show set + 1 - 1 = set by omega]) hb3 (by rw [show set + 1 - 1 = set by omega]; omega)
        exact K
      · exact aw_return (pc := 41) dX7_seekHalves_41 rfl ⟨Nat.zero_le _, Nat.zero_le _⟩ (⟨rfl, rfl, rfl, rfl, fun a j ha => hf3 a j (by omega), hL3, by rw [show 2 ^ (I 1 6).toNat - 1 = set + (2 ^ (I 1 6).toNat - 1 - set) by omega, z_fo_stop h38]; exact hc3, by rw [show 2 ^ (I 1 6).toNat - 1 = set + (2 ^ (I 1 6).toNat - 1 - set) by omega, z_fo_stop h38]; exact h173, hb3⟩)
  refine aw_aload_n (pc := 0) dX7_seekHalves_0 rfl ?_
  refine aw_getR (pc := 1) dX7_seekHalves_1 k_fl_X7_9 rfl (by omega) (by first | rfl | exact z_shr _ (by omega) | exact z_shc0 (by omega) | exact z_shc1 (by omega) | exact z_shc2 (by omega) | exact z_shc3 (by omega) | exact z_shc4 (by omega)) (by first | rfl | exact z_Rc0 _ (by omega) | exact z_Rc1 _ (by omega) | exact z_Rc2 _ (by omega) | exact z_Rc3 _ (by omega)) ?_
  refine aw_iconst (pc := 4) dX7_seekHalves_4 ?_
  refine aw_qS (pc := 5) (d := m_J7_fill_53178) (c_fill (n := 8) (by omega) rfl (by omega)) k_J7_fill_53178 dX7_seekHalves_5 k_ml_X7_23 rfl ⟨rfl, rfl⟩ ⟨Nat.le_of_ble_eq_true rfl, Nat.le_of_ble_eq_true rfl⟩ ⟨Nat.zero_le _, Nat.zero_le _⟩ rfl (Nat.le_of_ble_eq_true rfl) (z_Pk ?_)
  refine aw_aload_n (pc := 8) dX7_seekHalves_8 rfl ?_
  refine aw_iconst (pc := 9) dX7_seekHalves_9 ?_
  refine aw_putI (pc := 10) dX7_seekHalves_10 k_fl_X7_29 rfl (by omega) (by first | rfl | exact z_shr _ (by omega) | exact z_shc0 (by omega) | exact z_shc1 (by omega) | exact z_shc2 (by omega) | exact z_shc3 (by omega) | exact z_shc4 (by omega)) ?_
  refine aw_iconst (pc := 13) dX7_seekHalves_13 ?_
  refine aw_istore_n (pc := 14) (lv' := [_, _]) dX7_seekHalves_14 (Nat.le_of_ble_eq_true rfl) rfl ?_
  have hpp : 1 ≤ 2 ^ (I 1 6).toNat := Nat.one_le_two_pow
  have f0 : ∀ a j, a < 224 ∨ 225 < a → z_up (z_fl I 225 8 0) 224 3 0 a j = I a j := fun a j ha => by rw [z_up_a _ _ (by omega), z_fl_a _ _ (by omega)]
  have f1 : ∀ n, z_up (z_fl I 225 8 0) 224 3 0 225 n = if n < 8 then 0 else I 225 n := fun n => by rw [z_up_a _ _ (by omega)]; unfold z_fl; simp
  have e0 : ∀ n, z_sH (z_clM I J) 0 n = 0 := fun n => by unfold z_sH; rw [z_sum_c (g := fun _ => 0) _ (fun r _ => by unfold z_bt; simp)]; exact z_sum_z _
  have e1 : z_rH (z_clM I J) 0 = 0 := by unfold z_rH; rw [z_sum_c (g := fun _ => 0) _ (fun r _ => by unfold z_bt; simp)]; exact z_sum_z _
  exact loop (2 ^ (I 1 6).toNat - 1) 1 _ (by omega) (by omega) (fun a j ha => f0 a j (by omega)) (hL.frame (fun a j h1 h2 => f0 a j (by omega))) (hc.frame hL (fun a j h1 h2 => f0 a j (by omega))) (by rw [f0 _ _ (by omega)]; exact ht) (fun n hn => by rw [f1, if_pos (by omega)]; exact (e0 n).symm) (by rw [z_up_s]; exact e1.symm) (fun n => by rw [f1]; split; omega; exact hs n) rfl
