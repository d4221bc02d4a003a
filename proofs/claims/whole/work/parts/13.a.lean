noncomputable def z_bl (p : Prop) : Int := @ite _ p (Classical.propDecidable p) 1 0
theorem z_bl_t {p : Prop} (h : p) : z_bl p = 1 := if_pos h
theorem z_bl_f {p : Prop} (h : ¬ p) : z_bl p = 0 := if_neg h
theorem z_bl_r (p : Prop) : -2147483648 ≤ z_bl p ∧ z_bl p ≤ 2147483647 := by
  by_cases h : p
  · rw [z_bl_t h]; omega
  · rw [z_bl_f h]; omega
theorem z_bl_01 (p : Prop) : z_bl p = 0 ∨ z_bl p = 1 := by
  by_cases h : p
  · rw [z_bl_t h]; omega
  · rw [z_bl_f h]; omega
theorem z_bl_0 {p : Prop} : z_bl p = 0 ↔ ¬ p := by
  by_cases h : p
  · rw [z_bl_t h]; simp [h]
  · rw [z_bl_f h]; simp [h]
theorem z_bl_n {p : Prop} : z_bl p ≠ 0 ↔ p := by
  by_cases h : p
  · rw [z_bl_t h]; simp [h]
  · rw [z_bl_f h]; simp [h]
theorem z_bl_c {p q : Prop} (h : p ↔ q) : z_bl p = z_bl q := by rw [propext h]
theorem z_r1 {p : Prop} (h : p) : some (zi 1) = some (zi (z_bl p)) := by rw [z_bl_t h]
theorem z_r0 {p : Prop} (h : ¬ p) : some (zi 0) = some (zi (z_bl p)) := by rw [z_bl_f h]
def z_sum (f : Nat → Int) : Nat → Int
  | 0 => 0
  | n + 1 => z_sum f n + f n
def z_sm (f : Nat → Int) (x : Int) : Int := z_sum f x.toNat
theorem z_sm_0 (f : Nat → Int) : z_sm f 0 = 0 := rfl
theorem z_sm_s (f : Nat → Int) {x : Int} (h : 0 ≤ x) : z_sm f (x + 1) = z_sm f x + f x.toNat := by
  unfold z_sm
  rw [show (x + 1).toNat = x.toNat + 1 by omega]
  rfl
theorem z_sum_c {f g : Nat → Int} : ∀ n : Nat, (∀ k, k < n → f k = g k) → z_sum f n = z_sum g n
  | 0, _ => rfl
  | n + 1, h => by
    show z_sum f n + f n = z_sum g n + g n
    rw [z_sum_c n (fun k hk => h k (by omega)), h n (by omega)]
theorem z_sum_b {f : Nat → Int} (B : Int) : ∀ n : Nat, (∀ k, k < n → -B ≤ f k ∧ f k ≤ B) → -(n * B) ≤ z_sum f n ∧ z_sum f n ≤ n * B
  | 0, _ => by simp [z_sum]
  | n + 1, h => by
    have h1 := z_sum_b B n (fun k hk => h k (by omega))
    have h2 := h n (by omega)
    have e : ((n + 1 : Nat) : Int) * B = n * B + B := by rw [Int.natCast_add, Int.add_mul]; simp
    rw [e]
    show _ ≤ z_sum f n + f n ∧ z_sum f n + f n ≤ _
    omega
theorem z_sm_b {f : Nat → Int} (B : Int) (x : Int) (N : Nat) (hx : x ≤ N) (hB : 0 ≤ B) (h : ∀ k, -B ≤ f k ∧ f k ≤ B) : -(N * B) ≤ z_sm f x ∧ z_sm f x ≤ N * B := by
  have h1 := z_sum_b B x.toNat (fun k _ => h k)
  have h2 : (x.toNat : Int) * B ≤ N * B := Int.mul_le_mul_of_nonneg_right (by omega) hB
  unfold z_sm
  omega
theorem z_mulb {a b A B : Int} (ha : -A ≤ a ∧ a ≤ A) (hb : -B ≤ b ∧ b ≤ B) : -(A * B) ≤ a * b ∧ a * b ≤ A * B := by
  have hA : 0 ≤ A := by omega
  have hB : 0 ≤ B := by omega
  have h1 : a.natAbs * b.natAbs ≤ A.natAbs * B.natAbs := Nat.mul_le_mul (by omega) (by omega)
  have h2 : (a * b).natAbs = a.natAbs * b.natAbs := Int.natAbs_mul a b
  have h3 : (A * B).natAbs = A.natAbs * B.natAbs := Int.natAbs_mul A B
  have h4 : 0 ≤ A * B := Int.mul_nonneg hA hB
  omega
def z_le (f lo hi : Int) : Int := if f < 0 then f * hi else f * lo
theorem z_le_b {f lo hi F B : Int} (hf : -F ≤ f ∧ f ≤ F) (hl : -B ≤ lo ∧ lo ≤ B) (hh : -B ≤ hi ∧ hi ≤ B) : -(F * B) ≤ z_le f lo hi ∧ z_le f lo hi ≤ F * B := by
  unfold z_le
  split
  · exact z_mulb hf hh
  · exact z_mulb hf hl
/-- the bounds of the class's model -/
def z_M (I J : AwI) : Prop := (0 ≤ I 1 5 ∧ I 1 5 ≤ 8) ∧ (0 ≤ I 1 6 ∧ I 1 6 ≤ 10) ∧ (∀ n, -30 ≤ I 2 n ∧ I 2 n ≤ 30) ∧ (∀ n, -30 ≤ I 3 n ∧ I 3 n ≤ 30) ∧ (∀ n, -11088000 ≤ J 4 n ∧ J 4 n ≤ 11088000) ∧ (∀ r n, r < 10 → -50 ≤ I (6 + r) n ∧ I (6 + r) n ≤ 50) ∧ (∀ r, -9999 ≤ I 16 r ∧ I 16 r ≤ 9999) ∧ (∀ r n : Nat, (r : Int) < I 1 6 → I 1 5 ≤ (n : Int) → n < 8 → I (6 + r) n = 0)
theorem z_M.nm {I J : AwI} (h : z_M I J) : 0 ≤ I 1 5 ∧ I 1 5 ≤ 8 := h.1
theorem z_M.rw {I J : AwI} (h : z_M I J) : 0 ≤ I 1 6 ∧ I 1 6 ≤ 10 := h.2.1
theorem z_M.lo {I J : AwI} (h : z_M I J) (n : Nat) : -30 ≤ I 2 n ∧ I 2 n ≤ 30 := h.2.2.1 n
theorem z_M.hi {I J : AwI} (h : z_M I J) (n : Nat) : -30 ≤ I 3 n ∧ I 3 n ≤ 30 := h.2.2.2.1 n
theorem z_M.pt {I J : AwI} (h : z_M I J) (n : Nat) : -11088000 ≤ J 4 n ∧ J 4 n ≤ 11088000 := h.2.2.2.2.1 n
theorem z_M.fc {I J : AwI} (h : z_M I J) (r n : Nat) (hr : r < 10) : -50 ≤ I (6 + r) n ∧ I (6 + r) n ≤ 50 := h.2.2.2.2.2.1 r n hr
theorem z_M.rt {I J : AwI} (h : z_M I J) (r : Nat) : -9999 ≤ I 16 r ∧ I 16 r ≤ 9999 := h.2.2.2.2.2.2.1 r
/-- a row's factors of names to come are 0 -/
theorem z_M.zz {I J : AwI} (h : z_M I J) (r n : Nat) (hr : (r : Int) < I 1 6) (hn : I 1 5 ≤ (n : Int)) (h8 : n < 8) : I (6 + r) n = 0 := h.2.2.2.2.2.2.2 r n hr hn h8
theorem z_M.congr {I J I' J' : AwI} (h : z_M I J) (hI : ∀ a k, a < 17 → I' a k = I a k) (hJ : ∀ k, J' 4 k = J 4 k) : z_M I' J' := by
  have hrw := h.rw
  refine ⟨?_, ?_, fun n => ?_, fun n => ?_, fun n => ?_, fun r n hr => ?_, fun r => ?_, fun r n h1 h2 h8 => ?_⟩
  · rw [hI _ _ (by omega)]; exact h.nm
  · rw [hI _ _ (by omega)]; exact h.rw
  · rw [hI _ _ (by omega)]; exact h.lo n
  · rw [hI _ _ (by omega)]; exact h.hi n
  · rw [hJ]; exact h.pt n
  · rw [hI _ _ (by omega)]; exact h.fc r n hr
  · rw [hI _ _ (by omega)]; exact h.rt r
  · rw [hI _ _ (by omega)] at h1 h2; rw [hI _ _ (by omega)]; exact h.zz r n h1 h2 h8
/-- the least of name n in row r, the class's numbers -/
def z_cl (I : AwI) (r n : Nat) : Int := z_le (I (6 + r) n) (I 2 n) (I 3 n)
theorem z_M.cl {I J : AwI} (h : z_M I J) (r n : Nat) (hr : r < 10) : -1500 ≤ z_cl I r n ∧ z_cl I r n ≤ 1500 := z_le_b (h.fc r n hr) (h.lo n) (h.hi n)
/-- the sum of a clash: factors of a and b, leasts of the others -/
def z_ct (I : AwI) (r a b : Nat) : Nat → Int := fun n => if n = a ∨ n = b then 0 else z_cl I r n
def z_cs (I : AwI) (r a b : Nat) (x : Int) : Int := I (6 + r) a + I (6 + r) b + z_sm (z_ct I r a b) x
theorem z_M.ct {I J : AwI} (h : z_M I J) (r a b n : Nat) (hr : r < 10) : -1500 ≤ z_ct I r a b n ∧ z_ct I r a b n ≤ 1500 := by
  unfold z_ct
  split
  · omega
  · exact h.cl r n hr
/-- rows r in which a and b clash -/
def z_ci (I : AwI) (r a b : Nat) : Prop := I 16 r < z_cs I r a b (I 1 5)
def z_cn2 (I : AwI) (a b : Nat) : Prop := ∃ r : Nat, (r : Int) < I 1 6 ∧ z_ci I r a b
def z_pr (f : Nat → Int) : Nat → Int
  | 0 => 1
  | n + 1 => z_pr f n * f n
def z_pm (f : Nat → Int) (x : Int) : Int := z_pr f x.toNat
theorem z_pm_s (f : Nat → Int) {x : Int} (h : 0 ≤ x) : z_pm f (x + 1) = z_pm f x * f x.toNat := by
  unfold z_pm
  rw [show (x + 1).toNat = x.toNat + 1 by omega]
  rfl
/-- the strength of a cut, times the scale -/
def z_str (f : Nat → Int) (p : Nat → Int) (r x : Int) : Int := z_sm (fun n => f n * p n) x - r * 27720
def z_fl (I : AwI) (a n : Nat) (v : Int) : AwI := fun a' k' => if a' = a ∧ k' < n then v else I a' k'
theorem z_fl_s (I : AwI) (a : Nat) (v : Int) {x : Int} (h : 0 ≤ x) : z_up (z_fl I a x.toNat v) a x.toNat v = z_fl I a (x + 1).toNat v := by
  funext a' k'
  unfold z_up z_fl
  by_cases e : a' = a
  · subst e
    by_cases e2 : k' = x.toNat
    · subst e2
      rw [if_pos ⟨rfl, rfl⟩, if_pos ⟨rfl, by omega⟩]
    · rw [if_neg (fun q => e2 q.2)]
      by_cases e3 : k' < x.toNat
      · rw [if_pos ⟨rfl, e3⟩, if_pos ⟨rfl, by omega⟩]
      · rw [if_neg (fun q => e3 q.2), if_neg (fun q => e3 (by have := q.2; omega))]
  · rw [if_neg (fun q => e q.1), if_neg (fun q => e q.1), if_neg (fun q => e q.1)]
theorem z_fl_0 (I : AwI) (a : Nat) (v : Int) : z_fl I a 0 v = I := by
  funext a' k'
  unfold z_fl
  rw [if_neg (fun q => by have := q.2; omega)]
theorem z_fl_in (I : AwI) {a n k : Nat} (v : Int) (h : k < n) : z_fl I a n v a k = v := if_pos ⟨rfl, h⟩
theorem z_fl_a (I : AwI) {a a' n k : Nat} (v : Int) (h : a' ≠ a) : z_fl I a n v a' k = I a' k := if_neg (fun q => h q.1)

set_option maxHeartbeats 4000000 in
theorem c_X6_hasName {π : Nat → Nat} {I J : AwI} {x : Int} (h : z_M I J) (hx : -2147483648 ≤ x ∧ x ≤ 2147483647) : CT m_X6_hasName [zr 1, zi x] 255 I J (z_R π) (z_P (some (zi (z_bl (0 ≤ x ∧ x < I 1 5)))) 255 I J (z_R π)) := by
  refine CT.of (by decide) (Nat.le_of_ble_eq_true rfl) ?_
  show AW _ 0 0 _ 0 [some (zr 1), some (zi x)] [] _ _ _
  have hn := h.nm
  refine aw_iload_n (pc := 0) dX6_hasName_0 rfl ?_
  refine aw_if_lt (pc := 1) (tgt := 16) dX6_hasName_1 rfl (by first | omega | exact z_bl_r _) (fun h1 => ?_) (fun h1 => ?_)
  · refine aw_iconst (pc := 16) dX6_hasName_16 ?_
    exact aw_zreturn (pc := 17) dX6_hasName_17 rfl (by first | exact Or.inl rfl | exact Or.inr rfl | omega) ⟨Nat.zero_le _, Nat.zero_le _⟩ (⟨by first | exact z_r1 (by omega) | exact z_r0 (by omega), rfl, rfl, rfl, rfl⟩)
  · refine aw_iload_n (pc := 4) dX6_hasName_4 rfl ?_
    refine aw_aload_n (pc := 5) dX6_hasName_5 rfl ?_
    refine aw_getI (pc := 6) dX6_hasName_6 k_fl_X6_30 rfl (by omega) (by first | rfl | exact z_shr _ (by omega) | exact z_shc0 (by omega) | exact z_shc1 (by omega) | exact z_shc2 (by omega) | exact z_shc3 (by omega) | exact z_shc4 (by omega)) ?_
    refine aw_icmp_ge (pc := 9) (tgt := 16) dX6_hasName_9 rfl (by first | omega | exact z_bl_r _) (by first | omega | exact z_bl_r _) (fun h9 => ?_) (fun h9 => ?_)
    · refine aw_iconst (pc := 16) dX6_hasName_16 ?_
      exact aw_zreturn (pc := 17) dX6_hasName_17 rfl (by first | exact Or.inl rfl | exact Or.inr rfl | omega) ⟨Nat.zero_le _, Nat.zero_le _⟩ (⟨by first | exact z_r1 (by omega) | exact z_r0 (by omega), rfl, rfl, rfl, rfl⟩)
    · refine aw_iconst (pc := 12) dX6_hasName_12 ?_
      refine aw_goto (pc := 13) (tgt := 17) dX6_hasName_13 rfl ?_
      exact aw_zreturn (pc := 17) dX6_hasName_17 rfl (by first | exact Or.inl rfl | exact Or.inr rfl | omega) ⟨Nat.zero_le _, Nat.zero_le _⟩ (⟨by first | exact z_r1 (by omega) | exact z_r0 (by omega), rfl, rfl, rfl, rfl⟩)
set_option maxHeartbeats 4000000 in
theorem c_X6_hasRow {π : Nat → Nat} {I J : AwI} {x : Int} (h : z_M I J) (hx : -2147483648 ≤ x ∧ x ≤ 2147483647) : CT m_X6_hasRow [zr 1, zi x] 255 I J (z_R π) (z_P (some (zi (z_bl (0 ≤ x ∧ x < I 1 6)))) 255 I J (z_R π)) := by
  refine CT.of (by decide) (Nat.le_of_ble_eq_true rfl) ?_
  show AW _ 0 0 _ 0 [some (zr 1), some (zi x)] [] _ _ _
  have hn := h.rw
  refine aw_iload_n (pc := 0) dX6_hasRow_0 rfl ?_
  refine aw_if_lt (pc := 1) (tgt := 16) dX6_hasRow_1 rfl (by first | omega | exact z_bl_r _) (fun h1 => ?_) (fun h1 => ?_)
  · refine aw_iconst (pc := 16) dX6_hasRow_16 ?_
    exact aw_zreturn (pc := 17) dX6_hasRow_17 rfl (by first | exact Or.inl rfl | exact Or.inr rfl | omega) ⟨Nat.zero_le _, Nat.zero_le _⟩ (⟨by first | exact z_r1 (by omega) | exact z_r0 (by omega), rfl, rfl, rfl, rfl⟩)
  · refine aw_iload_n (pc := 4) dX6_hasRow_4 rfl ?_
    refine aw_aload_n (pc := 5) dX6_hasRow_5 rfl ?_
    refine aw_getI (pc := 6) dX6_hasRow_6 k_fl_X6_34 rfl (by omega) (by first | rfl | exact z_shr _ (by omega) | exact z_shc0 (by omega) | exact z_shc1 (by omega) | exact z_shc2 (by omega) | exact z_shc3 (by omega) | exact z_shc4 (by omega)) ?_
    refine aw_icmp_ge (pc := 9) (tgt := 16) dX6_hasRow_9 rfl (by first | omega | exact z_bl_r _) (by first | omega | exact z_bl_r _) (fun h9 => ?_) (fun h9 => ?_)
    · refine aw_iconst (pc := 16) dX6_hasRow_16 ?_
      exact aw_zreturn (pc := 17) dX6_hasRow_17 rfl (by first | exact Or.inl rfl | exact Or.inr rfl | omega) ⟨Nat.zero_le _, Nat.zero_le _⟩ (⟨by first | exact z_r1 (by omega) | exact z_r0 (by omega), rfl, rfl, rfl, rfl⟩)
    · refine aw_iconst (pc := 12) dX6_hasRow_12 ?_
      refine aw_goto (pc := 13) (tgt := 17) dX6_hasRow_13 rfl ?_
      exact aw_zreturn (pc := 17) dX6_hasRow_17 rfl (by first | exact Or.inl rfl | exact Or.inr rfl | omega) ⟨Nat.zero_le _, Nat.zero_le _⟩ (⟨by first | exact z_r1 (by omega) | exact z_r0 (by omega), rfl, rfl, rfl, rfl⟩)
set_option maxHeartbeats 4000000 in
theorem c_X6_isBinary {π : Nat → Nat} {I J : AwI} {x : Int} (h : z_M I J) (hx : 0 ≤ x ∧ x < 8) : CT m_X6_isBinary [zr 1, zi x] 255 I J (z_R π) (z_P (some (zi (z_bl (I 2 x.toNat = 0 ∧ I 3 x.toNat = 1)))) 255 I J (z_R π)) := by
  refine CT.of (by decide) (Nat.le_of_ble_eq_true rfl) ?_
  show AW _ 0 0 _ 0 [some (zr 1), some (zi x)] [] _ _ _
  have hl := h.lo x.toNat
  have hh := h.hi x.toNat
  refine aw_aload_n (pc := 0) dX6_isBinary_0 rfl ?_
  refine aw_getR (pc := 1) dX6_isBinary_1 k_fl_X6_9 rfl (by omega) (by first | rfl | exact z_shr _ (by omega) | exact z_shc0 (by omega) | exact z_shc1 (by omega) | exact z_shc2 (by omega) | exact z_shc3 (by omega) | exact z_shc4 (by omega)) (by first | rfl | exact z_Rc0 _ (by omega) | exact z_Rc1 _ (by omega) | exact z_Rc2 _ (by omega) | exact z_Rc3 _ (by omega)) ?_
  refine aw_iload_n (pc := 4) dX6_isBinary_4 rfl ?_
  refine aw_iaload (pc := 5) dX6_isBinary_5 (by omega) (Nat.le_refl _) (by first | rfl | exact z_shr _ (by omega) | exact z_shc0 (by omega) | exact z_shc1 (by omega) | exact z_shc2 (by omega) | exact z_shc3 (by omega) | exact z_shc4 (by omega)) (by first | omega | exact z_bl_r _) ?_
  refine aw_if_ne (pc := 6) (tgt := 23) dX6_isBinary_6 rfl (by first | omega | exact z_bl_r _) (fun h6 => ?_) (fun h6 => ?_)
  · refine aw_iconst (pc := 23) dX6_isBinary_23 ?_
    exact aw_zreturn (pc := 24) dX6_isBinary_24 rfl (by first | exact Or.inl rfl | exact Or.inr rfl | omega) ⟨Nat.zero_le _, Nat.zero_le _⟩ (⟨by first | exact z_r1 (by omega) | exact z_r0 (by omega), rfl, rfl, rfl, rfl⟩)
  · refine aw_aload_n (pc := 9) dX6_isBinary_9 rfl ?_
    refine aw_getR (pc := 10) dX6_isBinary_10 k_fl_X6_15 rfl (by omega) (by first | rfl | exact z_shr _ (by omega) | exact z_shc0 (by omega) | exact z_shc1 (by omega) | exact z_shc2 (by omega) | exact z_shc3 (by omega) | exact z_shc4 (by omega)) (by first | rfl | exact z_Rc0 _ (by omega) | exact z_Rc1 _ (by omega) | exact z_Rc2 _ (by omega) | exact z_Rc3 _ (by omega)) ?_
    refine aw_iload_n (pc := 13) dX6_isBinary_13 rfl ?_
    refine aw_iaload (pc := 14) dX6_isBinary_14 (by omega) (Nat.le_refl _) (by first | rfl | exact z_shr _ (by omega) | exact z_shc0 (by omega) | exact z_shc1 (by omega) | exact z_shc2 (by omega) | exact z_shc3 (by omega) | exact z_shc4 (by omega)) (by first | omega | exact z_bl_r _) ?_
    refine aw_iconst (pc := 15) dX6_isBinary_15 ?_
    refine aw_icmp_ne (pc := 16) (tgt := 23) dX6_isBinary_16 rfl (by first | omega | exact z_bl_r _) (by first | omega | exact z_bl_r _) (fun h16 => ?_) (fun h16 => ?_)
    · refine aw_iconst (pc := 23) dX6_isBinary_23 ?_
      exact aw_zreturn (pc := 24) dX6_isBinary_24 rfl (by first | exact Or.inl rfl | exact Or.inr rfl | omega) ⟨Nat.zero_le _, Nat.zero_le _⟩ (⟨by first | exact z_r1 (by omega) | exact z_r0 (by omega), rfl, rfl, rfl, rfl⟩)
    · refine aw_iconst (pc := 19) dX6_isBinary_19 ?_
      refine aw_goto (pc := 20) (tgt := 24) dX6_isBinary_20 rfl ?_
      exact aw_zreturn (pc := 24) dX6_isBinary_24 rfl (by first | exact Or.inl rfl | exact Or.inr rfl | omega) ⟨Nat.zero_le _, Nat.zero_le _⟩ (⟨by first | exact z_r1 (by omega) | exact z_r0 (by omega), rfl, rfl, rfl, rfl⟩)
set_option maxHeartbeats 4000000 in
theorem c_X6_least {π : Nat → Nat} {I J : AwI} {r n : Int} (h : z_M I J) (hr : 0 ≤ r ∧ r < 10) (hn : 0 ≤ n ∧ n < 8) : CT m_X6_least [zr 1, zi r, zi n] 255 I J (z_R π) (z_P (some (zi (z_cl I r.toNat n.toNat))) 255 I J (z_R π)) := by
  refine CT.of (by decide) (Nat.le_of_ble_eq_true rfl) ?_
  show AW _ 0 0 _ 0 [some (zr 1), some (zi r), some (zi n)] [] _ _ _
  have hf := h.fc r.toNat n.toNat (by omega)
  refine aw_aload_n (pc := 0) dX6_least_0 rfl ?_
  refine aw_getR (pc := 1) dX6_least_1 k_fl_X6_24 rfl (by omega) (by first | rfl | exact z_shr _ (by omega) | exact z_shc0 (by omega) | exact z_shc1 (by omega) | exact z_shc2 (by omega) | exact z_shc3 (by omega) | exact z_shc4 (by omega)) (by first | rfl | exact z_Rc0 _ (by omega) | exact z_Rc1 _ (by omega) | exact z_Rc2 _ (by omega) | exact z_Rc3 _ (by omega)) ?_
  refine aw_iload_n (pc := 4) dX6_least_4 rfl ?_
  refine aw_aaloadG (pc := 5) dX6_least_5 (by omega) (Nat.le_refl _) rfl (by omega) (by rfl) ?_
  refine aw_iload_n (pc := 6) dX6_least_6 rfl ?_
  refine aw_iaload (pc := 7) dX6_least_7 (by omega) (Nat.le_refl _) (by first | rfl | exact z_shr _ (by omega) | exact z_shc0 (by omega) | exact z_shc1 (by omega) | exact z_shc2 (by omega) | exact z_shc3 (by omega) | exact z_shc4 (by omega)) (by first | omega | exact z_bl_r _) ?_
  refine aw_aload_n (pc := 8) dX6_least_8 rfl ?_
  refine aw_getR (pc := 9) dX6_least_9 k_fl_X6_24 rfl (by omega) (by first | rfl | exact z_shr _ (by omega) | exact z_shc0 (by omega) | exact z_shc1 (by omega) | exact z_shc2 (by omega) | exact z_shc3 (by omega) | exact z_shc4 (by omega)) (by first | rfl | exact z_Rc0 _ (by omega) | exact z_Rc1 _ (by omega) | exact z_Rc2 _ (by omega) | exact z_Rc3 _ (by omega)) ?_
  refine aw_iload_n (pc := 12) dX6_least_12 rfl ?_
  refine aw_aaloadG (pc := 13) dX6_least_13 (by omega) (Nat.le_refl _) rfl (by omega) (by rfl) ?_
  refine aw_iload_n (pc := 14) dX6_least_14 rfl ?_
  refine aw_iaload (pc := 15) dX6_least_15 (by omega) (Nat.le_refl _) (by first | rfl | exact z_shr _ (by omega) | exact z_shc0 (by omega) | exact z_shc1 (by omega) | exact z_shc2 (by omega) | exact z_shc3 (by omega) | exact z_shc4 (by omega)) (by first | omega | exact z_bl_r _) ?_
  refine aw_if_ge (pc := 16) (tgt := 28) dX6_least_16 rfl (by first | omega | exact z_bl_r _) (fun h16 => ?_) (fun h16 => ?_)
  · refine aw_aload_n (pc := 28) dX6_least_28 rfl ?_
    refine aw_getR (pc := 29) dX6_least_29 k_fl_X6_9 rfl (by omega) (by first | rfl | exact z_shr _ (by omega) | exact z_shc0 (by omega) | exact z_shc1 (by omega) | exact z_shc2 (by omega) | exact z_shc3 (by omega) | exact z_shc4 (by omega)) (by first | rfl | exact z_Rc0 _ (by omega) | exact z_Rc1 _ (by omega) | exact z_Rc2 _ (by omega) | exact z_Rc3 _ (by omega)) ?_
    refine aw_iload_n (pc := 32) dX6_least_32 rfl ?_
    refine aw_iaload (pc := 33) dX6_least_33 (by omega) (Nat.le_refl _) (by first | rfl | exact z_shr _ (by omega) | exact z_shc0 (by omega) | exact z_shc1 (by omega) | exact z_shc2 (by omega) | exact z_shc3 (by omega) | exact z_shc4 (by omega)) (by first | omega | exact z_bl_r _) ?_
    refine aw_imul (pc := 34) dX6_least_34 ?_
    exact aw_ireturn (pc := 35) dX6_least_35 rfl ⟨Nat.zero_le _, Nat.zero_le _⟩ (⟨by unfold z_cl z_le; first | rw [if_pos (by omega)] | rw [if_neg (by omega)], rfl, rfl, rfl, rfl⟩)
  · refine aw_aload_n (pc := 19) dX6_least_19 rfl ?_
    refine aw_getR (pc := 20) dX6_least_20 k_fl_X6_15 rfl (by omega) (by first | rfl | exact z_shr _ (by omega) | exact z_shc0 (by omega) | exact z_shc1 (by omega) | exact z_shc2 (by omega) | exact z_shc3 (by omega) | exact z_shc4 (by omega)) (by first | rfl | exact z_Rc0 _ (by omega) | exact z_Rc1 _ (by omega) | exact z_Rc2 _ (by omega) | exact z_Rc3 _ (by omega)) ?_
    refine aw_iload_n (pc := 23) dX6_least_23 rfl ?_
    refine aw_iaload (pc := 24) dX6_least_24 (by omega) (Nat.le_refl _) (by first | rfl | exact z_shr _ (by omega) | exact z_shc0 (by omega) | exact z_shc1 (by omega) | exact z_shc2 (by omega) | exact z_shc3 (by omega) | exact z_shc4 (by omega)) (by first | omega | exact z_bl_r _) ?_
    refine aw_goto (pc := 25) (tgt := 34) dX6_least_25 rfl ?_
    refine aw_imul (pc := 34) dX6_least_34 ?_
    exact aw_ireturn (pc := 35) dX6_least_35 rfl ⟨Nat.zero_le _, Nat.zero_le _⟩ (⟨by unfold z_cl z_le; first | rw [if_pos (by omega)] | rw [if_neg (by omega)], rfl, rfl, rfl, rfl⟩)
set_option maxHeartbeats 4000000 in
theorem c_X6_clashIn {π : Nat → Nat} {I J : AwI} {r a b : Int} (h : z_M I J) (hr : 0 ≤ r ∧ r < 10) (ha : 0 ≤ a ∧ a < 8) (hb : 0 ≤ b ∧ b < 8) : CT m_X6_clashIn [zr 1, zi r, zi a, zi b] 255 I J (z_R π) (z_P (some (zi (z_bl (z_ci I r.toNat a.toNat b.toNat)))) 255 I J (z_R π)) := by
  refine CT.of (by decide) (Nat.le_of_ble_eq_true rfl) ?_
  show AW _ 0 0 _ 0 [some (zr 1), some (zi r), some (zi a), some (zi b), none, none] [] _ _ _
  have hnm := h.nm
  have loop : ∀ (k : Nat) (x : Int), 0 ≤ x → x + k = I 1 5 → AW (FM m_X6_clashIn (z_P (some (zi (z_bl (z_ci I r.toNat a.toNat b.toNat)))) 255 I J (z_R π))) 0 0 255 22 [some (zr 1), some (zi r), some (zi a), some (zi b), some (zi (z_cs I r.toNat a.toNat b.toNat x)), some (zi x)] [] I J (z_R π) := by
    intro k
    induction k with
    | zero =>
      intro x hx he
      have he : x = I 1 5 := by omega
      refine aw_iload (pc := 22) dX6_clashIn_22 rfl ?_
      refine aw_aload_n (pc := 24) dX6_clashIn_24 rfl ?_
      refine aw_getI (pc := 25) dX6_clashIn_25 k_fl_X6_30 rfl (by omega) (by first | rfl | exact z_shr _ (by omega) | exact z_shc0 (by omega) | exact z_shc1 (by omega) | exact z_shc2 (by omega) | exact z_shc3 (by omega) | exact z_shc4 (by omega)) ?_
      refine aw_icmp_ge (pc := 28) (tgt := 61) dX6_clashIn_28 rfl (by first | omega | exact z_bl_r _) (by first | omega | exact z_bl_r _) (fun h28 => ?_) (fun h28 => absurd h28 (by omega))
      refine aw_iload (pc := 61) dX6_clashIn_61 rfl ?_
      have hc1 := h.fc r.toNat a.toNat (by omega)
      have hc2 := h.fc r.toNat b.toNat (by omega)
      have hc3 := z_sm_b (f := z_ct I r.toNat a.toNat b.toNat) 1500 x 8 (by omega) (by omega) (fun k => h.ct _ _ _ k (by omega))
      have hc4 := h.rt r.toNat
      have hc5 : z_cs I r.toNat a.toNat b.toNat x = I (6 + r.toNat) a.toNat + I (6 + r.toNat) b.toNat + z_sm (z_ct I r.toNat a.toNat b.toNat) x := rfl
      refine aw_aload_n (pc := 63) dX6_clashIn_63 rfl ?_
      refine aw_getR (pc := 64) dX6_clashIn_64 k_fl_X6_27 rfl (by omega) (by first | rfl | exact z_shr _ (by omega) | exact z_shc0 (by omega) | exact z_shc1 (by omega) | exact z_shc2 (by omega) | exact z_shc3 (by omega) | exact z_shc4 (by omega)) (by first | rfl | exact z_Rc0 _ (by omega) | exact z_Rc1 _ (by omega) | exact z_Rc2 _ (by omega) | exact z_Rc3 _ (by omega)) ?_
      refine aw_iload_n (pc := 67) dX6_clashIn_67 rfl ?_
      refine aw_iaload (pc := 68) dX6_clashIn_68 (by omega) (Nat.le_refl _) (by first | rfl | exact z_shr _ (by omega) | exact z_shc0 (by omega) | exact z_shc1 (by omega) | exact z_shc2 (by omega) | exact z_shc3 (by omega) | exact z_shc4 (by omega)) (by first | omega | exact z_bl_r _) ?_
      refine aw_icmp_le (pc := 69) (tgt := 76) dX6_clashIn_69 rfl (by omega) (by omega) (fun h69 => ?_) (fun h69 => ?_)
      · refine aw_iconst (pc := 76) dX6_clashIn_76 ?_
        exact aw_zreturn (pc := 77) dX6_clashIn_77 rfl (by first | exact Or.inl rfl | exact Or.inr rfl | omega) ⟨Nat.zero_le _, Nat.zero_le _⟩ (⟨by first | exact z_r1 (show z_ci I r.toNat a.toNat b.toNat from by unfold z_ci; rw [← he]; omega) | exact z_r0 (show ¬ z_ci I r.toNat a.toNat b.toNat from by unfold z_ci; rw [← he]; omega), rfl, rfl, rfl, rfl⟩)
      · refine aw_iconst (pc := 72) dX6_clashIn_72 ?_
        refine aw_goto (pc := 73) (tgt := 77) dX6_clashIn_73 rfl ?_
        exact aw_zreturn (pc := 77) dX6_clashIn_77 rfl (by first | exact Or.inl rfl | exact Or.inr rfl | omega) ⟨Nat.zero_le _, Nat.zero_le _⟩ (⟨by first | exact z_r1 (show z_ci I r.toNat a.toNat b.toNat from by unfold z_ci; rw [← he]; omega) | exact z_r0 (show ¬ z_ci I r.toNat a.toNat b.toNat from by unfold z_ci; rw [← he]; omega), rfl, rfl, rfl, rfl⟩)
    | succ k ih =>
      intro x hx he
      refine aw_iload (pc := 22) dX6_clashIn_22 rfl ?_
      refine aw_aload_n (pc := 24) dX6_clashIn_24 rfl ?_
      refine aw_getI (pc := 25) dX6_clashIn_25 k_fl_X6_30 rfl (by omega) (by first | rfl | exact z_shr _ (by omega) | exact z_shc0 (by omega) | exact z_shc1 (by omega) | exact z_shc2 (by omega) | exact z_shc3 (by omega) | exact z_shc4 (by omega)) ?_
      refine aw_icmp_ge (pc := 28) (tgt := 61) dX6_clashIn_28 rfl (by first | omega | exact z_bl_r _) (by first | omega | exact z_bl_r _) (fun h28 => absurd h28 (by omega)) (fun h28 => ?_)
      refine aw_iload (pc := 31) dX6_clashIn_31 rfl ?_
      refine aw_iload_n (pc := 33) dX6_clashIn_33 rfl ?_
      refine aw_icmp_eq (pc := 34) (tgt := 55) dX6_clashIn_34 rfl (by first | omega | exact z_bl_r _) (by first | omega | exact z_bl_r _) (fun h34 => ?_) (fun h34 => ?_)
      · have e1 : z_cs I r.toNat a.toNat b.toNat (x + 1) = z_cs I r.toNat a.toNat b.toNat x := by unfold z_cs; rw [z_sm_s _ hx]; unfold z_ct; rw [if_pos (by omega)]; omega
        rw [← e1]
        refine aw_iinc (pc := 55) (lv' := [_, _, _, _, _, _]) dX6_clashIn_55 (Nat.le_of_ble_eq_true rfl) rfl rfl ?_
        refine aw_goto (pc := 58) (tgt := 22) dX6_clashIn_58 rfl ?_
        exact ih (x + 1) (by omega) (by omega)
      · refine aw_iload (pc := 37) dX6_clashIn_37 rfl ?_
        refine aw_iload_n (pc := 39) dX6_clashIn_39 rfl ?_
        refine aw_icmp_eq (pc := 40) (tgt := 55) dX6_clashIn_40 rfl (by first | omega | exact z_bl_r _) (by first | omega | exact z_bl_r _) (fun h40 => ?_) (fun h40 => ?_)
        · have e1 : z_cs I r.toNat a.toNat b.toNat (x + 1) = z_cs I r.toNat a.toNat b.toNat x := by unfold z_cs; rw [z_sm_s _ hx]; unfold z_ct; rw [if_pos (by omega)]; omega
          rw [← e1]
          refine aw_iinc (pc := 55) (lv' := [_, _, _, _, _, _]) dX6_clashIn_55 (Nat.le_of_ble_eq_true rfl) rfl rfl ?_
          refine aw_goto (pc := 58) (tgt := 22) dX6_clashIn_58 rfl ?_
          exact ih (x + 1) (by omega) (by omega)
        · refine aw_iload (pc := 43) dX6_clashIn_43 rfl ?_
          refine aw_aload_n (pc := 45) dX6_clashIn_45 rfl ?_
          refine aw_iload_n (pc := 46) dX6_clashIn_46 rfl ?_
          refine aw_iload (pc := 47) dX6_clashIn_47 rfl ?_
          refine aw_qV (pc := 49) (d := m_X6_least) (c_X6_least h hr (by omega)) k_X6_least dX6_clashIn_49 k_ml_X6_47 rfl ⟨rfl, rfl⟩ (by omega) (by first | rfl | exact z_shr _ (by omega) | exact z_shc0 (by omega) | exact z_shc1 (by omega) | exact z_shc2 (by omega) | exact z_shc3 (by omega) | exact z_shc4 (by omega)) rfl ⟨Nat.le_of_ble_eq_true rfl, Nat.le_of_ble_eq_true rfl⟩ ⟨Nat.zero_le _, Nat.zero_le _⟩ rfl (Nat.le_of_ble_eq_true rfl) (z_Pk ?_)
          refine aw_iadd (pc := 52) dX6_clashIn_52 ?_
          refine aw_istore (pc := 53) (lv' := [_, _, _, _, _, _]) dX6_clashIn_53 (Nat.le_of_ble_eq_true rfl) rfl ?_
          have e1 : z_cs I r.toNat a.toNat b.toNat (x + 1) = z_cs I r.toNat a.toNat b.toNat x + z_cl I r.toNat x.toNat := by unfold z_cs; rw [z_sm_s _ hx, ← Int.add_assoc]; congr 1; unfold z_ct; rw [if_neg (by omega)]
          rw [← e1]
          refine aw_iinc (pc := 55) (lv' := [_, _, _, _, _, _]) dX6_clashIn_55 (Nat.le_of_ble_eq_true rfl) rfl rfl ?_
          refine aw_goto (pc := 58) (tgt := 22) dX6_clashIn_58 rfl ?_
          exact ih (x + 1) (by omega) (by omega)
  refine aw_aload_n (pc := 0) dX6_clashIn_0 rfl ?_
  refine aw_getR (pc := 1) dX6_clashIn_1 k_fl_X6_24 rfl (by omega) (by first | rfl | exact z_shr _ (by omega) | exact z_shc0 (by omega) | exact z_shc1 (by omega) | exact z_shc2 (by omega) | exact z_shc3 (by omega) | exact z_shc4 (by omega)) (by first | rfl | exact z_Rc0 _ (by omega) | exact z_Rc1 _ (by omega) | exact z_Rc2 _ (by omega) | exact z_Rc3 _ (by omega)) ?_
  refine aw_iload_n (pc := 4) dX6_clashIn_4 rfl ?_
  refine aw_aaloadG (pc := 5) dX6_clashIn_5 (by omega) (Nat.le_refl _) rfl (by omega) (by rfl) ?_
  refine aw_iload_n (pc := 6) dX6_clashIn_6 rfl ?_
  refine aw_iaload (pc := 7) dX6_clashIn_7 (by omega) (Nat.le_refl _) (by first | rfl | exact z_shr _ (by omega) | exact z_shc0 (by omega) | exact z_shc1 (by omega) | exact z_shc2 (by omega) | exact z_shc3 (by omega) | exact z_shc4 (by omega)) (by first | omega | exact z_bl_r _) ?_
  refine aw_aload_n (pc := 8) dX6_clashIn_8 rfl ?_
  refine aw_getR (pc := 9) dX6_clashIn_9 k_fl_X6_24 rfl (by omega) (by first | rfl | exact z_shr _ (by omega) | exact z_shc0 (by omega) | exact z_shc1 (by omega) | exact z_shc2 (by omega) | exact z_shc3 (by omega) | exact z_shc4 (by omega)) (by first | rfl | exact z_Rc0 _ (by omega) | exact z_Rc1 _ (by omega) | exact z_Rc2 _ (by omega) | exact z_Rc3 _ (by omega)) ?_
  refine aw_iload_n (pc := 12) dX6_clashIn_12 rfl ?_
  refine aw_aaloadG (pc := 13) dX6_clashIn_13 (by omega) (Nat.le_refl _) rfl (by omega) (by rfl) ?_
  refine aw_iload_n (pc := 14) dX6_clashIn_14 rfl ?_
  refine aw_iaload (pc := 15) dX6_clashIn_15 (by omega) (Nat.le_refl _) (by first | rfl | exact z_shr _ (by omega) | exact z_shc0 (by omega) | exact z_shc1 (by omega) | exact z_shc2 (by omega) | exact z_shc3 (by omega) | exact z_shc4 (by omega)) (by first | omega | exact z_bl_r _) ?_
  refine aw_iadd (pc := 16) dX6_clashIn_16 ?_
  refine aw_istore (pc := 17) (lv' := [_, _, _, _, _, _]) dX6_clashIn_17 (Nat.le_of_ble_eq_true rfl) rfl ?_
  refine aw_iconst (pc := 19) dX6_clashIn_19 ?_
  refine aw_istore (pc := 20) (lv' := [_, _, _, _, _, _]) dX6_clashIn_20 (Nat.le_of_ble_eq_true rfl) rfl ?_
  have e0 : I (6 + r.toNat) a.toNat + I (6 + r.toNat) b.toNat = z_cs I r.toNat a.toNat b.toNat 0 := by unfold z_cs; rw [z_sm_0]; omega
  rw [e0]
  exact loop (I 1 5).toNat 0 (by omega) (by omega)
