theorem z_sum_upd {g g' : Nat → Int} {j : Nat} (h : ∀ i, i ≠ j → g' i = g i) : ∀ k, j < k → z_sum g' k = z_sum g k - g j + g' j
  | 0, hk => absurd hk (by omega)
  | k + 1, hk => by
    show z_sum g' k + g' k = z_sum g k + g k - g j + g' j
    by_cases e : j = k
    · subst e
      rw [z_sum_c j (fun i hi => h i (by omega))]
      omega
    · rw [z_sum_upd h k (by omega), h k (fun q => e q.symm)]
      omega
theorem z_sum_le {f g : Nat → Int} : ∀ k : Nat, (∀ i, i < k → f i ≤ g i) → z_sum f k ≤ z_sum g k
  | 0, _ => Int.le_refl _
  | k + 1, h => by
    show z_sum f k + f k ≤ z_sum g k + g k
    have h1 := z_sum_le k (fun i hi => h i (by omega))
    have h2 := h k (by omega)
    omega
def z_ss (f : Nat → Int) (S : Nat → Bool) (k : Nat) : Int := z_sum (fun i => if S i then f i else 0) k
theorem z_ss_put {f : Nat → Int} {S : Nat → Bool} {j k : Nat} (b : Bool) (hj : j < k) : z_ss f (fun i => if i = j then b else S i) k = z_ss f S k - (if S j then f j else 0) + (if b then f j else 0) := by
  unfold z_ss
  have h := z_sum_upd (g := fun i => if S i then f i else 0) (g' := fun i => if (if i = j then b else S i) then f i else 0) (j := j) (fun i hi => by rw [if_neg hi]) k hj
  rw [h]
  try dsimp only
  rw [if_pos rfl]
theorem z_ss_nn {f : Nat → Int} {S : Nat → Bool} {k : Nat} (h : ∀ i, i < k → 0 ≤ f i) : 0 ≤ z_ss f S k := by
  have h1 := z_sum_le (f := fun _ => 0) (g := fun i => if S i then f i else 0) k (fun i hi => by split; exact h i hi; omega)
  rw [z_sum_z] at h1
  exact h1
theorem z_ss_c {f g : Nat → Int} {S : Nat → Bool} {k : Nat} (h : ∀ i, i < k → f i = g i) : z_ss f S k = z_ss g S k := z_sum_c k (fun i hi => by rw [h i hi])
def z_best (w a : Nat → Int) (k : Nat) (room b : Int) : Prop := 0 ≤ b ∧ (b = 0 ∨ ∃ S, z_ss w S k ≤ room ∧ z_ss a S k = b) ∧ ∀ S, z_ss w S k ≤ room → z_ss a S k ≤ b
theorem z_best_u {w a : Nat → Int} {k : Nat} {room b c : Int} (h1 : z_best w a k room b) (h2 : z_best w a k room c) : b = c := by
  have g : ∀ {b c : Int}, z_best w a k room b → z_best w a k room c → b ≤ c := fun {b c} h1 h2 => by
    rcases h1.2.1 with q | ⟨S, q1, q2⟩
    · have := h2.1; omega
    · have := h2.2.2 S q1; omega
  have := g h1 h2
  have := g h2 h1
  omega
theorem z_best_c {w a w' a' : Nat → Int} {k : Nat} {room b : Int} (h : z_best w a k room b) (hw : ∀ i, i < k → w i = w' i) (ha : ∀ i, i < k → a i = a' i) : z_best w' a' k room b := by
  refine ⟨h.1, h.2.1.imp id (fun ⟨S, q1, q2⟩ => ⟨S, by rw [← z_ss_c hw]; exact q1, by rw [← z_ss_c ha]; exact q2⟩), fun S q => ?_⟩
  rw [← z_ss_c hw] at q
  rw [← z_ss_c ha]
  exact h.2.2 S q
theorem z_best_pos {w a β : Nat → Int} {k : Nat} {room b : Int} (hw : ∀ i, i < k → 0 ≤ w i) (hβ : ∀ i, i < k → β i = if 0 < a i then a i else 0) (h : z_best w β k room b) : z_best w a k room b := by
  have h2 : b = 0 ∨ ∃ S, z_ss w S k ≤ room ∧ z_ss a S k = b := by
    rcases h.2.1 with q | ⟨S, q1, q2⟩
    · exact Or.inl q
    · refine Or.inr ⟨fun i => S i && decide (0 < a i), ?_, ?_⟩
      · refine Int.le_trans (z_sum_le k (fun i hi => ?_)) q1
        have := hw i hi
        by_cases e : 0 < a i
        · cases hS : S i <;> simp [hS, e]
        · cases hS : S i <;> simp [hS, e]; omega
      · rw [← q2]
        refine z_sum_c k (fun i hi => ?_)
        rw [hβ i hi]
        by_cases e : 0 < a i
        · cases hS : S i <;> simp [hS, e]
        · cases hS : S i <;> simp [hS, e]
  refine ⟨h.1, h2, fun S q => Int.le_trans (z_sum_le k (fun i hi => ?_)) (h.2.2 S q)⟩
  rw [hβ i hi]
  by_cases e : 0 < a i
  · cases hS : S i <;> simp [hS, e]
  · cases hS : S i <;> simp [hS, e]; omega
/-- lightest weights by sums -/
def z_DP (k : Nat) (w β lg : Nat → Int) : Prop := (∀ s, s ≤ 64 → 0 ≤ lg s ∧ lg s ≤ 1000000) ∧ (∀ s : Nat, s ≤ 64 → lg s < 1000000 → ∃ S, z_ss β S k = s ∧ z_ss w S k ≤ lg s) ∧ ∀ S, z_ss β S k ≤ 64 → lg (z_ss β S k).toNat ≤ z_ss w S k
def z_dp (lg : Nat → Int) (a : Nat) (w : Int) (s : Nat) : Int := if a ≤ s ∧ s ≤ 64 then z_mn (lg s) (lg (s - a) + w) else lg s
theorem z_DP_c {k : Nat} {w β β' lg : Nat → Int} (h : z_DP k w β lg) (hb : ∀ i, i < k → β i = β' i) : z_DP k w β' lg := by
  refine ⟨h.1, fun s hs hl => ?_, fun S hS => ?_⟩
  · obtain ⟨S, q1, q2⟩ := h.2.1 s hs hl
    exact ⟨S, by rw [← z_ss_c hb]; exact q1, q2⟩
  · rw [← z_ss_c hb] at hS ⊢
    exact h.2.2 S hS
theorem z_DP_step {k : Nat} {w β lg : Nat → Int} {j a : Nat} (h : z_DP k w β lg) (hj : j < k) (h0 : β j = 0) (hβ : ∀ i, i < k → 0 ≤ β i) (hw : ∀ i, i < k → 0 ≤ w i) (ha : 1 ≤ a) : z_DP k w (va_up β j a) (z_dp lg a (w j)) := by
  have hbe : ∀ (S : Nat → Bool), z_ss (va_up β j (a : Int)) S k = z_ss β S k + (if S j then (a : Int) else 0) := fun S => by
    unfold z_ss
    rw [z_sum_upd (g := fun i => if S i then β i else 0) (g' := fun i => if S i then va_up β j (a : Int) i else 0) (j := j) (fun i hi => by unfold va_up; rw [if_neg hi]) k hj]
    try dsimp only
    rw [z_vs, h0]
    cases S j <;> simp
  have hwj := hw j hj
  have mnl : ∀ x y : Int, z_mn x y ≤ x ∧ z_mn x y ≤ y ∧ (z_mn x y = x ∨ z_mn x y = y) := fun x y => by unfold z_mn; split <;> omega
  have drop : ∀ S : Nat → Bool, z_ss β (fun i => if i = j then false else S i) k = z_ss β S k ∧ z_ss w (fun i => if i = j then false else S i) k ≤ z_ss w S k := fun S => by
    rw [z_ss_put false hj, z_ss_put false hj, h0]
    cases S j <;> simp; omega
  refine ⟨fun s hs => ?_, fun s hs hl => ?_, fun S hS => ?_⟩
  · unfold z_dp
    split
    · rename_i q
      have g1 := h.1 s hs
      have g2 := h.1 (s - a) (by omega)
      have g3 := mnl (lg s) (lg (s - a) + w j)
      omega
    · exact h.1 s hs
  · unfold z_dp at hl ⊢
    by_cases q : a ≤ s ∧ s ≤ 64
    · rw [if_pos q] at hl ⊢
      have g3 := mnl (lg s) (lg (s - a) + w j)
      rcases g3.2.2 with e | e
      · rw [e] at hl ⊢
        obtain ⟨S, q1, q2⟩ := h.2.1 s hs hl
        obtain ⟨d1, d2⟩ := drop S
        exact ⟨_, by rw [hbe, d1, q1]; simp, by omega⟩
      · rw [e] at hl ⊢
        obtain ⟨S, q1, q2⟩ := h.2.1 (s - a) (by omega) (by omega)
        obtain ⟨d1, d2⟩ := drop S
        refine ⟨fun i => if i = j then true else S i, ?_, ?_⟩
        · rw [hbe, z_ss_put true hj, h0, q1]
          simp
          omega
        · have e1 := z_ss_put (f := w) (S := S) true hj
          have e2 := z_ss_put (f := w) (S := S) false hj
          rw [e1]
          rw [e2] at d2
          simp at d2 ⊢
          omega
    · rw [if_neg q] at hl ⊢
      obtain ⟨S, q1, q2⟩ := h.2.1 s hs hl
      obtain ⟨d1, d2⟩ := drop S
      exact ⟨_, by rw [hbe, d1, q1]; simp, by omega⟩
  · rw [hbe] at hS ⊢
    cases hb : S j with
    | false =>
      rw [hb] at hS
      simp at hS ⊢
      have g := h.2.2 S (by omega)
      unfold z_dp
      split
      · have g3 := mnl (lg (z_ss β S k).toNat) (lg ((z_ss β S k).toNat - a) + w j)
        omega
      · exact g
    | true =>
      rw [hb] at hS
      simp at hS ⊢
      obtain ⟨d1, d2⟩ := drop S
      have hnn := z_ss_nn (f := β) (S := S) hβ
      have g := h.2.2 (fun i => if i = j then false else S i) (by rw [d1]; omega)
      rw [d1] at g
      have e2 := z_ss_put (f := w) (S := S) false hj
      rw [e2, hb] at g
      simp at g
      have et : (z_ss β S k + (a : Int)).toNat = (z_ss β S k).toNat + a := by omega
      unfold z_dp
      rw [if_pos (by omega), et]
      have g3 := mnl (lg ((z_ss β S k).toNat + a)) (lg ((z_ss β S k).toNat + a - a) + w j)
      rw [show (z_ss β S k).toNat + a - a = (z_ss β S k).toNat by omega] at g3 ⊢
      omega
theorem z_DP_best {k : Nat} {w β lg : Nat → Int} {room b : Int} (h : z_DP k w β lg) (hβ : ∀ i, i < k → 0 ≤ β i) (h64 : ∀ S, z_ss β S k ≤ 64) (hb : 0 ≤ b ∧ b ≤ 64) (hr : room < 1000000) (h1 : b = 0 ∨ lg b.toNat ≤ room) (h2 : ∀ s : Nat, b < s → s ≤ 64 → room < lg s) : z_best w β k room b := by
  refine ⟨hb.1, h1.imp id (fun q => ?_), fun S hS => ?_⟩
  · obtain ⟨S, q1, q2⟩ := h.2.1 b.toNat (by omega) (by omega)
    exact ⟨S, by omega, by omega⟩
  · have g := h.2.2 S (h64 S)
    have hnn := z_ss_nn (f := β) (S := S) hβ
    have h6 := h64 S
    by_cases e : z_ss β S k ≤ b
    · exact e
    · have := h2 (z_ss β S k).toNat (by omega) (by omega)
      omega
def z_ar (set i : Nat) (al : Nat → Int) : Nat → Int := fun t => if set.testBit t = true ∨ t < i then al t else 0
def z_AOK (k : Nat) (wt : Nat → Int) (cap : Int) (set : Nat) (most : Int) (al : Nat → Int) : Prop := ∀ j, j < k → (set.testBit j = true → al j = 1) ∧ (set.testBit j = false → ∃ b, z_best wt (z_ar set j al) k (cap - wt j) b ∧ al j = most - b)
theorem z_AOK_u {k : Nat} {wt : Nat → Int} {cap : Int} {set : Nat} {most : Int} {al al' : Nat → Int} (h : z_AOK k wt cap set most al) (h' : z_AOK k wt cap set most al') : ∀ j, j < k → al j = al' j := by
  intro j
  induction j using Nat.strongRecOn with
  | _ j ih =>
    intro hj
    cases hb : set.testBit j with
    | true => rw [(h j hj).1 hb, (h' j hj).1 hb]
    | false =>
      obtain ⟨b, q1, q2⟩ := (h j hj).2 hb
      obtain ⟨c, r1, r2⟩ := (h' j hj).2 hb
      have e : b = c := z_best_u (z_best_c q1 (fun _ _ => rfl) (fun i hi => by
        unfold z_ar
        by_cases hs : set.testBit i = true
        · rw [if_pos (Or.inl hs), if_pos (Or.inl hs), (h i hi).1 hs, (h' i hi).1 hs]
        · by_cases hij : i < j
          · rw [if_pos (Or.inr hij), if_pos (Or.inr hij)]
            exact ih i hij hi
          · rw [if_neg (fun z => z.elim hs hij), if_neg (fun z => z.elim hs hij)])) r1
      rw [q2, r2, e]
def z_po (x : Int) : Int := if 0 < x then x else 0
set_option maxHeartbeats 4000000 in
theorem c_X3_greatestSum {π : Nat → Nat} {I J : AwI} {cap room : Int} {ln wt al lg : Nat → Int} {k : Nat} (hlg : ∀ s, s ≤ 64 → 0 ≤ lg s ∧ lg s ≤ 1000000) (hr : -200000 ≤ room ∧ room ≤ 200000) : CT m_X3_greatestSum [zr 226, zi room] 255 (z_s3 I (k : Int) cap ln wt al lg) J (z_R π) (fun q9 sz' I' J' R' => sz' = 255 ∧ I' = (z_s3 I (k : Int) cap ln wt al lg) ∧ J' = J ∧ R' = z_R π ∧ ∃ b : Int, q9 = some (zi b) ∧ (0 ≤ b ∧ b ≤ 64) ∧ (b = 0 ∨ lg b.toNat ≤ room) ∧ ∀ s : Nat, b < s → s ≤ 64 → room < lg s) := by
  refine CT.of (by decide) (Nat.le_of_ble_eq_true rfl) ?_
  show AW _ 0 0 _ 0 [some (zr 226), some (zi room), none] [] _ _ _
  have loop : ∀ (n : Nat) (x : Int), x = n → x ≤ 64 → (∀ s : Nat, x < s → s ≤ 64 → room < lg s) → AW (FM m_X3_greatestSum (fun q9 sz' I' J' R' => sz' = 255 ∧ I' = (z_s3 I (k : Int) cap ln wt al lg) ∧ J' = J ∧ R' = z_R π ∧ ∃ b : Int, q9 = some (zi b) ∧ (0 ≤ b ∧ b ≤ 64) ∧ (b = 0 ∨ lg b.toNat ≤ room) ∧ ∀ s : Nat, b < s → s ≤ 64 → room < lg s)) 0 0 255 3 [some (zr 226), some (zi room), some (zi x)] [] (z_s3 I (k : Int) cap ln wt al lg) J (z_R π) := by
    intro n
    induction n with
    | zero =>
      intro x he hx hi
      refine aw_iload_n (pc := 3) dX3_greatestSum_3 rfl ?_
      refine aw_if_le (pc := 4) (tgt := 25) dX3_greatestSum_4 rfl (by first | omega | exact z_bl_r _) (fun h4 => ?_) (fun h4 => absurd h4 (by omega))
      refine aw_iconst (pc := 25) dX3_greatestSum_25 ?_
      exact aw_ireturn (pc := 26) dX3_greatestSum_26 rfl ⟨Nat.zero_le _, Nat.zero_le _⟩ (⟨rfl, rfl, rfl, rfl, 0, rfl, by omega, Or.inl rfl, fun s h1 h2 => hi s (by omega) h2⟩)
    | succ n ih =>
      intro x he hx hi
      refine aw_iload_n (pc := 3) dX3_greatestSum_3 rfl ?_
      refine aw_if_le (pc := 4) (tgt := 25) dX3_greatestSum_4 rfl (by first | omega | exact z_bl_r _) (fun h4 => absurd h4 (by omega)) (fun h4 => ?_)
      have hg := hlg x.toNat (by omega)
      refine aw_aload_n (pc := 7) dX3_greatestSum_7 rfl ?_
      refine aw_getR (pc := 8) dX3_greatestSum_8 k_fl_X3_21 rfl (by omega) (by first | rfl | exact z_shr _ (by omega) | exact z_shc0 (by omega) | exact z_shc1 (by omega) | exact z_shc2 (by omega) | exact z_shc3 (by omega) | exact z_shc4 (by omega)) (by first | rfl | exact z_Rc0 _ (by omega) | exact z_Rc1 _ (by omega) | exact z_Rc2 _ (by omega) | exact z_Rc3 _ (by omega)) ?_
      refine aw_iload_n (pc := 11) dX3_greatestSum_11 rfl ?_
      refine aw_ialoadV (pc := 12) (v := lg x.toNat) dX3_greatestSum_12 (by omega) (Nat.le_refl _) (by first | rfl | exact z_shr _ (by omega) | exact z_shc0 (by omega) | exact z_shc1 (by omega) | exact z_shc2 (by omega) | exact z_shc3 (by omega) | exact z_shc4 (by omega)) (by first | omega | exact z_bl_r _) (z_s3_lg _) ?_
      refine aw_iload_n (pc := 13) dX3_greatestSum_13 rfl ?_
      refine aw_icmp_gt (pc := 14) (tgt := 19) dX3_greatestSum_14 rfl (by first | omega | exact z_bl_r _) (by first | omega | exact z_bl_r _) (fun h14 => ?_) (fun h14 => ?_)
      · refine aw_iinc (pc := 19) (lv' := [_, _, _]) dX3_greatestSum_19 (Nat.le_of_ble_eq_true rfl) rfl rfl ?_
        refine aw_goto (pc := 22) (tgt := 3) dX3_greatestSum_22 rfl ?_
        exact ih (x - 1) (by omega) (by omega) (fun s h1 h2 => by
          by_cases e : x < s
          · exact hi s e h2
          · rw [show s = x.toNat by omega]
            omega)
      · refine aw_iload_n (pc := 17) dX3_greatestSum_17 rfl ?_
        exact aw_ireturn (pc := 18) dX3_greatestSum_18 rfl ⟨Nat.zero_le _, Nat.zero_le _⟩ (⟨rfl, rfl, rfl, rfl, x, rfl, by omega, Or.inr (by omega), fun s h1 h2 => hi s h1 h2⟩)
  refine aw_bipush (pc := 0) dX3_greatestSum_0 rfl ?_
  refine aw_istore_n (pc := 2) (lv' := [_, _, _]) dX3_greatestSum_2 (Nat.le_of_ble_eq_true rfl) rfl ?_
  exact loop 64 64 rfl (by omega) (fun s h1 h2 => by omega)
set_option maxHeartbeats 4000000 in
theorem c_X3_giveAlpha {π : Nat → Nat} {I J : AwI} {cap a : Int} {ln wt al lg : Nat → Int} {k j : Nat} (hlg : ∀ s, s ≤ 64 → 0 ≤ lg s ∧ lg s ≤ 1000000) (hj : j < 8) (ha : -100 ≤ a ∧ a ≤ 60) (hw : 0 ≤ wt j ∧ wt j ≤ 50) : CT m_X3_giveAlpha [zr 226, zi (j : Int), zi a] 255 (z_s3 I (k : Int) cap ln wt al lg) J (z_R π) (z_P none 255 (z_s3 I (k : Int) cap ln wt (va_up al j a) (if a ≤ 0 then lg else z_dp lg a.toNat (wt j))) J (z_R π)) := by
  refine CT.of (by decide) (Nat.le_of_ble_eq_true rfl) ?_
  show AW _ 0 0 _ 0 [some (zr 226), some (zi (j : Int)), some (zi a), none] [] _ _ _
  have loop : 0 < a → ∀ (n : Nat) (x : Int), x + 1 - a = n → x ≤ 64 → AW (FM m_X3_giveAlpha (z_P none 255 (z_s3 I (k : Int) cap ln wt (va_up al j a) (if a ≤ 0 then lg else z_dp lg a.toNat (wt j))) J (z_R π))) 0 0 255 15 [some (zr 226), some (zi (j : Int)), some (zi a), some (zi x)] [] (z_s3 I (k : Int) cap ln wt (va_up al j a) (fun s : Nat => if x < (s : Int) ∧ s ≤ 64 then z_dp lg a.toNat (wt j) s else lg s)) J (z_R π) := by
    intro ha0 n
    induction n with
    | zero =>
      intro x he hx
      refine aw_iload_n (pc := 15) dX3_giveAlpha_15 rfl ?_
      refine aw_iload_n (pc := 16) dX3_giveAlpha_16 rfl ?_
      refine aw_icmp_lt (pc := 17) (tgt := 56) dX3_giveAlpha_17 rfl (by first | omega | exact z_bl_r _) (by first | omega | exact z_bl_r _) (fun h17 => ?_) (fun h17 => absurd h17 (by omega))
      refine aw_return (pc := 56) dX3_giveAlpha_56 rfl ⟨Nat.zero_le _, Nat.zero_le _⟩ ?_
      rw [if_neg (by omega)]
      have e : (fun s : Nat => if x < (s : Int) ∧ s ≤ 64 then z_dp lg a.toNat (wt j) s else lg s) = z_dp lg a.toNat (wt j) := by
        funext s
        by_cases q : x < (s : Int) ∧ s ≤ 64
        · rw [if_pos q]
        · rw [if_neg q]; unfold z_dp; rw [if_neg (by omega)]
      exact ⟨rfl, rfl, by rw [e], rfl, rfl⟩
    | succ n ih =>
      intro x he hx
      refine aw_iload_n (pc := 15) dX3_giveAlpha_15 rfl ?_
      refine aw_iload_n (pc := 16) dX3_giveAlpha_16 rfl ?_
      refine aw_icmp_lt (pc := 17) (tgt := 56) dX3_giveAlpha_17 rfl (by first | omega | exact z_bl_r _) (by first | omega | exact z_bl_r _) (fun h17 => absurd h17 (by omega)) (fun h17 => ?_)
      have g1 := hlg x.toNat (by omega)
      have g2 := hlg (x.toNat - a.toNat) (by omega)
      refine aw_aload_n (pc := 20) dX3_giveAlpha_20 rfl ?_
      refine aw_getR (pc := 21) dX3_giveAlpha_21 k_fl_X3_21 rfl (by omega) (by first | rfl | exact z_shr _ (by omega) | exact z_shc0 (by omega) | exact z_shc1 (by omega) | exact z_shc2 (by omega) | exact z_shc3 (by omega) | exact z_shc4 (by omega)) (by first | rfl | exact z_Rc0 _ (by omega) | exact z_Rc1 _ (by omega) | exact z_Rc2 _ (by omega) | exact z_Rc3 _ (by omega)) ?_
      refine aw_iload_n (pc := 24) dX3_giveAlpha_24 rfl ?_
      refine aw_aload_n (pc := 25) dX3_giveAlpha_25 rfl ?_
      refine aw_getR (pc := 26) dX3_giveAlpha_26 k_fl_X3_21 rfl (by omega) (by first | rfl | exact z_shr _ (by omega) | exact z_shc0 (by omega) | exact z_shc1 (by omega) | exact z_shc2 (by omega) | exact z_shc3 (by omega) | exact z_shc4 (by omega)) (by first | rfl | exact z_Rc0 _ (by omega) | exact z_Rc1 _ (by omega) | exact z_Rc2 _ (by omega) | exact z_Rc3 _ (by omega)) ?_
      refine aw_iload_n (pc := 29) dX3_giveAlpha_29 rfl ?_
      refine aw_ialoadV (pc := 30) (v := lg x.toNat) dX3_giveAlpha_30 (by omega) (Nat.le_refl _) (by first | rfl | exact z_shr _ (by omega) | exact z_shc0 (by omega) | exact z_shc1 (by omega) | exact z_shc2 (by omega) | exact z_shc3 (by omega) | exact z_shc4 (by omega)) (by first | omega | exact z_bl_r _) ((z_s3_lg _).trans (if_neg (by omega))) ?_
      refine aw_aload_n (pc := 31) dX3_giveAlpha_31 rfl ?_
      refine aw_getR (pc := 32) dX3_giveAlpha_32 k_fl_X3_21 rfl (by omega) (by first | rfl | exact z_shr _ (by omega) | exact z_shc0 (by omega) | exact z_shc1 (by omega) | exact z_shc2 (by omega) | exact z_shc3 (by omega) | exact z_shc4 (by omega)) (by first | rfl | exact z_Rc0 _ (by omega) | exact z_Rc1 _ (by omega) | exact z_Rc2 _ (by omega) | exact z_Rc3 _ (by omega)) ?_
      refine aw_iload_n (pc := 35) dX3_giveAlpha_35 rfl ?_
      refine aw_iload_n (pc := 36) dX3_giveAlpha_36 rfl ?_
      refine aw_isub (pc := 37) dX3_giveAlpha_37 ?_
      refine aw_ialoadV (pc := 38) (v := lg (x.toNat - a.toNat)) dX3_giveAlpha_38 (by omega) (Nat.le_refl _) (by first | rfl | exact z_shr _ (by omega) | exact z_shc0 (by omega) | exact z_shc1 (by omega) | exact z_shc2 (by omega) | exact z_shc3 (by omega) | exact z_shc4 (by omega)) (by first | omega | exact z_bl_r _) ((z_s3_lg _).trans ((if_neg (by omega)).trans (by rw [show (x - a).toNat = x.toNat - a.toNat by omega]))) ?_
      refine aw_aload_n (pc := 39) dX3_giveAlpha_39 rfl ?_
      refine aw_getR (pc := 40) dX3_giveAlpha_40 k_fl_X3_15 rfl (by omega) (by first | rfl | exact z_shr _ (by omega) | exact z_shc0 (by omega) | exact z_shc1 (by omega) | exact z_shc2 (by omega) | exact z_shc3 (by omega) | exact z_shc4 (by omega)) (by first | rfl | exact z_Rc0 _ (by omega) | exact z_Rc1 _ (by omega) | exact z_Rc2 _ (by omega) | exact z_Rc3 _ (by omega)) ?_
      refine aw_iload_n (pc := 43) dX3_giveAlpha_43 rfl ?_
      refine aw_ialoadV (pc := 44) (v := wt j) dX3_giveAlpha_44 (by omega) (Nat.le_refl _) (by first | rfl | exact z_shr _ (by omega) | exact z_shc0 (by omega) | exact z_shc1 (by omega) | exact z_shc2 (by omega) | exact z_shc3 (by omega) | exact z_shc4 (by omega)) (by first | omega | exact z_bl_r _) (z_s3_wt j) ?_
      refine aw_iadd (pc := 45) dX3_giveAlpha_45 ?_
      refine aw_qS (pc := 46) (d := m_J9_min_7cf53) (c_min (by omega) (by omega)) k_J9_min_7cf53 dX3_giveAlpha_46 k_ml_X3_83 rfl ⟨rfl, rfl⟩ ⟨Nat.le_of_ble_eq_true rfl, Nat.le_of_ble_eq_true rfl⟩ ⟨Nat.zero_le _, Nat.zero_le _⟩ rfl (Nat.le_of_ble_eq_true rfl) (z_Pk ?_)
      refine aw_iastore (pc := 49) dX3_giveAlpha_49 (by omega) (Nat.le_refl _) (by first | rfl | exact z_shr _ (by omega) | exact z_shc0 (by omega) | exact z_shc1 (by omega) | exact z_shc2 (by omega) | exact z_shc3 (by omega) | exact z_shc4 (by omega)) (by first | omega | exact z_bl_r _) ?_
      rw [z_s3_ulg]
      refine aw_iinc (pc := 50) (lv' := [_, _, _, _]) dX3_giveAlpha_50 (Nat.le_of_ble_eq_true rfl) rfl rfl ?_
      refine aw_goto (pc := 53) (tgt := 15) dX3_giveAlpha_53 rfl ?_
      have e : va_up (fun s : Nat => if x < (s : Int) ∧ s ≤ 64 then z_dp lg a.toNat (wt j) s else lg s) x.toNat (z_mn (lg x.toNat) (lg (x.toNat - a.toNat) + wt j)) = (fun s : Nat => if x - 1 < (s : Int) ∧ s ≤ 64 then z_dp lg a.toNat (wt j) s else lg s) := by
        funext s
        unfold va_up
        by_cases q : s = x.toNat
        · subst q; rw [if_pos rfl, if_pos (by omega)]; unfold z_dp; rw [if_pos (by omega)]
        · rw [if_neg q]
          dsimp only
          by_cases q2 : x < (s : Int) ∧ s ≤ 64
          · rw [if_pos q2, if_pos (by omega)]
          · rw [if_neg q2, if_neg (by omega)]
      rw [e]
      exact ih (x - 1) (by omega) (by omega)
  refine aw_aload_n (pc := 0) dX3_giveAlpha_0 rfl ?_
  refine aw_getR (pc := 1) dX3_giveAlpha_1 k_fl_X3_18 rfl (by omega) (by first | rfl | exact z_shr _ (by omega) | exact z_shc0 (by omega) | exact z_shc1 (by omega) | exact z_shc2 (by omega) | exact z_shc3 (by omega) | exact z_shc4 (by omega)) (by first | rfl | exact z_Rc0 _ (by omega) | exact z_Rc1 _ (by omega) | exact z_Rc2 _ (by omega) | exact z_Rc3 _ (by omega)) ?_
  refine aw_iload_n (pc := 4) dX3_giveAlpha_4 rfl ?_
  refine aw_iload_n (pc := 5) dX3_giveAlpha_5 rfl ?_
  refine aw_iastore (pc := 6) dX3_giveAlpha_6 (by omega) (Nat.le_refl _) (by first | rfl | exact z_shr _ (by omega) | exact z_shc0 (by omega) | exact z_shc1 (by omega) | exact z_shc2 (by omega) | exact z_shc3 (by omega) | exact z_shc4 (by omega)) (by first | omega | exact z_bl_r _) ?_
  rw [z_s3_ual]
  refine aw_iload_n (pc := 7) dX3_giveAlpha_7 rfl ?_
  refine aw_if_gt (pc := 8) (tgt := 12) dX3_giveAlpha_8 rfl (by first | omega | exact z_bl_r _) (fun h8 => ?_) (fun h8 => ?_)
  · refine aw_bipush (pc := 12) dX3_giveAlpha_12 rfl ?_
    refine aw_istore_n (pc := 14) (lv' := [_, _, _, _]) dX3_giveAlpha_14 (Nat.le_of_ble_eq_true rfl) rfl ?_
    have K := loop h8 (65 - a).toNat 64 (by omega) (by omega)
    rw [show (fun s : Nat => if (64 : Int) < (s : Int) ∧ s ≤ 64 then z_dp lg a.toNat (wt j) s else lg s) = lg from funext fun s => if_neg (by omega)] at K
    exact K
  · refine aw_return (pc := 11) dX3_giveAlpha_11 rfl ⟨Nat.zero_le _, Nat.zero_le _⟩ ?_
    rw [if_pos h8]
    exact ⟨rfl, rfl, rfl, rfl, rfl⟩
