/-- what a slot holds, whatever it is -/
def z_hC (I J : AwI) (j : Nat) : z_CC := (fun n => J 243 (8 * j + n), J 244 j, I 245 j, I 246 j, fun i => I 247 (27 * j + i))
theorem z_hC_rf (I J : AwI) (j : Nat) (m : z_MM) : z_rfC I J j m (z_hC I J j) := ⟨fun _ _ => rfl, rfl, rfl, rfl, fun _ => ⟨fun _ _ => rfl, fun _ _ => rfl, fun _ _ => rfl, rfl⟩, fun _ => rfl⟩
theorem z_RI_of {I J : AwI} {m : z_MM} (h1 : z_RM I J) (hm : z_rfM I J = m) (hlh : ∀ n, n < mN m → mlo m n ≤ mhi m n) (hC : z_RC I J) : z_RI I J m ((List.range (I 237 7).toNat).map (z_hC I J)) (I 237 13) := by
  refine ⟨h1, hm, hlh, hC, ⟨?_, fun k C hk => ?_⟩, rfl⟩
  · rw [List.length_map, List.length_range]
    have := hC.n
    omega
  · rw [List.getElem?_map] at hk
    obtain ⟨a, ha, hb⟩ := Option.map_eq_some_iff.mp hk
    have : a = k := by
      have hl := (List.getElem?_eq_some_iff.mp ha).1
      rw [List.length_range] at hl
      rw [List.getElem?_range hl] at ha
      exact (Option.some.inj ha).symm
    subst this
    rw [← hb]
    exact z_hC_rf I J a m
theorem z_str2_c {m : z_MM} {C D : z_CC} (h : ∀ n, n < mN m → cF C n = cF D n) (h2 : cR C = cR D) : z_str2 m C = z_str2 m D := by
  unfold z_str2
  rw [h2, z_sum_c (f := fun n => cF C n * mpt m n) (g := fun n => cF D n * mpt m n) _ (fun n hn => by rw [h n hn])]
theorem c_X9_over2 {π : Nat → Nat} {I J : AwI} {m : z_MM} {C : z_CC} {c : Nat} (h1 : z_RM I J) (hm : z_rfM I J = m) (hlh : ∀ n, n < mN m → mlo m n ≤ mhi m n) (hC : z_RC I J) (hc : (c : Int) < I 237 7) (hD : z_rfC I J c m C) : CT m_X9_over [zr 237, zi (c : Int)] 255 I J (z_R π) (z_P (some (zl (z_str2 m C))) 255 I J (z_R π)) := by
  have hI := z_RI_of h1 hm hlh hC
  have hl : c < ((List.range (I 237 7).toNat).map (z_hC I J)).length := by
    rw [List.length_map, List.length_range]
    omega
  have K := c_X9_over (π := π) hI hl
  have hg := hI.at hl
  rw [show z_str2 m (z_g ((List.range (I 237 7).toNat).map (z_hC I J)) c) = z_str2 m C from z_str2_c (fun n hn => by rw [← hg.1 n hn]; exact hD.1 n hn) (by rw [← hg.2.1]; exact hD.2.1)] at K
  exact K
/-- while the cuts are gone through -/
def z_TI (m : z_MM) (L : List z_CC) (t : Int) (x : Nat) (I J : AwI) : Prop := z_RM I J ∧ z_rfM I J = m ∧ z_RC I J ∧ I 237 7 = (L.length : Int) ∧ I 237 13 = t ∧ (∀ j C, (z_tn m (L.take x))[j]? = some C → z_rfC I J j m C) ∧ ∀ j, x ≤ j → j < L.length → z_rfC I J j m (z_g L j)
theorem z_tn_sl {m : z_MM} {L : List z_CC} {x : Nat} (hx : x < L.length) : z_tn m (L.take (x + 1)) = z_tn m (L.take x) ++ (if z_ag1 m (z_g L x) < 3 then [z_sA (z_g L x) (z_ag1 m (z_g L x))] else []) := z_tn_s (z_g_in hx)
theorem z_tn_tl {m : z_MM} {L : List z_CC} {x : Nat} : (z_tn m (L.take x)).length ≤ x := Nat.le_trans z_tn_len (by rw [List.length_take]; exact Nat.min_le_left _ _)
theorem z_TI_skip {m : z_MM} {L : List z_CC} {t : Int} {x : Nat} {I J : AwI} (h : z_TI m L t x I J) (hx : x < L.length) (ha : ¬ z_ag1 m (z_g L x) < 3) : z_TI m L t (x + 1) I J := by
  obtain ⟨h1, h2, h3, h4, h5, h6, h7⟩ := h
  refine ⟨h1, h2, h3, h4, h5, ?_, fun j hj => h7 j (by omega)⟩
  rw [z_tn_sl hx, if_neg ha, List.append_nil]
  exact h6
theorem z_TI_put {m : z_MM} {L : List z_CC} {t : Int} {x l : Nat} {I J I' J' : AwI} (h : z_TI m L t x I J) (hmb : z_mb m) (hx : x < L.length) (ha : z_ag1 m (z_g L x) < 3) (ha0 : 0 ≤ z_ag1 m (z_g L x)) (hl : l = (z_tn m (L.take x)).length)
    (hI' : I' = z_up (z_up (z_cp I 247 (27 * l) 27 (fun n => I 247 (27 * x + n))) 245 l (I 245 x)) 246 l (z_ag1 m (z_g L x))) (hJ' : J' = z_up (z_cp J 243 (8 * l) 8 (fun n => J 243 (8 * x + n))) 244 l (J 244 x)) : z_TI m L t (x + 1) I' J' := by
  obtain ⟨h1, h2, h3, h4, h5, h6, h7⟩ := h
  have hN8 := hmb.1
  have hR10 := hmb.2.1
  have hlx : l ≤ x := by rw [hl]; exact z_tn_tl
  have aI : ∀ a k, a < 245 ∨ 247 < a → I' a k = I a k := fun a k q => by
    rw [hI', z_up_a _ _ (by omega), z_up_a _ _ (by omega), z_cp_o (by omega)]
  have a245 : ∀ k, I' 245 k = if k = l then I 245 x else I 245 k := fun k => by
    rw [hI', z_up_a _ _ (by omega)]
    by_cases e : k = l
    · rw [e, z_up_s, if_pos rfl]
    · rw [z_up_k _ _ e, if_neg e, z_cp_o (by omega)]
  have a246 : ∀ k, I' 246 k = if k = l then z_ag1 m (z_g L x) else I 246 k := fun k => by
    rw [hI']
    by_cases e : k = l
    · rw [e, z_up_s, if_pos rfl]
    · rw [z_up_k _ _ e, if_neg e, z_up_a _ _ (by omega), z_cp_o (by omega)]
  have a247 : ∀ k, (k < 27 * l ∨ 27 * l + 27 ≤ k) → I' 247 k = I 247 k := fun k q => by
    rw [hI', z_up_a _ _ (by omega), z_up_a _ _ (by omega), z_cp_o (by omega)]
  have b247 : ∀ k, k < 27 → I' 247 (27 * l + k) = I 247 (27 * x + k) := fun k q => by
    rw [hI', z_up_a _ _ (by omega), z_up_a _ _ (by omega), z_cp_in q]
  have c247 : ∀ k, -1000 ≤ I' 247 k ∧ I' 247 k ≤ 1000 := fun k => by
    rw [hI', z_up_a _ _ (by omega), z_up_a _ _ (by omega)]
    exact z_cp_b (h3.s k) (fun j _ => h3.s _)
  have jJ : ∀ a k, a < 243 ∨ 244 < a → J' a k = J a k := fun a k q => by
    rw [hJ', z_up_a _ _ (by omega), z_cp_o (by omega)]
  have j243 : ∀ k, (k < 8 * l ∨ 8 * l + 8 ≤ k) → J' 243 k = J 243 k := fun k q => by
    rw [hJ', z_up_a _ _ (by omega), z_cp_o (by omega)]
  have k243 : ∀ k, k < 8 → J' 243 (8 * l + k) = J 243 (8 * x + k) := fun k q => by
    rw [hJ', z_up_a _ _ (by omega), z_cp_in q]
  have c243 : ∀ k, -1000 ≤ J' 243 k ∧ J' 243 k ≤ 1000 := fun k => by
    rw [hJ', z_up_a _ _ (by omega)]
    exact z_cp_b (h3.f k) (fun j _ => h3.f _)
  have j244 : ∀ k, J' 244 k = if k = l then J 244 x else J 244 k := fun k => by
    rw [hJ']
    by_cases e : k = l
    · rw [e, z_up_s, if_pos rfl]
    · rw [z_up_k _ _ e, if_neg e, z_cp_o (by omega)]
  have other : ∀ j C, j ≠ l → z_rfC I J j m C → z_rfC I' J' j m C := fun j C hj hC => by
    obtain ⟨g1, g2, g3, g4, g5, g6⟩ := hC
    refine ⟨fun n hn => by rw [j243 _ (by omega)]; exact g1 n hn, by rw [j244, if_neg hj]; exact g2, by rw [a245, if_neg hj]; exact g3, by rw [a246, if_neg hj]; exact g4, fun q => ?_, fun q => by rw [a247 _ (by omega)]; exact g6 q⟩
    obtain ⟨e1, e2, e3, e4⟩ := g5 q
    exact ⟨fun n hn => by rw [a247 _ (by omega)]; exact e1 n hn, fun n hn => by rw [a247 _ (by omega)]; exact e2 n hn, fun n hn => by rw [a247 _ (by omega)]; exact e3 n hn, by rw [a247 _ (by omega)]; exact e4⟩
  refine ⟨h1.congr (fun a k q => aI a k (by omega)) (fun k => jJ _ _ (by omega)), ?_, ⟨c243, fun k => ?_, fun k => ?_, fun k => ?_, c247, ?_⟩, ?_, ?_, ?_, fun j hj1 hj2 => other j _ (by omega) (h7 j (by omega) hj2)⟩
  · rw [z_rfM.congr (I := I) (J := J) (fun a k q => aI a k (by omega)) (fun k => jJ _ _ (by omega))]; exact h2
  · rw [j244]; have a := h3.r k; have b := h3.r x; split <;> omega
  · rw [a245]; have a := h3.k k; have b := h3.k x; split <;> omega
  · rw [a246]; have a := h3.a k; split <;> omega
  · rw [aI _ _ (by omega)]; exact h3.n
  · rw [aI _ _ (by omega)]; exact h4
  · rw [aI _ _ (by omega)]; exact h5
  · rw [z_tn_sl hx, if_pos ha]
    intro j C hC
    by_cases hj : j < (z_tn m (L.take x)).length
    · rw [List.getElem?_append_left hj] at hC
      exact other j C (by omega) (h6 j C hC)
    · rw [List.getElem?_append_right (by omega)] at hC
      have h0 : j - (z_tn m (L.take x)).length < 1 := (List.getElem?_eq_some_iff.mp hC).1
      rw [show j - (z_tn m (L.take x)).length = 0 by omega] at hC
      cases hC
      rw [show j = l by omega]
      obtain ⟨g1, g2, g3, g4, g5, g6⟩ := h7 x (Nat.le_refl _) hx
      refine ⟨fun n hn => by rw [k243 _ (by omega)]; exact g1 n hn, by rw [j244, if_pos rfl]; exact g2, by rw [a245, if_pos rfl]; exact g3, by rw [a246, if_pos rfl]; rfl, fun q => ?_, fun q => by rw [show 27 * l = 27 * l + 0 by omega, b247 _ (by omega)]; exact g6 q⟩
      obtain ⟨e1, e2, e3, e4⟩ := g5 q
      exact ⟨fun n hn => by rw [b247 _ (by omega)]; exact e1 n hn, fun n hn => by rw [b247 _ (by omega)]; exact e2 n hn, fun n hn => by rw [b247 _ (by omega)]; exact e3 n hn, by rw [b247 _ (by omega)]; exact e4⟩
set_option maxHeartbeats 4000000 in
theorem c_X9_turn {π : Nat → Nat} {I J : AwI} {m : z_MM} {L : List z_CC} {t : Int} (hI : z_RI I J m L t)  : CT m_X9_turn [zr 237] 255 I J (z_R π) (z_PR π ((L.length : Int) - ((z_tn m L).length : Int), m, z_tn m L, t) I J) := by
  refine CT.of (by decide) (Nat.le_of_ble_eq_true rfl) ?_
  show AW _ 0 0 _ 0 [some (zr 237), none, none, none, none, none] [] _ _ _
  refine aw_aload_n (pc := 0) dX9_turn_0 rfl ?_
  refine aw_iconst (pc := 1) dX9_turn_1 ?_
  refine aw_putI (pc := 2) dX9_turn_2 k_fl_X9_63 rfl (by omega) (by first | rfl | exact z_shr _ (by omega) | exact z_shc0 (by omega) | exact z_shc1 (by omega) | exact z_shc2 (by omega) | exact z_shc3 (by omega) | exact z_shc4 (by omega)) ?_
  have hIc := hI.code (v := 0)
  have hfc : z_FQ I J (z_up I 237 15 0) J := z_FQ.code
  have c15 : z_up I 237 15 0 237 15 = 0 := z_up_s _ _ _ _
  generalize z_up I 237 15 0 = Ic at hIc hfc c15 ⊢
  obtain ⟨hM1, hm1, e0, e4, elo, ehi, ept, eF, ert, hmb, hptb, hF0⟩ := hIc.rds
  have hN8 := hmb.1
  have hR10 := hmb.2.1
  have hC := hIc.2.2.2.1
  have hct := hC.n
  have eL := hIc.2.2.2.2.1.1
  have loop : ∀ (n : Nat) (x : Nat) (I1 J1 : AwI) (u4 u5 : Option AwV), x + n = L.length → z_TI m L t x I1 J1 → z_FQ I J I1 J1 → AW (FM m_X9_turn (z_PR π ((L.length : Int) - ((z_tn m L).length : Int), m, z_tn m L, t) I J)) 0 0 255 14 [some (zr 237), some (zi (((z_tn m (L.take x)).length : Nat) : Int)), some (zi (L.length : Int)), some (zi (x : Int)), u4, u5] [] I1 J1 (z_R π) := by
    intro n
    induction n with
    | zero =>
      intro x I1 J1 u4 u5 he g hf
      have hlx := z_tn_tl (m := m) (L := L) (x := x)
      refine aw_iload_n (pc := 14) dX9_turn_14 rfl ?_
      refine aw_iload_n (pc := 15) dX9_turn_15 rfl ?_
      refine aw_icmp_ge (pc := 16) (tgt := 170) dX9_turn_16 rfl (by first | omega | exact z_bl_r _) (by first | omega | exact z_bl_r _) (fun h16 => ?_) (fun h16 => absurd h16 (by omega))
      refine aw_aload_n (pc := 170) dX9_turn_170 rfl ?_
      refine aw_iload_n (pc := 171) dX9_turn_171 rfl ?_
      refine aw_putI (pc := 172) dX9_turn_172 k_fl_X9_69 rfl (by omega) (by first | rfl | exact z_shr _ (by omega) | exact z_shc0 (by omega) | exact z_shc1 (by omega) | exact z_shc2 (by omega) | exact z_shc3 (by omega) | exact z_shc4 (by omega)) ?_
      refine aw_iload_n (pc := 175) dX9_turn_175 rfl ?_
      refine aw_iload_n (pc := 176) dX9_turn_176 rfl ?_
      refine aw_isub (pc := 177) dX9_turn_177 ?_
      refine aw_ireturn (pc := 178) dX9_turn_178 rfl ⟨Nat.zero_le _, Nat.zero_le _⟩ ?_
      have ex : x = L.length := by omega
      subst ex
      rw [List.take_length] at hlx ⊢
      obtain ⟨h1, h2, h3, h4, h5, h6, h7⟩ := g
      rw [List.take_length] at h6
      have hz : ∀ a k, (a ≠ 237 ∨ k ≠ 7) → z_up I1 237 7 ((z_tn m L).length : Int) a k = I1 a k := fun a k q => by show (if a = 237 ∧ k = 7 then _ else _) = _; rw [if_neg (by omega)]
      refine z_PRr rfl ⟨h1.congr (fun a k q => hz a k (by omega)) (fun _ => rfl), (z_rfM.congr (fun a k q => hz a k (by omega)) (fun _ => rfl)).trans h2, hIc.2.2.1, ⟨h3.f, h3.r, fun j => by rw [hz _ _ (by omega)]; exact h3.k j, fun j => by rw [hz _ _ (by omega)]; exact h3.a j, fun j => by rw [hz _ _ (by omega)]; exact h3.s j, by rw [z_up_s]; omega⟩, ⟨z_up_s _ _ _ _, fun j C hC => (h6 j C hC).congr (fun a i q => hz a i (by omega)) (fun _ _ _ => rfl)⟩, by rw [hz _ _ (by omega)]; exact h5⟩ (hf.upI (by omega))
    | succ n ih =>
      intro x I1 J1 u4 u5 he g hf
      have hlx := z_tn_tl (m := m) (L := L) (x := x)
      refine aw_iload_n (pc := 14) dX9_turn_14 rfl ?_
      refine aw_iload_n (pc := 15) dX9_turn_15 rfl ?_
      refine aw_icmp_ge (pc := 16) (tgt := 170) dX9_turn_16 rfl (by first | omega | exact z_bl_r _) (by first | omega | exact z_bl_r _) (fun h16 => absurd h16 (by omega)) (fun h16 => ?_)
      have hxL : x < L.length := by omega
      have hCx := g.2.2.2.2.2.2 x (Nat.le_refl _) hxL
      have K2 := c_X9_over2 (π := π) g.1 g.2.1 hIc.2.2.1 g.2.2.1 (by rw [g.2.2.2.1]; omega) hCx
      have hsb := hIc.strb hxL
      have hab := g.2.2.1.a x
      rw [hCx.2.2.2.1] at hab
      refine aw_aload_n (pc := 19) dX9_turn_19 rfl ?_
      refine aw_iload_n (pc := 20) dX9_turn_20 rfl ?_
      refine aw_qV (pc := 21) (d := m_X9_over) (K2) k_X9_over dX9_turn_21 k_ml_X9_194 rfl ⟨rfl, rfl⟩ (by omega) (by first | rfl | exact z_shr _ (by omega) | exact z_shc0 (by omega) | exact z_shc1 (by omega) | exact z_shc2 (by omega) | exact z_shc3 (by omega) | exact z_shc4 (by omega)) rfl ⟨Nat.le_of_ble_eq_true rfl, Nat.le_of_ble_eq_true rfl⟩ ⟨Nat.zero_le _, Nat.zero_le _⟩ rfl (Nat.le_of_ble_eq_true rfl) (z_Pk ?_)
      refine aw_lconst (pc := 24) (v := 0) dX9_turn_24 rfl ?_
      refine aw_lcmp_ge (pc := 25) (tgt := 40) dX9_turn_25 dX9_turn_26 rfl (by omega) (by omega) (fun h25 => ?_) (fun h25 => ?_)
      · refine aw_iconst (pc := 40) dX9_turn_40 ?_
        refine aw_istore (pc := 41) (lv' := [_, _, _, _, _, _]) dX9_turn_41 (Nat.le_of_ble_eq_true rfl) rfl ?_
        have ea : (z_ag1 m (z_g L x)) = 0 := by unfold z_ag1; rw [if_neg (by omega)]
        rw [← ea]
        refine aw_iload (pc := 43) dX9_turn_43 rfl ?_
        refine aw_iconst (pc := 45) dX9_turn_45 ?_
        refine aw_icmp_ge (pc := 46) (tgt := 164) dX9_turn_46 rfl (by omega) (by omega) (fun h46 => ?_) (fun h46 => ?_)
        · refine aw_iinc (pc := 164) (lv' := [_, _, _, _, _, _]) dX9_turn_164 (Nat.le_of_ble_eq_true rfl) rfl rfl ?_
          refine aw_goto (pc := 167) (tgt := 14) dX9_turn_167 rfl ?_
          have K := ih (x + 1) I1 J1 (some (zi (z_ag1 m (z_g L x)))) u5 (by omega) (z_TI_skip g hxL (by omega)) hf
          rw [show (z_tn m (L.take (x + 1))).length = (z_tn m (L.take x)).length by rw [z_tn_sl hxL, if_neg (by omega), List.append_nil]] at K
          exact K
        · have ha3 : (z_ag1 m (z_g L x)) < 3 := by omega
          have ha0 : 0 ≤ (z_ag1 m (z_g L x)) := by omega
          have l3 : ∀ (n3 : Nat) (i : Nat), i + n3 = 27 → AW (FM m_X9_turn (z_PR π ((L.length : Int) - ((z_tn m L).length : Int), m, z_tn m L, t) I J)) 0 0 255 92 [some (zr 237), some (zi (((z_tn m (L.take x)).length : Nat) : Int)), some (zi (L.length : Int)), some (zi (x : Int)), some (zi (z_ag1 m (z_g L x))), some (zi (i : Int))] [] (z_cp I1 247 (27 * (z_tn m (L.take x)).length) i (fun n => I1 247 (27 * x + n))) (z_cp J1 243 (8 * (z_tn m (L.take x)).length) 8 (fun n => J1 243 (8 * x + n))) (z_R π) := by
            intro n3
            induction n3 with
            | zero =>
              intro i he3
              refine aw_iload (pc := 92) dX9_turn_92 rfl ?_
              refine aw_bipush (pc := 94) dX9_turn_94 rfl ?_
              refine aw_icmp_ge (pc := 96) (tgt := 129) dX9_turn_96 rfl (by first | omega | exact z_bl_r _) (by first | omega | exact z_bl_r _) (fun h96 => ?_) (fun h96 => absurd h96 (by omega))
              rw [show i = 27 by omega]
              refine aw_aload_n (pc := 129) dX9_turn_129 rfl ?_
              refine aw_getR (pc := 130) dX9_turn_130 k_fl_X9_29 rfl (by omega) (by first | rfl | exact z_shr _ (by omega) | exact z_shc0 (by omega) | exact z_shc1 (by omega) | exact z_shc2 (by omega) | exact z_shc3 (by omega) | exact z_shc4 (by omega)) (by first | rfl | exact z_Rc0 _ (by omega) | exact z_Rc1 _ (by omega) | exact z_Rc2 _ (by omega) | exact z_Rc3 _ (by omega)) ?_
              refine aw_iload_n (pc := 133) dX9_turn_133 rfl ?_
              refine aw_aload_n (pc := 134) dX9_turn_134 rfl ?_
              refine aw_getR (pc := 135) dX9_turn_135 k_fl_X9_29 rfl (by omega) (by first | rfl | exact z_shr _ (by omega) | exact z_shc0 (by omega) | exact z_shc1 (by omega) | exact z_shc2 (by omega) | exact z_shc3 (by omega) | exact z_shc4 (by omega)) (by first | rfl | exact z_Rc0 _ (by omega) | exact z_Rc1 _ (by omega) | exact z_Rc2 _ (by omega) | exact z_Rc3 _ (by omega)) ?_
              refine aw_iload_n (pc := 138) dX9_turn_138 rfl ?_
              refine aw_laloadV (pc := 139) (v := J1 244 x) dX9_turn_139 (by omega) (Nat.le_refl _) (by first | rfl | exact z_shr _ (by omega) | exact z_shc0 (by omega) | exact z_shc1 (by omega) | exact z_shc2 (by omega) | exact z_shc3 (by omega) | exact z_shc4 (by omega)) (by first | omega | exact z_bl_r _) (z_cp_o (by omega)) ?_
              refine aw_lastore (pc := 140) dX9_turn_140 (by omega) (Nat.le_refl _) (by first | rfl | exact z_shr _ (by omega) | exact z_shc0 (by omega) | exact z_shc1 (by omega) | exact z_shc2 (by omega) | exact z_shc3 (by omega) | exact z_shc4 (by omega)) (by first | omega | exact z_bl_r _) ?_
              refine aw_aload_n (pc := 141) dX9_turn_141 rfl ?_
              refine aw_getR (pc := 142) dX9_turn_142 k_fl_X9_32 rfl (by omega) (by first | rfl | exact z_shr _ (by omega) | exact z_shc0 (by omega) | exact z_shc1 (by omega) | exact z_shc2 (by omega) | exact z_shc3 (by omega) | exact z_shc4 (by omega)) (by first | rfl | exact z_Rc0 _ (by omega) | exact z_Rc1 _ (by omega) | exact z_Rc2 _ (by omega) | exact z_Rc3 _ (by omega)) ?_
              refine aw_iload_n (pc := 145) dX9_turn_145 rfl ?_
              refine aw_aload_n (pc := 146) dX9_turn_146 rfl ?_
              refine aw_getR (pc := 147) dX9_turn_147 k_fl_X9_32 rfl (by omega) (by first | rfl | exact z_shr _ (by omega) | exact z_shc0 (by omega) | exact z_shc1 (by omega) | exact z_shc2 (by omega) | exact z_shc3 (by omega) | exact z_shc4 (by omega)) (by first | rfl | exact z_Rc0 _ (by omega) | exact z_Rc1 _ (by omega) | exact z_Rc2 _ (by omega) | exact z_Rc3 _ (by omega)) ?_
              refine aw_iload_n (pc := 150) dX9_turn_150 rfl ?_
              refine aw_ialoadV (pc := 151) (v := I1 245 x) dX9_turn_151 (by omega) (Nat.le_refl _) (by first | rfl | exact z_shr _ (by omega) | exact z_shc0 (by omega) | exact z_shc1 (by omega) | exact z_shc2 (by omega) | exact z_shc3 (by omega) | exact z_shc4 (by omega)) (by first | omega | exact z_bl_r _) (z_cp_o (by omega)) ?_
              refine aw_iastore (pc := 152) dX9_turn_152 (by omega) (Nat.le_refl _) (by first | rfl | exact z_shr _ (by omega) | exact z_shc0 (by omega) | exact z_shc1 (by omega) | exact z_shc2 (by omega) | exact z_shc3 (by omega) | exact z_shc4 (by omega)) (by first | omega | exact z_bl_r _) ?_
              refine aw_aload_n (pc := 153) dX9_turn_153 rfl ?_
              refine aw_getR (pc := 154) dX9_turn_154 k_fl_X9_35 rfl (by omega) (by first | rfl | exact z_shr _ (by omega) | exact z_shc0 (by omega) | exact z_shc1 (by omega) | exact z_shc2 (by omega) | exact z_shc3 (by omega) | exact z_shc4 (by omega)) (by first | rfl | exact z_Rc0 _ (by omega) | exact z_Rc1 _ (by omega) | exact z_Rc2 _ (by omega) | exact z_Rc3 _ (by omega)) ?_
              refine aw_iload_n (pc := 157) dX9_turn_157 rfl ?_
              refine aw_iload (pc := 158) dX9_turn_158 rfl ?_
              refine aw_iastore (pc := 160) dX9_turn_160 (by omega) (Nat.le_refl _) (by first | rfl | exact z_shr _ (by omega) | exact z_shc0 (by omega) | exact z_shc1 (by omega) | exact z_shc2 (by omega) | exact z_shc3 (by omega) | exact z_shc4 (by omega)) (by first | omega | exact z_bl_r _) ?_
              refine aw_iinc (pc := 161) (lv' := [_, _, _, _, _, _]) dX9_turn_161 (Nat.le_of_ble_eq_true rfl) rfl rfl ?_
              refine aw_iinc (pc := 164) (lv' := [_, _, _, _, _, _]) dX9_turn_164 (Nat.le_of_ble_eq_true rfl) rfl rfl ?_
              refine aw_goto (pc := 167) (tgt := 14) dX9_turn_167 rfl ?_
              have G := z_TI_put g hmb hxL ha3 ha0 rfl rfl rfl
              have el : (((z_tn m (L.take (x + 1))).length : Nat) : Int) = (((z_tn m (L.take x)).length : Nat) : Int) + 1 := by rw [z_tn_sl hxL, if_pos ha3, List.length_append]; rfl
              have hf2 : z_FQ I J (z_up (z_up (z_cp I1 247 (27 * (z_tn m (L.take x)).length) 27 (fun n => I1 247 (27 * x + n))) 245 (z_tn m (L.take x)).length (I1 245 x)) 246 (z_tn m (L.take x)).length (z_ag1 m (z_g L x))) (z_up (z_cp J1 243 (8 * (z_tn m (L.take x)).length) 8 (fun n => J1 243 (8 * x + n))) 244 (z_tn m (L.take x)).length (J1 244 x)) := ⟨fun a k q => by rw [z_up_a _ _ (by omega), z_up_a _ _ (by omega), z_cp_o (by omega)]; exact hf.1 a k q, fun a k q => by rw [z_up_a _ _ (by omega), z_cp_o (by omega)]; exact hf.2 a k q⟩
              have K := ih (x + 1) _ _ (some (zi (z_ag1 m (z_g L x)))) (some (zi 27)) (by omega) G hf2
              rw [el] at K
              exact K
            | succ n3 ih3 =>
              intro i he3
              refine aw_iload (pc := 92) dX9_turn_92 rfl ?_
              refine aw_bipush (pc := 94) dX9_turn_94 rfl ?_
              refine aw_icmp_ge (pc := 96) (tgt := 129) dX9_turn_96 rfl (by first | omega | exact z_bl_r _) (by first | omega | exact z_bl_r _) (fun h96 => absurd h96 (by omega)) (fun h96 => ?_)
              refine aw_aload_n (pc := 99) dX9_turn_99 rfl ?_
              refine aw_getR (pc := 100) dX9_turn_100 k_fl_X9_38 rfl (by omega) (by first | rfl | exact z_shr _ (by omega) | exact z_shc0 (by omega) | exact z_shc1 (by omega) | exact z_shc2 (by omega) | exact z_shc3 (by omega) | exact z_shc4 (by omega)) (by first | rfl | exact z_Rc0 _ (by omega) | exact z_Rc1 _ (by omega) | exact z_Rc2 _ (by omega) | exact z_Rc3 _ (by omega)) ?_
              refine aw_bipush (pc := 103) dX9_turn_103 rfl ?_
              refine aw_iload_n (pc := 105) dX9_turn_105 rfl ?_
              refine aw_imul (pc := 106) dX9_turn_106 ?_
              refine aw_iload (pc := 107) dX9_turn_107 rfl ?_
              refine aw_iadd (pc := 109) dX9_turn_109 ?_
              refine aw_aload_n (pc := 110) dX9_turn_110 rfl ?_
              refine aw_getR (pc := 111) dX9_turn_111 k_fl_X9_38 rfl (by omega) (by first | rfl | exact z_shr _ (by omega) | exact z_shc0 (by omega) | exact z_shc1 (by omega) | exact z_shc2 (by omega) | exact z_shc3 (by omega) | exact z_shc4 (by omega)) (by first | rfl | exact z_Rc0 _ (by omega) | exact z_Rc1 _ (by omega) | exact z_Rc2 _ (by omega) | exact z_Rc3 _ (by omega)) ?_
              refine aw_bipush (pc := 114) dX9_turn_114 rfl ?_
              refine aw_iload_n (pc := 116) dX9_turn_116 rfl ?_
              refine aw_imul (pc := 117) dX9_turn_117 ?_
              refine aw_iload (pc := 118) dX9_turn_118 rfl ?_
              refine aw_iadd (pc := 120) dX9_turn_120 ?_
              refine aw_ialoadV (pc := 121) (v := I1 247 (27 * x + i)) dX9_turn_121 (by omega) (Nat.le_refl _) (by first | rfl | exact z_shr _ (by omega) | exact z_shc0 (by omega) | exact z_shc1 (by omega) | exact z_shc2 (by omega) | exact z_shc3 (by omega) | exact z_shc4 (by omega)) (by omega) (by rw [show ((27 : Int) * (x : Int) + (i : Int)).toNat = 27 * x + i by omega]; exact z_cp_o (by omega)) ?_
              refine aw_iastore (pc := 122) dX9_turn_122 (by omega) (Nat.le_refl _) (by first | rfl | exact z_shr _ (by omega) | exact z_shc0 (by omega) | exact z_shc1 (by omega) | exact z_shc2 (by omega) | exact z_shc3 (by omega) | exact z_shc4 (by omega)) (by omega) ?_
              rw [show ((27 : Int) * (((z_tn m (L.take x)).length : Nat) : Int) + (i : Int)).toNat = 27 * (z_tn m (L.take x)).length + i by omega, z_cp_s]
              refine aw_iinc (pc := 123) (lv' := [_, _, _, _, _, _]) dX9_turn_123 (Nat.le_of_ble_eq_true rfl) rfl rfl ?_
              refine aw_goto (pc := 126) (tgt := 92) dX9_turn_126 rfl ?_
              exact ih3 (i + 1) (by omega)
          have l2 : ∀ (n2 : Nat) (i : Nat), i + n2 = 8 → AW (FM m_X9_turn (z_PR π ((L.length : Int) - ((z_tn m L).length : Int), m, z_tn m L, t) I J)) 0 0 255 52 [some (zr 237), some (zi (((z_tn m (L.take x)).length : Nat) : Int)), some (zi (L.length : Int)), some (zi (x : Int)), some (zi (z_ag1 m (z_g L x))), some (zi (i : Int))] [] I1 (z_cp J1 243 (8 * (z_tn m (L.take x)).length) i (fun n => J1 243 (8 * x + n))) (z_R π) := by
            intro n2
            induction n2 with
            | zero =>
              intro i he2
              refine aw_iload (pc := 52) dX9_turn_52 rfl ?_
              refine aw_bipush (pc := 54) dX9_turn_54 rfl ?_
              refine aw_icmp_ge (pc := 56) (tgt := 89) dX9_turn_56 rfl (by first | omega | exact z_bl_r _) (by first | omega | exact z_bl_r _) (fun h56 => ?_) (fun h56 => absurd h56 (by omega))
              rw [show i = 8 by omega]
              refine aw_iconst (pc := 89) dX9_turn_89 ?_
              refine aw_istore (pc := 90) (lv' := [_, _, _, _, _, _]) dX9_turn_90 (Nat.le_of_ble_eq_true rfl) rfl ?_
              have K := l3 27 0 (by omega)
              rw [z_cp_0] at K
              exact K
            | succ n2 ih2 =>
              intro i he2
              refine aw_iload (pc := 52) dX9_turn_52 rfl ?_
              refine aw_bipush (pc := 54) dX9_turn_54 rfl ?_
              refine aw_icmp_ge (pc := 56) (tgt := 89) dX9_turn_56 rfl (by first | omega | exact z_bl_r _) (by first | omega | exact z_bl_r _) (fun h56 => absurd h56 (by omega)) (fun h56 => ?_)
              refine aw_aload_n (pc := 59) dX9_turn_59 rfl ?_
              refine aw_getR (pc := 60) dX9_turn_60 k_fl_X9_26 rfl (by omega) (by first | rfl | exact z_shr _ (by omega) | exact z_shc0 (by omega) | exact z_shc1 (by omega) | exact z_shc2 (by omega) | exact z_shc3 (by omega) | exact z_shc4 (by omega)) (by first | rfl | exact z_Rc0 _ (by omega) | exact z_Rc1 _ (by omega) | exact z_Rc2 _ (by omega) | exact z_Rc3 _ (by omega)) ?_
              refine aw_bipush (pc := 63) dX9_turn_63 rfl ?_
              refine aw_iload_n (pc := 65) dX9_turn_65 rfl ?_
              refine aw_imul (pc := 66) dX9_turn_66 ?_
              refine aw_iload (pc := 67) dX9_turn_67 rfl ?_
              refine aw_iadd (pc := 69) dX9_turn_69 ?_
              refine aw_aload_n (pc := 70) dX9_turn_70 rfl ?_
              refine aw_getR (pc := 71) dX9_turn_71 k_fl_X9_26 rfl (by omega) (by first | rfl | exact z_shr _ (by omega) | exact z_shc0 (by omega) | exact z_shc1 (by omega) | exact z_shc2 (by omega) | exact z_shc3 (by omega) | exact z_shc4 (by omega)) (by first | rfl | exact z_Rc0 _ (by omega) | exact z_Rc1 _ (by omega) | exact z_Rc2 _ (by omega) | exact z_Rc3 _ (by omega)) ?_
              refine aw_bipush (pc := 74) dX9_turn_74 rfl ?_
              refine aw_iload_n (pc := 76) dX9_turn_76 rfl ?_
              refine aw_imul (pc := 77) dX9_turn_77 ?_
              refine aw_iload (pc := 78) dX9_turn_78 rfl ?_
              refine aw_iadd (pc := 80) dX9_turn_80 ?_
              refine aw_laloadV (pc := 81) (v := J1 243 (8 * x + i)) dX9_turn_81 (by omega) (Nat.le_refl _) (by first | rfl | exact z_shr _ (by omega) | exact z_shc0 (by omega) | exact z_shc1 (by omega) | exact z_shc2 (by omega) | exact z_shc3 (by omega) | exact z_shc4 (by omega)) (by omega) (by rw [show ((8 : Int) * (x : Int) + (i : Int)).toNat = 8 * x + i by omega]; exact z_cp_o (by omega)) ?_
              refine aw_lastore (pc := 82) dX9_turn_82 (by omega) (Nat.le_refl _) (by first | rfl | exact z_shr _ (by omega) | exact z_shc0 (by omega) | exact z_shc1 (by omega) | exact z_shc2 (by omega) | exact z_shc3 (by omega) | exact z_shc4 (by omega)) (by omega) ?_
              rw [show ((8 : Int) * (((z_tn m (L.take x)).length : Nat) : Int) + (i : Int)).toNat = 8 * (z_tn m (L.take x)).length + i by omega, z_cp_s]
              refine aw_iinc (pc := 83) (lv' := [_, _, _, _, _, _]) dX9_turn_83 (Nat.le_of_ble_eq_true rfl) rfl rfl ?_
              refine aw_goto (pc := 86) (tgt := 52) dX9_turn_86 rfl ?_
              exact ih2 (i + 1) (by omega)
          refine aw_iconst (pc := 49) dX9_turn_49 ?_
          refine aw_istore (pc := 50) (lv' := [_, _, _, _, _, _]) dX9_turn_50 (Nat.le_of_ble_eq_true rfl) rfl ?_
          have K := l2 8 0 (by omega)
          rw [z_cp_0] at K
          exact K
      · refine aw_aload_n (pc := 29) dX9_turn_29 rfl ?_
        refine aw_getR (pc := 30) dX9_turn_30 k_fl_X9_35 rfl (by omega) (by first | rfl | exact z_shr _ (by omega) | exact z_shc0 (by omega) | exact z_shc1 (by omega) | exact z_shc2 (by omega) | exact z_shc3 (by omega) | exact z_shc4 (by omega)) (by first | rfl | exact z_Rc0 _ (by omega) | exact z_Rc1 _ (by omega) | exact z_Rc2 _ (by omega) | exact z_Rc3 _ (by omega)) ?_
        refine aw_iload_n (pc := 33) dX9_turn_33 rfl ?_
        refine aw_ialoadV (pc := 34) (v := cA (z_g L x)) dX9_turn_34 (by omega) (Nat.le_refl _) (by first | rfl | exact z_shr _ (by omega) | exact z_shc0 (by omega) | exact z_shc1 (by omega) | exact z_shc2 (by omega) | exact z_shc3 (by omega) | exact z_shc4 (by omega)) (by first | omega | exact z_bl_r _) ((g.2.2.2.2.2.2 x (Nat.le_refl _) hxL).2.2.2.1) ?_
        refine aw_iconst (pc := 35) dX9_turn_35 ?_
        refine aw_iadd (pc := 36) dX9_turn_36 ?_
        refine aw_goto (pc := 37) (tgt := 41) dX9_turn_37 rfl ?_
        refine aw_istore (pc := 41) (lv' := [_, _, _, _, _, _]) dX9_turn_41 (Nat.le_of_ble_eq_true rfl) rfl ?_
        have ea : (z_ag1 m (z_g L x)) = cA (z_g L x) + 1 := by unfold z_ag1; rw [if_pos (by omega)]
        rw [← ea]
        refine aw_iload (pc := 43) dX9_turn_43 rfl ?_
        refine aw_iconst (pc := 45) dX9_turn_45 ?_
        refine aw_icmp_ge (pc := 46) (tgt := 164) dX9_turn_46 rfl (by omega) (by omega) (fun h46 => ?_) (fun h46 => ?_)
        · refine aw_iinc (pc := 164) (lv' := [_, _, _, _, _, _]) dX9_turn_164 (Nat.le_of_ble_eq_true rfl) rfl rfl ?_
          refine aw_goto (pc := 167) (tgt := 14) dX9_turn_167 rfl ?_
          have K := ih (x + 1) I1 J1 (some (zi (z_ag1 m (z_g L x)))) u5 (by omega) (z_TI_skip g hxL (by omega)) hf
          rw [show (z_tn m (L.take (x + 1))).length = (z_tn m (L.take x)).length by rw [z_tn_sl hxL, if_neg (by omega), List.append_nil]] at K
          exact K
        · have ha3 : (z_ag1 m (z_g L x)) < 3 := by omega
          have ha0 : 0 ≤ (z_ag1 m (z_g L x)) := by omega
          have l3 : ∀ (n3 : Nat) (i : Nat), i + n3 = 27 → AW (FM m_X9_turn (z_PR π ((L.length : Int) - ((z_tn m L).length : Int), m, z_tn m L, t) I J)) 0 0 255 92 [some (zr 237), some (zi (((z_tn m (L.take x)).length : Nat) : Int)), some (zi (L.length : Int)), some (zi (x : Int)), some (zi (z_ag1 m (z_g L x))), some (zi (i : Int))] [] (z_cp I1 247 (27 * (z_tn m (L.take x)).length) i (fun n => I1 247 (27 * x + n))) (z_cp J1 243 (8 * (z_tn m (L.take x)).length) 8 (fun n => J1 243 (8 * x + n))) (z_R π) := by
            intro n3
            induction n3 with
            | zero =>
              intro i he3
              refine aw_iload (pc := 92) dX9_turn_92 rfl ?_
              refine aw_bipush (pc := 94) dX9_turn_94 rfl ?_
              refine aw_icmp_ge (pc := 96) (tgt := 129) dX9_turn_96 rfl (by first | omega | exact z_bl_r _) (by first | omega | exact z_bl_r _) (fun h96 => ?_) (fun h96 => absurd h96 (by omega))
              rw [show i = 27 by omega]
              refine aw_aload_n (pc := 129) dX9_turn_129 rfl ?_
              refine aw_getR (pc := 130) dX9_turn_130 k_fl_X9_29 rfl (by omega) (by first | rfl | exact z_shr _ (by omega) | exact z_shc0 (by omega) | exact z_shc1 (by omega) | exact z_shc2 (by omega) | exact z_shc3 (by omega) | exact z_shc4 (by omega)) (by first | rfl | exact z_Rc0 _ (by omega) | exact z_Rc1 _ (by omega) | exact z_Rc2 _ (by omega) | exact z_Rc3 _ (by omega)) ?_
              refine aw_iload_n (pc := 133) dX9_turn_133 rfl ?_
              refine aw_aload_n (pc := 134) dX9_turn_134 rfl ?_
              refine aw_getR (pc := 135) dX9_turn_135 k_fl_X9_29 rfl (by omega) (by first | rfl | exact z_shr _ (by omega) | exact z_shc0 (by omega) | exact z_shc1 (by omega) | exact z_shc2 (by omega) | exact z_shc3 (by omega) | exact z_shc4 (by omega)) (by first | rfl | exact z_Rc0 _ (by omega) | exact z_Rc1 _ (by omega) | exact z_Rc2 _ (by omega) | exact z_Rc3 _ (by omega)) ?_
              refine aw_iload_n (pc := 138) dX9_turn_138 rfl ?_
              refine aw_laloadV (pc := 139) (v := J1 244 x) dX9_turn_139 (by omega) (Nat.le_refl _) (by first | rfl | exact z_shr _ (by omega) | exact z_shc0 (by omega) | exact z_shc1 (by omega) | exact z_shc2 (by omega) | exact z_shc3 (by omega) | exact z_shc4 (by omega)) (by first | omega | exact z_bl_r _) (z_cp_o (by omega)) ?_
              refine aw_lastore (pc := 140) dX9_turn_140 (by omega) (Nat.le_refl _) (by first | rfl | exact z_shr _ (by omega) | exact z_shc0 (by omega) | exact z_shc1 (by omega) | exact z_shc2 (by omega) | exact z_shc3 (by omega) | exact z_shc4 (by omega)) (by first | omega | exact z_bl_r _) ?_
              refine aw_aload_n (pc := 141) dX9_turn_141 rfl ?_
              refine aw_getR (pc := 142) dX9_turn_142 k_fl_X9_32 rfl (by omega) (by first | rfl | exact z_shr _ (by omega) | exact z_shc0 (by omega) | exact z_shc1 (by omega) | exact z_shc2 (by omega) | exact z_shc3 (by omega) | exact z_shc4 (by omega)) (by first | rfl | exact z_Rc0 _ (by omega) | exact z_Rc1 _ (by omega) | exact z_Rc2 _ (by omega) | exact z_Rc3 _ (by omega)) ?_
              refine aw_iload_n (pc := 145) dX9_turn_145 rfl ?_
              refine aw_aload_n (pc := 146) dX9_turn_146 rfl ?_
              refine aw_getR (pc := 147) dX9_turn_147 k_fl_X9_32 rfl (by omega) (by first | rfl | exact z_shr _ (by omega) | exact z_shc0 (by omega) | exact z_shc1 (by omega) | exact z_shc2 (by omega) | exact z_shc3 (by omega) | exact z_shc4 (by omega)) (by first | rfl | exact z_Rc0 _ (by omega) | exact z_Rc1 _ (by omega) | exact z_Rc2 _ (by omega) | exact z_Rc3 _ (by omega)) ?_
              refine aw_iload_n (pc := 150) dX9_turn_150 rfl ?_
              refine aw_ialoadV (pc := 151) (v := I1 245 x) dX9_turn_151 (by omega) (Nat.le_refl _) (by first | rfl | exact z_shr _ (by omega) | exact z_shc0 (by omega) | exact z_shc1 (by omega) | exact z_shc2 (by omega) | exact z_shc3 (by omega) | exact z_shc4 (by omega)) (by first | omega | exact z_bl_r _) (z_cp_o (by omega)) ?_
              refine aw_iastore (pc := 152) dX9_turn_152 (by omega) (Nat.le_refl _) (by first | rfl | exact z_shr _ (by omega) | exact z_shc0 (by omega) | exact z_shc1 (by omega) | exact z_shc2 (by omega) | exact z_shc3 (by omega) | exact z_shc4 (by omega)) (by first | omega | exact z_bl_r _) ?_
              refine aw_aload_n (pc := 153) dX9_turn_153 rfl ?_
              refine aw_getR (pc := 154) dX9_turn_154 k_fl_X9_35 rfl (by omega) (by first | rfl | exact z_shr _ (by omega) | exact z_shc0 (by omega) | exact z_shc1 (by omega) | exact z_shc2 (by omega) | exact z_shc3 (by omega) | exact z_shc4 (by omega)) (by first | rfl | exact z_Rc0 _ (by omega) | exact z_Rc1 _ (by omega) | exact z_Rc2 _ (by omega) | exact z_Rc3 _ (by omega)) ?_
              refine aw_iload_n (pc := 157) dX9_turn_157 rfl ?_
              refine aw_iload (pc := 158) dX9_turn_158 rfl ?_
              refine aw_iastore (pc := 160) dX9_turn_160 (by omega) (Nat.le_refl _) (by first | rfl | exact z_shr _ (by omega) | exact z_shc0 (by omega) | exact z_shc1 (by omega) | exact z_shc2 (by omega) | exact z_shc3 (by omega) | exact z_shc4 (by omega)) (by first | omega | exact z_bl_r _) ?_
              refine aw_iinc (pc := 161) (lv' := [_, _, _, _, _, _]) dX9_turn_161 (Nat.le_of_ble_eq_true rfl) rfl rfl ?_
              refine aw_iinc (pc := 164) (lv' := [_, _, _, _, _, _]) dX9_turn_164 (Nat.le_of_ble_eq_true rfl) rfl rfl ?_
              refine aw_goto (pc := 167) (tgt := 14) dX9_turn_167 rfl ?_
              have G := z_TI_put g hmb hxL ha3 ha0 rfl rfl rfl
              have el : (((z_tn m (L.take (x + 1))).length : Nat) : Int) = (((z_tn m (L.take x)).length : Nat) : Int) + 1 := by rw [z_tn_sl hxL, if_pos ha3, List.length_append]; rfl
              have hf2 : z_FQ I J (z_up (z_up (z_cp I1 247 (27 * (z_tn m (L.take x)).length) 27 (fun n => I1 247 (27 * x + n))) 245 (z_tn m (L.take x)).length (I1 245 x)) 246 (z_tn m (L.take x)).length (z_ag1 m (z_g L x))) (z_up (z_cp J1 243 (8 * (z_tn m (L.take x)).length) 8 (fun n => J1 243 (8 * x + n))) 244 (z_tn m (L.take x)).length (J1 244 x)) := ⟨fun a k q => by rw [z_up_a _ _ (by omega), z_up_a _ _ (by omega), z_cp_o (by omega)]; exact hf.1 a k q, fun a k q => by rw [z_up_a _ _ (by omega), z_cp_o (by omega)]; exact hf.2 a k q⟩
              have K := ih (x + 1) _ _ (some (zi (z_ag1 m (z_g L x)))) (some (zi 27)) (by omega) G hf2
              rw [el] at K
              exact K
            | succ n3 ih3 =>
              intro i he3
              refine aw_iload (pc := 92) dX9_turn_92 rfl ?_
              refine aw_bipush (pc := 94) dX9_turn_94 rfl ?_
              refine aw_icmp_ge (pc := 96) (tgt := 129) dX9_turn_96 rfl (by first | omega | exact z_bl_r _) (by first | omega | exact z_bl_r _) (fun h96 => absurd h96 (by omega)) (fun h96 => ?_)
              refine aw_aload_n (pc := 99) dX9_turn_99 rfl ?_
              refine aw_getR (pc := 100) dX9_turn_100 k_fl_X9_38 rfl (by omega) (by first | rfl | exact z_shr _ (by omega) | exact z_shc0 (by omega) | exact z_shc1 (by omega) | exact z_shc2 (by omega) | exact z_shc3 (by omega) | exact z_shc4 (by omega)) (by first | rfl | exact z_Rc0 _ (by omega) | exact z_Rc1 _ (by omega) | exact z_Rc2 _ (by omega) | exact z_Rc3 _ (by omega)) ?_
              refine aw_bipush (pc := 103) dX9_turn_103 rfl ?_
              refine aw_iload_n (pc := 105) dX9_turn_105 rfl ?_
              refine aw_imul (pc := 106) dX9_turn_106 ?_
              refine aw_iload (pc := 107) dX9_turn_107 rfl ?_
              refine aw_iadd (pc := 109) dX9_turn_109 ?_
              refine aw_aload_n (pc := 110) dX9_turn_110 rfl ?_
              refine aw_getR (pc := 111) dX9_turn_111 k_fl_X9_38 rfl (by omega) (by first | rfl | exact z_shr _ (by omega) | exact z_shc0 (by omega) | exact z_shc1 (by omega) | exact z_shc2 (by omega) | exact z_shc3 (by omega) | exact z_shc4 (by omega)) (by first | rfl | exact z_Rc0 _ (by omega) | exact z_Rc1 _ (by omega) | exact z_Rc2 _ (by omega) | exact z_Rc3 _ (by omega)) ?_
              refine aw_bipush (pc := 114) dX9_turn_114 rfl ?_
              refine aw_iload_n (pc := 116) dX9_turn_116 rfl ?_
              refine aw_imul (pc := 117) dX9_turn_117 ?_
              refine aw_iload (pc := 118) dX9_turn_118 rfl ?_
              refine aw_iadd (pc := 120) dX9_turn_120 ?_
              refine aw_ialoadV (pc := 121) (v := I1 247 (27 * x + i)) dX9_turn_121 (by omega) (Nat.le_refl _) (by first | rfl | exact z_shr _ (by omega) | exact z_shc0 (by omega) | exact z_shc1 (by omega) | exact z_shc2 (by omega) | exact z_shc3 (by omega) | exact z_shc4 (by omega)) (by omega) (by rw [show ((27 : Int) * (x : Int) + (i : Int)).toNat = 27 * x + i by omega]; exact z_cp_o (by omega)) ?_
              refine aw_iastore (pc := 122) dX9_turn_122 (by omega) (Nat.le_refl _) (by first | rfl | exact z_shr _ (by omega) | exact z_shc0 (by omega) | exact z_shc1 (by omega) | exact z_shc2 (by omega) | exact z_shc3 (by omega) | exact z_shc4 (by omega)) (by omega) ?_
              rw [show ((27 : Int) * (((z_tn m (L.take x)).length : Nat) : Int) + (i : Int)).toNat = 27 * (z_tn m (L.take x)).length + i by omega, z_cp_s]
              refine aw_iinc (pc := 123) (lv' := [_, _, _, _, _, _]) dX9_turn_123 (Nat.le_of_ble_eq_true rfl) rfl rfl ?_
              refine aw_goto (pc := 126) (tgt := 92) dX9_turn_126 rfl ?_
              exact ih3 (i + 1) (by omega)
          have l2 : ∀ (n2 : Nat) (i : Nat), i + n2 = 8 → AW (FM m_X9_turn (z_PR π ((L.length : Int) - ((z_tn m L).length : Int), m, z_tn m L, t) I J)) 0 0 255 52 [some (zr 237), some (zi (((z_tn m (L.take x)).length : Nat) : Int)), some (zi (L.length : Int)), some (zi (x : Int)), some (zi (z_ag1 m (z_g L x))), some (zi (i : Int))] [] I1 (z_cp J1 243 (8 * (z_tn m (L.take x)).length) i (fun n => J1 243 (8 * x + n))) (z_R π) := by
            intro n2
            induction n2 with
            | zero =>
              intro i he2
              refine aw_iload (pc := 52) dX9_turn_52 rfl ?_
              refine aw_bipush (pc := 54) dX9_turn_54 rfl ?_
              refine aw_icmp_ge (pc := 56) (tgt := 89) dX9_turn_56 rfl (by first | omega | exact z_bl_r _) (by first | omega | exact z_bl_r _) (fun h56 => ?_) (fun h56 => absurd h56 (by omega))
              rw [show i = 8 by omega]
              refine aw_iconst (pc := 89) dX9_turn_89 ?_
              refine aw_istore (pc := 90) (lv' := [_, _, _, _, _, _]) dX9_turn_90 (Nat.le_of_ble_eq_true rfl) rfl ?_
              have K := l3 27 0 (by omega)
              rw [z_cp_0] at K
              exact K
            | succ n2 ih2 =>
              intro i he2
              refine aw_iload (pc := 52) dX9_turn_52 rfl ?_
              refine aw_bipush (pc := 54) dX9_turn_54 rfl ?_
              refine aw_icmp_ge (pc := 56) (tgt := 89) dX9_turn_56 rfl (by first | omega | exact z_bl_r _) (by first | omega | exact z_bl_r _) (fun h56 => absurd h56 (by omega)) (fun h56 => ?_)
              refine aw_aload_n (pc := 59) dX9_turn_59 rfl ?_
              refine aw_getR (pc := 60) dX9_turn_60 k_fl_X9_26 rfl (by omega) (by first | rfl | exact z_shr _ (by omega) | exact z_shc0 (by omega) | exact z_shc1 (by omega) | exact z_shc2 (by omega) | exact z_shc3 (by omega) | exact z_shc4 (by omega)) (by first | rfl | exact z_Rc0 _ (by omega) | exact z_Rc1 _ (by omega) | exact z_Rc2 _ (by omega) | exact z_Rc3 _ (by omega)) ?_
              refine aw_bipush (pc := 63) dX9_turn_63 rfl ?_
              refine aw_iload_n (pc := 65) dX9_turn_65 rfl ?_
              refine aw_imul (pc := 66) dX9_turn_66 ?_
              refine aw_iload (pc := 67) dX9_turn_67 rfl ?_
              refine aw_iadd (pc := 69) dX9_turn_69 ?_
              refine aw_aload_n (pc := 70) dX9_turn_70 rfl ?_
              refine aw_getR (pc := 71) dX9_turn_71 k_fl_X9_26 rfl (by omega) (by first | rfl | exact z_shr _ (by omega) | exact z_shc0 (by omega) | exact z_shc1 (by omega) | exact z_shc2 (by omega) | exact z_shc3 (by omega) | exact z_shc4 (by omega)) (by first | rfl | exact z_Rc0 _ (by omega) | exact z_Rc1 _ (by omega) | exact z_Rc2 _ (by omega) | exact z_Rc3 _ (by omega)) ?_
              refine aw_bipush (pc := 74) dX9_turn_74 rfl ?_
              refine aw_iload_n (pc := 76) dX9_turn_76 rfl ?_
              refine aw_imul (pc := 77) dX9_turn_77 ?_
              refine aw_iload (pc := 78) dX9_turn_78 rfl ?_
              refine aw_iadd (pc := 80) dX9_turn_80 ?_
              refine aw_laloadV (pc := 81) (v := J1 243 (8 * x + i)) dX9_turn_81 (by omega) (Nat.le_refl _) (by first | rfl | exact z_shr _ (by omega) | exact z_shc0 (by omega) | exact z_shc1 (by omega) | exact z_shc2 (by omega) | exact z_shc3 (by omega) | exact z_shc4 (by omega)) (by omega) (by rw [show ((8 : Int) * (x : Int) + (i : Int)).toNat = 8 * x + i by omega]; exact z_cp_o (by omega)) ?_
              refine aw_lastore (pc := 82) dX9_turn_82 (by omega) (Nat.le_refl _) (by first | rfl | exact z_shr _ (by omega) | exact z_shc0 (by omega) | exact z_shc1 (by omega) | exact z_shc2 (by omega) | exact z_shc3 (by omega) | exact z_shc4 (by omega)) (by omega) ?_
              rw [show ((8 : Int) * (((z_tn m (L.take x)).length : Nat) : Int) + (i : Int)).toNat = 8 * (z_tn m (L.take x)).length + i by omega, z_cp_s]
              refine aw_iinc (pc := 83) (lv' := [_, _, _, _, _, _]) dX9_turn_83 (Nat.le_of_ble_eq_true rfl) rfl rfl ?_
              refine aw_goto (pc := 86) (tgt := 52) dX9_turn_86 rfl ?_
              exact ih2 (i + 1) (by omega)
          refine aw_iconst (pc := 49) dX9_turn_49 ?_
          refine aw_istore (pc := 50) (lv' := [_, _, _, _, _, _]) dX9_turn_50 (Nat.le_of_ble_eq_true rfl) rfl ?_
          have K := l2 8 0 (by omega)
          rw [z_cp_0] at K
          exact K
  refine aw_iconst (pc := 5) dX9_turn_5 ?_
  refine aw_istore_n (pc := 6) (lv' := [_, _, _, _, _, _]) dX9_turn_6 (Nat.le_of_ble_eq_true rfl) rfl ?_
  refine aw_aload_n (pc := 7) dX9_turn_7 rfl ?_
  refine aw_getV (pc := 8) (v := (L.length : Int)) dX9_turn_8 k_fl_X9_69 rfl (by omega) (by first | rfl | exact z_shr _ (by omega) | exact z_shc0 (by omega) | exact z_shc1 (by omega) | exact z_shc2 (by omega) | exact z_shc3 (by omega) | exact z_shc4 (by omega)) (eL) ?_
  refine aw_istore_n (pc := 11) (lv' := [_, _, _, _, _, _]) dX9_turn_11 (Nat.le_of_ble_eq_true rfl) rfl ?_
  refine aw_iconst (pc := 12) dX9_turn_12 ?_
  refine aw_istore_n (pc := 13) (lv' := [_, _, _, _, _, _]) dX9_turn_13 (Nat.le_of_ble_eq_true rfl) rfl ?_
  exact loop L.length 0 Ic J _ _ (by omega) ⟨hM1, hm1, hC, eL, hIc.2.2.2.2.2, fun j C hC => (by cases hC), fun j _ hj => hIc.at hj⟩ hfc
