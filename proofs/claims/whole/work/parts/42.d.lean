theorem z_btn (s w : Nat) : ((s / 2 ^ w &&& 1 : Nat) : Int) = z_bt s w := by
  unfold z_bt
  rw [Nat.and_one_is_mod, Nat.testBit_eq_decide_div_mod_eq]
  by_cases h : s / 2 ^ w % 2 = 1
  · rw [h]; simp
  · rw [show s / 2 ^ w % 2 = 0 by omega]; simp
theorem z_mkM_F0 {N R : Nat} {lo hi pt rt : Nat → Int} {F : Nat → Nat → Int} {r n : Nat} (h : N ≤ n) : mF (z_mkM N R lo hi pt F rt) r n = 0 := by
  show z_mk (if r < R then N else 0) (F r) n = 0
  unfold z_mk
  rw [if_neg (by split <;> omega)]
/-- the draft is that cut -/
def z_dC (m : z_MM) (C : z_CC) (f : Nat → Int) (r kd : Int) (s : Nat → Int) : Prop := (∀ n, n < mN m → f n = cF C n) ∧ r = cR C ∧ kd = cK C ∧ cA C = 0 ∧ (cK C = 0 ∨ cK C = 1 → (∀ j, j < mR m → s j = cS C j) ∧ (∀ n, n < mN m → s (10 + n) = cS C (10 + n)) ∧ (∀ n, n < mN m → s (18 + n) = cS C (18 + n)) ∧ s 26 = cS C 26) ∧ (cK C = 2 → s 0 = cS C 0)
theorem z_rf_str {I J : AwI} {C : z_CC} {f s : Nat → Int} {r kd : Int} (h : z_RM I J) (hd : z_dC (z_rfM I J) C f r kd s) : -r * 27720 + z_sum (fun i => f i * J 240 i) (I 237 0).toNat = z_str2 (z_rfM I J) C := by
  unfold z_str2
  rw [hd.2.1, show z_sum (fun n => cF C n * mpt (z_rfM I J) n) (mN (z_rfM I J)) = z_sum (fun i => f i * J 240 i) (I 237 0).toNat from z_sum_c _ (fun k hk => by rw [hd.1 k hk, z_rfM_pt hk])]
  rw [Int.neg_mul]
  omega
theorem z_rf_th {I J : AwI} {L : List z_CC} {C : z_CC} {f s : Nat → Int} {r kd : Int} (h : z_RM I J) (hL : z_rfL I J (z_rfM I J) L) (hd : z_dC (z_rfM I J) C f r kd s) : z_th I J f r ↔ ∃ D ∈ L, z_same (z_rfM I J) D C := by
  have e : ∀ k D, L[k]? = some D → (z_tp I J f r k (I 237 0).toNat ↔ z_same (z_rfM I J) D C) := fun k D hk => by
    obtain ⟨g1, g2, -⟩ := hL.2 k D hk
    unfold z_tp z_same
    rw [g2, hd.2.1]
    refine and_congr_right (fun _ => ⟨fun q n hn => ?_, fun q n hn => ?_⟩)
    · rw [← g1 n hn, ← hd.1 n hn]; exact q n hn
    · rw [g1 n hn, hd.1 n hn]; exact q n hn
  constructor
  · rintro ⟨k, hk, hs⟩
    have hk2 : k < L.length := by have := hL.1; omega
    have hg : L[k]? = some L[k] := List.getElem?_eq_getElem hk2
    exact ⟨L[k], List.getElem_mem hk2, (e k _ hg).mp hs⟩
  · rintro ⟨D, hD, hs⟩
    obtain ⟨k, hk⟩ := List.getElem?_of_mem hD
    have hlt := (List.getElem?_eq_some_iff.mp hk).1
    exact ⟨k, by have := hL.1; omega, (e k D hk).mpr hs⟩
/-- the heap with the draft put behind the cuts -/
theorem z_off {I J : AwI} {L : List z_CC} {t : Int} {C : z_CC} {f s : Nat → Int} {r kd : Int} {c : Nat} (hI : z_RI I J (z_rfM I J) L t) (hc : I 237 7 = (c : Int)) (h40 : c < 40) (hd : z_dC (z_rfM I J) C f r kd s) (hf : ∀ i, i < 8 → -1000 ≤ f i ∧ f i ≤ 1000) (hr : -200000 ≤ r ∧ r ≤ 200000) (hs : ∀ j, j < 27 → -1000 ≤ s j ∧ s j ≤ 1000) (hk : 0 ≤ kd ∧ kd ≤ 3) {I' J' : AwI} (u : Int)
    (hI' : I' = z_up (z_up (z_cp (z_up (z_up (z_dI I s) 245 c kd) 246 c 0) 247 (27 * c) 27 s) 237 7 ((c : Int) + 1)) 237 14 u) (hJ' : J' = z_up (z_cp (z_dJ J f r) 243 (8 * c) 8 f) 244 c r) : z_RI I' J' (z_rfM I J) (L ++ [C]) t := by
  obtain ⟨h1, -, h3, h4, h5, h6⟩ := hI
  have hnm := h1.nm
  have hrw := h1.rw
  have hlen := h5.1
  have a237 : ∀ k, k ≠ 7 → k ≠ 14 → I' 237 k = I 237 k := fun k q1 q2 => by
    rw [hI', z_up_k _ _ q2, z_up_k _ _ q1, z_cp_o (by omega), z_up_a _ _ (by omega), z_up_a _ _ (by omega), z_dI_o (by omega)]
  have a7 : I' 237 7 = (c : Int) + 1 := by rw [hI', z_up_k _ _ (by omega), z_up_s]
  have alow : ∀ a k, 237 < a → a < 245 → I' a k = I a k := fun a k q1 q2 => by
    rw [hI', z_up_a _ _ (by omega), z_up_a _ _ (by omega), z_cp_o (by omega), z_up_a _ _ (by omega), z_up_a _ _ (by omega), z_dI_o (by omega)]
  have a245 : ∀ k, I' 245 k = if k = c then kd else I 245 k := fun k => by
    rw [hI', z_up_a _ _ (by omega), z_up_a _ _ (by omega), z_cp_o (by omega), z_up_a _ _ (by omega)]
    by_cases e : k = c
    · rw [e, z_up_s, if_pos rfl]
    · rw [z_up_k _ _ e, if_neg e, z_dI_o (by omega)]
  have a246 : ∀ k, I' 246 k = if k = c then 0 else I 246 k := fun k => by
    rw [hI', z_up_a _ _ (by omega), z_up_a _ _ (by omega), z_cp_o (by omega)]
    by_cases e : k = c
    · rw [e, z_up_s, if_pos rfl]
    · rw [z_up_k _ _ e, if_neg e, z_up_a _ _ (by omega), z_dI_o (by omega)]
  have a247 : ∀ k, k < 27 * c → I' 247 k = I 247 k := fun k q => by
    rw [hI', z_up_a _ _ (by omega), z_up_a _ _ (by omega), z_cp_o (by omega), z_up_a _ _ (by omega), z_up_a _ _ (by omega), z_dI_o (by omega)]
  have b247 : ∀ k, k < 27 → I' 247 (27 * c + k) = s k := fun k q => by
    rw [hI', z_up_a _ _ (by omega), z_up_a _ _ (by omega), z_cp_in q]
  have c247 : ∀ k, -1000 ≤ I' 247 k ∧ I' 247 k ≤ 1000 := fun k => by
    rw [hI', z_up_a _ _ (by omega), z_up_a _ _ (by omega)]
    refine z_cp_b ?_ hs
    rw [z_up_a _ _ (by omega), z_up_a _ _ (by omega), z_dI_o (by omega)]
    exact h4.s k
  have j240 : ∀ a k, 237 < a → a < 243 → J' a k = J a k := fun a k q1 q2 => by
    rw [hJ', z_up_a _ _ (by omega), z_cp_o (by omega), z_dJ_o (by omega) (by omega)]
  have j243 : ∀ k, k < 8 * c → J' 243 k = J 243 k := fun k q => by
    rw [hJ', z_up_a _ _ (by omega), z_cp_o (by omega), z_dJ_o (by omega) (by omega)]
  have k243 : ∀ k, k < 8 → J' 243 (8 * c + k) = f k := fun k q => by
    rw [hJ', z_up_a _ _ (by omega), z_cp_in q]
  have c243 : ∀ k, -1000 ≤ J' 243 k ∧ J' 243 k ≤ 1000 := fun k => by
    rw [hJ', z_up_a _ _ (by omega)]
    refine z_cp_b ?_ hf
    rw [z_dJ_o (by omega) (by omega)]
    exact h4.f k
  have j244 : ∀ k, J' 244 k = if k = c then r else J 244 k := fun k => by
    rw [hJ']
    by_cases e : k = c
    · rw [e, z_up_s, if_pos rfl]
    · rw [z_up_k _ _ e, if_neg e, z_cp_o (by omega), z_dJ_o (by omega) (by omega)]
  refine ⟨h1.congr (fun a k q => ?_) (fun k => j240 _ _ (by omega) (by omega)), ?_, h3, ⟨c243, fun k => ?_, fun k => ?_, fun k => ?_, c247, by omega⟩, ⟨?_, fun k D hD => ?_⟩, ?_⟩
  · rcases q with q | ⟨rfl, q⟩
    · exact alow a k (by omega) (by omega)
    · exact a237 k (by omega) (by omega)
  · exact z_rfM.congr (fun a k q => by
      rcases q with q | ⟨rfl, q⟩
      · exact alow a k (by omega) (by omega)
      · exact a237 k (by omega) (by omega)) (fun k => j240 _ _ (by omega) (by omega))
  · rw [j244]; have := h4.r k; split <;> omega
  · rw [a245]; have := h4.k k; split <;> omega
  · rw [a246]; have := h4.a k; split <;> omega
  · rw [a7, List.length_append]; show _ = ((L.length + 1 : Nat) : Int); omega
  · by_cases hk2 : k < L.length
    · rw [List.getElem?_append_left hk2] at hD
      obtain ⟨g1, g2, g3, g4, g5, g6⟩ := h5.2 k D hD
      have hmN : mN (z_rfM I J) ≤ 8 := by show (I 237 0).toNat ≤ 8; omega
      have hmR : mR (z_rfM I J) ≤ 10 := by show (I 237 4).toNat ≤ 10; omega
      refine ⟨fun n hn => by rw [j243 _ (by omega)]; exact g1 n hn, by rw [j244, if_neg (by omega)]; exact g2, by rw [a245, if_neg (by omega)]; exact g3, by rw [a246, if_neg (by omega)]; exact g4, fun q => ?_, fun q => by rw [a247 _ (by omega)]; exact g6 q⟩
      obtain ⟨e1, e2, e3, e4⟩ := g5 q
      exact ⟨fun n hn => by rw [a247 _ (by omega)]; exact e1 n hn, fun n hn => by rw [a247 _ (by omega)]; exact e2 n hn, fun n hn => by rw [a247 _ (by omega)]; exact e3 n hn, by rw [a247 _ (by omega)]; exact e4⟩
    · rw [List.getElem?_append_right (by omega)] at hD
      have h0 : k - L.length < 1 := (List.getElem?_eq_some_iff.mp hD).1
      rw [show k - L.length = 0 by omega] at hD
      cases hD
      have ekc : k = c := by omega
      rw [ekc]
      obtain ⟨g1, g2, g3, g4, g5, g6⟩ := hd
      have hmN : mN (z_rfM I J) ≤ 8 := by show (I 237 0).toNat ≤ 8; omega
      have hmR : mR (z_rfM I J) ≤ 10 := by show (I 237 4).toNat ≤ 10; omega
      refine ⟨fun n hn => by rw [k243 _ (by omega)]; exact g1 n hn, by rw [j244, if_pos rfl]; exact g2, by rw [a245, if_pos rfl]; exact g3, by rw [a246, if_pos rfl]; exact g4.symm, fun q => ?_, fun q => by rw [show 27 * c = 27 * c + 0 by omega, b247 _ (by omega)]; exact g6 q⟩
      obtain ⟨e1, e2, e3, e4⟩ := g5 q
      exact ⟨fun n hn => by rw [b247 _ (by omega)]; exact e1 n hn, fun n hn => by rw [b247 _ (by omega)]; exact e2 n hn, fun n hn => by rw [b247 _ (by omega)]; exact e3 n hn, by rw [b247 _ (by omega)]; exact e4⟩
  · rw [a237 13 (by omega) (by omega)]; exact h6
set_option maxHeartbeats 4000000 in
theorem c_X9_offer {π : Nat → Nat} {I J : AwI} {s f : Nat → Int} {r kd : Int} {L : List z_CC} {t : Int} {C : z_CC} (hI : z_RI I J (z_rfM I J) L t) (hd : z_dC (z_rfM I J) C f r kd s) (hf : ∀ i, i < 8 → -1000 ≤ f i ∧ f i ≤ 1000) (hr : -200000 ≤ r ∧ r ≤ 200000) (hs : ∀ j, j < 27 → -1000 ≤ s j ∧ s j ≤ 1000) (hk : 0 ≤ kd ∧ kd ≤ 3) : CT m_X9_offer [zr 237, zi kd] 255 (z_dI I s) (z_dJ J f r) (z_R π) (fun q9 sz' I' J' R' => q9 = none ∧ sz' = 255 ∧ R' = z_R π ∧ z_RI I' J' (z_rfM I J) (z_of (z_rfM I J) (L, t) C).1 (z_of (z_rfM I J) (L, t) C).2 ∧ I' 237 14 = I 237 14 + (((z_of (z_rfM I J) (L, t) C).1.length : Int) - (L.length : Int)) ∧ (∀ a k, (a = 237 → k ≠ 7 ∧ k ≠ 13 ∧ k ≠ 14) → (a < 245 ∨ 247 < a) → I' a k = z_dI I s a k) ∧ ∀ a k, (a < 243 ∨ 244 < a) → J' a k = z_dJ J f r a k) := by
  have hI9 := hI
  obtain ⟨h, -, hlh, hC, hL, ht⟩ := hI
  have hI := hI9
  have hnm := h.nm
  have hrw := h.rw
  have hct := hC.n
  have hlen := hL.1
  have hstr := z_rf_str h hd
  have hth := z_rf_th h hL hd
  have hsb : ∀ x : Nat, x ≤ 8 → -100000000000 ≤ z_sum (fun i => f i * J 240 i) x ∧ z_sum (fun i => f i * J 240 i) x ≤ 100000000000 := fun x hx => by
    have a := z_sum_b (f := fun i => f i * J 240 i) 11088000000 x (fun k hk => by have := z_mulb (a := f k) (b := J 240 k) (A := 1000) (B := 11088000) (hf k (by omega)) (h.pt k); omega)
    have : (x : Int) * 11088000000 ≤ 8 * 11088000000 := Int.mul_le_mul_of_nonneg_right (by omega) (by omega)
    omega
  refine CT.of (by decide) (Nat.le_of_ble_eq_true rfl) ?_
  show AW _ 0 0 _ 0 [some (zr 237), some (zi kd), none, none, none] [] _ _ _
  have main : ∀ (su : Int), ¬ (z_str2 (z_rfM I J) C ≤ 0 ∨ ∃ D ∈ L, z_same (z_rfM I J) D C) → I 237 7 < 40 → ∀ v, AW (FM m_X9_offer (fun q9 sz' I' J' R' => q9 = none ∧ sz' = 255 ∧ R' = z_R π ∧ z_RI I' J' (z_rfM I J) (z_of (z_rfM I J) (L, t) C).1 (z_of (z_rfM I J) (L, t) C).2 ∧ I' 237 14 = I 237 14 + (((z_of (z_rfM I J) (L, t) C).1.length : Int) - (L.length : Int)) ∧ (∀ a k, (a = 237 → k ≠ 7 ∧ k ≠ 13 ∧ k ≠ 14) → (a < 245 ∨ 247 < a) → I' a k = z_dI I s a k) ∧ ∀ a k, (a < 243 ∨ 244 < a) → J' a k = z_dJ J f r a k)) 0 0 255 75 [some (zr 237), some (zi kd), some (zl su), none, v] [] (z_dI I s) (z_dJ J f r) (z_R π) := by
    intro su hno h40 v
    have loop2 : ∀ (k : Nat) (x : Nat), (x : Int) + k = 27 → AW (FM m_X9_offer (fun q9 sz' I' J' R' => q9 = none ∧ sz' = 255 ∧ R' = z_R π ∧ z_RI I' J' (z_rfM I J) (z_of (z_rfM I J) (L, t) C).1 (z_of (z_rfM I J) (L, t) C).2 ∧ I' 237 14 = I 237 14 + (((z_of (z_rfM I J) (L, t) C).1.length : Int) - (L.length : Int)) ∧ (∀ a k, (a = 237 → k ≠ 7 ∧ k ≠ 13 ∧ k ≠ 14) → (a < 245 ∨ 247 < a) → I' a k = z_dI I s a k) ∧ ∀ a k, (a < 243 ∨ 244 < a) → J' a k = z_dJ J f r a k)) 0 0 255 149 [some (zr 237), some (zi kd), some (zl su), none, some (zi (x : Int))] [] (z_cp (z_up (z_up (z_dI I s) 245 (I 237 7).toNat kd) 246 (I 237 7).toNat 0) 247 (27 * (I 237 7).toNat) x s) (z_up (z_cp (z_dJ J f r) 243 (8 * (I 237 7).toNat) 8 f) 244 (I 237 7).toNat r) (z_R π) := by
      intro k
      induction k with
      | zero =>
        intro x he
        refine aw_iload (pc := 149) dX9_offer_149 rfl ?_
        refine aw_bipush (pc := 151) dX9_offer_151 rfl ?_
        refine aw_icmp_ge (pc := 153) (tgt := 184) dX9_offer_153 rfl (by first | omega | exact z_bl_r _) (by first | omega | exact z_bl_r _) (fun h153 => ?_) (fun h153 => absurd h153 (by omega))
        rw [show x = 27 by omega]
        refine aw_aload_n (pc := 184) dX9_offer_184 rfl ?_
        refine aw_dup (pc := 185) dX9_offer_185 (fun _ h => by cases h) ?_
        refine aw_getV (pc := 186) (v := I 237 7) dX9_offer_186 k_fl_X9_69 rfl (by omega) (by first | rfl | exact z_shr _ (by omega) | exact z_shc0 (by omega) | exact z_shc1 (by omega) | exact z_shc2 (by omega) | exact z_shc3 (by omega) | exact z_shc4 (by omega)) (by rw [z_cp_o (by omega), z_up_a _ _ (by omega), z_up_a _ _ (by omega)]; exact z_dI_o (by omega)) ?_
        refine aw_iconst (pc := 189) dX9_offer_189 ?_
        refine aw_iadd (pc := 190) dX9_offer_190 ?_
        refine aw_putI (pc := 191) dX9_offer_191 k_fl_X9_69 rfl (by omega) (by first | rfl | exact z_shr _ (by omega) | exact z_shc0 (by omega) | exact z_shc1 (by omega) | exact z_shc2 (by omega) | exact z_shc3 (by omega) | exact z_shc4 (by omega)) ?_
        refine aw_aload_n (pc := 194) dX9_offer_194 rfl ?_
        refine aw_dup (pc := 195) dX9_offer_195 (fun _ h => by cases h) ?_
        refine aw_getV (pc := 196) (v := I 237 14) dX9_offer_196 k_fl_X9_92 rfl (by omega) (by first | rfl | exact z_shr _ (by omega) | exact z_shc0 (by omega) | exact z_shc1 (by omega) | exact z_shc2 (by omega) | exact z_shc3 (by omega) | exact z_shc4 (by omega)) (by rw [z_up_k _ _ (by omega), z_cp_o (by omega), z_up_a _ _ (by omega), z_up_a _ _ (by omega)]; exact z_dI_o (by omega)) ?_
        refine aw_iconst (pc := 199) dX9_offer_199 ?_
        refine aw_iadd (pc := 200) dX9_offer_200 ?_
        refine aw_putI (pc := 201) dX9_offer_201 k_fl_X9_92 rfl (by omega) (by first | rfl | exact z_shr _ (by omega) | exact z_shc0 (by omega) | exact z_shc1 (by omega) | exact z_shc2 (by omega) | exact z_shc3 (by omega) | exact z_shc4 (by omega)) ?_
        refine aw_return (pc := 204) dX9_offer_204 rfl ⟨Nat.zero_le _, Nat.zero_le _⟩ ?_
        have e7 : I 237 7 = (((I 237 7).toNat : Nat) : Int) := by omega
        have eof : (z_of (z_rfM I J) (L, t) C) = (L ++ [C], t) := by unfold z_of; rw [z_if_f hno, if_neg (show ¬ 40 ≤ L.length by omega)]
        rw [eof]
        refine ⟨rfl, rfl, rfl, z_off hI e7 (by omega) hd hf hr hs hk _ (by rw [← e7]) rfl, ?_, fun a k q1 q2 => ?_, fun a k q => ?_⟩
        · rw [z_up_s, List.length_append]
          show _ = I 237 14 + (((L.length + 1 : Nat) : Int) - _)
          omega
        · have : ∀ b, b < 245 ∨ 247 < b → (b = 237 → k ≠ 7 ∧ k ≠ 14) → z_up (z_up (z_cp (z_up (z_up (z_dI I s) 245 (I 237 7).toNat kd) 246 (I 237 7).toNat 0) 247 (27 * (I 237 7).toNat) 27 s) 237 7 (I 237 7 + 1)) 237 14 (I 237 14 + 1) b k = z_dI I s b k := fun b p1 p2 => by
            show (if b = 237 ∧ k = 14 then _ else _) = _
            rw [if_neg (by omega)]
            show (if b = 237 ∧ k = 7 then _ else _) = _
            rw [if_neg (by omega), z_cp_o (by omega), z_up_a _ _ (by omega), z_up_a _ _ (by omega)]
          exact this a q2 (by omega)
        · rw [z_up_a _ _ (by omega), z_cp_o (by omega)]
      | succ k ih =>
        intro x he
        refine aw_iload (pc := 149) dX9_offer_149 rfl ?_
        refine aw_bipush (pc := 151) dX9_offer_151 rfl ?_
        refine aw_icmp_ge (pc := 153) (tgt := 184) dX9_offer_153 rfl (by first | omega | exact z_bl_r _) (by first | omega | exact z_bl_r _) (fun h153 => absurd h153 (by omega)) (fun h153 => ?_)
        refine aw_aload_n (pc := 156) dX9_offer_156 rfl ?_
        refine aw_getR (pc := 157) dX9_offer_157 k_fl_X9_38 rfl (by omega) (by first | rfl | exact z_shr _ (by omega) | exact z_shc0 (by omega) | exact z_shc1 (by omega) | exact z_shc2 (by omega) | exact z_shc3 (by omega) | exact z_shc4 (by omega)) (by first | rfl | exact z_Rc0 _ (by omega) | exact z_Rc1 _ (by omega) | exact z_Rc2 _ (by omega) | exact z_Rc3 _ (by omega)) ?_
        refine aw_bipush (pc := 160) dX9_offer_160 rfl ?_
        refine aw_aload_n (pc := 162) dX9_offer_162 rfl ?_
        refine aw_getV (pc := 163) (v := I 237 7) dX9_offer_163 k_fl_X9_69 rfl (by omega) (by first | rfl | exact z_shr _ (by omega) | exact z_shc0 (by omega) | exact z_shc1 (by omega) | exact z_shc2 (by omega) | exact z_shc3 (by omega) | exact z_shc4 (by omega)) (by rw [z_cp_o (by omega), z_up_a _ _ (by omega), z_up_a _ _ (by omega)]; exact z_dI_o (by omega)) ?_
        refine aw_imul (pc := 166) dX9_offer_166 ?_
        refine aw_iload (pc := 167) dX9_offer_167 rfl ?_
        refine aw_iadd (pc := 169) dX9_offer_169 ?_
        refine aw_aload_n (pc := 170) dX9_offer_170 rfl ?_
        refine aw_getR (pc := 171) dX9_offer_171 k_fl_X9_48 rfl (by omega) (by first | rfl | exact z_shr _ (by omega) | exact z_shc0 (by omega) | exact z_shc1 (by omega) | exact z_shc2 (by omega) | exact z_shc3 (by omega) | exact z_shc4 (by omega)) (by first | rfl | exact z_Rc0 _ (by omega) | exact z_Rc1 _ (by omega) | exact z_Rc2 _ (by omega) | exact z_Rc3 _ (by omega)) ?_
        refine aw_iload (pc := 174) dX9_offer_174 rfl ?_
        refine aw_ialoadV (pc := 176) (v := s x) dX9_offer_176 (by omega) (Nat.le_refl _) (by first | rfl | exact z_shr _ (by omega) | exact z_shc0 (by omega) | exact z_shc1 (by omega) | exact z_shc2 (by omega) | exact z_shc3 (by omega) | exact z_shc4 (by omega)) (by first | omega | exact z_bl_r _) (by rw [z_cp_o (by omega), z_up_a _ _ (by omega), z_up_a _ _ (by omega)]; exact z_dI_s x) ?_
        refine aw_iastore (pc := 177) dX9_offer_177 (by omega) (Nat.le_refl _) (by first | rfl | exact z_shr _ (by omega) | exact z_shc0 (by omega) | exact z_shc1 (by omega) | exact z_shc2 (by omega) | exact z_shc3 (by omega) | exact z_shc4 (by omega)) (by omega) ?_
        rw [show ((27 : Int) * I 237 7 + (x : Int)).toNat = 27 * (I 237 7).toNat + x by omega, z_cp_s]
        refine aw_iinc (pc := 178) (lv' := [_, _, _, _, _]) dX9_offer_178 (Nat.le_of_ble_eq_true rfl) rfl rfl ?_
        refine aw_goto (pc := 181) (tgt := 149) dX9_offer_181 rfl ?_
        have K := ih (x + 1) (by omega)
        exact K
    have loop1 : ∀ (k : Nat) (x : Nat), (x : Int) + k = 8 → AW (FM m_X9_offer (fun q9 sz' I' J' R' => q9 = none ∧ sz' = 255 ∧ R' = z_R π ∧ z_RI I' J' (z_rfM I J) (z_of (z_rfM I J) (L, t) C).1 (z_of (z_rfM I J) (L, t) C).2 ∧ I' 237 14 = I 237 14 + (((z_of (z_rfM I J) (L, t) C).1.length : Int) - (L.length : Int)) ∧ (∀ a k, (a = 237 → k ≠ 7 ∧ k ≠ 13 ∧ k ≠ 14) → (a < 245 ∨ 247 < a) → I' a k = z_dI I s a k) ∧ ∀ a k, (a < 243 ∨ 244 < a) → J' a k = z_dJ J f r a k)) 0 0 255 78 [some (zr 237), some (zi kd), some (zl su), none, some (zi (x : Int))] [] (z_dI I s) (z_cp (z_dJ J f r) 243 (8 * (I 237 7).toNat) x f) (z_R π) := by
      intro k
      induction k with
      | zero =>
        intro x he
        refine aw_iload (pc := 78) dX9_offer_78 rfl ?_
        refine aw_bipush (pc := 80) dX9_offer_80 rfl ?_
        refine aw_icmp_ge (pc := 82) (tgt := 113) dX9_offer_82 rfl (by first | omega | exact z_bl_r _) (by first | omega | exact z_bl_r _) (fun h82 => ?_) (fun h82 => absurd h82 (by omega))
        rw [show x = 8 by omega]
        refine aw_aload_n (pc := 113) dX9_offer_113 rfl ?_
        refine aw_getR (pc := 114) dX9_offer_114 k_fl_X9_29 rfl (by omega) (by first | rfl | exact z_shr _ (by omega) | exact z_shc0 (by omega) | exact z_shc1 (by omega) | exact z_shc2 (by omega) | exact z_shc3 (by omega) | exact z_shc4 (by omega)) (by first | rfl | exact z_Rc0 _ (by omega) | exact z_Rc1 _ (by omega) | exact z_Rc2 _ (by omega) | exact z_Rc3 _ (by omega)) ?_
        refine aw_aload_n (pc := 117) dX9_offer_117 rfl ?_
        refine aw_getV (pc := 118) (v := I 237 7) dX9_offer_118 k_fl_X9_69 rfl (by omega) (by first | rfl | exact z_shr _ (by omega) | exact z_shc0 (by omega) | exact z_shc1 (by omega) | exact z_shc2 (by omega) | exact z_shc3 (by omega) | exact z_shc4 (by omega)) (z_dI_o (by omega)) ?_
        refine aw_aload_n (pc := 121) dX9_offer_121 rfl ?_
        refine aw_getW (pc := 122) (v := r) dX9_offer_122 k_fl_X9_84 rfl (by omega) (by first | rfl | exact z_shr _ (by omega) | exact z_shc0 (by omega) | exact z_shc1 (by omega) | exact z_shc2 (by omega) | exact z_shc3 (by omega) | exact z_shc4 (by omega)) (by rw [z_cp_o (by omega)]; exact z_dJ_r) ?_
        refine aw_lastore (pc := 125) dX9_offer_125 (by omega) (Nat.le_refl _) (by first | rfl | exact z_shr _ (by omega) | exact z_shc0 (by omega) | exact z_shc1 (by omega) | exact z_shc2 (by omega) | exact z_shc3 (by omega) | exact z_shc4 (by omega)) (by first | omega | exact z_bl_r _) ?_
        refine aw_aload_n (pc := 126) dX9_offer_126 rfl ?_
        refine aw_getR (pc := 127) dX9_offer_127 k_fl_X9_32 rfl (by omega) (by first | rfl | exact z_shr _ (by omega) | exact z_shc0 (by omega) | exact z_shc1 (by omega) | exact z_shc2 (by omega) | exact z_shc3 (by omega) | exact z_shc4 (by omega)) (by first | rfl | exact z_Rc0 _ (by omega) | exact z_Rc1 _ (by omega) | exact z_Rc2 _ (by omega) | exact z_Rc3 _ (by omega)) ?_
        refine aw_aload_n (pc := 130) dX9_offer_130 rfl ?_
        refine aw_getV (pc := 131) (v := I 237 7) dX9_offer_131 k_fl_X9_69 rfl (by omega) (by first | rfl | exact z_shr _ (by omega) | exact z_shc0 (by omega) | exact z_shc1 (by omega) | exact z_shc2 (by omega) | exact z_shc3 (by omega) | exact z_shc4 (by omega)) (z_dI_o (by omega)) ?_
        refine aw_iload_n (pc := 134) dX9_offer_134 rfl ?_
        refine aw_iastore (pc := 135) dX9_offer_135 (by omega) (Nat.le_refl _) (by first | rfl | exact z_shr _ (by omega) | exact z_shc0 (by omega) | exact z_shc1 (by omega) | exact z_shc2 (by omega) | exact z_shc3 (by omega) | exact z_shc4 (by omega)) (by first | omega | exact z_bl_r _) ?_
        refine aw_aload_n (pc := 136) dX9_offer_136 rfl ?_
        refine aw_getR (pc := 137) dX9_offer_137 k_fl_X9_35 rfl (by omega) (by first | rfl | exact z_shr _ (by omega) | exact z_shc0 (by omega) | exact z_shc1 (by omega) | exact z_shc2 (by omega) | exact z_shc3 (by omega) | exact z_shc4 (by omega)) (by first | rfl | exact z_Rc0 _ (by omega) | exact z_Rc1 _ (by omega) | exact z_Rc2 _ (by omega) | exact z_Rc3 _ (by omega)) ?_
        refine aw_aload_n (pc := 140) dX9_offer_140 rfl ?_
        refine aw_getV (pc := 141) (v := I 237 7) dX9_offer_141 k_fl_X9_69 rfl (by omega) (by first | rfl | exact z_shr _ (by omega) | exact z_shc0 (by omega) | exact z_shc1 (by omega) | exact z_shc2 (by omega) | exact z_shc3 (by omega) | exact z_shc4 (by omega)) (by rw [z_up_a _ _ (by omega)]; exact z_dI_o (by omega)) ?_
        refine aw_iconst (pc := 144) dX9_offer_144 ?_
        refine aw_iastore (pc := 145) dX9_offer_145 (by omega) (Nat.le_refl _) (by first | rfl | exact z_shr _ (by omega) | exact z_shc0 (by omega) | exact z_shc1 (by omega) | exact z_shc2 (by omega) | exact z_shc3 (by omega) | exact z_shc4 (by omega)) (by first | omega | exact z_bl_r _) ?_
        refine aw_iconst (pc := 146) dX9_offer_146 ?_
        refine aw_istore (pc := 147) (lv' := [_, _, _, _, _]) dX9_offer_147 (Nat.le_of_ble_eq_true rfl) rfl ?_
        have K := loop2 27 0 (by omega)
        rw [z_cp_0] at K
        exact K
      | succ k ih =>
        intro x he
        refine aw_iload (pc := 78) dX9_offer_78 rfl ?_
        refine aw_bipush (pc := 80) dX9_offer_80 rfl ?_
        refine aw_icmp_ge (pc := 82) (tgt := 113) dX9_offer_82 rfl (by first | omega | exact z_bl_r _) (by first | omega | exact z_bl_r _) (fun h82 => absurd h82 (by omega)) (fun h82 => ?_)
        refine aw_aload_n (pc := 85) dX9_offer_85 rfl ?_
        refine aw_getR (pc := 86) dX9_offer_86 k_fl_X9_26 rfl (by omega) (by first | rfl | exact z_shr _ (by omega) | exact z_shc0 (by omega) | exact z_shc1 (by omega) | exact z_shc2 (by omega) | exact z_shc3 (by omega) | exact z_shc4 (by omega)) (by first | rfl | exact z_Rc0 _ (by omega) | exact z_Rc1 _ (by omega) | exact z_Rc2 _ (by omega) | exact z_Rc3 _ (by omega)) ?_
        refine aw_bipush (pc := 89) dX9_offer_89 rfl ?_
        refine aw_aload_n (pc := 91) dX9_offer_91 rfl ?_
        refine aw_getV (pc := 92) (v := I 237 7) dX9_offer_92 k_fl_X9_69 rfl (by omega) (by first | rfl | exact z_shr _ (by omega) | exact z_shc0 (by omega) | exact z_shc1 (by omega) | exact z_shc2 (by omega) | exact z_shc3 (by omega) | exact z_shc4 (by omega)) (z_dI_o (by omega)) ?_
        refine aw_imul (pc := 95) dX9_offer_95 ?_
        refine aw_iload (pc := 96) dX9_offer_96 rfl ?_
        refine aw_iadd (pc := 98) dX9_offer_98 ?_
        refine aw_aload_n (pc := 99) dX9_offer_99 rfl ?_
        refine aw_getR (pc := 100) dX9_offer_100 k_fl_X9_45 rfl (by omega) (by first | rfl | exact z_shr _ (by omega) | exact z_shc0 (by omega) | exact z_shc1 (by omega) | exact z_shc2 (by omega) | exact z_shc3 (by omega) | exact z_shc4 (by omega)) (by first | rfl | exact z_Rc0 _ (by omega) | exact z_Rc1 _ (by omega) | exact z_Rc2 _ (by omega) | exact z_Rc3 _ (by omega)) ?_
        refine aw_iload (pc := 103) dX9_offer_103 rfl ?_
        refine aw_laloadV (pc := 105) (v := f x) dX9_offer_105 (by omega) (Nat.le_refl _) (by first | rfl | exact z_shr _ (by omega) | exact z_shc0 (by omega) | exact z_shc1 (by omega) | exact z_shc2 (by omega) | exact z_shc3 (by omega) | exact z_shc4 (by omega)) (by first | omega | exact z_bl_r _) (by rw [z_cp_o (by omega)]; exact z_dJ_f x) ?_
        refine aw_lastore (pc := 106) dX9_offer_106 (by omega) (Nat.le_refl _) (by first | rfl | exact z_shr _ (by omega) | exact z_shc0 (by omega) | exact z_shc1 (by omega) | exact z_shc2 (by omega) | exact z_shc3 (by omega) | exact z_shc4 (by omega)) (by omega) ?_
        rw [show ((8 : Int) * I 237 7 + (x : Int)).toNat = 8 * (I 237 7).toNat + x by omega, z_cp_s]
        refine aw_iinc (pc := 107) (lv' := [_, _, _, _, _]) dX9_offer_107 (Nat.le_of_ble_eq_true rfl) rfl rfl ?_
        refine aw_goto (pc := 110) (tgt := 78) dX9_offer_110 rfl ?_
        have K := ih (x + 1) (by omega)
        exact K
    refine aw_iconst (pc := 75) dX9_offer_75 ?_
    refine aw_istore (pc := 76) (lv' := [_, _, _, _, _]) dX9_offer_76 (Nat.le_of_ble_eq_true rfl) rfl ?_
    have K := loop1 8 0 (by omega)
    rw [z_cp_0] at K
    exact K
  have loop : ∀ (k : Nat) (x : Nat), (x : Int) + k = I 237 0 → AW (FM m_X9_offer (fun q9 sz' I' J' R' => q9 = none ∧ sz' = 255 ∧ R' = z_R π ∧ z_RI I' J' (z_rfM I J) (z_of (z_rfM I J) (L, t) C).1 (z_of (z_rfM I J) (L, t) C).2 ∧ I' 237 14 = I 237 14 + (((z_of (z_rfM I J) (L, t) C).1.length : Int) - (L.length : Int)) ∧ (∀ a k, (a = 237 → k ≠ 7 ∧ k ≠ 13 ∧ k ≠ 14) → (a < 245 ∨ 247 < a) → I' a k = z_dI I s a k) ∧ ∀ a k, (a < 243 ∨ 244 < a) → J' a k = z_dJ J f r a k)) 0 0 255 13 [some (zr 237), some (zi kd), some (zl (-r * 27720 + z_sum (fun i => f i * J 240 i) x)), none, some (zi (x : Int))] [] (z_dI I s) (z_dJ J f r) (z_R π) := by
    intro k
    induction k with
    | zero =>
      intro x he
      refine aw_iload (pc := 13) dX9_offer_13 rfl ?_
      refine aw_aload_n (pc := 15) dX9_offer_15 rfl ?_
      refine aw_getV (pc := 16) (v := I 237 0) dX9_offer_16 k_fl_X9_66 rfl (by omega) (by first | rfl | exact z_shr _ (by omega) | exact z_shc0 (by omega) | exact z_shc1 (by omega) | exact z_shc2 (by omega) | exact z_shc3 (by omega) | exact z_shc4 (by omega)) (z_dI_o (by omega)) ?_
      refine aw_icmp_ge (pc := 19) (tgt := 46) dX9_offer_19 rfl (by first | omega | exact z_bl_r _) (by first | omega | exact z_bl_r _) (fun h19 => ?_) (fun h19 => absurd h19 (by omega))
      rw [show x = (I 237 0).toNat by omega]
      refine aw_lload_n (pc := 46) dX9_offer_46 rfl ?_
      refine aw_lconst (pc := 47) (v := 0) dX9_offer_47 rfl ?_
      refine aw_lcmp_le (pc := 48) (tgt := 59) dX9_offer_48 dX9_offer_49 rfl (by have := hsb (I 237 0).toNat (by omega); omega) (by omega) (fun h48 => ?_) (fun h48 => ?_)
      · refine aw_return (pc := 59) dX9_offer_59 rfl ⟨Nat.zero_le _, Nat.zero_le _⟩ ?_
        have hyes : z_str2 (z_rfM I J) C ≤ 0 ∨ ∃ D ∈ L, z_same (z_rfM I J) D C := by first | exact Or.inl (by rw [← hstr]; omega) | exact Or.inr (hth.mp (z_bl_n.mp h56))
        have eof : (z_of (z_rfM I J) (L, t) C) = (L, t) := by unfold z_of; rw [z_if_t hyes]
        rw [eof]
        refine ⟨rfl, rfl, rfl, hI.frame z_Fs.d, ?_, fun a k _ _ => rfl, fun a k _ => rfl⟩
        rw [z_dI_o (by omega)]
        show _ = _ + ((L.length : Int) - (L.length : Int))
        omega
      · refine aw_aload_n (pc := 52) dX9_offer_52 rfl ?_
        refine aw_qV (pc := 53) (d := m_X9_isThere) (c_X9_isThere h hC (fun i hi => by have := hf i hi; omega) (by omega)) k_X9_isThere dX9_offer_53 k_ml_X9_88 rfl ⟨rfl, rfl⟩ (by omega) (by first | rfl | exact z_shr _ (by omega) | exact z_shc0 (by omega) | exact z_shc1 (by omega) | exact z_shc2 (by omega) | exact z_shc3 (by omega) | exact z_shc4 (by omega)) rfl ⟨Nat.le_of_ble_eq_true rfl, Nat.le_of_ble_eq_true rfl⟩ ⟨Nat.zero_le _, Nat.zero_le _⟩ rfl (Nat.le_of_ble_eq_true rfl) (z_Pk ?_)
        refine aw_if_eq (pc := 56) (tgt := 60) dX9_offer_56 rfl (z_bl_r _) (fun h56 => ?_) (fun h56 => ?_)
        · refine aw_aload_n (pc := 60) dX9_offer_60 rfl ?_
          refine aw_getV (pc := 61) (v := I 237 7) dX9_offer_61 k_fl_X9_69 rfl (by omega) (by first | rfl | exact z_shr _ (by omega) | exact z_shc0 (by omega) | exact z_shc1 (by omega) | exact z_shc2 (by omega) | exact z_shc3 (by omega) | exact z_shc4 (by omega)) (z_dI_o (by omega)) ?_
          refine aw_bipush (pc := 64) dX9_offer_64 rfl ?_
          refine aw_icmp_ne (pc := 66) (tgt := 75) dX9_offer_66 rfl (by first | omega | exact z_bl_r _) (by first | omega | exact z_bl_r _) (fun h66 => ?_) (fun h66 => ?_)
          · exact main _ (fun q => by rcases q with q | q; (rw [← hstr] at q; omega); (exact z_bl_0.mp h56 (hth.mpr q))) (by omega) _
          · refine aw_aload_n (pc := 69) dX9_offer_69 rfl ?_
            refine aw_iconst (pc := 70) dX9_offer_70 ?_
            refine aw_putI (pc := 71) dX9_offer_71 k_fl_X9_41 rfl (by omega) (by first | rfl | exact z_shr _ (by omega) | exact z_shc0 (by omega) | exact z_shc1 (by omega) | exact z_shc2 (by omega) | exact z_shc3 (by omega) | exact z_shc4 (by omega)) ?_
            refine aw_return (pc := 74) dX9_offer_74 rfl ⟨Nat.zero_le _, Nat.zero_le _⟩ ?_
            have hno : ¬ (z_str2 (z_rfM I J) C ≤ 0 ∨ ∃ D ∈ L, z_same (z_rfM I J) D C) := fun q => by rcases q with q | q; (rw [← hstr] at q; omega); (exact z_bl_0.mp h56 (hth.mpr q))
            have eof : (z_of (z_rfM I J) (L, t) C) = (L, 0) := by unfold z_of; rw [z_if_f hno, if_pos (show 40 ≤ L.length by omega)]
            rw [eof]
            have hF := hI.frame (z_Fs.d (s := s) (f := f) (r := r))
            obtain ⟨k1, k2, k3, k4, k5, k6⟩ := hF
            have hz : ∀ a k, (a ≠ 237 ∨ k ≠ 13) → z_up (z_dI I s) 237 13 0 a k = z_dI I s a k := fun a k q => by show (if a = 237 ∧ k = 13 then _ else _) = _; rw [if_neg (by omega)]
            refine ⟨rfl, rfl, rfl, ⟨k1.congr (fun a k q => hz a k (by omega)) (fun _ => rfl), (z_rfM.congr (fun a k q => hz a k (by omega)) (fun _ => rfl)).trans k2, k3, ⟨k4.f, k4.r, fun j => by rw [hz _ _ (by omega)]; exact k4.k j, fun j => by rw [hz _ _ (by omega)]; exact k4.a j, fun j => by rw [hz _ _ (by omega)]; exact k4.s j, by rw [hz _ _ (by omega)]; exact k4.n⟩, ⟨by rw [hz _ _ (by omega)]; exact k5.1, fun k D hD => (k5.2 k D hD).congr (fun a j q => hz a j (by omega)) (fun _ _ _ => rfl)⟩, z_up_s _ _ _ _⟩, ?_, fun a k q1 q2 => hz a k (by omega), fun a k _ => rfl⟩
            rw [hz _ _ (by omega), z_dI_o (by omega)]
            show _ = _ + ((L.length : Int) - (L.length : Int))
            omega
        · refine aw_return (pc := 59) dX9_offer_59 rfl ⟨Nat.zero_le _, Nat.zero_le _⟩ ?_
          have hyes : z_str2 (z_rfM I J) C ≤ 0 ∨ ∃ D ∈ L, z_same (z_rfM I J) D C := by first | exact Or.inl (by rw [← hstr]; omega) | exact Or.inr (hth.mp (z_bl_n.mp h56))
          have eof : (z_of (z_rfM I J) (L, t) C) = (L, t) := by unfold z_of; rw [z_if_t hyes]
          rw [eof]
          refine ⟨rfl, rfl, rfl, hI.frame z_Fs.d, ?_, fun a k _ _ => rfl, fun a k _ => rfl⟩
          rw [z_dI_o (by omega)]
          show _ = _ + ((L.length : Int) - (L.length : Int))
          omega
    | succ k ih =>
      intro x he
      refine aw_iload (pc := 13) dX9_offer_13 rfl ?_
      refine aw_aload_n (pc := 15) dX9_offer_15 rfl ?_
      refine aw_getV (pc := 16) (v := I 237 0) dX9_offer_16 k_fl_X9_66 rfl (by omega) (by first | rfl | exact z_shr _ (by omega) | exact z_shc0 (by omega) | exact z_shc1 (by omega) | exact z_shc2 (by omega) | exact z_shc3 (by omega) | exact z_shc4 (by omega)) (z_dI_o (by omega)) ?_
      refine aw_icmp_ge (pc := 19) (tgt := 46) dX9_offer_19 rfl (by first | omega | exact z_bl_r _) (by first | omega | exact z_bl_r _) (fun h19 => absurd h19 (by omega)) (fun h19 => ?_)
      refine aw_lload_n (pc := 22) dX9_offer_22 rfl ?_
      refine aw_aload_n (pc := 23) dX9_offer_23 rfl ?_
      refine aw_getR (pc := 24) dX9_offer_24 k_fl_X9_45 rfl (by omega) (by first | rfl | exact z_shr _ (by omega) | exact z_shc0 (by omega) | exact z_shc1 (by omega) | exact z_shc2 (by omega) | exact z_shc3 (by omega) | exact z_shc4 (by omega)) (by first | rfl | exact z_Rc0 _ (by omega) | exact z_Rc1 _ (by omega) | exact z_Rc2 _ (by omega) | exact z_Rc3 _ (by omega)) ?_
      refine aw_iload (pc := 27) dX9_offer_27 rfl ?_
      refine aw_laloadV (pc := 29) (v := f x) dX9_offer_29 (by omega) (Nat.le_refl _) (by first | rfl | exact z_shr _ (by omega) | exact z_shc0 (by omega) | exact z_shc1 (by omega) | exact z_shc2 (by omega) | exact z_shc3 (by omega) | exact z_shc4 (by omega)) (by first | omega | exact z_bl_r _) (z_dJ_f x) ?_
      refine aw_aload_n (pc := 30) dX9_offer_30 rfl ?_
      refine aw_getR (pc := 31) dX9_offer_31 k_fl_X9_16 rfl (by omega) (by first | rfl | exact z_shr _ (by omega) | exact z_shc0 (by omega) | exact z_shc1 (by omega) | exact z_shc2 (by omega) | exact z_shc3 (by omega) | exact z_shc4 (by omega)) (by first | rfl | exact z_Rc0 _ (by omega) | exact z_Rc1 _ (by omega) | exact z_Rc2 _ (by omega) | exact z_Rc3 _ (by omega)) ?_
      refine aw_iload (pc := 34) dX9_offer_34 rfl ?_
      refine aw_laloadV (pc := 36) (v := J 240 x) dX9_offer_36 (by omega) (Nat.le_refl _) (by first | rfl | exact z_shr _ (by omega) | exact z_shc0 (by omega) | exact z_shc1 (by omega) | exact z_shc2 (by omega) | exact z_shc3 (by omega) | exact z_shc4 (by omega)) (by first | omega | exact z_bl_r _) (z_dJ_o (by omega) (by omega)) ?_
      refine aw_lmul (pc := 37) dX9_offer_37 ?_
      refine aw_ladd (pc := 38) dX9_offer_38 ?_
      refine aw_lstore_n (pc := 39) (lv' := [_, _, _, _, _]) dX9_offer_39 (Nat.le_of_ble_eq_true rfl) rfl ?_
      refine aw_iinc (pc := 40) (lv' := [_, _, _, _, _]) dX9_offer_40 (Nat.le_of_ble_eq_true rfl) rfl rfl ?_
      refine aw_goto (pc := 43) (tgt := 13) dX9_offer_43 rfl ?_
      have K := ih (x + 1) (by omega)
      rw [show -r * 27720 + z_sum (fun i => f i * J 240 i) (x + 1) = -r * 27720 + z_sum (fun i => f i * J 240 i) x + f x * J 240 x from (Int.add_assoc _ _ _).symm] at K
      exact K
  refine aw_aload_n (pc := 0) dX9_offer_0 rfl ?_
  refine aw_getW (pc := 1) (v := r) dX9_offer_1 k_fl_X9_84 rfl (by omega) (by first | rfl | exact z_shr _ (by omega) | exact z_shc0 (by omega) | exact z_shc1 (by omega) | exact z_shc2 (by omega) | exact z_shc3 (by omega) | exact z_shc4 (by omega)) (z_dJ_r) ?_
  refine aw_lneg (pc := 4) dX9_offer_4 ?_
  refine aw_ldc2 (pc := 5) (v := 27720) dX9_offer_5 k_cst_X9_82 ?_
  refine aw_lmul (pc := 8) dX9_offer_8 ?_
  refine aw_lstore_n (pc := 9) (lv' := [_, _, _, _, _]) dX9_offer_9 (Nat.le_of_ble_eq_true rfl) rfl ?_
  refine aw_iconst (pc := 10) dX9_offer_10 ?_
  refine aw_istore (pc := 11) (lv' := [_, _, _, _, _]) dX9_offer_11 (Nat.le_of_ble_eq_true rfl) rfl ?_
  have K := loop (I 237 0).toNat 0 (by omega)
  rw [show -r * 27720 + z_sum (fun i => f i * J 240 i) 0 = -r * 27720 from Int.add_zero _] at K
  exact K
