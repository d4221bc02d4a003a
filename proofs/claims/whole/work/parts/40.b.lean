/-! THE REFERENCE: the same model and cuts in its arrays -/
def z_rfM (I J : AwI) : z_MM := z_mkM (I 237 0).toNat (I 237 4).toNat (I 238) (I 239) (J 240) (fun r n => I 242 (8 * r + n)) (I 241)
def z_rfC (I J : AwI) (k : Nat) (m : z_MM) (C : z_CC) : Prop := (∀ n, n < mN m → J 243 (8 * k + n) = cF C n) ∧ J 244 k = cR C ∧ I 245 k = cK C ∧ I 246 k = cA C ∧ (cK C = 0 ∨ cK C = 1 → (∀ r, r < mR m → I 247 (27 * k + r) = cS C r) ∧ (∀ n, n < mN m → I 247 (27 * k + (10 + n)) = cS C (10 + n)) ∧ (∀ n, n < mN m → I 247 (27 * k + (18 + n)) = cS C (18 + n)) ∧ I 247 (27 * k + 26) = cS C 26) ∧ (cK C = 2 → I 247 (27 * k) = cS C 0)
def z_rfL (I J : AwI) (m : z_MM) (L : List z_CC) : Prop := I 237 7 = L.length ∧ ∀ k C, L[k]? = some C → z_rfC I J k m C
def z_RM (I J : AwI) : Prop := (0 ≤ I 237 0 ∧ I 237 0 ≤ 8) ∧ (0 ≤ I 237 4 ∧ I 237 4 ≤ 10) ∧ (∀ n, -30 ≤ I 238 n ∧ I 238 n ≤ 30) ∧ (∀ n, -30 ≤ I 239 n ∧ I 239 n ≤ 30) ∧ (∀ n, -11088000 ≤ J 240 n ∧ J 240 n ≤ 11088000) ∧ (∀ j, -50 ≤ I 242 j ∧ I 242 j ≤ 50) ∧ (∀ r, -9999 ≤ I 241 r ∧ I 241 r ≤ 9999)
theorem z_RM.nm {I J : AwI} (h : z_RM I J) : 0 ≤ I 237 0 ∧ I 237 0 ≤ 8 := h.1
theorem z_RM.rw {I J : AwI} (h : z_RM I J) : 0 ≤ I 237 4 ∧ I 237 4 ≤ 10 := h.2.1
theorem z_RM.lo {I J : AwI} (h : z_RM I J) (n : Nat) : -30 ≤ I 238 n ∧ I 238 n ≤ 30 := h.2.2.1 n
theorem z_RM.hi {I J : AwI} (h : z_RM I J) (n : Nat) : -30 ≤ I 239 n ∧ I 239 n ≤ 30 := h.2.2.2.1 n
theorem z_RM.pt {I J : AwI} (h : z_RM I J) (n : Nat) : -11088000 ≤ J 240 n ∧ J 240 n ≤ 11088000 := h.2.2.2.2.1 n
theorem z_RM.fc {I J : AwI} (h : z_RM I J) (j : Nat) : -50 ≤ I 242 j ∧ I 242 j ≤ 50 := h.2.2.2.2.2.1 j
theorem z_RM.rt {I J : AwI} (h : z_RM I J) (r : Nat) : -9999 ≤ I 241 r ∧ I 241 r ≤ 9999 := h.2.2.2.2.2.2 r
def z_RC (I J : AwI) : Prop := (∀ j, -1000 ≤ J 243 j ∧ J 243 j ≤ 1000) ∧ (∀ k, -200000 ≤ J 244 k ∧ J 244 k ≤ 200000) ∧ (∀ k, 0 ≤ I 245 k ∧ I 245 k ≤ 3) ∧ (∀ k, 0 ≤ I 246 k ∧ I 246 k ≤ 3) ∧ (∀ j, -1000 ≤ I 247 j ∧ I 247 j ≤ 1000) ∧ (0 ≤ I 237 7 ∧ I 237 7 ≤ 40)
theorem z_RC.f {I J : AwI} (h : z_RC I J) (j : Nat) : -1000 ≤ J 243 j ∧ J 243 j ≤ 1000 := h.1 j
theorem z_RC.r {I J : AwI} (h : z_RC I J) (j : Nat) : -200000 ≤ J 244 j ∧ J 244 j ≤ 200000 := h.2.1 j
theorem z_RC.k {I J : AwI} (h : z_RC I J) (j : Nat) : 0 ≤ I 245 j ∧ I 245 j ≤ 3 := h.2.2.1 j
theorem z_RC.a {I J : AwI} (h : z_RC I J) (j : Nat) : 0 ≤ I 246 j ∧ I 246 j ≤ 3 := h.2.2.2.1 j
theorem z_RC.s {I J : AwI} (h : z_RC I J) (j : Nat) : -1000 ≤ I 247 j ∧ I 247 j ≤ 1000 := h.2.2.2.2.1 j
theorem z_RC.n {I J : AwI} (h : z_RC I J) : 0 ≤ I 237 7 ∧ I 237 7 ≤ 40 := h.2.2.2.2.2
def z_RI (I J : AwI) (m : z_MM) (L : List z_CC) (t : Int) : Prop := z_RM I J ∧ z_rfM I J = m ∧ (∀ n, n < mN m → mlo m n ≤ mhi m n) ∧ z_RC I J ∧ z_rfL I J m L ∧ I 237 13 = t
def z_FQ (I J I' J' : AwI) : Prop := (∀ a k, a < 237 ∨ a = 254 → I' a k = I a k) ∧ ∀ a k, a < 237 ∨ a = 254 → J' a k = J a k
theorem z_FQ.rf {I J : AwI} : z_FQ I J I J := ⟨fun _ _ _ => rfl, fun _ _ _ => rfl⟩
theorem z_FQ.tr {I J I' J' I2 J2 : AwI} (h : z_FQ I J I' J') (h2 : z_FQ I' J' I2 J2) : z_FQ I J I2 J2 := ⟨fun a k q => (h2.1 a k q).trans (h.1 a k q), fun a k q => (h2.2 a k q).trans (h.2 a k q)⟩
theorem z_FQ.upI {I J I' J' : AwI} {a k : Nat} {v : Int} (h : z_FQ I J I' J') (ha : 237 ≤ a ∧ a ≠ 254) : z_FQ I J (z_up I' a k v) J' := ⟨fun b j q => by rw [z_up_a _ _ (by omega)]; exact h.1 b j q, h.2⟩
theorem z_FQ.upJ {I J I' J' : AwI} {a k : Nat} {v : Int} (h : z_FQ I J I' J') (ha : 237 ≤ a ∧ a ≠ 254) : z_FQ I J I' (z_up J' a k v) := ⟨h.1, fun b j q => by rw [z_up_a _ _ (by omega)]; exact h.2 b j q⟩
def z_PR (π : Nat → Nat) (r : z_RS) (I J : AwI) : ZQ := fun q sz I' J' R' => q = some (zi r.1) ∧ sz = 255 ∧ R' = z_R π ∧ z_RI I' J' r.2.1 r.2.2.1 r.2.2.2 ∧ z_FQ I J I' J'
theorem z_PRr {r : z_RS} {v : Int} {m : z_MM} {L : List z_CC} {t : Int} {I J I' J' : AwI} {π : Nat → Nat} (hr : r = (v, m, L, t)) (h : z_RI I' J' m L t) (hf : z_FQ I J I' J') : z_PR π r I J (some (zi v)) 255 I' J' (z_R π) := by
  subst hr
  exact ⟨rfl, rfl, rfl, h, hf⟩
/-- what the state of the reference hangs on -/
def z_Fs (I J I' J' : AwI) : Prop := (∀ a k, (238 ≤ a ∧ a ≤ 247) ∨ (a = 237 ∧ (k = 0 ∨ k = 4 ∨ k = 7 ∨ k = 13)) → I' a k = I a k) ∧ ∀ a k, 240 ≤ a ∧ a ≤ 244 → J' a k = J a k
theorem z_rfC.congr {I J I' J' : AwI} {k : Nat} {m : z_MM} {C : z_CC} (h : z_rfC I J k m C) (hI : ∀ a j, 245 ≤ a ∧ a ≤ 247 → I' a j = I a j) (hJ : ∀ a j, 243 ≤ a ∧ a ≤ 244 → J' a j = J a j) : z_rfC I' J' k m C := by
  obtain ⟨h1, h2, h3, h4, h5, h6⟩ := h
  refine ⟨fun n hn => by rw [hJ _ _ (by omega)]; exact h1 n hn, by rw [hJ _ _ (by omega)]; exact h2, by rw [hI _ _ (by omega)]; exact h3, by rw [hI _ _ (by omega)]; exact h4, fun q => ?_, fun q => by rw [hI _ _ (by omega)]; exact h6 q⟩
  obtain ⟨g1, g2, g3, g4⟩ := h5 q
  exact ⟨fun n hn => by rw [hI _ _ (by omega)]; exact g1 n hn, fun n hn => by rw [hI _ _ (by omega)]; exact g2 n hn, fun n hn => by rw [hI _ _ (by omega)]; exact g3 n hn, by rw [hI _ _ (by omega)]; exact g4⟩
theorem z_RM.congr {I J I' J' : AwI} (h : z_RM I J) (hI : ∀ a k, (238 ≤ a ∧ a ≤ 242) ∨ (a = 237 ∧ (k = 0 ∨ k = 4)) → I' a k = I a k) (hJ : ∀ k, J' 240 k = J 240 k) : z_RM I' J' := by
  refine ⟨?_, ?_, fun n => ?_, fun n => ?_, fun n => ?_, fun n => ?_, fun n => ?_⟩
  · rw [hI _ _ (by omega)]; exact h.nm
  · rw [hI _ _ (by omega)]; exact h.rw
  · rw [hI _ _ (by omega)]; exact h.lo n
  · rw [hI _ _ (by omega)]; exact h.hi n
  · rw [hJ]; exact h.pt n
  · rw [hI _ _ (by omega)]; exact h.fc n
  · rw [hI _ _ (by omega)]; exact h.rt n
theorem z_rfM.congr {I J I' J' : AwI} (hI : ∀ a k, (238 ≤ a ∧ a ≤ 242) ∨ (a = 237 ∧ (k = 0 ∨ k = 4)) → I' a k = I a k) (hJ : ∀ k, J' 240 k = J 240 k) : z_rfM I' J' = z_rfM I J := by
  unfold z_rfM
  rw [hI 237 0 (by omega), hI 237 4 (by omega)]
  exact z_mkM_c (fun n hn => ⟨hI _ _ (by omega), hI _ _ (by omega), hJ _⟩) (fun r n hr hn => hI _ _ (by omega)) (fun r hr => hI _ _ (by omega))
theorem z_RI.frame {I J I' J' : AwI} {m : z_MM} {L : List z_CC} {t : Int} (h : z_RI I J m L t) (hF : z_Fs I J I' J') : z_RI I' J' m L t := by
  obtain ⟨h1, h2, h3, h4, h5, h6⟩ := h
  obtain ⟨hI, hJ⟩ := hF
  refine ⟨h1.congr (fun a k q => hI a k (by omega)) (fun k => hJ _ _ (by omega)), ?_, h3, ⟨fun j => ?_, fun j => ?_, fun j => ?_, fun j => ?_, fun j => ?_, ?_⟩, ⟨?_, fun k C hk => (h5.2 k C hk).congr (fun a j q => hI a j (by omega)) (fun a j q => hJ a j (by omega))⟩, ?_⟩
  · rw [z_rfM.congr (I := I) (J := J) (fun a k q => hI a k (by omega)) (fun k => hJ _ _ (by omega))]; exact h2
  · rw [hJ _ _ (by omega)]; exact h4.f j
  · rw [hJ _ _ (by omega)]; exact h4.r j
  · rw [hI _ _ (by omega)]; exact h4.k j
  · rw [hI _ _ (by omega)]; exact h4.a j
  · rw [hI _ _ (by omega)]; exact h4.s j
  · rw [hI _ _ (by omega)]; exact h4.n
  · rw [hI _ _ (by omega)]; exact h5.1
  · rw [hI _ _ (by omega)]; exact h6
theorem z_Fs.up {I J : AwI} {a k : Nat} {v : Int} (h : a = 237 ∧ k ≠ 0 ∧ k ≠ 4 ∧ k ≠ 7 ∧ k ≠ 13 ∨ 248 ≤ a ∨ a < 237) : z_Fs I J (z_up I a k v) J := ⟨fun b j q => by show (if b = a ∧ j = k then _ else _) = _; rw [if_neg (by omega)], fun _ _ _ => rfl⟩
theorem z_RI.code {I J : AwI} {m : z_MM} {L : List z_CC} {t v : Int} (h : z_RI I J m L t) : z_RI (z_up I 237 15 v) J m L t := h.frame (z_Fs.up (by omega))
theorem z_FQ.code {I J : AwI} {v : Int} : z_FQ I J (z_up I 237 15 v) J := z_FQ.rf.upI (by omega)
/-- the cuts gone -/
theorem z_RI.cut0 {I J I' J' : AwI} {m m' : z_MM} {L : List z_CC} {t : Int} (h : z_RI I J m L t) (hM : z_RM I' J') (hm : z_rfM I' J' = m') (hlh : ∀ n, n < mN m' → mlo m' n ≤ mhi m' n) (h0 : I' 237 7 = 0) (hI : ∀ a k, (243 ≤ a ∧ a ≤ 247) ∨ (a = 237 ∧ k = 13) → I' a k = I a k) (hJ : ∀ a k, 243 ≤ a ∧ a ≤ 244 → J' a k = J a k) : z_RI I' J' m' [] t := by
  obtain ⟨h1, h2, h3, h4, h5, h6⟩ := h
  refine ⟨hM, hm, hlh, ⟨fun j => ?_, fun j => ?_, fun j => ?_, fun j => ?_, fun j => ?_, by omega⟩, ⟨by rw [h0]; rfl, fun k C hk => by cases hk⟩, ?_⟩
  · rw [hJ _ _ (by omega)]; exact h4.f j
  · rw [hJ _ _ (by omega)]; exact h4.r j
  · rw [hI _ _ (by omega)]; exact h4.k j
  · rw [hI _ _ (by omega)]; exact h4.a j
  · rw [hI _ _ (by omega)]; exact h4.s j
  · rw [hI _ _ (by omega)]; exact h6
section RFM
variable {I J : AwI}
theorem z_rfM_lo {n : Nat} (h : n < (I 237 0).toNat) : mlo (z_rfM I J) n = I 238 n := z_mkM_lo h
theorem z_rfM_hi {n : Nat} (h : n < (I 237 0).toNat) : mhi (z_rfM I J) n = I 239 n := z_mkM_hi h
theorem z_rfM_pt {n : Nat} (h : n < (I 237 0).toNat) : mpt (z_rfM I J) n = J 240 n := z_mkM_pt h
theorem z_rfM_rt {r : Nat} (h : r < (I 237 4).toNat) : mrt (z_rfM I J) r = I 241 r := z_mkM_rt h
theorem z_rfM_F {r n : Nat} (hr : r < (I 237 4).toNat) (h : n < (I 237 0).toNat) : mF (z_rfM I J) r n = I 242 (8 * r + n) := z_mkM_F hr h
end RFM
theorem z_mk_b {n : Nat} {f : Nat → Int} {B : Int} (hB : 0 ≤ B) (h : ∀ k, -B ≤ f k ∧ f k ≤ B) (k : Nat) : -B ≤ z_mk n f k ∧ z_mk n f k ≤ B := by
  unfold z_mk
  split
  · exact h k
  · omega
theorem z_rfM_mb {I J : AwI} (h : z_RM I J) : z_mb (z_rfM I J) := by
  have hn := h.nm
  have hr := h.rw
  exact ⟨by show (I 237 0).toNat ≤ 8; omega, by show (I 237 4).toNat ≤ 10; omega, z_mk_b (B := 30) (by omega) h.lo, z_mk_b (B := 30) (by omega) h.hi, fun r => z_mk_b (B := 50) (by omega) (fun n => h.fc _), z_mk_b (B := 9999) (by omega) h.rt⟩
def z_ql (I : AwI) (r n : Nat) : Int := z_le (I 242 (8 * r + n)) (I 238 n) (I 239 n)
theorem z_RM.ql {I J : AwI} (h : z_RM I J) (r n : Nat) : -1500 ≤ z_ql I r n ∧ z_ql I r n ≤ 1500 := z_le_b (h.fc _) (h.lo n) (h.hi n)
set_option maxHeartbeats 4000000 in
theorem c_X9_isName {π : Nat → Nat} {I J : AwI} {x : Int} (hb : 0 ≤ I 237 0 ∧ I 237 0 ≤ 40) (hx : -2147483648 ≤ x ∧ x ≤ 2147483647) : CT m_X9_isName [zr 237, zi x] 255 I J (z_R π) (z_P (some (zi (z_bl (0 ≤ x ∧ x < I 237 0)))) 255 I J (z_R π)) := by
  refine CT.of (by decide) (Nat.le_of_ble_eq_true rfl) ?_
  show AW _ 0 0 _ 0 [some (zr 237), some (zi x)] [] _ _ _
  refine aw_iload_n (pc := 0) dX9_isName_0 rfl ?_
  refine aw_if_lt (pc := 1) (tgt := 16) dX9_isName_1 rfl (by first | omega | exact z_bl_r _) (fun h1 => ?_) (fun h1 => ?_)
  · refine aw_iconst (pc := 16) dX9_isName_16 ?_
    exact aw_zreturn (pc := 17) dX9_isName_17 rfl (by first | exact Or.inl rfl | exact Or.inr rfl | omega) ⟨Nat.zero_le _, Nat.zero_le _⟩ (⟨by first | exact z_r1 (by omega) | exact z_r0 (by omega), rfl, rfl, rfl, rfl⟩)
  · refine aw_iload_n (pc := 4) dX9_isName_4 rfl ?_
    refine aw_aload_n (pc := 5) dX9_isName_5 rfl ?_
    refine aw_getI (pc := 6) dX9_isName_6 k_fl_X9_66 rfl (by omega) (by first | rfl | exact z_shr _ (by omega) | exact z_shc0 (by omega) | exact z_shc1 (by omega) | exact z_shc2 (by omega) | exact z_shc3 (by omega) | exact z_shc4 (by omega)) ?_
    refine aw_icmp_ge (pc := 9) (tgt := 16) dX9_isName_9 rfl (by first | omega | exact z_bl_r _) (by first | omega | exact z_bl_r _) (fun h9 => ?_) (fun h9 => ?_)
    · refine aw_iconst (pc := 16) dX9_isName_16 ?_
      exact aw_zreturn (pc := 17) dX9_isName_17 rfl (by first | exact Or.inl rfl | exact Or.inr rfl | omega) ⟨Nat.zero_le _, Nat.zero_le _⟩ (⟨by first | exact z_r1 (by omega) | exact z_r0 (by omega), rfl, rfl, rfl, rfl⟩)
    · refine aw_iconst (pc := 12) dX9_isName_12 ?_
      refine aw_goto (pc := 13) (tgt := 17) dX9_isName_13 rfl ?_
      exact aw_zreturn (pc := 17) dX9_isName_17 rfl (by first | exact Or.inl rfl | exact Or.inr rfl | omega) ⟨Nat.zero_le _, Nat.zero_le _⟩ (⟨by first | exact z_r1 (by omega) | exact z_r0 (by omega), rfl, rfl, rfl, rfl⟩)
set_option maxHeartbeats 4000000 in
theorem c_X9_isRow {π : Nat → Nat} {I J : AwI} {x : Int} (hb : 0 ≤ I 237 4 ∧ I 237 4 ≤ 40) (hx : -2147483648 ≤ x ∧ x ≤ 2147483647) : CT m_X9_isRow [zr 237, zi x] 255 I J (z_R π) (z_P (some (zi (z_bl (0 ≤ x ∧ x < I 237 4)))) 255 I J (z_R π)) := by
  refine CT.of (by decide) (Nat.le_of_ble_eq_true rfl) ?_
  show AW _ 0 0 _ 0 [some (zr 237), some (zi x)] [] _ _ _
  refine aw_iload_n (pc := 0) dX9_isRow_0 rfl ?_
  refine aw_if_lt (pc := 1) (tgt := 16) dX9_isRow_1 rfl (by first | omega | exact z_bl_r _) (fun h1 => ?_) (fun h1 => ?_)
  · refine aw_iconst (pc := 16) dX9_isRow_16 ?_
    exact aw_zreturn (pc := 17) dX9_isRow_17 rfl (by first | exact Or.inl rfl | exact Or.inr rfl | omega) ⟨Nat.zero_le _, Nat.zero_le _⟩ (⟨by first | exact z_r1 (by omega) | exact z_r0 (by omega), rfl, rfl, rfl, rfl⟩)
  · refine aw_iload_n (pc := 4) dX9_isRow_4 rfl ?_
    refine aw_aload_n (pc := 5) dX9_isRow_5 rfl ?_
    refine aw_getI (pc := 6) dX9_isRow_6 k_fl_X9_72 rfl (by omega) (by first | rfl | exact z_shr _ (by omega) | exact z_shc0 (by omega) | exact z_shc1 (by omega) | exact z_shc2 (by omega) | exact z_shc3 (by omega) | exact z_shc4 (by omega)) ?_
    refine aw_icmp_ge (pc := 9) (tgt := 16) dX9_isRow_9 rfl (by first | omega | exact z_bl_r _) (by first | omega | exact z_bl_r _) (fun h9 => ?_) (fun h9 => ?_)
    · refine aw_iconst (pc := 16) dX9_isRow_16 ?_
      exact aw_zreturn (pc := 17) dX9_isRow_17 rfl (by first | exact Or.inl rfl | exact Or.inr rfl | omega) ⟨Nat.zero_le _, Nat.zero_le _⟩ (⟨by first | exact z_r1 (by omega) | exact z_r0 (by omega), rfl, rfl, rfl, rfl⟩)
    · refine aw_iconst (pc := 12) dX9_isRow_12 ?_
      refine aw_goto (pc := 13) (tgt := 17) dX9_isRow_13 rfl ?_
      exact aw_zreturn (pc := 17) dX9_isRow_17 rfl (by first | exact Or.inl rfl | exact Or.inr rfl | omega) ⟨Nat.zero_le _, Nat.zero_le _⟩ (⟨by first | exact z_r1 (by omega) | exact z_r0 (by omega), rfl, rfl, rfl, rfl⟩)
set_option maxHeartbeats 4000000 in
theorem c_X9_isCut {π : Nat → Nat} {I J : AwI} {x : Int} (hb : 0 ≤ I 237 7 ∧ I 237 7 ≤ 40) (hx : -2147483648 ≤ x ∧ x ≤ 2147483647) : CT m_X9_isCut [zr 237, zi x] 255 I J (z_R π) (z_P (some (zi (z_bl (0 ≤ x ∧ x < I 237 7)))) 255 I J (z_R π)) := by
  refine CT.of (by decide) (Nat.le_of_ble_eq_true rfl) ?_
  show AW _ 0 0 _ 0 [some (zr 237), some (zi x)] [] _ _ _
  refine aw_iload_n (pc := 0) dX9_isCut_0 rfl ?_
  refine aw_if_lt (pc := 1) (tgt := 16) dX9_isCut_1 rfl (by first | omega | exact z_bl_r _) (fun h1 => ?_) (fun h1 => ?_)
  · refine aw_iconst (pc := 16) dX9_isCut_16 ?_
    exact aw_zreturn (pc := 17) dX9_isCut_17 rfl (by first | exact Or.inl rfl | exact Or.inr rfl | omega) ⟨Nat.zero_le _, Nat.zero_le _⟩ (⟨by first | exact z_r1 (by omega) | exact z_r0 (by omega), rfl, rfl, rfl, rfl⟩)
  · refine aw_iload_n (pc := 4) dX9_isCut_4 rfl ?_
    refine aw_aload_n (pc := 5) dX9_isCut_5 rfl ?_
    refine aw_getI (pc := 6) dX9_isCut_6 k_fl_X9_69 rfl (by omega) (by first | rfl | exact z_shr _ (by omega) | exact z_shc0 (by omega) | exact z_shc1 (by omega) | exact z_shc2 (by omega) | exact z_shc3 (by omega) | exact z_shc4 (by omega)) ?_
    refine aw_icmp_ge (pc := 9) (tgt := 16) dX9_isCut_9 rfl (by first | omega | exact z_bl_r _) (by first | omega | exact z_bl_r _) (fun h9 => ?_) (fun h9 => ?_)
    · refine aw_iconst (pc := 16) dX9_isCut_16 ?_
      exact aw_zreturn (pc := 17) dX9_isCut_17 rfl (by first | exact Or.inl rfl | exact Or.inr rfl | omega) ⟨Nat.zero_le _, Nat.zero_le _⟩ (⟨by first | exact z_r1 (by omega) | exact z_r0 (by omega), rfl, rfl, rfl, rfl⟩)
    · refine aw_iconst (pc := 12) dX9_isCut_12 ?_
      refine aw_goto (pc := 13) (tgt := 17) dX9_isCut_13 rfl ?_
      exact aw_zreturn (pc := 17) dX9_isCut_17 rfl (by first | exact Or.inl rfl | exact Or.inr rfl | omega) ⟨Nat.zero_le _, Nat.zero_le _⟩ (⟨by first | exact z_r1 (by omega) | exact z_r0 (by omega), rfl, rfl, rfl, rfl⟩)
set_option maxHeartbeats 4000000 in
theorem c_X9_isBinary {π : Nat → Nat} {I J : AwI} {n : Nat} (h : z_RM I J) (hn : n < 8) : CT m_X9_isBinary [zr 237, zi (n : Int)] 255 I J (z_R π) (z_P (some (zi (z_bl (I 238 n = 0 ∧ I 239 n = 1)))) 255 I J (z_R π)) := by
  have b1 := h.lo n
  have b2 := h.hi n
  refine CT.of (by decide) (Nat.le_of_ble_eq_true rfl) ?_
  show AW _ 0 0 _ 0 [some (zr 237), some (zi (n : Int))] [] _ _ _
  refine aw_aload_n (pc := 0) dX9_isBinary_0 rfl ?_
  refine aw_getR (pc := 1) dX9_isBinary_1 k_fl_X9_7 rfl (by omega) (by first | rfl | exact z_shr _ (by omega) | exact z_shc0 (by omega) | exact z_shc1 (by omega) | exact z_shc2 (by omega) | exact z_shc3 (by omega) | exact z_shc4 (by omega)) (by first | rfl | exact z_Rc0 _ (by omega) | exact z_Rc1 _ (by omega) | exact z_Rc2 _ (by omega) | exact z_Rc3 _ (by omega)) ?_
  refine aw_iload_n (pc := 4) dX9_isBinary_4 rfl ?_
  refine aw_ialoadV (pc := 5) (v := I 238 n) dX9_isBinary_5 (by omega) (Nat.le_refl _) (by first | rfl | exact z_shr _ (by omega) | exact z_shc0 (by omega) | exact z_shc1 (by omega) | exact z_shc2 (by omega) | exact z_shc3 (by omega) | exact z_shc4 (by omega)) (by first | omega | exact z_bl_r _) (rfl) ?_
  refine aw_if_ne (pc := 6) (tgt := 23) dX9_isBinary_6 rfl (by first | omega | exact z_bl_r _) (fun h6 => ?_) (fun h6 => ?_)
  · refine aw_iconst (pc := 23) dX9_isBinary_23 ?_
    exact aw_zreturn (pc := 24) dX9_isBinary_24 rfl (by first | exact Or.inl rfl | exact Or.inr rfl | omega) ⟨Nat.zero_le _, Nat.zero_le _⟩ (⟨by first | exact z_r1 ⟨by omega, by omega⟩ | exact z_r0 (by omega), rfl, rfl, rfl, rfl⟩)
  · refine aw_aload_n (pc := 9) dX9_isBinary_9 rfl ?_
    refine aw_getR (pc := 10) dX9_isBinary_10 k_fl_X9_13 rfl (by omega) (by first | rfl | exact z_shr _ (by omega) | exact z_shc0 (by omega) | exact z_shc1 (by omega) | exact z_shc2 (by omega) | exact z_shc3 (by omega) | exact z_shc4 (by omega)) (by first | rfl | exact z_Rc0 _ (by omega) | exact z_Rc1 _ (by omega) | exact z_Rc2 _ (by omega) | exact z_Rc3 _ (by omega)) ?_
    refine aw_iload_n (pc := 13) dX9_isBinary_13 rfl ?_
    refine aw_ialoadV (pc := 14) (v := I 239 n) dX9_isBinary_14 (by omega) (Nat.le_refl _) (by first | rfl | exact z_shr _ (by omega) | exact z_shc0 (by omega) | exact z_shc1 (by omega) | exact z_shc2 (by omega) | exact z_shc3 (by omega) | exact z_shc4 (by omega)) (by first | omega | exact z_bl_r _) (rfl) ?_
    refine aw_iconst (pc := 15) dX9_isBinary_15 ?_
    refine aw_icmp_ne (pc := 16) (tgt := 23) dX9_isBinary_16 rfl (by first | omega | exact z_bl_r _) (by first | omega | exact z_bl_r _) (fun h16 => ?_) (fun h16 => ?_)
    · refine aw_iconst (pc := 23) dX9_isBinary_23 ?_
      exact aw_zreturn (pc := 24) dX9_isBinary_24 rfl (by first | exact Or.inl rfl | exact Or.inr rfl | omega) ⟨Nat.zero_le _, Nat.zero_le _⟩ (⟨by first | exact z_r1 ⟨by omega, by omega⟩ | exact z_r0 (by omega), rfl, rfl, rfl, rfl⟩)
    · refine aw_iconst (pc := 19) dX9_isBinary_19 ?_
      refine aw_goto (pc := 20) (tgt := 24) dX9_isBinary_20 rfl ?_
      exact aw_zreturn (pc := 24) dX9_isBinary_24 rfl (by first | exact Or.inl rfl | exact Or.inr rfl | omega) ⟨Nat.zero_le _, Nat.zero_le _⟩ (⟨by first | exact z_r1 ⟨by omega, by omega⟩ | exact z_r0 (by omega), rfl, rfl, rfl, rfl⟩)
set_option maxHeartbeats 4000000 in
theorem c_X9_least {π : Nat → Nat} {I J : AwI} {r n : Nat} (h : z_RM I J) (hr : r < 10) (hn : n < 8) : CT m_X9_least [zr 237, zi (r : Int), zi (n : Int)] 255 I J (z_R π) (z_P (some (zi (z_ql I r n))) 255 I J (z_R π)) := by
  have b1 := h.fc (8 * r + n)
  refine CT.of (by decide) (Nat.le_of_ble_eq_true rfl) ?_
  show AW _ 0 0 _ 0 [some (zr 237), some (zi (r : Int)), some (zi (n : Int)), none] [] _ _ _
  refine aw_aload_n (pc := 0) dX9_least_0 rfl ?_
  refine aw_getR (pc := 1) dX9_least_1 k_fl_X9_23 rfl (by omega) (by first | rfl | exact z_shr _ (by omega) | exact z_shc0 (by omega) | exact z_shc1 (by omega) | exact z_shc2 (by omega) | exact z_shc3 (by omega) | exact z_shc4 (by omega)) (by first | rfl | exact z_Rc0 _ (by omega) | exact z_Rc1 _ (by omega) | exact z_Rc2 _ (by omega) | exact z_Rc3 _ (by omega)) ?_
  refine aw_bipush (pc := 4) dX9_least_4 rfl ?_
  refine aw_iload_n (pc := 6) dX9_least_6 rfl ?_
  refine aw_imul (pc := 7) dX9_least_7 ?_
  refine aw_iload_n (pc := 8) dX9_least_8 rfl ?_
  refine aw_iadd (pc := 9) dX9_least_9 ?_
  refine aw_ialoadV (pc := 10) (v := I 242 (8 * r + n)) dX9_least_10 (by omega) (Nat.le_refl _) (by first | rfl | exact z_shr _ (by omega) | exact z_shc0 (by omega) | exact z_shc1 (by omega) | exact z_shc2 (by omega) | exact z_shc3 (by omega) | exact z_shc4 (by omega)) (by first | omega | exact z_bl_r _) (by rw [show ((8 : Int) * (r : Int) + (n : Int)).toNat = 8 * r + n by omega]) ?_
  refine aw_istore_n (pc := 11) (lv' := [_, _, _, _]) dX9_least_11 (Nat.le_of_ble_eq_true rfl) rfl ?_
  refine aw_iload_n (pc := 12) dX9_least_12 rfl ?_
  refine aw_if_ge (pc := 13) (tgt := 27) dX9_least_13 rfl (by first | omega | exact z_bl_r _) (fun h13 => ?_) (fun h13 => ?_)
  · refine aw_iload_n (pc := 27) dX9_least_27 rfl ?_
    refine aw_aload_n (pc := 28) dX9_least_28 rfl ?_
    refine aw_getR (pc := 29) dX9_least_29 k_fl_X9_7 rfl (by omega) (by first | rfl | exact z_shr _ (by omega) | exact z_shc0 (by omega) | exact z_shc1 (by omega) | exact z_shc2 (by omega) | exact z_shc3 (by omega) | exact z_shc4 (by omega)) (by first | rfl | exact z_Rc0 _ (by omega) | exact z_Rc1 _ (by omega) | exact z_Rc2 _ (by omega) | exact z_Rc3 _ (by omega)) ?_
    refine aw_iload_n (pc := 32) dX9_least_32 rfl ?_
    refine aw_iaload (pc := 33) dX9_least_33 (by omega) (Nat.le_refl _) (by first | rfl | exact z_shr _ (by omega) | exact z_shc0 (by omega) | exact z_shc1 (by omega) | exact z_shc2 (by omega) | exact z_shc3 (by omega) | exact z_shc4 (by omega)) (by first | omega | exact z_bl_r _) ?_
    refine aw_imul (pc := 34) dX9_least_34 ?_
    refine aw_ireturn (pc := 35) dX9_least_35 rfl ⟨Nat.zero_le _, Nat.zero_le _⟩ ?_
    refine ⟨?_, rfl, rfl, rfl, rfl⟩
    unfold z_ql z_le
    first | rw [if_pos (by omega)] | rw [if_neg (by omega)]
    all_goals rfl
  · refine aw_iload_n (pc := 16) dX9_least_16 rfl ?_
    refine aw_aload_n (pc := 17) dX9_least_17 rfl ?_
    refine aw_getR (pc := 18) dX9_least_18 k_fl_X9_13 rfl (by omega) (by first | rfl | exact z_shr _ (by omega) | exact z_shc0 (by omega) | exact z_shc1 (by omega) | exact z_shc2 (by omega) | exact z_shc3 (by omega) | exact z_shc4 (by omega)) (by first | rfl | exact z_Rc0 _ (by omega) | exact z_Rc1 _ (by omega) | exact z_Rc2 _ (by omega) | exact z_Rc3 _ (by omega)) ?_
    refine aw_iload_n (pc := 21) dX9_least_21 rfl ?_
    refine aw_iaload (pc := 22) dX9_least_22 (by omega) (Nat.le_refl _) (by first | rfl | exact z_shr _ (by omega) | exact z_shc0 (by omega) | exact z_shc1 (by omega) | exact z_shc2 (by omega) | exact z_shc3 (by omega) | exact z_shc4 (by omega)) (by first | omega | exact z_bl_r _) ?_
    refine aw_imul (pc := 23) dX9_least_23 ?_
    refine aw_goto (pc := 24) (tgt := 35) dX9_least_24 rfl ?_
    refine aw_ireturn (pc := 35) dX9_least_35 rfl ⟨Nat.zero_le _, Nat.zero_le _⟩ ?_
    refine ⟨?_, rfl, rfl, rfl, rfl⟩
    unfold z_ql z_le
    first | rw [if_pos (by omega)] | rw [if_neg (by omega)]
    all_goals rfl
set_option maxHeartbeats 4000000 in
theorem c_X9_thrown {π : Nat → Nat} {I J : AwI} : CT m_X9_thrown [zr 237] 255 I J (z_R π) (z_P (some (zi (I 237 15))) 255 I J (z_R π)) := by
  refine CT.of (by decide) (Nat.le_of_ble_eq_true rfl) ?_
  show AW _ 0 0 _ 0 [some (zr 237)] [] _ _ _
  refine aw_aload_n (pc := 0) dX9_thrown_0 rfl ?_
  refine aw_getI (pc := 1) dX9_thrown_1 k_fl_X9_63 rfl (by omega) (by first | rfl | exact z_shr _ (by omega) | exact z_shc0 (by omega) | exact z_shc1 (by omega) | exact z_shc2 (by omega) | exact z_shc3 (by omega) | exact z_shc4 (by omega)) ?_
  exact aw_ireturn (pc := 4) dX9_thrown_4 rfl ⟨Nat.zero_le _, Nat.zero_le _⟩ (⟨rfl, rfl, rfl, rfl, rfl⟩)
set_option maxHeartbeats 4000000 in
theorem c_X9_closed {π : Nat → Nat} {I J : AwI} {m : z_MM} {L : List z_CC} {t : Int} (hI : z_RI I J m L t)  : CT m_X9_closed [zr 237] 255 I J (z_R π) (z_PR π (t, m, L, t) I J) := by
  have hI0 := hI
  obtain ⟨h, hm, hlh, hC, hL, ht⟩ := hI0
  subst hm
  have hnm := h.nm
  have hrw := h.rw
  have hct := hC.n
  have eN : mN (z_rfM I J) = (I 237 0).toNat := rfl
  have eR : mR (z_rfM I J) = (I 237 4).toNat := rfl
  have eL := hL.1
  refine CT.of (by decide) (Nat.le_of_ble_eq_true rfl) ?_
  show AW _ 0 0 _ 0 [some (zr 237)] [] _ _ _
  refine aw_aload_n (pc := 0) dX9_closed_0 rfl ?_
  refine aw_iconst (pc := 1) dX9_closed_1 ?_
  refine aw_putI (pc := 2) dX9_closed_2 k_fl_X9_63 rfl (by omega) (by first | rfl | exact z_shr _ (by omega) | exact z_shc0 (by omega) | exact z_shc1 (by omega) | exact z_shc2 (by omega) | exact z_shc3 (by omega) | exact z_shc4 (by omega)) ?_
  refine aw_aload_n (pc := 5) dX9_closed_5 rfl ?_
  refine aw_getV (pc := 6) (v := t) dX9_closed_6 k_fl_X9_41 rfl (by omega) (by first | rfl | exact z_shr _ (by omega) | exact z_shc0 (by omega) | exact z_shc1 (by omega) | exact z_shc2 (by omega) | exact z_shc3 (by omega) | exact z_shc4 (by omega)) (by rw [z_up_k _ _ (by omega)]; exact ht) ?_
  exact aw_ireturn (pc := 9) dX9_closed_9 rfl ⟨Nat.zero_le _, Nat.zero_le _⟩ (z_PRr rfl hI.code z_FQ.code)
set_option maxHeartbeats 4000000 in
theorem c_X9_clear {π : Nat → Nat} {I J : AwI} {m : z_MM} {L : List z_CC} {t : Int} (hI : z_RI I J m L t) : CT m_X9_clear [zr 237] 255 I J (z_R π) (fun q sz I' J' R' => q = none ∧ sz = 255 ∧ R' = z_R π ∧ z_RI I' J' z_m0 [] 1 ∧ z_FQ I J I' J') := by
  have hI0 := hI
  obtain ⟨h, hm, hlh, hC, hL, ht⟩ := hI0
  subst hm
  have hnm := h.nm
  have hrw := h.rw
  have hct := hC.n
  have eN : mN (z_rfM I J) = (I 237 0).toNat := rfl
  have eR : mR (z_rfM I J) = (I 237 4).toNat := rfl
  have eL := hL.1
  refine CT.of (by decide) (Nat.le_of_ble_eq_true rfl) ?_
  show AW _ 0 0 _ 0 [some (zr 237)] [] _ _ _
  refine aw_aload_n (pc := 0) dX9_clear_0 rfl ?_
  refine aw_iconst (pc := 1) dX9_clear_1 ?_
  refine aw_putI (pc := 2) dX9_clear_2 k_fl_X9_63 rfl (by omega) (by first | rfl | exact z_shr _ (by omega) | exact z_shc0 (by omega) | exact z_shc1 (by omega) | exact z_shc2 (by omega) | exact z_shc3 (by omega) | exact z_shc4 (by omega)) ?_
  refine aw_aload_n (pc := 5) dX9_clear_5 rfl ?_
  refine aw_iconst (pc := 6) dX9_clear_6 ?_
  refine aw_putI (pc := 7) dX9_clear_7 k_fl_X9_66 rfl (by omega) (by first | rfl | exact z_shr _ (by omega) | exact z_shc0 (by omega) | exact z_shc1 (by omega) | exact z_shc2 (by omega) | exact z_shc3 (by omega) | exact z_shc4 (by omega)) ?_
  refine aw_aload_n (pc := 10) dX9_clear_10 rfl ?_
  refine aw_iconst (pc := 11) dX9_clear_11 ?_
  refine aw_putI (pc := 12) dX9_clear_12 k_fl_X9_72 rfl (by omega) (by first | rfl | exact z_shr _ (by omega) | exact z_shc0 (by omega) | exact z_shc1 (by omega) | exact z_shc2 (by omega) | exact z_shc3 (by omega) | exact z_shc4 (by omega)) ?_
  refine aw_aload_n (pc := 15) dX9_clear_15 rfl ?_
  refine aw_iconst (pc := 16) dX9_clear_16 ?_
  refine aw_putI (pc := 17) dX9_clear_17 k_fl_X9_69 rfl (by omega) (by first | rfl | exact z_shr _ (by omega) | exact z_shc0 (by omega) | exact z_shc1 (by omega) | exact z_shc2 (by omega) | exact z_shc3 (by omega) | exact z_shc4 (by omega)) ?_
  refine aw_aload_n (pc := 20) dX9_clear_20 rfl ?_
  refine aw_iconst (pc := 21) dX9_clear_21 ?_
  refine aw_putI (pc := 22) dX9_clear_22 k_fl_X9_41 rfl (by omega) (by first | rfl | exact z_shr _ (by omega) | exact z_shc0 (by omega) | exact z_shc1 (by omega) | exact z_shc2 (by omega) | exact z_shc3 (by omega) | exact z_shc4 (by omega)) ?_
  refine aw_return (pc := 25) dX9_clear_25 rfl ⟨Nat.zero_le _, Nat.zero_le _⟩ ?_
  have e1 : ∀ a k, (a ≠ 237 ∨ (k ≠ 15 ∧ k ≠ 0 ∧ k ≠ 4 ∧ k ≠ 7 ∧ k ≠ 13)) → (z_up (z_up (z_up (z_up (z_up I 237 15 0) 237 0 0) 237 4 0) 237 7 0) 237 13 1) a k = I a k := fun a k h1 => by
    unfold z_up
    rw [if_neg (by omega), if_neg (by omega), if_neg (by omega), if_neg (by omega), if_neg (by omega)]
  have a0 : (z_up (z_up (z_up (z_up (z_up I 237 15 0) 237 0 0) 237 4 0) 237 7 0) 237 13 1) 237 0 = 0 := rfl
  have a4 : (z_up (z_up (z_up (z_up (z_up I 237 15 0) 237 0 0) 237 4 0) 237 7 0) 237 13 1) 237 4 = 0 := rfl
  have a7 : (z_up (z_up (z_up (z_up (z_up I 237 15 0) 237 0 0) 237 4 0) 237 7 0) 237 13 1) 237 7 = 0 := rfl
  have a13 : (z_up (z_up (z_up (z_up (z_up I 237 15 0) 237 0 0) 237 4 0) 237 7 0) 237 13 1) 237 13 = 1 := rfl
  refine ⟨rfl, rfl, rfl, ⟨⟨by rw [a0]; omega, by rw [a4]; omega, fun n => by rw [e1 _ _ (by omega)]; exact h.lo n, fun n => by rw [e1 _ _ (by omega)]; exact h.hi n, h.pt, fun n => by rw [e1 _ _ (by omega)]; exact h.fc n, fun n => by rw [e1 _ _ (by omega)]; exact h.rt n⟩, ?_, fun n hn => absurd hn (by show ¬ n < 0; omega), ⟨hC.f, hC.r, fun j => by rw [e1 _ _ (by omega)]; exact hC.k j, fun j => by rw [e1 _ _ (by omega)]; exact hC.a j, fun j => by rw [e1 _ _ (by omega)]; exact hC.s j, by rw [a7]; omega⟩, ⟨by rw [a7]; rfl, fun k C hk => by cases hk⟩, a13⟩, fun a k q => e1 a k (by omega), fun _ _ _ => rfl⟩
  unfold z_rfM
  rw [a0, a4]
  exact z_mkM_0
def z_nq (I : AwI) (N x : Nat) : AwI := fun a k => if a = 242 ∧ k % 8 = N ∧ k / 8 < x then 0 else I a k
theorem z_nq_o {I : AwI} {N x a k : Nat} (h : a ≠ 242) : z_nq I N x a k = I a k := if_neg (fun q => h q.1)
theorem z_nq_0 {I : AwI} {N : Nat} : z_nq I N 0 = I := by
  funext a k
  exact if_neg (by omega)
theorem z_nq_s {I : AwI} {N x : Nat} (hN : N < 8) : z_up (z_nq I N x) 242 (8 * x + N) 0 = z_nq I N (x + 1) := by
  funext a k
  unfold z_up z_nq
  by_cases h1 : a = 242 ∧ k = 8 * x + N
  · rw [if_pos h1, if_pos (by omega)]
  · rw [if_neg h1]
    by_cases h2 : a = 242 ∧ k % 8 = N ∧ k / 8 < x
    · rw [if_pos h2, if_pos (by omega)]
    · rw [if_neg h2, if_neg (by omega)]
def z_rq (I : AwI) (R x : Nat) : AwI := fun a k => if a = 242 ∧ k / 8 = R ∧ k % 8 < x then 0 else I a k
theorem z_rq_o {I : AwI} {N x a k : Nat} (h : a ≠ 242) : z_rq I N x a k = I a k := if_neg (fun q => h q.1)
theorem z_rq_0 {I : AwI} {N : Nat} : z_rq I N 0 = I := by
  funext a k
  exact if_neg (by omega)
theorem z_rq_s {I : AwI} {R x : Nat} (hx : x < 8) : z_up (z_rq I R x) 242 (8 * R + x) 0 = z_rq I R (x + 1) := by
  funext a k
  unfold z_up z_rq
  by_cases h1 : a = 242 ∧ k = 8 * R + x
  · rw [if_pos h1, if_pos (by omega)]
  · rw [if_neg h1]
    by_cases h2 : a = 242 ∧ k / 8 = R ∧ k % 8 < x
    · rw [if_pos h2, if_pos (by omega)]
    · rw [if_neg h2, if_neg (by omega)]
set_option maxHeartbeats 4000000 in
theorem c_X9_name {π : Nat → Nat} {I J : AwI} {m : z_MM} {L : List z_CC} {t : Int} {l h2 : Int} (hI : z_RI I J m L t) (hl : -2147483648 ≤ l ∧ l ≤ 2147483647) (hh2 : -2147483648 ≤ h2 ∧ h2 ≤ 2147483647) : CT m_X9_name [zr 237, zi l, zi h2] 255 I J (z_R π) (z_PR π (z_rN m L t l h2) I J) := by
  have hI0 := hI
  obtain ⟨h, hm, hlh, hC, hL, ht⟩ := hI0
  subst hm
  have hnm := h.nm
  have hrw := h.rw
  have hct := hC.n
  have eN : mN (z_rfM I J) = (I 237 0).toNat := rfl
  have eR : mR (z_rfM I J) = (I 237 4).toNat := rfl
  have eL := hL.1
  refine CT.of (by decide) (Nat.le_of_ble_eq_true rfl) ?_
  show AW _ 0 0 _ 0 [some (zr 237), some (zi l), some (zi h2), none] [] _ _ _
  refine aw_aload_n (pc := 0) dX9_name_0 rfl ?_
  refine aw_iconst (pc := 1) dX9_name_1 ?_
  refine aw_putI (pc := 2) dX9_name_2 k_fl_X9_63 rfl (by omega) (by first | rfl | exact z_shr _ (by omega) | exact z_shc0 (by omega) | exact z_shc1 (by omega) | exact z_shc2 (by omega) | exact z_shc3 (by omega) | exact z_shc4 (by omega)) ?_
  refine aw_iload_n (pc := 5) dX9_name_5 rfl ?_
  refine aw_bipush (pc := 6) dX9_name_6 rfl ?_
  refine aw_icmp_lt (pc := 8) (tgt := 34) dX9_name_8 rfl (by first | omega | exact z_bl_r _) (by first | omega | exact z_bl_r _) (fun h8 => ?_) (fun h8 => ?_)
  · refine aw_bipush (pc := 34) dX9_name_34 rfl ?_
    exact aw_ireturn (pc := 36) dX9_name_36 rfl ⟨Nat.zero_le _, Nat.zero_le _⟩ (z_PRr (if_pos (by omega)) hI.code z_FQ.code)
  · refine aw_iload_n (pc := 11) dX9_name_11 rfl ?_
    refine aw_bipush (pc := 12) dX9_name_12 rfl ?_
    refine aw_icmp_gt (pc := 14) (tgt := 34) dX9_name_14 rfl (by first | omega | exact z_bl_r _) (by first | omega | exact z_bl_r _) (fun h14 => ?_) (fun h14 => ?_)
    · refine aw_bipush (pc := 34) dX9_name_34 rfl ?_
      exact aw_ireturn (pc := 36) dX9_name_36 rfl ⟨Nat.zero_le _, Nat.zero_le _⟩ (z_PRr (if_pos (by omega)) hI.code z_FQ.code)
    · refine aw_iload_n (pc := 17) dX9_name_17 rfl ?_
      refine aw_bipush (pc := 18) dX9_name_18 rfl ?_
      refine aw_icmp_lt (pc := 20) (tgt := 34) dX9_name_20 rfl (by first | omega | exact z_bl_r _) (by first | omega | exact z_bl_r _) (fun h20 => ?_) (fun h20 => ?_)
      · refine aw_bipush (pc := 34) dX9_name_34 rfl ?_
        exact aw_ireturn (pc := 36) dX9_name_36 rfl ⟨Nat.zero_le _, Nat.zero_le _⟩ (z_PRr (if_pos (by omega)) hI.code z_FQ.code)
      · refine aw_iload_n (pc := 23) dX9_name_23 rfl ?_
        refine aw_bipush (pc := 24) dX9_name_24 rfl ?_
        refine aw_icmp_gt (pc := 26) (tgt := 34) dX9_name_26 rfl (by first | omega | exact z_bl_r _) (by first | omega | exact z_bl_r _) (fun h26 => ?_) (fun h26 => ?_)
        · refine aw_bipush (pc := 34) dX9_name_34 rfl ?_
          exact aw_ireturn (pc := 36) dX9_name_36 rfl ⟨Nat.zero_le _, Nat.zero_le _⟩ (z_PRr (if_pos (by omega)) hI.code z_FQ.code)
        · refine aw_iload_n (pc := 29) dX9_name_29 rfl ?_
          refine aw_iload_n (pc := 30) dX9_name_30 rfl ?_
          refine aw_icmp_ge (pc := 31) (tgt := 37) dX9_name_31 rfl (by first | omega | exact z_bl_r _) (by first | omega | exact z_bl_r _) (fun h31 => ?_) (fun h31 => ?_)
          · refine aw_aload_n (pc := 37) dX9_name_37 rfl ?_
            refine aw_getV (pc := 38) (v := I 237 0) dX9_name_38 k_fl_X9_66 rfl (by omega) (by first | rfl | exact z_shr _ (by omega) | exact z_shc0 (by omega) | exact z_shc1 (by omega) | exact z_shc2 (by omega) | exact z_shc3 (by omega) | exact z_shc4 (by omega)) (by rw [z_up_k _ _ (by omega)]) ?_
            refine aw_bipush (pc := 41) dX9_name_41 rfl ?_
            refine aw_icmp_ne (pc := 43) (tgt := 49) dX9_name_43 rfl (by first | omega | exact z_bl_r _) (by first | omega | exact z_bl_r _) (fun h43 => ?_) (fun h43 => ?_)
            · have loop : ∀ (k : Nat) (x : Nat), (x : Int) + k = 10 → AW (FM m_X9_name (z_PR π (z_rN (z_rfM I J) L t l h2) I J)) 0 0 255 81 [some (zr 237), some (zi l), some (zi h2), some (zi (x : Int))] [] (z_nq (z_up (z_up (z_up I 237 15 0) 238 (I 237 0).toNat l) 239 (I 237 0).toNat h2) (I 237 0).toNat x) (z_up J 240 (I 237 0).toNat 0) (z_R π) := by
                intro k
                induction k with
                | zero =>
                  intro x he
                  refine aw_iload_n (pc := 81) dX9_name_81 rfl ?_
                  refine aw_bipush (pc := 82) dX9_name_82 rfl ?_
                  refine aw_icmp_ge (pc := 84) (tgt := 108) dX9_name_84 rfl (by first | omega | exact z_bl_r _) (by first | omega | exact z_bl_r _) (fun h84 => ?_) (fun h84 => absurd h84 (by omega))
                  rw [show x = 10 by omega]
                  refine aw_aload_n (pc := 108) dX9_name_108 rfl ?_
                  refine aw_dup (pc := 109) dX9_name_109 (fun _ h => by cases h) ?_
                  refine aw_getV (pc := 110) (v := I 237 0) dX9_name_110 k_fl_X9_66 rfl (by omega) (by first | rfl | exact z_shr _ (by omega) | exact z_shc0 (by omega) | exact z_shc1 (by omega) | exact z_shc2 (by omega) | exact z_shc3 (by omega) | exact z_shc4 (by omega)) (by rw [z_nq_o (by omega), z_up_a _ _ (by omega), z_up_a _ _ (by omega), z_up_k _ _ (by omega)]) ?_
                  refine aw_iconst (pc := 113) dX9_name_113 ?_
                  refine aw_iadd (pc := 114) dX9_name_114 ?_
                  refine aw_putI (pc := 115) dX9_name_115 k_fl_X9_66 rfl (by omega) (by first | rfl | exact z_shr _ (by omega) | exact z_shc0 (by omega) | exact z_shc1 (by omega) | exact z_shc2 (by omega) | exact z_shc3 (by omega) | exact z_shc4 (by omega)) ?_
                  refine aw_aload_n (pc := 118) dX9_name_118 rfl ?_
                  refine aw_iconst (pc := 119) dX9_name_119 ?_
                  refine aw_putI (pc := 120) dX9_name_120 k_fl_X9_69 rfl (by omega) (by first | rfl | exact z_shr _ (by omega) | exact z_shc0 (by omega) | exact z_shc1 (by omega) | exact z_shc2 (by omega) | exact z_shc3 (by omega) | exact z_shc4 (by omega)) ?_
                  refine aw_aload_n (pc := 123) dX9_name_123 rfl ?_
                  refine aw_getV (pc := 124) (v := I 237 0 + 1) dX9_name_124 k_fl_X9_66 rfl (by omega) (by first | rfl | exact z_shr _ (by omega) | exact z_shc0 (by omega) | exact z_shc1 (by omega) | exact z_shc2 (by omega) | exact z_shc3 (by omega) | exact z_shc4 (by omega)) (by rw [z_up_k _ _ (by omega), z_up_s]) ?_
                  refine aw_iconst (pc := 127) dX9_name_127 ?_
                  refine aw_isub (pc := 128) dX9_name_128 ?_
                  refine aw_ireturn (pc := 129) dX9_name_129 rfl ⟨Nat.zero_le _, Nat.zero_le _⟩ ?_
                  have e0 : (z_up (z_up (z_nq (z_up (z_up (z_up I 237 15 0) 238 (I 237 0).toNat l) 239 (I 237 0).toNat h2) (I 237 0).toNat 10) 237 0 (I 237 0 + 1)) 237 7 0) 237 0 = I 237 0 + 1 := by rw [z_up_k _ _ (by omega), z_up_s]
                  have e7 : (z_up (z_up (z_nq (z_up (z_up (z_up I 237 15 0) 238 (I 237 0).toNat l) 239 (I 237 0).toNat h2) (I 237 0).toNat 10) 237 0 (I 237 0 + 1)) 237 7 0) 237 7 = 0 := z_up_s _ _ _ _
                  have e4 : ∀ k, k ≠ 0 → k ≠ 7 → k ≠ 15 → (z_up (z_up (z_nq (z_up (z_up (z_up I 237 15 0) 238 (I 237 0).toNat l) 239 (I 237 0).toNat h2) (I 237 0).toNat 10) 237 0 (I 237 0 + 1)) 237 7 0) 237 k = I 237 k := fun k h1 h2 h3 => by rw [z_up_k _ _ h2, z_up_k _ _ h1, z_nq_o (by omega), z_up_a _ _ (by omega), z_up_a _ _ (by omega), z_up_k _ _ h3]
                  have e8 : ∀ k, (z_up (z_up (z_nq (z_up (z_up (z_up I 237 15 0) 238 (I 237 0).toNat l) 239 (I 237 0).toNat h2) (I 237 0).toNat 10) 237 0 (I 237 0 + 1)) 237 7 0) 238 k = if k = (I 237 0).toNat then l else I 238 k := fun k => by
                    rw [z_up_a _ _ (by omega), z_up_a _ _ (by omega), z_nq_o (by omega), z_up_a _ _ (by omega)]
                    by_cases e : k = (I 237 0).toNat
                    · rw [e, z_up_s, if_pos rfl]
                    · rw [z_up_k _ _ e, z_up_a _ _ (by omega), if_neg e]
                  have e9 : ∀ k, (z_up (z_up (z_nq (z_up (z_up (z_up I 237 15 0) 238 (I 237 0).toNat l) 239 (I 237 0).toNat h2) (I 237 0).toNat 10) 237 0 (I 237 0 + 1)) 237 7 0) 239 k = if k = (I 237 0).toNat then h2 else I 239 k := fun k => by
                    rw [z_up_a _ _ (by omega), z_up_a _ _ (by omega), z_nq_o (by omega)]
                    by_cases e : k = (I 237 0).toNat
                    · rw [e, z_up_s, if_pos rfl]
                    · rw [z_up_k _ _ e, z_up_a _ _ (by omega), z_up_a _ _ (by omega), if_neg e]
                  have eF : ∀ k, (z_up (z_up (z_nq (z_up (z_up (z_up I 237 15 0) 238 (I 237 0).toNat l) 239 (I 237 0).toNat h2) (I 237 0).toNat 10) 237 0 (I 237 0 + 1)) 237 7 0) 242 k = if k % 8 = (I 237 0).toNat ∧ k / 8 < 10 then 0 else I 242 k := fun k => by
                    rw [z_up_a _ _ (by omega), z_up_a _ _ (by omega)]
                    unfold z_nq
                    by_cases e : k % 8 = (I 237 0).toNat ∧ k / 8 < 10
                    · rw [if_pos ⟨rfl, e⟩, if_pos e]
                    · rw [if_neg (fun q => e q.2), if_neg e, z_up_a _ _ (by omega), z_up_a _ _ (by omega), z_up_a _ _ (by omega)]
                  have eo : ∀ a k, a ≠ 237 → a ≠ 238 → a ≠ 239 → a ≠ 242 → (z_up (z_up (z_nq (z_up (z_up (z_up I 237 15 0) 238 (I 237 0).toNat l) 239 (I 237 0).toNat h2) (I 237 0).toNat 10) 237 0 (I 237 0 + 1)) 237 7 0) a k = I a k := fun a k h1 h2 h3 h4 => by rw [z_up_a _ _ h1, z_up_a _ _ h1, z_nq_o h4, z_up_a _ _ h3, z_up_a _ _ h2, z_up_a _ _ h1]
                  have K2 : z_RM (z_up (z_up (z_nq (z_up (z_up (z_up I 237 15 0) 238 (I 237 0).toNat l) 239 (I 237 0).toNat h2) (I 237 0).toNat 10) 237 0 (I 237 0 + 1)) 237 7 0) (z_up J 240 (I 237 0).toNat 0) := ⟨by rw [e0]; omega, by rw [e4 _ (by omega) (by omega) (by omega)]; exact hrw, fun n => by rw [e8]; have := h.lo n; split <;> omega, fun n => by rw [e9]; have := h.hi n; split <;> omega, fun n => by have := h.pt n; unfold z_up; split <;> omega, fun n => by rw [eF]; have := h.fc n; split <;> omega, fun n => by rw [eo _ _ (by omega) (by omega) (by omega) (by omega)]; exact h.rt n⟩
                  have K3 : z_rfM (z_up (z_up (z_nq (z_up (z_up (z_up I 237 15 0) 238 (I 237 0).toNat l) 239 (I 237 0).toNat h2) (I 237 0).toNat 10) 237 0 (I 237 0 + 1)) 237 7 0) (z_up J 240 (I 237 0).toNat 0) = z_spN (z_rfM I J) l h2 := by
                    show z_mkM ((z_up (z_up (z_nq (z_up (z_up (z_up I 237 15 0) 238 (I 237 0).toNat l) 239 (I 237 0).toNat h2) (I 237 0).toNat 10) 237 0 (I 237 0 + 1)) 237 7 0) 237 0).toNat ((z_up (z_up (z_nq (z_up (z_up (z_up I 237 15 0) 238 (I 237 0).toNat l) 239 (I 237 0).toNat h2) (I 237 0).toNat 10) 237 0 (I 237 0 + 1)) 237 7 0) 237 4).toNat _ _ _ _ _ = _
                    rw [e0, e4 4 (by omega) (by omega) (by omega), show (I 237 0 + 1).toNat = (I 237 0).toNat + 1 by omega]
                    refine z_mkM_sN (fun n hn => ⟨?_, ?_, ?_⟩) ?_ ?_ (z_up_s _ _ _ _) (fun r hr => ⟨fun n hn => ?_, ?_⟩) (fun r hr => ?_)
                    · rw [e8, if_neg (by omega)]
                    · rw [e9, if_neg (by omega)]
                    · exact z_up_k _ _ (by omega)
                    · rw [e8, if_pos rfl]
                    · rw [e9, if_pos rfl]
                    · show (z_up (z_up (z_nq (z_up (z_up (z_up I 237 15 0) 238 (I 237 0).toNat l) 239 (I 237 0).toNat h2) (I 237 0).toNat 10) 237 0 (I 237 0 + 1)) 237 7 0) 242 (8 * r + n) = _
                      rw [eF, if_neg (by omega)]
                    · show (z_up (z_up (z_nq (z_up (z_up (z_up I 237 15 0) 238 (I 237 0).toNat l) 239 (I 237 0).toNat h2) (I 237 0).toNat 10) 237 0 (I 237 0 + 1)) 237 7 0) 242 (8 * r + (I 237 0).toNat) = _
                      rw [eF, if_pos (by omega)]
                    · exact eo _ _ (by omega) (by omega) (by omega) (by omega)
                  rw [show I 237 0 + 1 - 1 = I 237 0 by omega]
                  exact z_PRr (((if_neg (by omega)).trans (if_neg (by omega))).trans (by rw [eN, Int.toNat_of_nonneg hnm.1])) (hI.cut0 K2 K3 (z_spN_lh hlh (by omega)) e7 (fun a k q => by rcases q with q | ⟨rfl, rfl⟩; (exact eo _ _ (by omega) (by omega) (by omega) (by omega)); (exact e4 _ (by omega) (by omega) (by omega))) (fun a k q => z_up_a _ _ (by omega))) ⟨fun a k q => eo _ _ (by omega) (by omega) (by omega) (by omega), fun a k q => z_up_a _ _ (by omega)⟩
                | succ k ih =>
                  intro x he
                  refine aw_iload_n (pc := 81) dX9_name_81 rfl ?_
                  refine aw_bipush (pc := 82) dX9_name_82 rfl ?_
                  refine aw_icmp_ge (pc := 84) (tgt := 108) dX9_name_84 rfl (by first | omega | exact z_bl_r _) (by first | omega | exact z_bl_r _) (fun h84 => absurd h84 (by omega)) (fun h84 => ?_)
                  refine aw_aload_n (pc := 87) dX9_name_87 rfl ?_
                  refine aw_getR (pc := 88) dX9_name_88 k_fl_X9_23 rfl (by omega) (by first | rfl | exact z_shr _ (by omega) | exact z_shc0 (by omega) | exact z_shc1 (by omega) | exact z_shc2 (by omega) | exact z_shc3 (by omega) | exact z_shc4 (by omega)) (by first | rfl | exact z_Rc0 _ (by omega) | exact z_Rc1 _ (by omega) | exact z_Rc2 _ (by omega) | exact z_Rc3 _ (by omega)) ?_
                  refine aw_bipush (pc := 91) dX9_name_91 rfl ?_
                  refine aw_iload_n (pc := 93) dX9_name_93 rfl ?_
                  refine aw_imul (pc := 94) dX9_name_94 ?_
                  refine aw_aload_n (pc := 95) dX9_name_95 rfl ?_
                  refine aw_getV (pc := 96) (v := I 237 0) dX9_name_96 k_fl_X9_66 rfl (by omega) (by first | rfl | exact z_shr _ (by omega) | exact z_shc0 (by omega) | exact z_shc1 (by omega) | exact z_shc2 (by omega) | exact z_shc3 (by omega) | exact z_shc4 (by omega)) (by rw [z_nq_o (by omega), z_up_a _ _ (by omega), z_up_a _ _ (by omega), z_up_k _ _ (by omega)]) ?_
                  refine aw_iadd (pc := 99) dX9_name_99 ?_
                  refine aw_iconst (pc := 100) dX9_name_100 ?_
                  refine aw_iastore (pc := 101) dX9_name_101 (by omega) (Nat.le_refl _) (by first | rfl | exact z_shr _ (by omega) | exact z_shc0 (by omega) | exact z_shc1 (by omega) | exact z_shc2 (by omega) | exact z_shc3 (by omega) | exact z_shc4 (by omega)) (by omega) ?_
                  refine aw_iinc (pc := 102) (lv' := [_, _, _, _]) dX9_name_102 (Nat.le_of_ble_eq_true rfl) rfl rfl ?_
                  refine aw_goto (pc := 105) (tgt := 81) dX9_name_105 rfl ?_
                  rw [show ((8 : Int) * (x : Int) + I 237 0).toNat = 8 * x + (I 237 0).toNat by omega, z_nq_s (by omega)]
                  have K := ih (x + 1) (by omega)
                  exact K
              refine aw_aload_n (pc := 49) dX9_name_49 rfl ?_
              refine aw_getR (pc := 50) dX9_name_50 k_fl_X9_7 rfl (by omega) (by first | rfl | exact z_shr _ (by omega) | exact z_shc0 (by omega) | exact z_shc1 (by omega) | exact z_shc2 (by omega) | exact z_shc3 (by omega) | exact z_shc4 (by omega)) (by first | rfl | exact z_Rc0 _ (by omega) | exact z_Rc1 _ (by omega) | exact z_Rc2 _ (by omega) | exact z_Rc3 _ (by omega)) ?_
              refine aw_aload_n (pc := 53) dX9_name_53 rfl ?_
              refine aw_getV (pc := 54) (v := I 237 0) dX9_name_54 k_fl_X9_66 rfl (by omega) (by first | rfl | exact z_shr _ (by omega) | exact z_shc0 (by omega) | exact z_shc1 (by omega) | exact z_shc2 (by omega) | exact z_shc3 (by omega) | exact z_shc4 (by omega)) (by rw [z_up_k _ _ (by omega)]) ?_
              refine aw_iload_n (pc := 57) dX9_name_57 rfl ?_
              refine aw_iastore (pc := 58) dX9_name_58 (by omega) (Nat.le_refl _) (by first | rfl | exact z_shr _ (by omega) | exact z_shc0 (by omega) | exact z_shc1 (by omega) | exact z_shc2 (by omega) | exact z_shc3 (by omega) | exact z_shc4 (by omega)) (by first | omega | exact z_bl_r _) ?_
              refine aw_aload_n (pc := 59) dX9_name_59 rfl ?_
              refine aw_getR (pc := 60) dX9_name_60 k_fl_X9_13 rfl (by omega) (by first | rfl | exact z_shr _ (by omega) | exact z_shc0 (by omega) | exact z_shc1 (by omega) | exact z_shc2 (by omega) | exact z_shc3 (by omega) | exact z_shc4 (by omega)) (by first | rfl | exact z_Rc0 _ (by omega) | exact z_Rc1 _ (by omega) | exact z_Rc2 _ (by omega) | exact z_Rc3 _ (by omega)) ?_
              refine aw_aload_n (pc := 63) dX9_name_63 rfl ?_
              refine aw_getV (pc := 64) (v := I 237 0) dX9_name_64 k_fl_X9_66 rfl (by omega) (by first | rfl | exact z_shr _ (by omega) | exact z_shc0 (by omega) | exact z_shc1 (by omega) | exact z_shc2 (by omega) | exact z_shc3 (by omega) | exact z_shc4 (by omega)) (by rw [z_up_a _ _ (by omega), z_up_k _ _ (by omega)]) ?_
              refine aw_iload_n (pc := 67) dX9_name_67 rfl ?_
              refine aw_iastore (pc := 68) dX9_name_68 (by omega) (Nat.le_refl _) (by first | rfl | exact z_shr _ (by omega) | exact z_shc0 (by omega) | exact z_shc1 (by omega) | exact z_shc2 (by omega) | exact z_shc3 (by omega) | exact z_shc4 (by omega)) (by first | omega | exact z_bl_r _) ?_
              refine aw_aload_n (pc := 69) dX9_name_69 rfl ?_
              refine aw_getR (pc := 70) dX9_name_70 k_fl_X9_16 rfl (by omega) (by first | rfl | exact z_shr _ (by omega) | exact z_shc0 (by omega) | exact z_shc1 (by omega) | exact z_shc2 (by omega) | exact z_shc3 (by omega) | exact z_shc4 (by omega)) (by first | rfl | exact z_Rc0 _ (by omega) | exact z_Rc1 _ (by omega) | exact z_Rc2 _ (by omega) | exact z_Rc3 _ (by omega)) ?_
              refine aw_aload_n (pc := 73) dX9_name_73 rfl ?_
              refine aw_getV (pc := 74) (v := I 237 0) dX9_name_74 k_fl_X9_66 rfl (by omega) (by first | rfl | exact z_shr _ (by omega) | exact z_shc0 (by omega) | exact z_shc1 (by omega) | exact z_shc2 (by omega) | exact z_shc3 (by omega) | exact z_shc4 (by omega)) (by rw [z_up_a _ _ (by omega), z_up_a _ _ (by omega), z_up_k _ _ (by omega)]) ?_
              refine aw_lconst (pc := 77) (v := 0) dX9_name_77 rfl ?_
              refine aw_lastore (pc := 78) dX9_name_78 (by omega) (Nat.le_refl _) (by first | rfl | exact z_shr _ (by omega) | exact z_shc0 (by omega) | exact z_shc1 (by omega) | exact z_shc2 (by omega) | exact z_shc3 (by omega) | exact z_shc4 (by omega)) (by first | omega | exact z_bl_r _) ?_
              refine aw_iconst (pc := 79) dX9_name_79 ?_
              refine aw_istore_n (pc := 80) (lv' := [_, _, _, _]) dX9_name_80 (Nat.le_of_ble_eq_true rfl) rfl ?_
              have K := loop 10 0 (by omega)
              rw [z_nq_0] at K
              exact K
            · refine aw_bipush (pc := 46) dX9_name_46 rfl ?_
              exact aw_ireturn (pc := 48) dX9_name_48 rfl ⟨Nat.zero_le _, Nat.zero_le _⟩ (z_PRr ((if_neg (by omega)).trans (if_pos (by omega))) hI.code z_FQ.code)
          · refine aw_bipush (pc := 34) dX9_name_34 rfl ?_
            exact aw_ireturn (pc := 36) dX9_name_36 rfl ⟨Nat.zero_le _, Nat.zero_le _⟩ (z_PRr (if_pos (by omega)) hI.code z_FQ.code)
set_option maxHeartbeats 4000000 in
theorem c_X9_row {π : Nat → Nat} {I J : AwI} {m : z_MM} {L : List z_CC} {t : Int} {v : Int} (hI : z_RI I J m L t) (hv : -2147483648 ≤ v ∧ v ≤ 2147483647) : CT m_X9_row [zr 237, zi v] 255 I J (z_R π) (z_PR π (z_rR m L t v) I J) := by
  have hI0 := hI
  obtain ⟨h, hm, hlh, hC, hL, ht⟩ := hI0
  subst hm
  have hnm := h.nm
  have hrw := h.rw
  have hct := hC.n
  have eN : mN (z_rfM I J) = (I 237 0).toNat := rfl
  have eR : mR (z_rfM I J) = (I 237 4).toNat := rfl
  have eL := hL.1
  refine CT.of (by decide) (Nat.le_of_ble_eq_true rfl) ?_
  show AW _ 0 0 _ 0 [some (zr 237), some (zi v), none] [] _ _ _
  refine aw_aload_n (pc := 0) dX9_row_0 rfl ?_
  refine aw_iconst (pc := 1) dX9_row_1 ?_
  refine aw_putI (pc := 2) dX9_row_2 k_fl_X9_63 rfl (by omega) (by first | rfl | exact z_shr _ (by omega) | exact z_shc0 (by omega) | exact z_shc1 (by omega) | exact z_shc2 (by omega) | exact z_shc3 (by omega) | exact z_shc4 (by omega)) ?_
  refine aw_iload_n (pc := 5) dX9_row_5 rfl ?_
  refine aw_sipush (pc := 6) dX9_row_6 rfl ?_
  refine aw_icmp_lt (pc := 9) (tgt := 19) dX9_row_9 rfl (by first | omega | exact z_bl_r _) (by first | omega | exact z_bl_r _) (fun h9 => ?_) (fun h9 => ?_)
  · refine aw_bipush (pc := 19) dX9_row_19 rfl ?_
    exact aw_ireturn (pc := 21) dX9_row_21 rfl ⟨Nat.zero_le _, Nat.zero_le _⟩ (z_PRr (if_pos (by omega)) hI.code z_FQ.code)
  · refine aw_iload_n (pc := 12) dX9_row_12 rfl ?_
    refine aw_sipush (pc := 13) dX9_row_13 rfl ?_
    refine aw_icmp_le (pc := 16) (tgt := 22) dX9_row_16 rfl (by first | omega | exact z_bl_r _) (by first | omega | exact z_bl_r _) (fun h16 => ?_) (fun h16 => ?_)
    · refine aw_aload_n (pc := 22) dX9_row_22 rfl ?_
      refine aw_getV (pc := 23) (v := I 237 4) dX9_row_23 k_fl_X9_72 rfl (by omega) (by first | rfl | exact z_shr _ (by omega) | exact z_shc0 (by omega) | exact z_shc1 (by omega) | exact z_shc2 (by omega) | exact z_shc3 (by omega) | exact z_shc4 (by omega)) (by rw [z_up_k _ _ (by omega)]) ?_
      refine aw_bipush (pc := 26) dX9_row_26 rfl ?_
      refine aw_icmp_ne (pc := 28) (tgt := 34) dX9_row_28 rfl (by first | omega | exact z_bl_r _) (by first | omega | exact z_bl_r _) (fun h28 => ?_) (fun h28 => ?_)
      · have loop : ∀ (k : Nat) (x : Nat), (x : Int) + k = 8 → AW (FM m_X9_row (z_PR π (z_rR (z_rfM I J) L t v) I J)) 0 0 255 46 [some (zr 237), some (zi v), some (zi (x : Int))] [] (z_rq (z_up (z_up I 237 15 0) 241 (I 237 4).toNat v) (I 237 4).toNat x) J (z_R π) := by
          intro k
          induction k with
          | zero =>
            intro x he
            refine aw_iload_n (pc := 46) dX9_row_46 rfl ?_
            refine aw_bipush (pc := 47) dX9_row_47 rfl ?_
            refine aw_icmp_ge (pc := 49) (tgt := 73) dX9_row_49 rfl (by first | omega | exact z_bl_r _) (by first | omega | exact z_bl_r _) (fun h49 => ?_) (fun h49 => absurd h49 (by omega))
            rw [show x = 8 by omega]
            refine aw_aload_n (pc := 73) dX9_row_73 rfl ?_
            refine aw_dup (pc := 74) dX9_row_74 (fun _ h => by cases h) ?_
            refine aw_getV (pc := 75) (v := I 237 4) dX9_row_75 k_fl_X9_72 rfl (by omega) (by first | rfl | exact z_shr _ (by omega) | exact z_shc0 (by omega) | exact z_shc1 (by omega) | exact z_shc2 (by omega) | exact z_shc3 (by omega) | exact z_shc4 (by omega)) (by rw [z_rq_o (by omega), z_up_a _ _ (by omega), z_up_k _ _ (by omega)]) ?_
            refine aw_iconst (pc := 78) dX9_row_78 ?_
            refine aw_iadd (pc := 79) dX9_row_79 ?_
            refine aw_putI (pc := 80) dX9_row_80 k_fl_X9_72 rfl (by omega) (by first | rfl | exact z_shr _ (by omega) | exact z_shc0 (by omega) | exact z_shc1 (by omega) | exact z_shc2 (by omega) | exact z_shc3 (by omega) | exact z_shc4 (by omega)) ?_
            refine aw_aload_n (pc := 83) dX9_row_83 rfl ?_
            refine aw_iconst (pc := 84) dX9_row_84 ?_
            refine aw_putI (pc := 85) dX9_row_85 k_fl_X9_69 rfl (by omega) (by first | rfl | exact z_shr _ (by omega) | exact z_shc0 (by omega) | exact z_shc1 (by omega) | exact z_shc2 (by omega) | exact z_shc3 (by omega) | exact z_shc4 (by omega)) ?_
            refine aw_aload_n (pc := 88) dX9_row_88 rfl ?_
            refine aw_getV (pc := 89) (v := I 237 4 + 1) dX9_row_89 k_fl_X9_72 rfl (by omega) (by first | rfl | exact z_shr _ (by omega) | exact z_shc0 (by omega) | exact z_shc1 (by omega) | exact z_shc2 (by omega) | exact z_shc3 (by omega) | exact z_shc4 (by omega)) (by rw [z_up_k _ _ (by omega), z_up_s]) ?_
            refine aw_iconst (pc := 92) dX9_row_92 ?_
            refine aw_isub (pc := 93) dX9_row_93 ?_
            refine aw_ireturn (pc := 94) dX9_row_94 rfl ⟨Nat.zero_le _, Nat.zero_le _⟩ ?_
            have e4 : (z_up (z_up (z_rq (z_up (z_up I 237 15 0) 241 (I 237 4).toNat v) (I 237 4).toNat 8) 237 4 (I 237 4 + 1)) 237 7 0) 237 4 = I 237 4 + 1 := by rw [z_up_k _ _ (by omega), z_up_s]
            have e7 : (z_up (z_up (z_rq (z_up (z_up I 237 15 0) 241 (I 237 4).toNat v) (I 237 4).toNat 8) 237 4 (I 237 4 + 1)) 237 7 0) 237 7 = 0 := z_up_s _ _ _ _
            have e0 : ∀ k, k ≠ 4 → k ≠ 7 → k ≠ 15 → (z_up (z_up (z_rq (z_up (z_up I 237 15 0) 241 (I 237 4).toNat v) (I 237 4).toNat 8) 237 4 (I 237 4 + 1)) 237 7 0) 237 k = I 237 k := fun k h1 h2 h3 => by rw [z_up_k _ _ h2, z_up_k _ _ h1, z_rq_o (by omega), z_up_a _ _ (by omega), z_up_k _ _ h3]
            have e8 : ∀ k, (z_up (z_up (z_rq (z_up (z_up I 237 15 0) 241 (I 237 4).toNat v) (I 237 4).toNat 8) 237 4 (I 237 4 + 1)) 237 7 0) 241 k = if k = (I 237 4).toNat then v else I 241 k := fun k => by
              rw [z_up_a _ _ (by omega), z_up_a _ _ (by omega), z_rq_o (by omega)]
              by_cases e : k = (I 237 4).toNat
              · rw [e, z_up_s, if_pos rfl]
              · rw [z_up_k _ _ e, z_up_a _ _ (by omega), if_neg e]
            have eF : ∀ k, (z_up (z_up (z_rq (z_up (z_up I 237 15 0) 241 (I 237 4).toNat v) (I 237 4).toNat 8) 237 4 (I 237 4 + 1)) 237 7 0) 242 k = if k / 8 = (I 237 4).toNat ∧ k % 8 < 8 then 0 else I 242 k := fun k => by
              rw [z_up_a _ _ (by omega), z_up_a _ _ (by omega)]
              unfold z_rq
              by_cases e : k / 8 = (I 237 4).toNat ∧ k % 8 < 8
              · rw [if_pos ⟨rfl, e⟩, if_pos e]
              · rw [if_neg (fun q => e q.2), if_neg e, z_up_a _ _ (by omega), z_up_a _ _ (by omega)]
            have eo : ∀ a k, a ≠ 237 → a ≠ 241 → a ≠ 242 → (z_up (z_up (z_rq (z_up (z_up I 237 15 0) 241 (I 237 4).toNat v) (I 237 4).toNat 8) 237 4 (I 237 4 + 1)) 237 7 0) a k = I a k := fun a k h1 h2 h4 => by rw [z_up_a _ _ h1, z_up_a _ _ h1, z_rq_o h4, z_up_a _ _ h2, z_up_a _ _ h1]
            have K2 : z_RM (z_up (z_up (z_rq (z_up (z_up I 237 15 0) 241 (I 237 4).toNat v) (I 237 4).toNat 8) 237 4 (I 237 4 + 1)) 237 7 0) J := ⟨by rw [e0 _ (by omega) (by omega) (by omega)]; exact hnm, by rw [e4]; omega, fun n => by rw [eo _ _ (by omega) (by omega) (by omega)]; exact h.lo n, fun n => by rw [eo _ _ (by omega) (by omega) (by omega)]; exact h.hi n, h.pt, fun n => by rw [eF]; have := h.fc n; split <;> omega, fun n => by rw [e8]; have := h.rt n; split <;> omega⟩
            have K3 : z_rfM (z_up (z_up (z_rq (z_up (z_up I 237 15 0) 241 (I 237 4).toNat v) (I 237 4).toNat 8) 237 4 (I 237 4 + 1)) 237 7 0) J = z_spR (z_rfM I J) v := by
              show z_mkM ((z_up (z_up (z_rq (z_up (z_up I 237 15 0) 241 (I 237 4).toNat v) (I 237 4).toNat 8) 237 4 (I 237 4 + 1)) 237 7 0) 237 0).toNat ((z_up (z_up (z_rq (z_up (z_up I 237 15 0) 241 (I 237 4).toNat v) (I 237 4).toNat 8) 237 4 (I 237 4 + 1)) 237 7 0) 237 4).toNat _ _ _ _ _ = _
              rw [e4, e0 0 (by omega) (by omega) (by omega), show (I 237 4 + 1).toNat = (I 237 4).toNat + 1 by omega]
              refine z_mkM_sR (fun n hn => ⟨?_, ?_, rfl⟩) (fun r n hr hn => ?_) (fun n hn => ?_) (fun r hr => ?_) ?_
              · exact eo _ _ (by omega) (by omega) (by omega)
              · exact eo _ _ (by omega) (by omega) (by omega)
              · show (z_up (z_up (z_rq (z_up (z_up I 237 15 0) 241 (I 237 4).toNat v) (I 237 4).toNat 8) 237 4 (I 237 4 + 1)) 237 7 0) 242 (8 * r + n) = _
                rw [eF, if_neg (by omega)]
              · show (z_up (z_up (z_rq (z_up (z_up I 237 15 0) 241 (I 237 4).toNat v) (I 237 4).toNat 8) 237 4 (I 237 4 + 1)) 237 7 0) 242 (8 * (I 237 4).toNat + n) = _
                rw [eF, if_pos (by omega)]
              · rw [e8, if_neg (by omega)]
              · rw [e8, if_pos rfl]
            rw [show I 237 4 + 1 - 1 = I 237 4 by omega]
            exact z_PRr (((if_neg (by omega)).trans (if_neg (by omega))).trans (by rw [eR, Int.toNat_of_nonneg hrw.1])) (hI.cut0 K2 K3 (z_spR_lh hlh) e7 (fun a k q => by rcases q with q | ⟨rfl, rfl⟩; (exact eo _ _ (by omega) (by omega) (by omega)); (exact e0 _ (by omega) (by omega) (by omega))) (fun a k q => rfl)) ⟨fun a k q => eo _ _ (by omega) (by omega) (by omega), fun a k q => rfl⟩
          | succ k ih =>
            intro x he
            refine aw_iload_n (pc := 46) dX9_row_46 rfl ?_
            refine aw_bipush (pc := 47) dX9_row_47 rfl ?_
            refine aw_icmp_ge (pc := 49) (tgt := 73) dX9_row_49 rfl (by first | omega | exact z_bl_r _) (by first | omega | exact z_bl_r _) (fun h49 => absurd h49 (by omega)) (fun h49 => ?_)
            refine aw_aload_n (pc := 52) dX9_row_52 rfl ?_
            refine aw_getR (pc := 53) dX9_row_53 k_fl_X9_23 rfl (by omega) (by first | rfl | exact z_shr _ (by omega) | exact z_shc0 (by omega) | exact z_shc1 (by omega) | exact z_shc2 (by omega) | exact z_shc3 (by omega) | exact z_shc4 (by omega)) (by first | rfl | exact z_Rc0 _ (by omega) | exact z_Rc1 _ (by omega) | exact z_Rc2 _ (by omega) | exact z_Rc3 _ (by omega)) ?_
            refine aw_bipush (pc := 56) dX9_row_56 rfl ?_
            refine aw_aload_n (pc := 58) dX9_row_58 rfl ?_
            refine aw_getV (pc := 59) (v := I 237 4) dX9_row_59 k_fl_X9_72 rfl (by omega) (by first | rfl | exact z_shr _ (by omega) | exact z_shc0 (by omega) | exact z_shc1 (by omega) | exact z_shc2 (by omega) | exact z_shc3 (by omega) | exact z_shc4 (by omega)) (by rw [z_rq_o (by omega), z_up_a _ _ (by omega), z_up_k _ _ (by omega)]) ?_
            refine aw_imul (pc := 62) dX9_row_62 ?_
            refine aw_iload_n (pc := 63) dX9_row_63 rfl ?_
            refine aw_iadd (pc := 64) dX9_row_64 ?_
            refine aw_iconst (pc := 65) dX9_row_65 ?_
            refine aw_iastore (pc := 66) dX9_row_66 (by omega) (Nat.le_refl _) (by first | rfl | exact z_shr _ (by omega) | exact z_shc0 (by omega) | exact z_shc1 (by omega) | exact z_shc2 (by omega) | exact z_shc3 (by omega) | exact z_shc4 (by omega)) (by omega) ?_
            refine aw_iinc (pc := 67) (lv' := [_, _, _]) dX9_row_67 (Nat.le_of_ble_eq_true rfl) rfl rfl ?_
            refine aw_goto (pc := 70) (tgt := 46) dX9_row_70 rfl ?_
            rw [show ((8 : Int) * I 237 4 + (x : Int)).toNat = 8 * (I 237 4).toNat + x by omega, z_rq_s (by omega)]
            have K := ih (x + 1) (by omega)
            exact K
        refine aw_aload_n (pc := 34) dX9_row_34 rfl ?_
        refine aw_getR (pc := 35) dX9_row_35 k_fl_X9_20 rfl (by omega) (by first | rfl | exact z_shr _ (by omega) | exact z_shc0 (by omega) | exact z_shc1 (by omega) | exact z_shc2 (by omega) | exact z_shc3 (by omega) | exact z_shc4 (by omega)) (by first | rfl | exact z_Rc0 _ (by omega) | exact z_Rc1 _ (by omega) | exact z_Rc2 _ (by omega) | exact z_Rc3 _ (by omega)) ?_
        refine aw_aload_n (pc := 38) dX9_row_38 rfl ?_
        refine aw_getV (pc := 39) (v := I 237 4) dX9_row_39 k_fl_X9_72 rfl (by omega) (by first | rfl | exact z_shr _ (by omega) | exact z_shc0 (by omega) | exact z_shc1 (by omega) | exact z_shc2 (by omega) | exact z_shc3 (by omega) | exact z_shc4 (by omega)) (by rw [z_up_k _ _ (by omega)]) ?_
        refine aw_iload_n (pc := 42) dX9_row_42 rfl ?_
        refine aw_iastore (pc := 43) dX9_row_43 (by omega) (Nat.le_refl _) (by first | rfl | exact z_shr _ (by omega) | exact z_shc0 (by omega) | exact z_shc1 (by omega) | exact z_shc2 (by omega) | exact z_shc3 (by omega) | exact z_shc4 (by omega)) (by first | omega | exact z_bl_r _) ?_
        refine aw_iconst (pc := 44) dX9_row_44 ?_
        refine aw_istore_n (pc := 45) (lv' := [_, _, _]) dX9_row_45 (Nat.le_of_ble_eq_true rfl) rfl ?_
        have K := loop 8 0 (by omega)
        rw [z_rq_0] at K
        exact K
      · refine aw_bipush (pc := 31) dX9_row_31 rfl ?_
        exact aw_ireturn (pc := 33) dX9_row_33 rfl ⟨Nat.zero_le _, Nat.zero_le _⟩ (z_PRr ((if_neg (by omega)).trans (if_pos (by omega))) hI.code z_FQ.code)
    · refine aw_bipush (pc := 19) dX9_row_19 rfl ?_
      exact aw_ireturn (pc := 21) dX9_row_21 rfl ⟨Nat.zero_le _, Nat.zero_le _⟩ (z_PRr (if_pos (by omega)) hI.code z_FQ.code)
set_option maxHeartbeats 4000000 in
theorem c_X9_factor {π : Nat → Nat} {I J : AwI} {m : z_MM} {L : List z_CC} {t : Int} {r n v : Int} (hI : z_RI I J m L t) (hr : -2147483648 ≤ r ∧ r ≤ 2147483647) (hn : -2147483648 ≤ n ∧ n ≤ 2147483647) (hv : -2147483648 ≤ v ∧ v ≤ 2147483647) : CT m_X9_factor [zr 237, zi r, zi n, zi v] 255 I J (z_R π) (z_PR π (z_rF m L t r n v) I J) := by
  have hI0 := hI
  obtain ⟨h, hm, hlh, hC, hL, ht⟩ := hI0
  subst hm
  have hnm := h.nm
  have hrw := h.rw
  have hct := hC.n
  have eN : mN (z_rfM I J) = (I 237 0).toNat := rfl
  have eR : mR (z_rfM I J) = (I 237 4).toNat := rfl
  have eL := hL.1
  refine CT.of (by decide) (Nat.le_of_ble_eq_true rfl) ?_
  show AW _ 0 0 _ 0 [some (zr 237), some (zi r), some (zi n), some (zi v), none] [] _ _ _
  refine aw_aload_n (pc := 0) dX9_factor_0 rfl ?_
  refine aw_iconst (pc := 1) dX9_factor_1 ?_
  refine aw_putI (pc := 2) dX9_factor_2 k_fl_X9_63 rfl (by omega) (by first | rfl | exact z_shr _ (by omega) | exact z_shc0 (by omega) | exact z_shc1 (by omega) | exact z_shc2 (by omega) | exact z_shc3 (by omega) | exact z_shc4 (by omega)) ?_
  refine aw_aload_n (pc := 5) dX9_factor_5 rfl ?_
  refine aw_iload_n (pc := 6) dX9_factor_6 rfl ?_
  refine aw_qV (pc := 7) (d := m_X9_isRow) (c_X9_isRow (by rw [z_up_k _ _ (by omega)]; omega) hr) k_X9_isRow dX9_factor_7 k_ml_X9_75 rfl ⟨rfl, rfl⟩ (by omega) (by first | rfl | exact z_shr _ (by omega) | exact z_shc0 (by omega) | exact z_shc1 (by omega) | exact z_shc2 (by omega) | exact z_shc3 (by omega) | exact z_shc4 (by omega)) rfl ⟨Nat.le_of_ble_eq_true rfl, Nat.le_of_ble_eq_true rfl⟩ ⟨Nat.zero_le _, Nat.zero_le _⟩ rfl (Nat.le_of_ble_eq_true rfl) (z_Pk ?_)
  refine aw_if_eq (pc := 10) (tgt := 21) dX9_factor_10 rfl (by first | omega | exact z_bl_r _) (fun h10 => ?_) (fun h10 => ?_)
  · refine aw_iconst (pc := 21) dX9_factor_21 ?_
    refine aw_ireturn (pc := 22) dX9_factor_22 rfl ⟨Nat.zero_le _, Nat.zero_le _⟩ ?_
    first | rw [z_bl_n] at h10 | rw [z_bl_0] at h10 | skip
    try rw [z_up_k _ _ (by omega)] at h10
    first | rw [z_bl_n] at h18 | rw [z_bl_0] at h18 | skip
    try rw [z_up_k _ _ (by omega)] at h18
    exact z_PRr (if_pos (by omega)) hI.code z_FQ.code
  · refine aw_aload_n (pc := 13) dX9_factor_13 rfl ?_
    refine aw_iload_n (pc := 14) dX9_factor_14 rfl ?_
    refine aw_qV (pc := 15) (d := m_X9_isName) (c_X9_isName (by rw [z_up_k _ _ (by omega)]; omega) hn) k_X9_isName dX9_factor_15 k_ml_X9_79 rfl ⟨rfl, rfl⟩ (by omega) (by first | rfl | exact z_shr _ (by omega) | exact z_shc0 (by omega) | exact z_shc1 (by omega) | exact z_shc2 (by omega) | exact z_shc3 (by omega) | exact z_shc4 (by omega)) rfl ⟨Nat.le_of_ble_eq_true rfl, Nat.le_of_ble_eq_true rfl⟩ ⟨Nat.zero_le _, Nat.zero_le _⟩ rfl (Nat.le_of_ble_eq_true rfl) (z_Pk ?_)
    refine aw_if_ne (pc := 18) (tgt := 23) dX9_factor_18 rfl (by first | omega | exact z_bl_r _) (fun h18 => ?_) (fun h18 => ?_)
    · first | rw [z_bl_n] at h10 | rw [z_bl_0] at h10 | skip
      try rw [z_up_k _ _ (by omega)] at h10
      first | rw [z_bl_n] at h18 | rw [z_bl_0] at h18 | skip
      try rw [z_up_k _ _ (by omega)] at h18
      refine aw_iload_n (pc := 23) dX9_factor_23 rfl ?_
      refine aw_bipush (pc := 24) dX9_factor_24 rfl ?_
      refine aw_icmp_lt (pc := 26) (tgt := 35) dX9_factor_26 rfl (by first | omega | exact z_bl_r _) (by first | omega | exact z_bl_r _) (fun h26 => ?_) (fun h26 => ?_)
      · refine aw_bipush (pc := 35) dX9_factor_35 rfl ?_
        exact aw_ireturn (pc := 37) dX9_factor_37 rfl ⟨Nat.zero_le _, Nat.zero_le _⟩ (z_PRr ((if_neg (by omega)).trans (if_pos (by omega))) hI.code z_FQ.code)
      · refine aw_iload_n (pc := 29) dX9_factor_29 rfl ?_
        refine aw_bipush (pc := 30) dX9_factor_30 rfl ?_
        refine aw_icmp_le (pc := 32) (tgt := 38) dX9_factor_32 rfl (by first | omega | exact z_bl_r _) (by first | omega | exact z_bl_r _) (fun h32 => ?_) (fun h32 => ?_)
        · refine aw_aload_n (pc := 38) dX9_factor_38 rfl ?_
          refine aw_getR (pc := 39) dX9_factor_39 k_fl_X9_23 rfl (by omega) (by first | rfl | exact z_shr _ (by omega) | exact z_shc0 (by omega) | exact z_shc1 (by omega) | exact z_shc2 (by omega) | exact z_shc3 (by omega) | exact z_shc4 (by omega)) (by first | rfl | exact z_Rc0 _ (by omega) | exact z_Rc1 _ (by omega) | exact z_Rc2 _ (by omega) | exact z_Rc3 _ (by omega)) ?_
          refine aw_bipush (pc := 42) dX9_factor_42 rfl ?_
          refine aw_iload_n (pc := 44) dX9_factor_44 rfl ?_
          refine aw_imul (pc := 45) dX9_factor_45 ?_
          refine aw_iload_n (pc := 46) dX9_factor_46 rfl ?_
          refine aw_iadd (pc := 47) dX9_factor_47 ?_
          refine aw_ialoadV (pc := 48) (v := I 242 (8 * r.toNat + n.toNat)) dX9_factor_48 (by omega) (Nat.le_refl _) (by first | rfl | exact z_shr _ (by omega) | exact z_shc0 (by omega) | exact z_shc1 (by omega) | exact z_shc2 (by omega) | exact z_shc3 (by omega) | exact z_shc4 (by omega)) (by omega) (by rw [show ((8 : Int) * r + n).toNat = 8 * r.toNat + n.toNat by omega, z_up_a _ _ (by omega)]) ?_
          refine aw_istore (pc := 49) (lv' := [_, _, _, _, _]) dX9_factor_49 (Nat.le_of_ble_eq_true rfl) rfl ?_
          refine aw_aload_n (pc := 51) dX9_factor_51 rfl ?_
          refine aw_getR (pc := 52) dX9_factor_52 k_fl_X9_23 rfl (by omega) (by first | rfl | exact z_shr _ (by omega) | exact z_shc0 (by omega) | exact z_shc1 (by omega) | exact z_shc2 (by omega) | exact z_shc3 (by omega) | exact z_shc4 (by omega)) (by first | rfl | exact z_Rc0 _ (by omega) | exact z_Rc1 _ (by omega) | exact z_Rc2 _ (by omega) | exact z_Rc3 _ (by omega)) ?_
          refine aw_bipush (pc := 55) dX9_factor_55 rfl ?_
          refine aw_iload_n (pc := 57) dX9_factor_57 rfl ?_
          refine aw_imul (pc := 58) dX9_factor_58 ?_
          refine aw_iload_n (pc := 59) dX9_factor_59 rfl ?_
          refine aw_iadd (pc := 60) dX9_factor_60 ?_
          refine aw_iload_n (pc := 61) dX9_factor_61 rfl ?_
          refine aw_iastore (pc := 62) dX9_factor_62 (by omega) (Nat.le_refl _) (by first | rfl | exact z_shr _ (by omega) | exact z_shc0 (by omega) | exact z_shc1 (by omega) | exact z_shc2 (by omega) | exact z_shc3 (by omega) | exact z_shc4 (by omega)) (by omega) ?_
          refine aw_aload_n (pc := 63) dX9_factor_63 rfl ?_
          refine aw_iconst (pc := 64) dX9_factor_64 ?_
          refine aw_putI (pc := 65) dX9_factor_65 k_fl_X9_69 rfl (by omega) (by first | rfl | exact z_shr _ (by omega) | exact z_shc0 (by omega) | exact z_shc1 (by omega) | exact z_shc2 (by omega) | exact z_shc3 (by omega) | exact z_shc4 (by omega)) ?_
          refine aw_iload (pc := 68) dX9_factor_68 rfl ?_
          refine aw_ireturn (pc := 70) dX9_factor_70 rfl ⟨Nat.zero_le _, Nat.zero_le _⟩ ?_
          rw [show ((8 : Int) * r + n).toNat = 8 * r.toNat + n.toNat by omega]
          have e0 : ∀ k, k ≠ 7 → k ≠ 15 → (z_up (z_up (z_up I 237 15 0) 242 (8 * r.toNat + n.toNat) v) 237 7 0) 237 k = I 237 k := fun k h2 h3 => by rw [z_up_k _ _ h2, z_up_a _ _ (by omega), z_up_k _ _ h3]
          have e7 : (z_up (z_up (z_up I 237 15 0) 242 (8 * r.toNat + n.toNat) v) 237 7 0) 237 7 = 0 := z_up_s _ _ _ _
          have eo : ∀ a k, a ≠ 237 → a ≠ 242 → (z_up (z_up (z_up I 237 15 0) 242 (8 * r.toNat + n.toNat) v) 237 7 0) a k = I a k := fun a k h1 h4 => by rw [z_up_a _ _ h1, z_up_a _ _ h4, z_up_a _ _ h1]
          have eF : ∀ a b, a < 10 → b < 8 → (z_up (z_up (z_up I 237 15 0) 242 (8 * r.toNat + n.toNat) v) 237 7 0) 242 (8 * a + b) = z_up (fun r n => I 242 (8 * r + n)) r.toNat n.toNat v a b := fun a b ha hb => by
            rw [z_up_a _ _ (by omega)]
            unfold z_up
            by_cases e : a = r.toNat ∧ b = n.toNat
            · rw [if_pos (by omega), if_pos e]
            · rw [if_neg (by omega), if_neg e, if_neg (by omega)]
          have eFb : ∀ k, -50 ≤ (z_up (z_up (z_up I 237 15 0) 242 (8 * r.toNat + n.toNat) v) 237 7 0) 242 k ∧ (z_up (z_up (z_up I 237 15 0) 242 (8 * r.toNat + n.toNat) v) 237 7 0) 242 k ≤ 50 := fun k => by
            have := h.fc k
            rw [z_up_a _ _ (by omega)]
            unfold z_up
            split
            · omega
            · rw [if_neg (by omega)]; exact this
          have K2 : z_RM (z_up (z_up (z_up I 237 15 0) 242 (8 * r.toNat + n.toNat) v) 237 7 0) J := ⟨by rw [e0 _ (by omega) (by omega)]; exact hnm, by rw [e0 _ (by omega) (by omega)]; exact hrw, fun n => by rw [eo _ _ (by omega) (by omega)]; exact h.lo n, fun n => by rw [eo _ _ (by omega) (by omega)]; exact h.hi n, h.pt, eFb, fun n => by rw [eo _ _ (by omega) (by omega)]; exact h.rt n⟩
          have K3 : z_rfM (z_up (z_up (z_up I 237 15 0) 242 (8 * r.toNat + n.toNat) v) 237 7 0) J = z_spF (z_rfM I J) r.toNat n.toNat v := by
            show z_mkM ((z_up (z_up (z_up I 237 15 0) 242 (8 * r.toNat + n.toNat) v) 237 7 0) 237 0).toNat ((z_up (z_up (z_up I 237 15 0) 242 (8 * r.toNat + n.toNat) v) 237 7 0) 237 4).toNat _ _ _ _ _ = _
            rw [e0 0 (by omega) (by omega), e0 4 (by omega) (by omega)]
            exact z_mkM_sF (fun n hn => ⟨eo _ _ (by omega) (by omega), eo _ _ (by omega) (by omega), rfl⟩) (fun a b ha hb => eF a b (by omega) (by omega)) (fun r hr => eo _ _ (by omega) (by omega))
          exact z_PRr (((if_neg (by omega)).trans (if_neg (by omega))).trans (by rw [z_rfM_F (by omega) (by omega)])) (hI.cut0 K2 K3 (z_spF_lh hlh) e7 (fun a k q => by rcases q with q | ⟨rfl, rfl⟩; (exact eo _ _ (by omega) (by omega)); (exact e0 _ (by omega) (by omega))) (fun a k q => rfl)) ⟨fun a k q => eo _ _ (by omega) (by omega), fun a k q => rfl⟩
        · refine aw_bipush (pc := 35) dX9_factor_35 rfl ?_
          exact aw_ireturn (pc := 37) dX9_factor_37 rfl ⟨Nat.zero_le _, Nat.zero_le _⟩ (z_PRr ((if_neg (by omega)).trans (if_pos (by omega))) hI.code z_FQ.code)
    · refine aw_iconst (pc := 21) dX9_factor_21 ?_
      refine aw_ireturn (pc := 22) dX9_factor_22 rfl ⟨Nat.zero_le _, Nat.zero_le _⟩ ?_
      first | rw [z_bl_n] at h10 | rw [z_bl_0] at h10 | skip
      try rw [z_up_k _ _ (by omega)] at h10
      first | rw [z_bl_n] at h18 | rw [z_bl_0] at h18 | skip
      try rw [z_up_k _ _ (by omega)] at h18
      exact z_PRr (if_pos (by omega)) hI.code z_FQ.code
set_option maxHeartbeats 4000000 in
theorem c_X9_point {π : Nat → Nat} {I J : AwI} {m : z_MM} {L : List z_CC} {t : Int} {n a b : Int} (hI : z_RI I J m L t) (hn : -2147483648 ≤ n ∧ n ≤ 2147483647) (ha : -2147483648 ≤ a ∧ a ≤ 2147483647) (hb : -2147483648 ≤ b ∧ b ≤ 2147483647) : CT m_X9_point [zr 237, zi n, zi a, zi b] 255 I J (z_R π) (z_PR π (z_rPt m L t n a b) I J) := by
  have hI0 := hI
  obtain ⟨h, hm, hlh, hC, hL, ht⟩ := hI0
  subst hm
  have hnm := h.nm
  have hrw := h.rw
  have hct := hC.n
  have eN : mN (z_rfM I J) = (I 237 0).toNat := rfl
  have eR : mR (z_rfM I J) = (I 237 4).toNat := rfl
  have eL := hL.1
  refine CT.of (by decide) (Nat.le_of_ble_eq_true rfl) ?_
  show AW _ 0 0 _ 0 [some (zr 237), some (zi n), some (zi a), some (zi b)] [] _ _ _
  refine aw_aload_n (pc := 0) dX9_point_0 rfl ?_
  refine aw_iconst (pc := 1) dX9_point_1 ?_
  refine aw_putI (pc := 2) dX9_point_2 k_fl_X9_63 rfl (by omega) (by first | rfl | exact z_shr _ (by omega) | exact z_shc0 (by omega) | exact z_shc1 (by omega) | exact z_shc2 (by omega) | exact z_shc3 (by omega) | exact z_shc4 (by omega)) ?_
  refine aw_aload_n (pc := 5) dX9_point_5 rfl ?_
  refine aw_iload_n (pc := 6) dX9_point_6 rfl ?_
  refine aw_qV (pc := 7) (d := m_X9_isName) (c_X9_isName (by rw [z_up_k _ _ (by omega)]; omega) hn) k_X9_isName dX9_point_7 k_ml_X9_79 rfl ⟨rfl, rfl⟩ (by omega) (by first | rfl | exact z_shr _ (by omega) | exact z_shc0 (by omega) | exact z_shc1 (by omega) | exact z_shc2 (by omega) | exact z_shc3 (by omega) | exact z_shc4 (by omega)) rfl ⟨Nat.le_of_ble_eq_true rfl, Nat.le_of_ble_eq_true rfl⟩ ⟨Nat.zero_le _, Nat.zero_le _⟩ rfl (Nat.le_of_ble_eq_true rfl) (z_Pk ?_)
  refine aw_if_ne (pc := 10) (tgt := 15) dX9_point_10 rfl (by first | omega | exact z_bl_r _) (fun h10 => ?_) (fun h10 => ?_)
  · first | rw [z_bl_n] at h10 | rw [z_bl_0] at h10 | skip
    try rw [z_up_k _ _ (by omega)] at h10
    refine aw_iload_n (pc := 15) dX9_point_15 rfl ?_
    refine aw_iconst (pc := 16) dX9_point_16 ?_
    refine aw_icmp_lt (pc := 17) (tgt := 40) dX9_point_17 rfl (by first | omega | exact z_bl_r _) (by first | omega | exact z_bl_r _) (fun h17 => ?_) (fun h17 => ?_)
    · refine aw_bipush (pc := 40) dX9_point_40 rfl ?_
      exact aw_ireturn (pc := 42) dX9_point_42 rfl ⟨Nat.zero_le _, Nat.zero_le _⟩ (z_PRr ((if_neg (by omega)).trans (if_pos (by omega))) hI.code z_FQ.code)
    · refine aw_iload_n (pc := 20) dX9_point_20 rfl ?_
      refine aw_bipush (pc := 21) dX9_point_21 rfl ?_
      refine aw_icmp_gt (pc := 23) (tgt := 40) dX9_point_23 rfl (by first | omega | exact z_bl_r _) (by first | omega | exact z_bl_r _) (fun h23 => ?_) (fun h23 => ?_)
      · refine aw_bipush (pc := 40) dX9_point_40 rfl ?_
        exact aw_ireturn (pc := 42) dX9_point_42 rfl ⟨Nat.zero_le _, Nat.zero_le _⟩ (z_PRr ((if_neg (by omega)).trans (if_pos (by omega))) hI.code z_FQ.code)
      · refine aw_iload_n (pc := 26) dX9_point_26 rfl ?_
        refine aw_sipush (pc := 27) dX9_point_27 rfl ?_
        refine aw_icmp_lt (pc := 30) (tgt := 40) dX9_point_30 rfl (by first | omega | exact z_bl_r _) (by first | omega | exact z_bl_r _) (fun h30 => ?_) (fun h30 => ?_)
        · refine aw_bipush (pc := 40) dX9_point_40 rfl ?_
          exact aw_ireturn (pc := 42) dX9_point_42 rfl ⟨Nat.zero_le _, Nat.zero_le _⟩ (z_PRr ((if_neg (by omega)).trans (if_pos (by omega))) hI.code z_FQ.code)
        · refine aw_iload_n (pc := 33) dX9_point_33 rfl ?_
          refine aw_sipush (pc := 34) dX9_point_34 rfl ?_
          refine aw_icmp_le (pc := 37) (tgt := 43) dX9_point_37 rfl (by first | omega | exact z_bl_r _) (by first | omega | exact z_bl_r _) (fun h37 => ?_) (fun h37 => ?_)
          · have ed : (27720 : Int).tdiv b = 27720 / b := by rw [z_td (by omega), if_neg (by omega)]
            have eb : 0 ≤ 27720 / b ∧ 27720 / b ≤ 27720 := ⟨Int.ediv_nonneg (by omega) (by omega), Int.ediv_le_self _ (by omega)⟩
            refine aw_aload_n (pc := 43) dX9_point_43 rfl ?_
            refine aw_getR (pc := 44) dX9_point_44 k_fl_X9_16 rfl (by omega) (by first | rfl | exact z_shr _ (by omega) | exact z_shc0 (by omega) | exact z_shc1 (by omega) | exact z_shc2 (by omega) | exact z_shc3 (by omega) | exact z_shc4 (by omega)) (by first | rfl | exact z_Rc0 _ (by omega) | exact z_Rc1 _ (by omega) | exact z_Rc2 _ (by omega) | exact z_Rc3 _ (by omega)) ?_
            refine aw_iload_n (pc := 47) dX9_point_47 rfl ?_
            refine aw_iload_n (pc := 48) dX9_point_48 rfl ?_
            refine aw_i2l (pc := 49) dX9_point_49 (by first | omega | exact z_bl_r _) ?_
            refine aw_ldc2 (pc := 50) (v := 27720) dX9_point_50 k_cst_X9_82 ?_
            refine aw_iload_n (pc := 53) dX9_point_53 rfl ?_
            refine aw_i2l (pc := 54) dX9_point_54 (by first | omega | exact z_bl_r _) ?_
            refine aw_ldiv (pc := 55) dX9_point_55 (by omega) (by omega) (by omega) ?_
            rw [ed]
            refine aw_lmul (pc := 56) dX9_point_56 ?_
            refine aw_lastore (pc := 57) dX9_point_57 (by omega) (Nat.le_refl _) (by first | rfl | exact z_shr _ (by omega) | exact z_shc0 (by omega) | exact z_shc1 (by omega) | exact z_shc2 (by omega) | exact z_shc3 (by omega) | exact z_shc4 (by omega)) (by first | omega | exact z_bl_r _) ?_
            refine aw_iconst (pc := 58) dX9_point_58 ?_
            refine aw_ireturn (pc := 59) dX9_point_59 rfl ⟨Nat.zero_le _, Nat.zero_le _⟩ ?_
            have hab := z_mulb (a := a) (b := 27720 / b) (A := 400) (B := 27720) (by omega) (by omega)
            obtain ⟨k1, k2, k3, k4, k5, k6⟩ := hI.code (v := 0)
            have K2 : z_RM (z_up I 237 15 0) (z_up J 240 n.toNat (a * (27720 / b))) := ⟨k1.nm, k1.rw, k1.lo, k1.hi, fun k => by have := h.pt k; unfold z_up; split <;> omega, k1.fc, k1.rt⟩
            have K3 : z_rfM (z_up I 237 15 0) (z_up J 240 n.toNat (a * (27720 / b))) = z_spP (z_rfM I J) n.toNat (a * (27720 / b)) := by
              rw [← k2]
              show z_mkM _ _ _ _ _ _ _ = z_spP (z_mkM _ _ _ _ _ _ _) _ _
              refine z_mkM_sP (fun n hn => ⟨rfl, rfl⟩) (fun b hb => ?_) (fun a b ha hb => rfl) (fun r hr => rfl)
              unfold z_up va_up
              by_cases e : b = n.toNat
              · rw [if_pos ⟨rfl, e⟩, if_pos e]
              · rw [if_neg (fun q => e q.2), if_neg e]
            refine z_PRr ((if_neg (by omega)).trans (if_neg (by omega))) ⟨K2, K3, z_spP_lh hlh, ⟨fun j => by rw [z_up_a _ _ (by omega)]; exact k4.f j, fun j => by rw [z_up_a _ _ (by omega)]; exact k4.r j, k4.k, k4.a, k4.s, k4.n⟩, ⟨k5.1, fun k C hk => ?_⟩, k6⟩ (z_FQ.code.upJ (by omega))
            obtain ⟨g1, g2, g3, g4, g5, g6⟩ := k5.2 k C hk
            exact ⟨fun n hn => by rw [z_up_a _ _ (by omega)]; exact g1 n hn, by rw [z_up_a _ _ (by omega)]; exact g2, g3, g4, g5, g6⟩
          · refine aw_bipush (pc := 40) dX9_point_40 rfl ?_
            exact aw_ireturn (pc := 42) dX9_point_42 rfl ⟨Nat.zero_le _, Nat.zero_le _⟩ (z_PRr ((if_neg (by omega)).trans (if_pos (by omega))) hI.code z_FQ.code)
  · refine aw_iconst (pc := 13) dX9_point_13 ?_
    refine aw_ireturn (pc := 14) dX9_point_14 rfl ⟨Nat.zero_le _, Nat.zero_le _⟩ ?_
    first | rw [z_bl_n] at h10 | rw [z_bl_0] at h10 | skip
    try rw [z_up_k _ _ (by omega)] at h10
    exact z_PRr (if_pos (by omega)) hI.code z_FQ.code
