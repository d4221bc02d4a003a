theorem aw_lookup {F : ZF} {cells slots sz pc : Nat} {lv : List (Option AwV)} {st : List AwV} {I J : AwI} {R : AwR} {dflt off x : Int} {ps : Array (Int × Int)} {len tgt : Nat} (hd : decode F.2.1 pc = .ok (.lookupswitch dflt ps, len)) (hp : (ps.toList.zip (ps.toList.drop 1)).all (fun (a, next) => a.1 < next.1) = true) (hx : -2147483648 ≤ x ∧ x ≤ 2147483647) (ho : Op.lookupswitch.offset ps.toList dflt x = off) (ht : (pc : Int) + off = (tgt : Int)) (k : AW F cells slots sz tgt lv st I J R) : AW F cells slots sz pc lv (zi x :: st) I J R := by
  intro p l e s m args below meth c H locs ls G X hR hL hS
  exact lv_lookup X.1 X.2.1 hd hp (by rw [Int32.toInt_ofInt_of_le (by omega) (by omega)]; exact ho) ht (k p l e s m args below meth c H locs ls G X hR hL hS)
/-! A model from its parts, and what the calls make of it -/
def z_mkM (N R : Nat) (lo hi pt : Nat → Int) (F : Nat → Nat → Int) (rt : Nat → Int) : z_MM := (N, R, z_mk N lo, z_mk N hi, z_mk N pt, fun r => z_mk (if r < R then N else 0) (F r), z_mk R rt)
theorem z_mk_c {n : Nat} {f g : Nat → Int} (h : ∀ k, k < n → f k = g k) : z_mk n f = z_mk n g := by
  funext k
  unfold z_mk
  by_cases q : k < n
  · rw [if_pos q, if_pos q, h k q]
  · rw [if_neg q, if_neg q]
theorem z_mkM_c {N R : Nat} {lo hi pt rt lo' hi' pt' rt' : Nat → Int} {F F' : Nat → Nat → Int} (h1 : ∀ n, n < N → lo n = lo' n ∧ hi n = hi' n ∧ pt n = pt' n) (h2 : ∀ r n, r < R → n < N → F r n = F' r n) (h3 : ∀ r, r < R → rt r = rt' r) : z_mkM N R lo hi pt F rt = z_mkM N R lo' hi' pt' F' rt' := by
  unfold z_mkM
  rw [z_mk_c (fun n hn => (h1 n hn).1), z_mk_c (fun n hn => (h1 n hn).2.1), z_mk_c (fun n hn => (h1 n hn).2.2), z_mk_c h3]
  have e : (fun r => z_mk (if r < R then N else 0) (F r)) = fun r => z_mk (if r < R then N else 0) (F' r) := by
    funext r
    by_cases q : r < R
    · rw [if_pos q]; exact z_mk_c (fun n hn => h2 r n q hn)
    · rw [if_neg q]; exact z_mk_c (fun n hn => absurd hn (by omega))
  rw [e]
theorem z_clM_mk (I J : AwI) : z_clM I J = z_mkM (I 1 5).toNat (I 1 6).toNat (I 2) (I 3) (J 4) (fun r => I (6 + r)) (I 16) := rfl
section MKM
variable {N R : Nat} {lo hi pt rt : Nat → Int} {F : Nat → Nat → Int}
theorem z_mkM_N : mN (z_mkM N R lo hi pt F rt) = N := rfl
theorem z_mkM_R : mR (z_mkM N R lo hi pt F rt) = R := rfl
theorem z_mkM_lo {n : Nat} (h : n < N) : mlo (z_mkM N R lo hi pt F rt) n = lo n := z_mk_in h
theorem z_mkM_hi {n : Nat} (h : n < N) : mhi (z_mkM N R lo hi pt F rt) n = hi n := z_mk_in h
theorem z_mkM_pt {n : Nat} (h : n < N) : mpt (z_mkM N R lo hi pt F rt) n = pt n := z_mk_in h
theorem z_mkM_rt {n : Nat} (h : n < R) : mrt (z_mkM N R lo hi pt F rt) n = rt n := z_mk_in h
theorem z_mkM_F {r n : Nat} (hr : r < R) (h : n < N) : mF (z_mkM N R lo hi pt F rt) r n = F r n := by
  show z_mk (if r < R then N else 0) (F r) n = _
  rw [if_pos hr, z_mk_in h]
end MKM
def z_spN (m : z_MM) (l h : Int) : z_MM := z_mkM (mN m + 1) (mR m) (va_up (mlo m) (mN m) l) (va_up (mhi m) (mN m) h) (va_up (mpt m) (mN m) 0) (fun r => va_up (mF m r) (mN m) 0) (mrt m)
def z_spR (m : z_MM) (v : Int) : z_MM := z_mkM (mN m) (mR m + 1) (mlo m) (mhi m) (mpt m) (fun r n => if r = mR m then 0 else mF m r n) (va_up (mrt m) (mR m) v)
def z_spF (m : z_MM) (r n : Nat) (v : Int) : z_MM := z_mkM (mN m) (mR m) (mlo m) (mhi m) (mpt m) (z_up (mF m) r n v) (mrt m)
def z_spP (m : z_MM) (n : Nat) (v : Int) : z_MM := z_mkM (mN m) (mR m) (mlo m) (mhi m) (va_up (mpt m) n v) (mF m) (mrt m)
def z_m0 : z_MM := z_mkM 0 0 (fun _ => 0) (fun _ => 0) (fun _ => 0) (fun _ _ => 0) (fun _ => 0)
theorem z_vn_ne {f : Nat → Int} {k n : Nat} {v : Int} (h : n ≠ k) : va_up f k v n = f n := if_neg h
section MKS
variable {N R : Nat} {lo hi pt rt lo' hi' pt' rt' : Nat → Int} {F F' : Nat → Nat → Int}
theorem z_mkM_sN {l h : Int} (h1 : ∀ n, n < N → lo' n = lo n ∧ hi' n = hi n ∧ pt' n = pt n) (hl : lo' N = l) (hh : hi' N = h) (hp : pt' N = 0) (h2 : ∀ r, r < R → (∀ n, n < N → F' r n = F r n) ∧ F' r N = 0) (h3 : ∀ r, r < R → rt' r = rt r) : z_mkM (N + 1) R lo' hi' pt' F' rt' = z_spN (z_mkM N R lo hi pt F rt) l h := by
  refine z_mkM_c (fun n hn => ?_) (fun r n hr hn => ?_) (fun r hr => ?_)
  · rw [z_mkM_N]
    by_cases e : n = N
    · subst e; rw [z_vs, z_vs, z_vs]; exact ⟨hl, hh, hp⟩
    · rw [z_vn_ne e, z_vn_ne e, z_vn_ne e, z_mkM_lo (by omega), z_mkM_hi (by omega), z_mkM_pt (by omega)]; exact h1 n (by omega)
  · rw [z_mkM_N]
    by_cases e : n = N
    · subst e; rw [z_vs]; exact (h2 r hr).2
    · rw [z_vn_ne e, z_mkM_F hr (by omega)]; exact (h2 r hr).1 n (by omega)
  · rw [z_mkM_rt hr]; exact h3 r hr
theorem z_mkM_sR {v : Int} (h1 : ∀ n, n < N → lo' n = lo n ∧ hi' n = hi n ∧ pt' n = pt n) (h2 : ∀ r n, r < R → n < N → F' r n = F r n) (h4 : ∀ n, n < N → F' R n = 0) (h3 : ∀ r, r < R → rt' r = rt r) (h5 : rt' R = v) : z_mkM N (R + 1) lo' hi' pt' F' rt' = z_spR (z_mkM N R lo hi pt F rt) v := by
  refine z_mkM_c (fun n hn => ?_) (fun r n hr hn => ?_) (fun r hr => ?_)
  · have hn : n < N := hn
    rw [z_mkM_lo hn, z_mkM_hi hn, z_mkM_pt hn]; exact h1 n hn
  · rw [z_mkM_R]
    have hn : n < N := hn
    by_cases e : r = R
    · rw [if_pos e, e]; exact h4 n hn
    · rw [if_neg e, z_mkM_F (by omega) hn]; exact h2 r n (by omega) hn
  · rw [z_mkM_R]
    by_cases e : r = R
    · subst e; rw [z_vs]; exact h5
    · rw [z_vn_ne e, z_mkM_rt (by omega)]; exact h3 r (by omega)
theorem z_mkM_sF {r n : Nat} {v : Int} (h1 : ∀ n, n < N → lo' n = lo n ∧ hi' n = hi n ∧ pt' n = pt n) (h2 : ∀ a b, a < R → b < N → F' a b = z_up F r n v a b) (h3 : ∀ r, r < R → rt' r = rt r) : z_mkM N R lo' hi' pt' F' rt' = z_spF (z_mkM N R lo hi pt F rt) r n v := by
  refine z_mkM_c (fun n hn => ?_) (fun a b ha hb => ?_) (fun r hr => ?_)
  · rw [z_mkM_lo hn, z_mkM_hi hn, z_mkM_pt hn]; exact h1 n hn
  · rw [h2 a b ha hb]
    unfold z_up
    by_cases e : a = r ∧ b = n
    · rw [if_pos e, if_pos e]
    · rw [if_neg e, if_neg e, z_mkM_F ha hb]
  · rw [z_mkM_rt hr]; exact h3 r hr
theorem z_mkM_sP {n : Nat} {v : Int} (h1 : ∀ n, n < N → lo' n = lo n ∧ hi' n = hi n) (hp : ∀ b, b < N → pt' b = va_up pt n v b) (h2 : ∀ a b, a < R → b < N → F' a b = F a b) (h3 : ∀ r, r < R → rt' r = rt r) : z_mkM N R lo' hi' pt' F' rt' = z_spP (z_mkM N R lo hi pt F rt) n v := by
  refine z_mkM_c (fun b hb => ?_) (fun a b ha hb => ?_) (fun r hr => ?_)
  · rw [z_mkM_lo hb, z_mkM_hi hb]
    refine ⟨(h1 b hb).1, (h1 b hb).2, ?_⟩
    rw [hp b hb]
    unfold va_up
    by_cases e : b = n
    · rw [if_pos e, if_pos e]
    · rw [if_neg e, if_neg e, z_mkM_pt hb]
  · rw [z_mkM_F ha hb]; exact h2 a b ha hb
  · rw [z_mkM_rt hr]; exact h3 r hr
end MKS
theorem z_mkM_0 {lo hi pt rt : Nat → Int} {F : Nat → Nat → Int} : z_mkM 0 0 lo hi pt F rt = z_m0 := z_mkM_c (fun n hn => absurd hn (by omega)) (fun r n hr => absurd hr (by omega)) (fun r hr => absurd hr (by omega))
/-! the class's state -/
def z_CI (I J : AwI) (π : Nat → Nat) (m : z_MM) (L : List z_CC) (t : Int) : Prop :=
  z_M I J ∧ z_clM I J = m ∧ (∀ n, n < mN m → mlo m n ≤ mhi m n) ∧ z_L I π ∧ z_clL I π m L ∧ I 17 2 = t ∧ (t = 0 ∨ t = 1) ∧ (∀ n, -600 ≤ I 225 n ∧ I 225 n ≤ 600) ∧ (∀ j, 0 ≤ I 232 j) ∧ (∀ C ∈ L, cA C ≤ 2)
def z_FR (I J I' J' : AwI) : Prop := (∀ a k, 237 ≤ a → I' a k = I a k) ∧ ∀ a k, 237 ≤ a → J' a k = J a k
theorem z_FR.rf {I J : AwI} : z_FR I J I J := ⟨fun _ _ _ => rfl, fun _ _ _ => rfl⟩
abbrev z_RS : Type := Int × z_MM × List z_CC × Int
def z_PC (r : z_RS) (I J : AwI) : ZQ := fun q sz I' J' R' => q = some (zi r.1) ∧ sz = 255 ∧ ∃ π, R' = z_R π ∧ z_CI I' J' π r.2.1 r.2.2.1 r.2.2.2 ∧ z_FR I J I' J'
theorem z_PCr {r : z_RS} {v : Int} {m : z_MM} {L : List z_CC} {t : Int} {I J I' J' : AwI} {π : Nat → Nat} (hr : r = (v, m, L, t)) (h : z_CI I' J' π m L t) (hf : z_FR I J I' J') : z_PC r I J (some (zi v)) 255 I' J' (z_R π) := by
  subst hr
  exact ⟨rfl, rfl, π, rfl, h, hf⟩
theorem z_CI.len {I J : AwI} {π : Nat → Nat} {m : z_MM} {L : List z_CC} {t : Int} (h : z_CI I J π m L t) : L.length ≤ 40 := by
  have h1 := h.2.2.2.1.n
  have h2 := h.2.2.2.2.1.1
  omega
/-- other scratch cells -/
theorem z_CI.frame {I I' J J' : AwI} {π : Nat → Nat} {m : z_MM} {L : List z_CC} {t : Int} (h : z_CI I J π m L t) (hI : ∀ a k, a < 224 ∨ a = 225 ∨ a = 232 → I' a k = I a k) (hJ : ∀ k, J' 4 k = J 4 k) : z_CI I' J' π m L t := by
  obtain ⟨h1, h2, h3, h4, h5, h6, h7, h8, h9, hA⟩ := h
  refine ⟨h1.congr (fun a k ha => hI a k (by omega)) hJ, ?_, h3, h4.frame (fun a k _ ha => hI a k (by omega)), h5.frame h4 (fun a k _ ha => hI a k (by omega)), ?_, h7, fun n => ?_, fun j => ?_, hA⟩
  · rw [z_clM.congr h1 (fun a k ha => hI a k (by omega)) hJ]; exact h2
  · rw [hI 17 2 (by omega)]; exact h6
  · rw [hI 225 n (by omega)]; exact h8 n
  · rw [hI 232 j (by omega)]; exact h9 j
/-- the cuts gone -/
theorem z_CI.cut0 {I I' J J' : AwI} {π : Nat → Nat} {m m' : z_MM} {L : List z_CC} {t : Int} (h : z_CI I J π m L t) (hM : z_M I' J') (hm : z_clM I' J' = m') (hlh : ∀ n, n < mN m' → mlo m' n ≤ mhi m' n) (h0 : I' 17 1 = 0) (hI : ∀ a k, 17 ≤ a → (a ≠ 17 ∨ k ≠ 1) → I' a k = I a k) : z_CI I' J' π m' [] t := by
  obtain ⟨h1, h2, h3, h4, h5, h6, h7, h8, h9, hA⟩ := h
  refine ⟨hM, hm, hlh, ⟨by omega, h4.2.1, fun c hc => ?_⟩, ⟨by rw [h0]; rfl, fun k C hk => by cases hk⟩, ?_, h7, fun n => ?_, fun j => ?_, fun C hC => by cases hC⟩
  · have g := h4.c hc
    refine ⟨fun n => ?_, fun n => ?_, fun n => ?_, fun n => ?_, ?_, ?_, ?_, ?_, ?_⟩
    · rw [hI _ _ (by omega) (by omega)]; exact g.f n
    · rw [hI _ _ (by omega) (by omega)]; exact g.rt n
    · rw [hI _ _ (by omega) (by omega)]; exact g.lt n
    · rw [hI _ _ (by omega) (by omega)]; exact g.ht n
    · rw [hI _ _ (by omega) (by omega)]; exact g.r
    · rw [hI _ _ (by omega) (by omega)]; exact g.kd
    · rw [hI _ _ (by omega) (by omega)]; exact g.ag
    · rw [hI _ _ (by omega) (by omega)]; exact g.dv
    · rw [hI _ _ (by omega) (by omega)]; exact g.cr
  · rw [hI 17 2 (by omega) (by omega)]; exact h6
  · rw [hI 225 n (by omega) (by omega)]; exact h8 n
  · rw [hI 232 j (by omega) (by omega)]; exact h9 j
def z_nc (I : AwI) (N x : Nat) : AwI := fun a k => if 6 ≤ a ∧ a < 6 + x ∧ k = N then 0 else I a k
theorem z_nc_o {I : AwI} {N x a k : Nat} (h : a < 6 ∨ 6 + x ≤ a ∨ k ≠ N) : z_nc I N x a k = I a k := if_neg (by omega)
theorem z_nc_0 {I : AwI} {N : Nat} : z_nc I N 0 = I := by
  funext a k
  exact z_nc_o (by omega)
theorem z_nc_i {I : AwI} {N x : Nat} (h : ∀ r, r < x → I (6 + r) N = 0) : z_nc I N x = I := by
  funext a k
  by_cases q : 6 ≤ a ∧ a < 6 + x ∧ k = N
  · have e := h (a - 6) (by omega)
    rw [show 6 + (a - 6) = a by omega] at e
    obtain ⟨q1, q2, rfl⟩ := q
    rw [e]
    exact if_pos ⟨q1, q2, rfl⟩
  · exact if_neg q
/-- the heap after a name -/
def z_hN (I : AwI) (l h : Int) : AwI := z_up (z_nc (z_up (z_up I 2 (I 1 5).toNat l) 3 (I 1 5).toNat h) (I 1 5).toNat (I 1 6).toNat) 1 5 (I 1 5 + 1)
def z_hR (I : AwI) (v : Int) : AwI := z_up (z_fl (z_up I 16 (I 1 6).toNat v) (6 + (I 1 6).toNat) 8 0) 1 6 (I 1 6 + 1)
set_option maxHeartbeats 4000000 in
theorem c_X6_addName {π : Nat → Nat} {I J : AwI} {l hh : Int} (h : z_M I J) (h8 : I 1 5 < 8) : CT m_X6_addName [zr 1, zi l, zi hh] 255 I J (z_R π) (z_P (some (zi (I 1 5))) 255 (z_hN I l hh) (z_up J 4 (I 1 5).toNat 0) (z_R π)) := by
  have hnm := h.nm
  have hrw := h.rw
  refine CT.of (by decide) (Nat.le_of_ble_eq_true rfl) ?_
  show AW _ 0 0 _ 0 [some (zr 1), some (zi l), some (zi hh)] [] _ _ _
  refine aw_aload_n (pc := 0) dX6_addName_0 rfl ?_
  refine aw_getR (pc := 1) dX6_addName_1 k_fl_X6_9 rfl (by omega) (by first | rfl | exact z_shr _ (by omega) | exact z_shc0 (by omega) | exact z_shc1 (by omega) | exact z_shc2 (by omega) | exact z_shc3 (by omega) | exact z_shc4 (by omega)) (by first | rfl | exact z_Rc0 _ (by omega) | exact z_Rc1 _ (by omega) | exact z_Rc2 _ (by omega) | exact z_Rc3 _ (by omega)) ?_
  refine aw_aload_n (pc := 4) dX6_addName_4 rfl ?_
  refine aw_getI (pc := 5) dX6_addName_5 k_fl_X6_30 rfl (by omega) (by first | rfl | exact z_shr _ (by omega) | exact z_shc0 (by omega) | exact z_shc1 (by omega) | exact z_shc2 (by omega) | exact z_shc3 (by omega) | exact z_shc4 (by omega)) ?_
  refine aw_iload_n (pc := 8) dX6_addName_8 rfl ?_
  refine aw_iastore (pc := 9) dX6_addName_9 (by omega) (Nat.le_refl _) (by first | rfl | exact z_shr _ (by omega) | exact z_shc0 (by omega) | exact z_shc1 (by omega) | exact z_shc2 (by omega) | exact z_shc3 (by omega) | exact z_shc4 (by omega)) (by first | omega | exact z_bl_r _) ?_
  refine aw_aload_n (pc := 10) dX6_addName_10 rfl ?_
  refine aw_getR (pc := 11) dX6_addName_11 k_fl_X6_15 rfl (by omega) (by first | rfl | exact z_shr _ (by omega) | exact z_shc0 (by omega) | exact z_shc1 (by omega) | exact z_shc2 (by omega) | exact z_shc3 (by omega) | exact z_shc4 (by omega)) (by first | rfl | exact z_Rc0 _ (by omega) | exact z_Rc1 _ (by omega) | exact z_Rc2 _ (by omega) | exact z_Rc3 _ (by omega)) ?_
  refine aw_aload_n (pc := 14) dX6_addName_14 rfl ?_
  refine aw_getV (pc := 15) (v := I 1 5) dX6_addName_15 k_fl_X6_30 rfl (by omega) (by first | rfl | exact z_shr _ (by omega) | exact z_shc0 (by omega) | exact z_shc1 (by omega) | exact z_shc2 (by omega) | exact z_shc3 (by omega) | exact z_shc4 (by omega)) (by rw [z_up_a _ _ (by omega)]) ?_
  refine aw_iload_n (pc := 18) dX6_addName_18 rfl ?_
  refine aw_iastore (pc := 19) dX6_addName_19 (by omega) (Nat.le_refl _) (by first | rfl | exact z_shr _ (by omega) | exact z_shc0 (by omega) | exact z_shc1 (by omega) | exact z_shc2 (by omega) | exact z_shc3 (by omega) | exact z_shc4 (by omega)) (by first | omega | exact z_bl_r _) ?_
  refine aw_aload_n (pc := 20) dX6_addName_20 rfl ?_
  refine aw_getR (pc := 21) dX6_addName_21 k_fl_X6_18 rfl (by omega) (by first | rfl | exact z_shr _ (by omega) | exact z_shc0 (by omega) | exact z_shc1 (by omega) | exact z_shc2 (by omega) | exact z_shc3 (by omega) | exact z_shc4 (by omega)) (by first | rfl | exact z_Rc0 _ (by omega) | exact z_Rc1 _ (by omega) | exact z_Rc2 _ (by omega) | exact z_Rc3 _ (by omega)) ?_
  refine aw_aload_n (pc := 24) dX6_addName_24 rfl ?_
  refine aw_getV (pc := 25) (v := I 1 5) dX6_addName_25 k_fl_X6_30 rfl (by omega) (by first | rfl | exact z_shr _ (by omega) | exact z_shc0 (by omega) | exact z_shc1 (by omega) | exact z_shc2 (by omega) | exact z_shc3 (by omega) | exact z_shc4 (by omega)) (by rw [z_up_a _ _ (by omega), z_up_a _ _ (by omega)]) ?_
  refine aw_lconst (pc := 28) (v := 0) dX6_addName_28 rfl ?_
  refine aw_lastore (pc := 29) dX6_addName_29 (by omega) (Nat.le_refl _) (by first | rfl | exact z_shr _ (by omega) | exact z_shc0 (by omega) | exact z_shc1 (by omega) | exact z_shc2 (by omega) | exact z_shc3 (by omega) | exact z_shc4 (by omega)) (by first | omega | exact z_bl_r _) ?_
  refine aw_aload_n (pc := 30) dX6_addName_30 rfl ?_
  refine aw_dup (pc := 31) dX6_addName_31 (fun _ h => by cases h) ?_
  refine aw_getV (pc := 32) (v := I 1 5) dX6_addName_32 k_fl_X6_30 rfl (by omega) (by first | rfl | exact z_shr _ (by omega) | exact z_shc0 (by omega) | exact z_shc1 (by omega) | exact z_shc2 (by omega) | exact z_shc3 (by omega) | exact z_shc4 (by omega)) (by rw [z_up_a _ _ (by omega), z_up_a _ _ (by omega)]) ?_
  refine aw_dup_x1 (pc := 35) dX6_addName_35 (fun _ h => by cases h) (fun _ h => by cases h) ?_
  refine aw_iconst (pc := 36) dX6_addName_36 ?_
  refine aw_iadd (pc := 37) dX6_addName_37 ?_
  refine aw_putI (pc := 38) dX6_addName_38 k_fl_X6_30 rfl (by omega) (by first | rfl | exact z_shr _ (by omega) | exact z_shc0 (by omega) | exact z_shc1 (by omega) | exact z_shc2 (by omega) | exact z_shc3 (by omega) | exact z_shc4 (by omega)) ?_
  exact aw_ireturn (pc := 41) dX6_addName_41 rfl ⟨Nat.zero_le _, Nat.zero_le _⟩ (⟨rfl, rfl, by unfold z_hN; rw [z_nc_i (fun r hr => by rw [z_up_a _ _ (by omega), z_up_a _ _ (by omega)]; exact h.zz r _ (by omega) (by omega) (by omega))], rfl, rfl⟩)
set_option maxHeartbeats 4000000 in
theorem c_X6_addRow {π : Nat → Nat} {I J : AwI} {v : Int} (h : z_M I J) (h8 : I 1 6 < 10) : CT m_X6_addRow [zr 1, zi v] 255 I J (z_R π) (z_P (some (zi (I 1 6))) 255 (z_hR I v) J (z_R π)) := by
  have hrw := h.rw
  refine CT.of (by decide) (Nat.le_of_ble_eq_true rfl) ?_
  show AW _ 0 0 _ 0 [some (zr 1), some (zi v)] [] _ _ _
  refine aw_aload_n (pc := 0) dX6_addRow_0 rfl ?_
  refine aw_getR (pc := 1) dX6_addRow_1 k_fl_X6_27 rfl (by omega) (by first | rfl | exact z_shr _ (by omega) | exact z_shc0 (by omega) | exact z_shc1 (by omega) | exact z_shc2 (by omega) | exact z_shc3 (by omega) | exact z_shc4 (by omega)) (by first | rfl | exact z_Rc0 _ (by omega) | exact z_Rc1 _ (by omega) | exact z_Rc2 _ (by omega) | exact z_Rc3 _ (by omega)) ?_
  refine aw_aload_n (pc := 4) dX6_addRow_4 rfl ?_
  refine aw_getI (pc := 5) dX6_addRow_5 k_fl_X6_34 rfl (by omega) (by first | rfl | exact z_shr _ (by omega) | exact z_shc0 (by omega) | exact z_shc1 (by omega) | exact z_shc2 (by omega) | exact z_shc3 (by omega) | exact z_shc4 (by omega)) ?_
  refine aw_iload_n (pc := 8) dX6_addRow_8 rfl ?_
  refine aw_iastore (pc := 9) dX6_addRow_9 (by omega) (Nat.le_refl _) (by first | rfl | exact z_shr _ (by omega) | exact z_shc0 (by omega) | exact z_shc1 (by omega) | exact z_shc2 (by omega) | exact z_shc3 (by omega) | exact z_shc4 (by omega)) (by first | omega | exact z_bl_r _) ?_
  refine aw_aload_n (pc := 10) dX6_addRow_10 rfl ?_
  refine aw_getR (pc := 11) dX6_addRow_11 k_fl_X6_24 rfl (by omega) (by first | rfl | exact z_shr _ (by omega) | exact z_shc0 (by omega) | exact z_shc1 (by omega) | exact z_shc2 (by omega) | exact z_shc3 (by omega) | exact z_shc4 (by omega)) (by first | rfl | exact z_Rc0 _ (by omega) | exact z_Rc1 _ (by omega) | exact z_Rc2 _ (by omega) | exact z_Rc3 _ (by omega)) ?_
  refine aw_aload_n (pc := 14) dX6_addRow_14 rfl ?_
  refine aw_getV (pc := 15) (v := I 1 6) dX6_addRow_15 k_fl_X6_34 rfl (by omega) (by first | rfl | exact z_shr _ (by omega) | exact z_shc0 (by omega) | exact z_shc1 (by omega) | exact z_shc2 (by omega) | exact z_shc3 (by omega) | exact z_shc4 (by omega)) (by rw [z_up_a _ _ (by omega)]) ?_
  refine aw_aaloadG (b := 6 + (I 1 6).toNat) (pc := 18) dX6_addRow_18 (by omega) (Nat.le_refl _) rfl (by omega) (by rfl) ?_
  refine aw_iconst (pc := 19) dX6_addRow_19 ?_
  refine aw_qS (pc := 20) (d := m_J7_fill_53178) (c_fill (n := 8) (by omega) (z_shr _ (by omega)) (by omega)) k_J7_fill_53178 dX6_addRow_20 k_ml_X6_37 rfl ⟨rfl, rfl⟩ ⟨Nat.le_of_ble_eq_true rfl, Nat.le_of_ble_eq_true rfl⟩ ⟨Nat.zero_le _, Nat.zero_le _⟩ rfl (Nat.le_of_ble_eq_true rfl) (z_Pk ?_)
  refine aw_aload_n (pc := 23) dX6_addRow_23 rfl ?_
  refine aw_dup (pc := 24) dX6_addRow_24 (fun _ h => by cases h) ?_
  refine aw_getV (pc := 25) (v := I 1 6) dX6_addRow_25 k_fl_X6_34 rfl (by omega) (by first | rfl | exact z_shr _ (by omega) | exact z_shc0 (by omega) | exact z_shc1 (by omega) | exact z_shc2 (by omega) | exact z_shc3 (by omega) | exact z_shc4 (by omega)) (by rw [z_fl_a _ _ (by omega), z_up_a _ _ (by omega)]) ?_
  refine aw_dup_x1 (pc := 28) dX6_addRow_28 (fun _ h => by cases h) (fun _ h => by cases h) ?_
  refine aw_iconst (pc := 29) dX6_addRow_29 ?_
  refine aw_iadd (pc := 30) dX6_addRow_30 ?_
  refine aw_putI (pc := 31) dX6_addRow_31 k_fl_X6_34 rfl (by omega) (by first | rfl | exact z_shr _ (by omega) | exact z_shc0 (by omega) | exact z_shc1 (by omega) | exact z_shc2 (by omega) | exact z_shc3 (by omega) | exact z_shc4 (by omega)) ?_
  exact aw_ireturn (pc := 34) dX6_addRow_34 rfl ⟨Nat.zero_le _, Nat.zero_le _⟩ (⟨rfl, rfl, rfl, rfl, rfl⟩)
