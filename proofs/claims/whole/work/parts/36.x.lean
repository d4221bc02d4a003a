/-! turns -/
def z_ag1 (m : z_MM) (C : z_CC) : Int := if z_str2 m C < 0 then cA C + 1 else 0
def z_sA (C : z_CC) (a : Int) : z_CC := (C.1, C.2.1, C.2.2.1, a, C.2.2.2.2)
def z_tn (m : z_MM) (L : List z_CC) : List z_CC := L.filterMap (fun C => if z_ag1 m C < 3 then some (z_sA C (z_ag1 m C)) else none)
theorem z_tn_s {m : z_MM} {L : List z_CC} {n : Nat} {C : z_CC} (h : L[n]? = some C) : z_tn m (L.take (n + 1)) = z_tn m (L.take n) ++ (if z_ag1 m C < 3 then [z_sA C (z_ag1 m C)] else []) := by
  obtain ⟨hlt, hC⟩ := List.getElem?_eq_some_iff.mp h
  unfold z_tn
  rw [← List.take_append_getElem hlt, List.filterMap_append, hC]
  congr 1
  by_cases q : z_ag1 m C < 3
  · rw [if_pos q]; simp [q]
  · rw [if_neg q]; simp [q]
theorem z_tn_len {m : z_MM} {L : List z_CC} : (z_tn m L).length ≤ L.length := List.length_filterMap_le _ _
theorem z_tn_age {m : z_MM} {L : List z_CC} : ∀ D ∈ z_tn m L, cA D ≤ 2 := by
  intro D hD
  obtain ⟨C, -, hC⟩ := List.mem_filterMap.mp hD
  split at hC
  · rename_i q
    cases hC
    show z_ag1 m C ≤ 2
    omega
  · cases hC
theorem z_clC.age {I : AwI} {c : Nat} {m : z_MM} {C : z_CC} {a : Int} (h : z_clC I c m C) : z_clC (z_up I (19 + 5 * c) 6 a) c m (z_sA C a) := by
  obtain ⟨h1, h2, h3, h4, h5, h6⟩ := h
  refine ⟨fun n hn => by rw [z_up_a _ _ (by omega)]; exact h1 n hn, by rw [z_up_k _ _ (by omega)]; exact h2, by rw [z_up_k _ _ (by omega)]; exact h3, by rw [z_up_s]; rfl, fun q => ?_, fun q => by rw [z_up_k _ _ (by omega)]; exact h6 q⟩
  obtain ⟨g1, g2, g3, g4⟩ := h5 q
  exact ⟨fun n hn => by rw [z_up_a _ _ (by omega)]; exact g1 n hn, fun n hn => by rw [z_up_a _ _ (by omega)]; exact g2 n hn, fun n hn => by rw [z_up_a _ _ (by omega)]; exact g3 n hn, by rw [z_up_k _ _ (by omega)]; exact g4⟩
theorem z_clC.other {I : AwI} {c d k : Nat} {m : z_MM} {C : z_CC} {a : Int} (h : z_clC I c m C) (hd : d ≠ c) : z_clC (z_up I (19 + 5 * d) k a) c m C := h.congr (fun a j h1 h2 => z_up_a _ _ (by omega))
theorem z_ag_cl {I J : AwI} {π : Nat → Nat} {L : List z_CC} (h : z_M I J) (hL : z_L I π) (hc : z_clL I π (z_clM I J) L) (hA : ∀ C ∈ L, cA C ≤ 2) (hA2 : ∀ k : Nat, (k : Int) < I 17 1 → I (19 + 5 * π k) 6 ≤ 2) : ∀ n, n ≤ L.length → (z_ag J π I n).1 = (z_tn (z_clM I J) (L.take n)).length ∧ ∀ k C, (z_tn (z_clM I J) (L.take n))[k]? = some C → z_clC (z_ag J π I n).2.2 ((z_ag J π I n).2.1 k) (z_clM I J) C := by
  intro n
  induction n with
  | zero => intro _; exact ⟨rfl, fun k C hk => by cases hk⟩
  | succ n ih =>
    intro hn
    have hn4 := hL.n
    have hlen := hc.1
    obtain ⟨i1, i2⟩ := ih (by omega)
    obtain ⟨g1, g2, g3, g4, g5⟩ := z_ag_ok (J := J) hL hA2 n (by omega)
    have hC : L[n]? = some L[n] := List.getElem?_eq_getElem (by omega)
    have hpn : (z_ag J π I n).2.1 n = π n := g2 n (Nat.le_refl _)
    have hsame : ∀ a k, 19 + 5 * π n ≤ a → a ≤ 19 + 5 * π n + 4 → (z_ag J π I n).2.2 a k = I a k := fun a k h1 h2 => g4 a k (Or.inr (fun j hj e => by
      have := hL.2.1.2 n j (by omega) (by omega) (by omega)
      omega))
    have hCn : z_clC (z_ag J π I n).2.2 (π n) (z_clM I J) L[n] := (hc.2 n _ hC).congr hsame
    have hMn : z_M (z_ag J π I n).2.2 J := h.congr (fun a k ha => g4 a k (Or.inr (fun j _ e => by omega))) (fun _ => rfl)
    have emn : z_clM (z_ag J π I n).2.2 J = z_clM I J := z_clM.congr h (fun a k ha => g4 a k (Or.inr (fun j _ e => by omega))) (fun _ => rfl)
    have estr : z_cst (z_ag J π I n).2.2 J (π n) = z_str2 (z_clM I J) L[n] := by
      have := z_clM_str hMn (C := L[n]) (c := π n) (by rw [emn]; exact hCn)
      rw [emn] at this
      exact this
    have eaa : z_aa J (z_ag J π I n) n = z_ag1 (z_clM I J) L[n] := by
      unfold z_aa z_ag1
      rw [hpn, estr, hCn.2.2.2.1]
    have hinj : ∀ k, k < (z_ag J π I n).1 → π n ≠ (z_ag J π I n).2.1 k := fun k hk e => by
      have := g3.2 n k (by omega) (by omega) (by rw [hpn]; exact e)
      omega
    rw [z_tn_s hC]
    by_cases q : z_ag1 (z_clM I J) L[n] < 3
    · rw [z_ag_1 (by rw [eaa]; exact q), if_pos q, eaa, hpn]
      refine ⟨by rw [List.length_append, ← i1]; rfl, fun k C hk => ?_⟩
      by_cases hk2 : k < (z_tn (z_clM I J) (L.take n)).length
      · rw [List.getElem?_append_left hk2] at hk
        show z_clC _ (va_up (va_up _ _ _) _ _ k) _ _
        rw [show va_up (va_up (z_ag J π I n).2.1 n ((z_ag J π I n).2.1 (z_ag J π I n).1)) (z_ag J π I n).1 (π n) k = (z_ag J π I n).2.1 k by unfold va_up; rw [if_neg (by omega), if_neg (by omega)]]
        exact (i2 k C hk).other (hinj k (by omega))
      · rw [List.getElem?_append_right (by omega)] at hk
        have h0 : k - (z_tn (z_clM I J) (L.take n)).length < 1 := (List.getElem?_eq_some_iff.mp hk).1
        rw [show k - (z_tn (z_clM I J) (L.take n)).length = 0 by omega] at hk
        cases hk
        show z_clC _ (va_up (va_up _ _ _) _ _ k) _ _
        rw [show va_up (va_up (z_ag J π I n).2.1 n ((z_ag J π I n).2.1 (z_ag J π I n).1)) (z_ag J π I n).1 (π n) k = π n by unfold va_up; rw [if_pos (by omega)]]
        exact hCn.age
    · rw [z_ag_0 (by rw [eaa]; exact q), if_neg q, List.append_nil, eaa, hpn]
      exact ⟨i1, fun k C hk => (i2 k C hk).other (hinj k (by have := (List.getElem?_eq_some_iff.mp hk).1; omega))⟩
/-! one cut changed -/
theorem z_CI.put {I I' J : AwI} {π : Nat → Nat} {m : z_MM} {L : List z_CC} {t : Int} {k : Nat} {C : z_CC} (h : z_CI I J π m L t) (hk : k < L.length) (hI : ∀ a j, a < 19 + 5 * π k ∨ 19 + 5 * π k + 4 < a → I' a j = I a j) (hC : z_C I' (π k)) (hD : z_clC I' (π k) m C) (ha : cA C ≤ 2) : z_CI I' J π m (L.set k C) t := by
  have hl := h.len
  obtain ⟨h1, h2, h3, h4, h5, h6, h7, h8, h9, hA⟩ := h
  have hp := h4.p (k := k) (by omega)
  have hn4 := h4.n
  refine ⟨h1.congr (fun a j ha => hI a j (by omega)) (fun _ => rfl), ?_, h3, ⟨by rw [hI 17 1 (by omega)]; exact hn4, h4.2.1, fun c hc => ?_⟩, ⟨by rw [hI 17 1 (by omega), List.length_set]; exact h5.1, fun j D hj => ?_⟩, ?_, h7, fun n => ?_, fun j => ?_, fun D hD => ?_⟩
  · rw [z_clM.congr h1 (fun a j ha => hI a j (by omega)) (fun _ => rfl)]; exact h2
  · by_cases e : c = π k
    · rw [e]; exact hC
    · have g := h4.c hc
      refine ⟨fun n => ?_, fun n => ?_, fun n => ?_, fun n => ?_, ?_, ?_, ?_, ?_, ?_⟩
      · rw [hI _ _ (by omega)]; exact g.f n
      · rw [hI _ _ (by omega)]; exact g.rt n
      · rw [hI _ _ (by omega)]; exact g.lt n
      · rw [hI _ _ (by omega)]; exact g.ht n
      · rw [hI _ _ (by omega)]; exact g.r
      · rw [hI _ _ (by omega)]; exact g.kd
      · rw [hI _ _ (by omega)]; exact g.ag
      · rw [hI _ _ (by omega)]; exact g.dv
      · rw [hI _ _ (by omega)]; exact g.cr
  · by_cases e : j = k
    · subst e
      rw [List.getElem?_set_self hk] at hj
      cases hj
      exact hD
    · rw [List.getElem?_set_ne (fun q => e q.symm)] at hj
      have hlt := (List.getElem?_eq_some_iff.mp hj).1
      have hne : π j ≠ π k := fun q => e (h4.2.1.2 j k (by omega) (by omega) q)
      exact (h5.2 j D hj).congr (fun a i q1 q2 => hI a i (by omega))
  · rw [hI 17 2 (by omega)]; exact h6
  · rw [hI 225 n (by omega)]; exact h8 n
  · rw [hI 232 j (by omega)]; exact h9 j
  · rcases List.mem_or_eq_of_mem_set hD with q | q
    · exact hA D q
    · rw [q]; exact ha
def z_g (L : List z_CC) (k : Nat) : z_CC := L.getD k z_C0
theorem z_g_in {L : List z_CC} {k : Nat} (h : k < L.length) : L[k]? = some (z_g L k) := by
  unfold z_g
  rw [List.getD_eq_getElem?_getD, List.getElem?_eq_getElem h]
  rfl
theorem z_CI.at {I J : AwI} {π : Nat → Nat} {m : z_MM} {L : List z_CC} {t : Int} {k : Nat} (h : z_CI I J π m L t) (hk : k < L.length) : z_clC I (π k) m (z_g L k) ∧ π k < 41 ∧ z_C I (π k) ∧ cA (z_g L k) ≤ 2 := by
  have hl := h.len
  have hp := h.2.2.2.1.p (k := k) (by omega)
  exact ⟨h.2.2.2.2.1.2 k _ (z_g_in hk), hp, h.2.2.2.1.c hp, h.2.2.2.2.2.2.2.2.2 _ (List.mem_of_getElem? (z_g_in hk))⟩
/-! what is shown -/
def z_rfS (m : z_MM) (kd w i : Int) : Int := if w < 0 ∨ 3 < w then -2 else if kd = 3 then -1 else if kd = 2 ∧ w ≠ 0 then -1 else if kd = 2 ∨ w = 3 then (if i = 0 then 0 else -2) else if w = 0 then (if 0 ≤ i ∧ i < (mR m : Int) then 0 else -1) else (if 0 ≤ i ∧ i < (mN m : Int) then 0 else -1)
def z_rfP (m : z_MM) (kd w i : Int) : Int := if w = 0 then (if 0 ≤ i ∧ i < (mN m : Int) then 0 else -1) else if w = 1 then (if i = 0 then 0 else -2) else if 2 ≤ w ∧ w ≤ 5 then z_rfS m kd (w - 2) i else -2
theorem z_rfS_b (m : z_MM) (kd w i : Int) : -2 ≤ z_rfS m kd w i ∧ z_rfS m kd w i ≤ 0 := by
  unfold z_rfS
  repeat' split
  all_goals omega
theorem z_rfP_b (m : z_MM) (kd w i : Int) : -2 ≤ z_rfP m kd w i ∧ z_rfP m kd w i ≤ 0 := by
  have := z_rfS_b m kd (w - 2) i
  unfold z_rfP
  repeat' split
  all_goals omega
theorem z_rfS_0 {m : z_MM} {kd w i : Int} (h : z_rfS m kd w i = 0) : (0 ≤ w ∧ w ≤ 3) ∧ kd ≠ 3 ∧ (kd = 2 → w = 0 ∧ i = 0) ∧ (kd ≠ 2 → (w = 3 → i = 0) ∧ (w = 0 → 0 ≤ i ∧ i < (mR m : Int)) ∧ (w = 1 ∨ w = 2 → 0 ≤ i ∧ i < (mN m : Int))) := by
  unfold z_rfS at h
  repeat' split at h
  all_goals omega
/-- the place of what is shown -/
def z_pos (kd w i : Int) : Nat := if w = 0 then (if kd = 2 then 0 else i.toNat) else if w = 1 then 10 + i.toNat else if w = 2 then 18 + i.toNat else 26
def z_rPf (m : z_MM) (L : List z_CC) (t k w i : Int) : z_RS := if ¬ (0 ≤ k ∧ k < (L.length : Int)) then (-1, m, L, t) else (if z_rfS m (cK (z_g L k.toNat)) w i = 0 then cS (z_g L k.toNat) (z_pos (cK (z_g L k.toNat)) w i) else z_rfS m (cK (z_g L k.toNat)) w i, m, L, t)
def z_pl (C : z_CC) (w i v : Int) : z_CC := if w = 0 then (va_up C.1 i.toNat v, C.2) else if w = 1 then (C.1, v, C.2.2) else (C.1, C.2.1, C.2.2.1, C.2.2.2.1, va_up C.2.2.2.2 (z_pos (cK C) (w - 2) i) v)
def z_rPl (m : z_MM) (L : List z_CC) (t k w i v : Int) : z_RS := if ¬ (0 ≤ k ∧ k < (L.length : Int)) then (-1, m, L, t) else if z_rfP m (cK (z_g L k.toNat)) w i ≠ 0 then (z_rfP m (cK (z_g L k.toNat)) w i, m, L, t) else if v < -1000 ∨ 1000 < v then (-2, m, L, t) else (1, m, L.set k.toNat (z_pl (z_g L k.toNat) w i v), t)
theorem z_shw_cl {I : AwI} {c : Nat} {m : z_MM} {C : z_CC} {w i : Int} (h : z_clC I c m C) (hk : 0 ≤ cK C ∧ cK C ≤ 3) (h0 : z_rfS m (cK C) w i = 0) : z_shw I c w i = cS C (z_pos (cK C) w i) := by
  obtain ⟨g1, g2, g3, g4⟩ := z_rfS_0 h0
  obtain ⟨h1, h2, h3, h4, h5, h6⟩ := h
  unfold z_shw z_pos
  rw [h3]
  by_cases q2 : cK C = 2
  · have := g3 q2
    rw [if_pos this.1, if_pos q2, if_pos this.1, if_pos q2]
    exact h6 q2
  · obtain ⟨a1, a2, a3, a4⟩ := h5 (by omega)
    obtain ⟨b1, b2, b3⟩ := g4 q2
    rcases (show w = 0 ∨ w = 1 ∨ w = 2 ∨ w = 3 by omega) with e | e | e | e
    · rw [if_pos e, if_neg q2, if_pos e, if_neg q2]
      exact a1 _ (by have := b2 e; omega)
    · rw [if_neg (by omega), if_pos e, if_neg (by omega), if_pos e]
      exact a2 _ (by have := b3 (Or.inl e); omega)
    · rw [if_neg (by omega), if_neg (by omega), if_pos e, if_neg (by omega), if_neg (by omega), if_pos e]
      exact a3 _ (by have := b3 (Or.inr e); omega)
    · rw [if_neg (by omega), if_neg (by omega), if_neg (by omega), if_neg (by omega), if_neg (by omega), if_neg (by omega)]
      exact a4
/-- a cut with another thing shown -/
theorem z_sho_cl {I : AwI} {c : Nat} {m : z_MM} {C : z_CC} {w i v : Int} (h : z_clC I c m C) (hk : 0 ≤ cK C ∧ cK C ≤ 3) (hmN : mN m ≤ 8) (hmR : mR m ≤ 10) (h0 : z_rfS m (cK C) w i = 0) : z_clC (z_sho I c w i v) c m (C.1, C.2.1, C.2.2.1, C.2.2.2.1, va_up C.2.2.2.2 (z_pos (cK C) w i) v) := by
  obtain ⟨g1, g2, g3, g4⟩ := z_rfS_0 h0
  obtain ⟨h1, h2, h3, h4, h5, h6⟩ := h
  have key : ∀ (a k : Nat), (a ≠ 19 + 5 * c + 2 ∧ a ≠ 19 + 5 * c + 3 ∧ a ≠ 19 + 5 * c + 4 ∧ (a ≠ 19 + 5 * c ∨ k ≤ 6)) → z_sho I c w i v a k = I a k := fun a k q => by
    unfold z_sho
    repeat' split
    all_goals (show (if _ ∧ _ then _ else _) = _; rw [if_neg (by omega)])
  refine ⟨fun n hn => by rw [key _ _ (by omega)]; exact h1 n hn, by rw [key _ _ (by omega)]; exact h2, by rw [key _ _ (by omega)]; exact h3, by rw [key _ _ (by omega)]; exact h4, fun q => ?_, fun q => ?_⟩
  · have q : cK C = 0 ∨ cK C = 1 := q
    obtain ⟨a1, a2, a3, a4⟩ := h5 q
    obtain ⟨b1, b2, b3⟩ := g4 (by omega)
    show (∀ r, r < mR m → _ = va_up (cS C) _ v r) ∧ (∀ n, n < mN m → _ = va_up (cS C) _ v (10 + n)) ∧ (∀ n, n < mN m → _ = va_up (cS C) _ v (18 + n)) ∧ _ = va_up (cS C) _ v 26
    unfold z_sho z_pos va_up
    rw [h3]
    rcases (show w = 0 ∨ w = 1 ∨ w = 2 ∨ w = 3 by omega) with e | e | e | e
    · rw [if_pos e, if_neg (by omega), if_pos e, if_neg (by omega)]
      have := b2 e
      refine ⟨fun r hr => ?_, fun n hn => ?_, fun n hn => ?_, ?_⟩
      · show (if _ ∧ r = i.toNat then _ else _) = _
        by_cases e2 : r = i.toNat
        · rw [if_pos ⟨rfl, e2⟩, if_pos e2]
        · rw [if_neg (fun q => e2 q.2), if_neg e2]; exact a1 r hr
      · rw [z_up_a _ _ (by omega), if_neg (by omega)]; exact a2 n hn
      · rw [z_up_a _ _ (by omega), if_neg (by omega)]; exact a3 n hn
      · rw [z_up_a _ _ (by omega), if_neg (by omega)]; exact a4
    · rw [if_neg (by omega), if_pos e, if_neg (by omega), if_pos e]
      have := b3 (Or.inl e)
      refine ⟨fun r hr => ?_, fun n hn => ?_, fun n hn => ?_, ?_⟩
      · rw [z_up_a _ _ (by omega), if_neg (by omega)]; exact a1 r hr
      · show (if _ ∧ n = i.toNat then _ else _) = _
        by_cases e2 : n = i.toNat
        · rw [if_pos ⟨rfl, e2⟩, if_pos (by omega)]
        · rw [if_neg (fun q => e2 q.2), if_neg (by omega)]; exact a2 n hn
      · rw [z_up_a _ _ (by omega), if_neg (by omega)]; exact a3 n hn
      · rw [z_up_a _ _ (by omega), if_neg (by omega)]; exact a4
    · rw [if_neg (by omega), if_neg (by omega), if_pos e, if_neg (by omega), if_neg (by omega), if_pos e]
      have := b3 (Or.inr e)
      refine ⟨fun r hr => ?_, fun n hn => ?_, fun n hn => ?_, ?_⟩
      · rw [z_up_a _ _ (by omega), if_neg (by omega)]; exact a1 r hr
      · rw [z_up_a _ _ (by omega), if_neg (by omega)]; exact a2 n hn
      · show (if _ ∧ n = i.toNat then _ else _) = _
        by_cases e2 : n = i.toNat
        · rw [if_pos ⟨rfl, e2⟩, if_pos (by omega)]
        · rw [if_neg (fun q => e2 q.2), if_neg (by omega)]; exact a3 n hn
      · rw [z_up_a _ _ (by omega), if_neg (by omega)]; exact a4
    · rw [if_neg (by omega), if_neg (by omega), if_neg (by omega), if_neg (by omega), if_neg (by omega), if_neg (by omega)]
      refine ⟨fun r hr => ?_, fun n hn => ?_, fun n hn => ?_, ?_⟩
      · rw [z_up_a _ _ (by omega), if_neg (by omega)]; exact a1 r hr
      · rw [z_up_a _ _ (by omega), if_neg (by omega)]; exact a2 n hn
      · rw [z_up_a _ _ (by omega), if_neg (by omega)]; exact a3 n hn
      · rw [z_up_s, if_pos rfl]
  · have q : cK C = 2 := q
    have e := g3 q
    show _ = va_up (cS C) _ v 0
    unfold z_sho z_pos va_up
    rw [h3, if_pos e.1, if_pos q, if_pos e.1, if_pos q, z_up_s, if_pos rfl]
theorem z_sho_o {I : AwI} {c : Nat} {w i v : Int} {a k : Nat} (h : a < 19 + 5 * c ∨ 19 + 5 * c + 4 < a) : z_sho I c w i v a k = I a k := by
  unfold z_sho
  repeat' split
  all_goals exact z_up_a _ _ (by omega)
theorem z_C.upF {I : AwI} {c k : Nat} {v : Int} (h : z_C I c) (hv : -1000 ≤ v ∧ v ≤ 1000) (a : Nat) (ha : 19 + 5 * c + 1 ≤ a ∧ a ≤ 19 + 5 * c + 4 ∨ a = 19 + 5 * c ∧ (k = 4 ∨ k = 7 ∨ k = 8)) : z_C (z_up I a k v) c := by
  have key : ∀ b j, (-1000 ≤ I b j ∧ I b j ≤ 1000) → -1000 ≤ z_up I a k v b j ∧ z_up I a k v b j ≤ 1000 := fun b j q => by
    unfold z_up
    split
    · exact hv
    · exact q
  refine ⟨fun n => key _ _ (h.f n), fun n => key _ _ (h.rt n), fun n => key _ _ (h.lt n), fun n => key _ _ (h.ht n), ?_, ?_, ?_, key _ _ h.dv, key _ _ h.cr⟩
  · have := h.r
    unfold z_up
    split
    · omega
    · exact this
  · show 0 ≤ (if _ ∧ _ then _ else _) ∧ (if _ ∧ _ then _ else _) ≤ 3
    rw [if_neg (by omega)]; exact h.kd
  · show 0 ≤ (if _ ∧ _ then _ else _) ∧ (if _ ∧ _ then _ else _) ≤ 3
    rw [if_neg (by omega)]; exact h.ag
theorem z_C.sho {I : AwI} {c : Nat} {w i v : Int} (h : z_C I c) (hv : -1000 ≤ v ∧ v ≤ 1000) : z_C (z_sho I c w i v) c := by
  unfold z_sho
  repeat' split
  all_goals exact h.upF hv _ (by omega)
set_option maxHeartbeats 4000000 in
theorem c_X8_refusalOfShown {π : Nat → Nat} {I J : AwI} {c : Nat} {w i : Int} (h : z_M I J) (hk : c < 41) (hc : z_C I c) (hw : -2147483648 ≤ w ∧ w ≤ 2147483647) (hi : -2147483648 ≤ i ∧ i ≤ 2147483647) : CT m_X8_refusalOfShown [zr 0, zr (19 + 5 * c), zi w, zi i] 255 I J (z_R π) (z_P (some (zi (z_rfS (z_clM I J) (I (19 + 5 * c) 5) w i))) 255 I J (z_R π)) := by
  have hnm := h.nm
  have hrw := h.rw
  have hkd := hc.kd
  have eN : mN (z_clM I J) = (I 1 5).toNat := rfl
  have eR : mR (z_clM I J) = (I 1 6).toNat := rfl
  refine CT.of (by decide) (Nat.le_of_ble_eq_true rfl) ?_
  show AW _ 0 0 _ 0 [some (zr 0), some (zr (19 + 5 * c)), some (zi w), some (zi i), none] [] _ _ _
  refine aw_iload_n (pc := 0) dX8_refusalOfShown_0 rfl ?_
  refine aw_if_lt (pc := 1) (tgt := 9) dX8_refusalOfShown_1 rfl (by first | omega | exact z_bl_r _) (fun h1 => ?_) (fun h1 => ?_)
  · refine aw_bipush (pc := 9) dX8_refusalOfShown_9 rfl ?_
    refine aw_ireturn (pc := 11) dX8_refusalOfShown_11 rfl ⟨Nat.zero_le _, Nat.zero_le _⟩ ?_
    first | rw [z_bl_n] at h87 | rw [z_bl_0] at h87 | skip
    refine ⟨?_, rfl, rfl, rfl, rfl⟩
    congr 2
    unfold z_rfS
    repeat' split
    all_goals (first | rfl | (exfalso; omega))
  · refine aw_iload_n (pc := 4) dX8_refusalOfShown_4 rfl ?_
    refine aw_iconst (pc := 5) dX8_refusalOfShown_5 ?_
    refine aw_icmp_le (pc := 6) (tgt := 12) dX8_refusalOfShown_6 rfl (by first | omega | exact z_bl_r _) (by first | omega | exact z_bl_r _) (fun h6 => ?_) (fun h6 => ?_)
    · refine aw_aload_n (pc := 12) dX8_refusalOfShown_12 rfl ?_
      refine aw_getI (pc := 13) dX8_refusalOfShown_13 k_fl_X8_139 rfl (by omega) (by first | rfl | exact z_shr _ (by omega) | exact z_shc0 (by omega) | exact z_shc1 (by omega) | exact z_shc2 (by omega) | exact z_shc3 (by omega) | exact z_shc4 (by omega)) ?_
      refine aw_iconst (pc := 16) dX8_refusalOfShown_16 ?_
      refine aw_icmp_ne (pc := 17) (tgt := 22) dX8_refusalOfShown_17 rfl (by first | omega | exact z_bl_r _) (by first | omega | exact z_bl_r _) (fun h17 => ?_) (fun h17 => ?_)
      · refine aw_aload_n (pc := 22) dX8_refusalOfShown_22 rfl ?_
        refine aw_getI (pc := 23) dX8_refusalOfShown_23 k_fl_X8_139 rfl (by omega) (by first | rfl | exact z_shr _ (by omega) | exact z_shc0 (by omega) | exact z_shc1 (by omega) | exact z_shc2 (by omega) | exact z_shc3 (by omega) | exact z_shc4 (by omega)) ?_
        refine aw_iconst (pc := 26) dX8_refusalOfShown_26 ?_
        refine aw_icmp_ne (pc := 27) (tgt := 36) dX8_refusalOfShown_27 rfl (by first | omega | exact z_bl_r _) (by first | omega | exact z_bl_r _) (fun h27 => ?_) (fun h27 => ?_)
        · refine aw_aload_n (pc := 36) dX8_refusalOfShown_36 rfl ?_
          refine aw_getI (pc := 37) dX8_refusalOfShown_37 k_fl_X8_139 rfl (by omega) (by first | rfl | exact z_shr _ (by omega) | exact z_shc0 (by omega) | exact z_shc1 (by omega) | exact z_shc2 (by omega) | exact z_shc3 (by omega) | exact z_shc4 (by omega)) ?_
          refine aw_iconst (pc := 40) dX8_refusalOfShown_40 ?_
          refine aw_icmp_eq (pc := 41) (tgt := 49) dX8_refusalOfShown_41 rfl (by first | omega | exact z_bl_r _) (by first | omega | exact z_bl_r _) (fun h41 => ?_) (fun h41 => ?_)
          · refine aw_iload_n (pc := 49) dX8_refusalOfShown_49 rfl ?_
            refine aw_if_ne (pc := 50) (tgt := 57) dX8_refusalOfShown_50 rfl (by first | omega | exact z_bl_r _) (fun h50 => ?_) (fun h50 => ?_)
            · refine aw_bipush (pc := 57) dX8_refusalOfShown_57 rfl ?_
              refine aw_ireturn (pc := 59) dX8_refusalOfShown_59 rfl ⟨Nat.zero_le _, Nat.zero_le _⟩ ?_
              first | rw [z_bl_n] at h87 | rw [z_bl_0] at h87 | skip
              refine ⟨?_, rfl, rfl, rfl, rfl⟩
              congr 2
              unfold z_rfS
              repeat' split
              all_goals (first | rfl | (exfalso; omega))
            · refine aw_iconst (pc := 53) dX8_refusalOfShown_53 ?_
              refine aw_goto (pc := 54) (tgt := 59) dX8_refusalOfShown_54 rfl ?_
              refine aw_ireturn (pc := 59) dX8_refusalOfShown_59 rfl ⟨Nat.zero_le _, Nat.zero_le _⟩ ?_
              first | rw [z_bl_n] at h87 | rw [z_bl_0] at h87 | skip
              refine ⟨?_, rfl, rfl, rfl, rfl⟩
              congr 2
              unfold z_rfS
              repeat' split
              all_goals (first | rfl | (exfalso; omega))
          · refine aw_iload_n (pc := 44) dX8_refusalOfShown_44 rfl ?_
            refine aw_iconst (pc := 45) dX8_refusalOfShown_45 ?_
            refine aw_icmp_ne (pc := 46) (tgt := 60) dX8_refusalOfShown_46 rfl (by first | omega | exact z_bl_r _) (by first | omega | exact z_bl_r _) (fun h46 => ?_) (fun h46 => ?_)
            · refine aw_iload_n (pc := 60) dX8_refusalOfShown_60 rfl ?_
              refine aw_if_ne (pc := 61) (tgt := 75) dX8_refusalOfShown_61 rfl (by first | omega | exact z_bl_r _) (fun h61 => ?_) (fun h61 => ?_)
              · refine aw_aload_n (pc := 75) dX8_refusalOfShown_75 rfl ?_
                refine aw_getR (pc := 76) dX8_refusalOfShown_76 k_fl_X8_10 rfl (by omega) (by first | rfl | exact z_shr _ (by omega) | exact z_shc0 (by omega) | exact z_shc1 (by omega) | exact z_shc2 (by omega) | exact z_shc3 (by omega) | exact z_shc4 (by omega)) (by first | rfl | exact z_Rc0 _ (by omega) | exact z_Rc1 _ (by omega) | exact z_Rc2 _ (by omega) | exact z_Rc3 _ (by omega)) ?_
                refine aw_iload_n (pc := 79) dX8_refusalOfShown_79 rfl ?_
                refine aw_qV (pc := 80) (d := m_X6_hasName) (c_X6_hasName h hi) k_X6_hasName dX8_refusalOfShown_80 k_ml_X8_88 rfl ⟨rfl, rfl⟩ (by omega) (by first | rfl | exact z_shr _ (by omega) | exact z_shc0 (by omega) | exact z_shc1 (by omega) | exact z_shc2 (by omega) | exact z_shc3 (by omega) | exact z_shc4 (by omega)) rfl ⟨Nat.le_of_ble_eq_true rfl, Nat.le_of_ble_eq_true rfl⟩ ⟨Nat.zero_le _, Nat.zero_le _⟩ rfl (Nat.le_of_ble_eq_true rfl) (z_Pk ?_)
                refine aw_istore (pc := 83) (lv' := [_, _, _, _, _]) dX8_refusalOfShown_83 (Nat.le_of_ble_eq_true rfl) rfl ?_
                refine aw_iload (pc := 85) dX8_refusalOfShown_85 rfl ?_
                refine aw_if_eq (pc := 87) (tgt := 94) dX8_refusalOfShown_87 rfl (by first | omega | exact z_bl_r _) (fun h87 => ?_) (fun h87 => ?_)
                · refine aw_iconst (pc := 94) dX8_refusalOfShown_94 ?_
                  refine aw_ireturn (pc := 95) dX8_refusalOfShown_95 rfl ⟨Nat.zero_le _, Nat.zero_le _⟩ ?_
                  first | rw [z_bl_n] at h87 | rw [z_bl_0] at h87 | skip
                  refine ⟨?_, rfl, rfl, rfl, rfl⟩
                  congr 2
                  unfold z_rfS
                  repeat' split
                  all_goals (first | rfl | (exfalso; omega))
                · refine aw_iconst (pc := 90) dX8_refusalOfShown_90 ?_
                  refine aw_goto (pc := 91) (tgt := 95) dX8_refusalOfShown_91 rfl ?_
                  refine aw_ireturn (pc := 95) dX8_refusalOfShown_95 rfl ⟨Nat.zero_le _, Nat.zero_le _⟩ ?_
                  first | rw [z_bl_n] at h87 | rw [z_bl_0] at h87 | skip
                  refine ⟨?_, rfl, rfl, rfl, rfl⟩
                  congr 2
                  unfold z_rfS
                  repeat' split
                  all_goals (first | rfl | (exfalso; omega))
              · refine aw_aload_n (pc := 64) dX8_refusalOfShown_64 rfl ?_
                refine aw_getR (pc := 65) dX8_refusalOfShown_65 k_fl_X8_10 rfl (by omega) (by first | rfl | exact z_shr _ (by omega) | exact z_shc0 (by omega) | exact z_shc1 (by omega) | exact z_shc2 (by omega) | exact z_shc3 (by omega) | exact z_shc4 (by omega)) (by first | rfl | exact z_Rc0 _ (by omega) | exact z_Rc1 _ (by omega) | exact z_Rc2 _ (by omega) | exact z_Rc3 _ (by omega)) ?_
                refine aw_iload_n (pc := 68) dX8_refusalOfShown_68 rfl ?_
                refine aw_qV (pc := 69) (d := m_X6_hasRow) (c_X6_hasRow h hi) k_X6_hasRow dX8_refusalOfShown_69 k_ml_X8_84 rfl ⟨rfl, rfl⟩ (by omega) (by first | rfl | exact z_shr _ (by omega) | exact z_shc0 (by omega) | exact z_shc1 (by omega) | exact z_shc2 (by omega) | exact z_shc3 (by omega) | exact z_shc4 (by omega)) rfl ⟨Nat.le_of_ble_eq_true rfl, Nat.le_of_ble_eq_true rfl⟩ ⟨Nat.zero_le _, Nat.zero_le _⟩ rfl (Nat.le_of_ble_eq_true rfl) (z_Pk ?_)
                refine aw_goto (pc := 72) (tgt := 83) dX8_refusalOfShown_72 rfl ?_
                refine aw_istore (pc := 83) (lv' := [_, _, _, _, _]) dX8_refusalOfShown_83 (Nat.le_of_ble_eq_true rfl) rfl ?_
                refine aw_iload (pc := 85) dX8_refusalOfShown_85 rfl ?_
                refine aw_if_eq (pc := 87) (tgt := 94) dX8_refusalOfShown_87 rfl (by first | omega | exact z_bl_r _) (fun h87 => ?_) (fun h87 => ?_)
                · refine aw_iconst (pc := 94) dX8_refusalOfShown_94 ?_
                  refine aw_ireturn (pc := 95) dX8_refusalOfShown_95 rfl ⟨Nat.zero_le _, Nat.zero_le _⟩ ?_
                  first | rw [z_bl_n] at h87 | rw [z_bl_0] at h87 | skip
                  refine ⟨?_, rfl, rfl, rfl, rfl⟩
                  congr 2
                  unfold z_rfS
                  repeat' split
                  all_goals (first | rfl | (exfalso; omega))
                · refine aw_iconst (pc := 90) dX8_refusalOfShown_90 ?_
                  refine aw_goto (pc := 91) (tgt := 95) dX8_refusalOfShown_91 rfl ?_
                  refine aw_ireturn (pc := 95) dX8_refusalOfShown_95 rfl ⟨Nat.zero_le _, Nat.zero_le _⟩ ?_
                  first | rw [z_bl_n] at h87 | rw [z_bl_0] at h87 | skip
                  refine ⟨?_, rfl, rfl, rfl, rfl⟩
                  congr 2
                  unfold z_rfS
                  repeat' split
                  all_goals (first | rfl | (exfalso; omega))
            · refine aw_iload_n (pc := 49) dX8_refusalOfShown_49 rfl ?_
              refine aw_if_ne (pc := 50) (tgt := 57) dX8_refusalOfShown_50 rfl (by first | omega | exact z_bl_r _) (fun h50 => ?_) (fun h50 => ?_)
              · refine aw_bipush (pc := 57) dX8_refusalOfShown_57 rfl ?_
                refine aw_ireturn (pc := 59) dX8_refusalOfShown_59 rfl ⟨Nat.zero_le _, Nat.zero_le _⟩ ?_
                first | rw [z_bl_n] at h87 | rw [z_bl_0] at h87 | skip
                refine ⟨?_, rfl, rfl, rfl, rfl⟩
                congr 2
                unfold z_rfS
                repeat' split
                all_goals (first | rfl | (exfalso; omega))
              · refine aw_iconst (pc := 53) dX8_refusalOfShown_53 ?_
                refine aw_goto (pc := 54) (tgt := 59) dX8_refusalOfShown_54 rfl ?_
                refine aw_ireturn (pc := 59) dX8_refusalOfShown_59 rfl ⟨Nat.zero_le _, Nat.zero_le _⟩ ?_
                first | rw [z_bl_n] at h87 | rw [z_bl_0] at h87 | skip
                refine ⟨?_, rfl, rfl, rfl, rfl⟩
                congr 2
                unfold z_rfS
                repeat' split
                all_goals (first | rfl | (exfalso; omega))
        · refine aw_iload_n (pc := 30) dX8_refusalOfShown_30 rfl ?_
          refine aw_if_eq (pc := 31) (tgt := 36) dX8_refusalOfShown_31 rfl (by first | omega | exact z_bl_r _) (fun h31 => ?_) (fun h31 => ?_)
          · refine aw_aload_n (pc := 36) dX8_refusalOfShown_36 rfl ?_
            refine aw_getI (pc := 37) dX8_refusalOfShown_37 k_fl_X8_139 rfl (by omega) (by first | rfl | exact z_shr _ (by omega) | exact z_shc0 (by omega) | exact z_shc1 (by omega) | exact z_shc2 (by omega) | exact z_shc3 (by omega) | exact z_shc4 (by omega)) ?_
            refine aw_iconst (pc := 40) dX8_refusalOfShown_40 ?_
            refine aw_icmp_eq (pc := 41) (tgt := 49) dX8_refusalOfShown_41 rfl (by first | omega | exact z_bl_r _) (by first | omega | exact z_bl_r _) (fun h41 => ?_) (fun h41 => ?_)
            · refine aw_iload_n (pc := 49) dX8_refusalOfShown_49 rfl ?_
              refine aw_if_ne (pc := 50) (tgt := 57) dX8_refusalOfShown_50 rfl (by first | omega | exact z_bl_r _) (fun h50 => ?_) (fun h50 => ?_)
              · refine aw_bipush (pc := 57) dX8_refusalOfShown_57 rfl ?_
                refine aw_ireturn (pc := 59) dX8_refusalOfShown_59 rfl ⟨Nat.zero_le _, Nat.zero_le _⟩ ?_
                first | rw [z_bl_n] at h87 | rw [z_bl_0] at h87 | skip
                refine ⟨?_, rfl, rfl, rfl, rfl⟩
                congr 2
                unfold z_rfS
                repeat' split
                all_goals (first | rfl | (exfalso; omega))
              · refine aw_iconst (pc := 53) dX8_refusalOfShown_53 ?_
                refine aw_goto (pc := 54) (tgt := 59) dX8_refusalOfShown_54 rfl ?_
                refine aw_ireturn (pc := 59) dX8_refusalOfShown_59 rfl ⟨Nat.zero_le _, Nat.zero_le _⟩ ?_
                first | rw [z_bl_n] at h87 | rw [z_bl_0] at h87 | skip
                refine ⟨?_, rfl, rfl, rfl, rfl⟩
                congr 2
                unfold z_rfS
                repeat' split
                all_goals (first | rfl | (exfalso; omega))
            · refine aw_iload_n (pc := 44) dX8_refusalOfShown_44 rfl ?_
              refine aw_iconst (pc := 45) dX8_refusalOfShown_45 ?_
              refine aw_icmp_ne (pc := 46) (tgt := 60) dX8_refusalOfShown_46 rfl (by first | omega | exact z_bl_r _) (by first | omega | exact z_bl_r _) (fun h46 => ?_) (fun h46 => ?_)
              · refine aw_iload_n (pc := 60) dX8_refusalOfShown_60 rfl ?_
                refine aw_if_ne (pc := 61) (tgt := 75) dX8_refusalOfShown_61 rfl (by first | omega | exact z_bl_r _) (fun h61 => ?_) (fun h61 => ?_)
                · refine aw_aload_n (pc := 75) dX8_refusalOfShown_75 rfl ?_
                  refine aw_getR (pc := 76) dX8_refusalOfShown_76 k_fl_X8_10 rfl (by omega) (by first | rfl | exact z_shr _ (by omega) | exact z_shc0 (by omega) | exact z_shc1 (by omega) | exact z_shc2 (by omega) | exact z_shc3 (by omega) | exact z_shc4 (by omega)) (by first | rfl | exact z_Rc0 _ (by omega) | exact z_Rc1 _ (by omega) | exact z_Rc2 _ (by omega) | exact z_Rc3 _ (by omega)) ?_
                  refine aw_iload_n (pc := 79) dX8_refusalOfShown_79 rfl ?_
                  refine aw_qV (pc := 80) (d := m_X6_hasName) (c_X6_hasName h hi) k_X6_hasName dX8_refusalOfShown_80 k_ml_X8_88 rfl ⟨rfl, rfl⟩ (by omega) (by first | rfl | exact z_shr _ (by omega) | exact z_shc0 (by omega) | exact z_shc1 (by omega) | exact z_shc2 (by omega) | exact z_shc3 (by omega) | exact z_shc4 (by omega)) rfl ⟨Nat.le_of_ble_eq_true rfl, Nat.le_of_ble_eq_true rfl⟩ ⟨Nat.zero_le _, Nat.zero_le _⟩ rfl (Nat.le_of_ble_eq_true rfl) (z_Pk ?_)
                  refine aw_istore (pc := 83) (lv' := [_, _, _, _, _]) dX8_refusalOfShown_83 (Nat.le_of_ble_eq_true rfl) rfl ?_
                  refine aw_iload (pc := 85) dX8_refusalOfShown_85 rfl ?_
                  refine aw_if_eq (pc := 87) (tgt := 94) dX8_refusalOfShown_87 rfl (by first | omega | exact z_bl_r _) (fun h87 => ?_) (fun h87 => ?_)
                  · refine aw_iconst (pc := 94) dX8_refusalOfShown_94 ?_
                    refine aw_ireturn (pc := 95) dX8_refusalOfShown_95 rfl ⟨Nat.zero_le _, Nat.zero_le _⟩ ?_
                    first | rw [z_bl_n] at h87 | rw [z_bl_0] at h87 | skip
                    refine ⟨?_, rfl, rfl, rfl, rfl⟩
                    congr 2
                    unfold z_rfS
                    repeat' split
                    all_goals (first | rfl | (exfalso; omega))
                  · refine aw_iconst (pc := 90) dX8_refusalOfShown_90 ?_
                    refine aw_goto (pc := 91) (tgt := 95) dX8_refusalOfShown_91 rfl ?_
                    refine aw_ireturn (pc := 95) dX8_refusalOfShown_95 rfl ⟨Nat.zero_le _, Nat.zero_le _⟩ ?_
                    first | rw [z_bl_n] at h87 | rw [z_bl_0] at h87 | skip
                    refine ⟨?_, rfl, rfl, rfl, rfl⟩
                    congr 2
                    unfold z_rfS
                    repeat' split
                    all_goals (first | rfl | (exfalso; omega))
                · refine aw_aload_n (pc := 64) dX8_refusalOfShown_64 rfl ?_
                  refine aw_getR (pc := 65) dX8_refusalOfShown_65 k_fl_X8_10 rfl (by omega) (by first | rfl | exact z_shr _ (by omega) | exact z_shc0 (by omega) | exact z_shc1 (by omega) | exact z_shc2 (by omega) | exact z_shc3 (by omega) | exact z_shc4 (by omega)) (by first | rfl | exact z_Rc0 _ (by omega) | exact z_Rc1 _ (by omega) | exact z_Rc2 _ (by omega) | exact z_Rc3 _ (by omega)) ?_
                  refine aw_iload_n (pc := 68) dX8_refusalOfShown_68 rfl ?_
                  refine aw_qV (pc := 69) (d := m_X6_hasRow) (c_X6_hasRow h hi) k_X6_hasRow dX8_refusalOfShown_69 k_ml_X8_84 rfl ⟨rfl, rfl⟩ (by omega) (by first | rfl | exact z_shr _ (by omega) | exact z_shc0 (by omega) | exact z_shc1 (by omega) | exact z_shc2 (by omega) | exact z_shc3 (by omega) | exact z_shc4 (by omega)) rfl ⟨Nat.le_of_ble_eq_true rfl, Nat.le_of_ble_eq_true rfl⟩ ⟨Nat.zero_le _, Nat.zero_le _⟩ rfl (Nat.le_of_ble_eq_true rfl) (z_Pk ?_)
                  refine aw_goto (pc := 72) (tgt := 83) dX8_refusalOfShown_72 rfl ?_
                  refine aw_istore (pc := 83) (lv' := [_, _, _, _, _]) dX8_refusalOfShown_83 (Nat.le_of_ble_eq_true rfl) rfl ?_
                  refine aw_iload (pc := 85) dX8_refusalOfShown_85 rfl ?_
                  refine aw_if_eq (pc := 87) (tgt := 94) dX8_refusalOfShown_87 rfl (by first | omega | exact z_bl_r _) (fun h87 => ?_) (fun h87 => ?_)
                  · refine aw_iconst (pc := 94) dX8_refusalOfShown_94 ?_
                    refine aw_ireturn (pc := 95) dX8_refusalOfShown_95 rfl ⟨Nat.zero_le _, Nat.zero_le _⟩ ?_
                    first | rw [z_bl_n] at h87 | rw [z_bl_0] at h87 | skip
                    refine ⟨?_, rfl, rfl, rfl, rfl⟩
                    congr 2
                    unfold z_rfS
                    repeat' split
                    all_goals (first | rfl | (exfalso; omega))
                  · refine aw_iconst (pc := 90) dX8_refusalOfShown_90 ?_
                    refine aw_goto (pc := 91) (tgt := 95) dX8_refusalOfShown_91 rfl ?_
                    refine aw_ireturn (pc := 95) dX8_refusalOfShown_95 rfl ⟨Nat.zero_le _, Nat.zero_le _⟩ ?_
                    first | rw [z_bl_n] at h87 | rw [z_bl_0] at h87 | skip
                    refine ⟨?_, rfl, rfl, rfl, rfl⟩
                    congr 2
                    unfold z_rfS
                    repeat' split
                    all_goals (first | rfl | (exfalso; omega))
              · refine aw_iload_n (pc := 49) dX8_refusalOfShown_49 rfl ?_
                refine aw_if_ne (pc := 50) (tgt := 57) dX8_refusalOfShown_50 rfl (by first | omega | exact z_bl_r _) (fun h50 => ?_) (fun h50 => ?_)
                · refine aw_bipush (pc := 57) dX8_refusalOfShown_57 rfl ?_
                  refine aw_ireturn (pc := 59) dX8_refusalOfShown_59 rfl ⟨Nat.zero_le _, Nat.zero_le _⟩ ?_
                  first | rw [z_bl_n] at h87 | rw [z_bl_0] at h87 | skip
                  refine ⟨?_, rfl, rfl, rfl, rfl⟩
                  congr 2
                  unfold z_rfS
                  repeat' split
                  all_goals (first | rfl | (exfalso; omega))
                · refine aw_iconst (pc := 53) dX8_refusalOfShown_53 ?_
                  refine aw_goto (pc := 54) (tgt := 59) dX8_refusalOfShown_54 rfl ?_
                  refine aw_ireturn (pc := 59) dX8_refusalOfShown_59 rfl ⟨Nat.zero_le _, Nat.zero_le _⟩ ?_
                  first | rw [z_bl_n] at h87 | rw [z_bl_0] at h87 | skip
                  refine ⟨?_, rfl, rfl, rfl, rfl⟩
                  congr 2
                  unfold z_rfS
                  repeat' split
                  all_goals (first | rfl | (exfalso; omega))
          · refine aw_iconst (pc := 34) dX8_refusalOfShown_34 ?_
            refine aw_ireturn (pc := 35) dX8_refusalOfShown_35 rfl ⟨Nat.zero_le _, Nat.zero_le _⟩ ?_
            first | rw [z_bl_n] at h87 | rw [z_bl_0] at h87 | skip
            refine ⟨?_, rfl, rfl, rfl, rfl⟩
            congr 2
            unfold z_rfS
            repeat' split
            all_goals (first | rfl | (exfalso; omega))
      · refine aw_iconst (pc := 20) dX8_refusalOfShown_20 ?_
        refine aw_ireturn (pc := 21) dX8_refusalOfShown_21 rfl ⟨Nat.zero_le _, Nat.zero_le _⟩ ?_
        first | rw [z_bl_n] at h87 | rw [z_bl_0] at h87 | skip
        refine ⟨?_, rfl, rfl, rfl, rfl⟩
        congr 2
        unfold z_rfS
        repeat' split
        all_goals (first | rfl | (exfalso; omega))
    · refine aw_bipush (pc := 9) dX8_refusalOfShown_9 rfl ?_
      refine aw_ireturn (pc := 11) dX8_refusalOfShown_11 rfl ⟨Nat.zero_le _, Nat.zero_le _⟩ ?_
      first | rw [z_bl_n] at h87 | rw [z_bl_0] at h87 | skip
      refine ⟨?_, rfl, rfl, rfl, rfl⟩
      congr 2
      unfold z_rfS
      repeat' split
      all_goals (first | rfl | (exfalso; omega))
set_option maxHeartbeats 4000000 in
theorem c_X8_refusalOfPlanted {π : Nat → Nat} {I J : AwI} {c : Nat} {w i : Int} (h : z_M I J) (hk : c < 41) (hc : z_C I c) (hw : -2147483648 ≤ w ∧ w ≤ 2147483647) (hi : -2147483648 ≤ i ∧ i ≤ 2147483647) : CT m_X8_refusalOfPlanted [zr 0, zr (19 + 5 * c), zi w, zi i] 255 I J (z_R π) (z_P (some (zi (z_rfP (z_clM I J) (I (19 + 5 * c) 5) w i))) 255 I J (z_R π)) := by
  have hnm := h.nm
  have eN : mN (z_clM I J) = (I 1 5).toNat := rfl
  refine CT.of (by decide) (Nat.le_of_ble_eq_true rfl) ?_
  show AW _ 0 0 _ 0 [some (zr 0), some (zr (19 + 5 * c)), some (zi w), some (zi i)] [] _ _ _
  refine aw_iload_n (pc := 0) dX8_refusalOfPlanted_0 rfl ?_
  rcases (show (w < 0 ∨ 5 < w) ∨ w = 0 ∨ w = 1 ∨ w = 2 ∨ w = 3 ∨ w = 4 ∨ w = 5 by omega) with h1 | h1 | h1 | h1 | h1 | h1 | h1
  · refine aw_tbl_out (pc := 1) (tgt := 78) dX8_refusalOfPlanted_1 (by omega) h1 rfl ?_
    refine aw_bipush (pc := 78) dX8_refusalOfPlanted_78 rfl ?_
    refine aw_ireturn (pc := 80) dX8_refusalOfPlanted_80 rfl ⟨Nat.zero_le _, Nat.zero_le _⟩ ?_
    first | rw [z_bl_n] at h48 | rw [z_bl_0] at h48 | skip
    refine ⟨congrArg (fun x => some (zi x)) ?_, rfl, rfl, rfl, rfl⟩
    unfold z_rfP
    repeat' split
    all_goals (first | rfl | (exfalso; omega))
  · subst h1
    refine aw_tbl_in (pc := 1) (tgt := 40) (off := 39) dX8_refusalOfPlanted_1 (by omega) (by omega) rfl rfl ?_
    refine aw_aload_n (pc := 40) dX8_refusalOfPlanted_40 rfl ?_
    refine aw_getR (pc := 41) dX8_refusalOfPlanted_41 k_fl_X8_10 rfl (by omega) (by first | rfl | exact z_shr _ (by omega) | exact z_shc0 (by omega) | exact z_shc1 (by omega) | exact z_shc2 (by omega) | exact z_shc3 (by omega) | exact z_shc4 (by omega)) (by first | rfl | exact z_Rc0 _ (by omega) | exact z_Rc1 _ (by omega) | exact z_Rc2 _ (by omega) | exact z_Rc3 _ (by omega)) ?_
    refine aw_iload_n (pc := 44) dX8_refusalOfPlanted_44 rfl ?_
    refine aw_qV (pc := 45) (d := m_X6_hasName) (c_X6_hasName h hi) k_X6_hasName dX8_refusalOfPlanted_45 k_ml_X8_88 rfl ⟨rfl, rfl⟩ (by omega) (by first | rfl | exact z_shr _ (by omega) | exact z_shc0 (by omega) | exact z_shc1 (by omega) | exact z_shc2 (by omega) | exact z_shc3 (by omega) | exact z_shc4 (by omega)) rfl ⟨Nat.le_of_ble_eq_true rfl, Nat.le_of_ble_eq_true rfl⟩ ⟨Nat.zero_le _, Nat.zero_le _⟩ rfl (Nat.le_of_ble_eq_true rfl) (z_Pk ?_)
    refine aw_if_eq (pc := 48) (tgt := 55) dX8_refusalOfPlanted_48 rfl (by first | omega | exact z_bl_r _) (fun h48 => ?_) (fun h48 => ?_)
    · refine aw_iconst (pc := 55) dX8_refusalOfPlanted_55 ?_
      refine aw_ireturn (pc := 56) dX8_refusalOfPlanted_56 rfl ⟨Nat.zero_le _, Nat.zero_le _⟩ ?_
      first | rw [z_bl_n] at h48 | rw [z_bl_0] at h48 | skip
      refine ⟨congrArg (fun x => some (zi x)) ?_, rfl, rfl, rfl, rfl⟩
      unfold z_rfP
      repeat' split
      all_goals (first | rfl | (exfalso; omega))
    · refine aw_iconst (pc := 51) dX8_refusalOfPlanted_51 ?_
      refine aw_goto (pc := 52) (tgt := 56) dX8_refusalOfPlanted_52 rfl ?_
      refine aw_ireturn (pc := 56) dX8_refusalOfPlanted_56 rfl ⟨Nat.zero_le _, Nat.zero_le _⟩ ?_
      first | rw [z_bl_n] at h48 | rw [z_bl_0] at h48 | skip
      refine ⟨congrArg (fun x => some (zi x)) ?_, rfl, rfl, rfl, rfl⟩
      unfold z_rfP
      repeat' split
      all_goals (first | rfl | (exfalso; omega))
  · subst h1
    refine aw_tbl_in (pc := 1) (tgt := 57) (off := 56) dX8_refusalOfPlanted_1 (by omega) (by omega) rfl rfl ?_
    refine aw_iload_n (pc := 57) dX8_refusalOfPlanted_57 rfl ?_
    refine aw_if_ne (pc := 58) (tgt := 65) dX8_refusalOfPlanted_58 rfl (by first | omega | exact z_bl_r _) (fun h58 => ?_) (fun h58 => ?_)
    · refine aw_bipush (pc := 65) dX8_refusalOfPlanted_65 rfl ?_
      refine aw_ireturn (pc := 67) dX8_refusalOfPlanted_67 rfl ⟨Nat.zero_le _, Nat.zero_le _⟩ ?_
      first | rw [z_bl_n] at h48 | rw [z_bl_0] at h48 | skip
      refine ⟨congrArg (fun x => some (zi x)) ?_, rfl, rfl, rfl, rfl⟩
      unfold z_rfP
      repeat' split
      all_goals (first | rfl | (exfalso; omega))
    · refine aw_iconst (pc := 61) dX8_refusalOfPlanted_61 ?_
      refine aw_goto (pc := 62) (tgt := 67) dX8_refusalOfPlanted_62 rfl ?_
      refine aw_ireturn (pc := 67) dX8_refusalOfPlanted_67 rfl ⟨Nat.zero_le _, Nat.zero_le _⟩ ?_
      first | rw [z_bl_n] at h48 | rw [z_bl_0] at h48 | skip
      refine ⟨congrArg (fun x => some (zi x)) ?_, rfl, rfl, rfl, rfl⟩
      unfold z_rfP
      repeat' split
      all_goals (first | rfl | (exfalso; omega))
  · subst h1
    refine aw_tbl_in (pc := 1) (tgt := 68) (off := 67) dX8_refusalOfPlanted_1 (by omega) (by omega) rfl rfl ?_
    refine aw_aload_n (pc := 68) dX8_refusalOfPlanted_68 rfl ?_
    refine aw_aload_n (pc := 69) dX8_refusalOfPlanted_69 rfl ?_
    refine aw_iload_n (pc := 70) dX8_refusalOfPlanted_70 rfl ?_
    refine aw_iconst (pc := 71) dX8_refusalOfPlanted_71 ?_
    refine aw_isub (pc := 72) dX8_refusalOfPlanted_72 ?_
    refine aw_iload_n (pc := 73) dX8_refusalOfPlanted_73 rfl ?_
    refine aw_qV (pc := 74) (d := m_X8_refusalOfShown) (c_X8_refusalOfShown h hk hc (by omega) hi) k_X8_refusalOfShown dX8_refusalOfPlanted_74 k_ml_X8_150 rfl ⟨rfl, rfl⟩ (by omega) (by first | rfl | exact z_shr _ (by omega) | exact z_shc0 (by omega) | exact z_shc1 (by omega) | exact z_shc2 (by omega) | exact z_shc3 (by omega) | exact z_shc4 (by omega)) rfl ⟨Nat.le_of_ble_eq_true rfl, Nat.le_of_ble_eq_true rfl⟩ ⟨Nat.zero_le _, Nat.zero_le _⟩ rfl (Nat.le_of_ble_eq_true rfl) (z_Pk ?_)
    refine aw_ireturn (pc := 77) dX8_refusalOfPlanted_77 rfl ⟨Nat.zero_le _, Nat.zero_le _⟩ ?_
    first | rw [z_bl_n] at h48 | rw [z_bl_0] at h48 | skip
    refine ⟨congrArg (fun x => some (zi x)) ?_, rfl, rfl, rfl, rfl⟩
    unfold z_rfP
    repeat' split
    all_goals (first | rfl | (exfalso; omega))
  · subst h1
    refine aw_tbl_in (pc := 1) (tgt := 68) (off := 67) dX8_refusalOfPlanted_1 (by omega) (by omega) rfl rfl ?_
    refine aw_aload_n (pc := 68) dX8_refusalOfPlanted_68 rfl ?_
    refine aw_aload_n (pc := 69) dX8_refusalOfPlanted_69 rfl ?_
    refine aw_iload_n (pc := 70) dX8_refusalOfPlanted_70 rfl ?_
    refine aw_iconst (pc := 71) dX8_refusalOfPlanted_71 ?_
    refine aw_isub (pc := 72) dX8_refusalOfPlanted_72 ?_
    refine aw_iload_n (pc := 73) dX8_refusalOfPlanted_73 rfl ?_
    refine aw_qV (pc := 74) (d := m_X8_refusalOfShown) (c_X8_refusalOfShown h hk hc (by omega) hi) k_X8_refusalOfShown dX8_refusalOfPlanted_74 k_ml_X8_150 rfl ⟨rfl, rfl⟩ (by omega) (by first | rfl | exact z_shr _ (by omega) | exact z_shc0 (by omega) | exact z_shc1 (by omega) | exact z_shc2 (by omega) | exact z_shc3 (by omega) | exact z_shc4 (by omega)) rfl ⟨Nat.le_of_ble_eq_true rfl, Nat.le_of_ble_eq_true rfl⟩ ⟨Nat.zero_le _, Nat.zero_le _⟩ rfl (Nat.le_of_ble_eq_true rfl) (z_Pk ?_)
    refine aw_ireturn (pc := 77) dX8_refusalOfPlanted_77 rfl ⟨Nat.zero_le _, Nat.zero_le _⟩ ?_
    first | rw [z_bl_n] at h48 | rw [z_bl_0] at h48 | skip
    refine ⟨congrArg (fun x => some (zi x)) ?_, rfl, rfl, rfl, rfl⟩
    unfold z_rfP
    repeat' split
    all_goals (first | rfl | (exfalso; omega))
  · subst h1
    refine aw_tbl_in (pc := 1) (tgt := 68) (off := 67) dX8_refusalOfPlanted_1 (by omega) (by omega) rfl rfl ?_
    refine aw_aload_n (pc := 68) dX8_refusalOfPlanted_68 rfl ?_
    refine aw_aload_n (pc := 69) dX8_refusalOfPlanted_69 rfl ?_
    refine aw_iload_n (pc := 70) dX8_refusalOfPlanted_70 rfl ?_
    refine aw_iconst (pc := 71) dX8_refusalOfPlanted_71 ?_
    refine aw_isub (pc := 72) dX8_refusalOfPlanted_72 ?_
    refine aw_iload_n (pc := 73) dX8_refusalOfPlanted_73 rfl ?_
    refine aw_qV (pc := 74) (d := m_X8_refusalOfShown) (c_X8_refusalOfShown h hk hc (by omega) hi) k_X8_refusalOfShown dX8_refusalOfPlanted_74 k_ml_X8_150 rfl ⟨rfl, rfl⟩ (by omega) (by first | rfl | exact z_shr _ (by omega) | exact z_shc0 (by omega) | exact z_shc1 (by omega) | exact z_shc2 (by omega) | exact z_shc3 (by omega) | exact z_shc4 (by omega)) rfl ⟨Nat.le_of_ble_eq_true rfl, Nat.le_of_ble_eq_true rfl⟩ ⟨Nat.zero_le _, Nat.zero_le _⟩ rfl (Nat.le_of_ble_eq_true rfl) (z_Pk ?_)
    refine aw_ireturn (pc := 77) dX8_refusalOfPlanted_77 rfl ⟨Nat.zero_le _, Nat.zero_le _⟩ ?_
    first | rw [z_bl_n] at h48 | rw [z_bl_0] at h48 | skip
    refine ⟨congrArg (fun x => some (zi x)) ?_, rfl, rfl, rfl, rfl⟩
    unfold z_rfP
    repeat' split
    all_goals (first | rfl | (exfalso; omega))
  · subst h1
    refine aw_tbl_in (pc := 1) (tgt := 68) (off := 67) dX8_refusalOfPlanted_1 (by omega) (by omega) rfl rfl ?_
    refine aw_aload_n (pc := 68) dX8_refusalOfPlanted_68 rfl ?_
    refine aw_aload_n (pc := 69) dX8_refusalOfPlanted_69 rfl ?_
    refine aw_iload_n (pc := 70) dX8_refusalOfPlanted_70 rfl ?_
    refine aw_iconst (pc := 71) dX8_refusalOfPlanted_71 ?_
    refine aw_isub (pc := 72) dX8_refusalOfPlanted_72 ?_
    refine aw_iload_n (pc := 73) dX8_refusalOfPlanted_73 rfl ?_
    refine aw_qV (pc := 74) (d := m_X8_refusalOfShown) (c_X8_refusalOfShown h hk hc (by omega) hi) k_X8_refusalOfShown dX8_refusalOfPlanted_74 k_ml_X8_150 rfl ⟨rfl, rfl⟩ (by omega) (by first | rfl | exact z_shr _ (by omega) | exact z_shc0 (by omega) | exact z_shc1 (by omega) | exact z_shc2 (by omega) | exact z_shc3 (by omega) | exact z_shc4 (by omega)) rfl ⟨Nat.le_of_ble_eq_true rfl, Nat.le_of_ble_eq_true rfl⟩ ⟨Nat.zero_le _, Nat.zero_le _⟩ rfl (Nat.le_of_ble_eq_true rfl) (z_Pk ?_)
    refine aw_ireturn (pc := 77) dX8_refusalOfPlanted_77 rfl ⟨Nat.zero_le _, Nat.zero_le _⟩ ?_
    first | rw [z_bl_n] at h48 | rw [z_bl_0] at h48 | skip
    refine ⟨congrArg (fun x => some (zi x)) ?_, rfl, rfl, rfl, rfl⟩
    unfold z_rfP
    repeat' split
    all_goals (first | rfl | (exfalso; omega))
set_option maxHeartbeats 4000000 in
theorem c_X8_proof {π : Nat → Nat} {I J : AwI} {m : z_MM} {L : List z_CC} {t : Int} {k w i : Int} (hI : z_CI I J π m L t) (hk : -2147483648 ≤ k ∧ k ≤ 2147483647) (hw : -2147483648 ≤ w ∧ w ≤ 2147483647) (hi : -2147483648 ≤ i ∧ i ≤ 2147483647) : CT m_X8_proof [zr 0, zi k, zi w, zi i] 255 I J (z_R π) (z_PC (z_rPf m L t k w i) I J) := by
  have hI0 := hI
  obtain ⟨h, hm, hlh, hL, hc, ht, h01, h225, h232, hA⟩ := hI0
  subst hm
  have hnm := h.nm
  have hrw := h.rw
  have hn4 := hL.n
  have eN : mN (z_clM I J) = (I 1 5).toNat := rfl
  have eR : mR (z_clM I J) = (I 1 6).toNat := rfl
  have eL := hc.1
  refine CT.of (by decide) (Nat.le_of_ble_eq_true rfl) ?_
  show AW _ 0 0 _ 0 [some (zr 0), some (zi k), some (zi w), some (zi i), none, none] [] _ _ _
  refine aw_aload_n (pc := 0) dX8_proof_0 rfl ?_
  refine aw_getR (pc := 1) dX8_proof_1 k_fl_X8_21 rfl (by omega) (by first | rfl | exact z_shr _ (by omega) | exact z_shc0 (by omega) | exact z_shc1 (by omega) | exact z_shc2 (by omega) | exact z_shc3 (by omega) | exact z_shc4 (by omega)) (by first | rfl | exact z_Rc0 _ (by omega) | exact z_Rc1 _ (by omega) | exact z_Rc2 _ (by omega) | exact z_Rc3 _ (by omega)) ?_
  refine aw_iload_n (pc := 4) dX8_proof_4 rfl ?_
  refine aw_qV (pc := 5) (d := m_X5_has) (c_X5_has hL hk) k_X5_has dX8_proof_5 k_ml_X8_115 rfl ⟨rfl, rfl⟩ (by omega) (by first | rfl | exact z_shr _ (by omega) | exact z_shc0 (by omega) | exact z_shc1 (by omega) | exact z_shc2 (by omega) | exact z_shc3 (by omega) | exact z_shc4 (by omega)) rfl ⟨Nat.le_of_ble_eq_true rfl, Nat.le_of_ble_eq_true rfl⟩ ⟨Nat.zero_le _, Nat.zero_le _⟩ rfl (Nat.le_of_ble_eq_true rfl) (z_Pk ?_)
  refine aw_if_ne (pc := 8) (tgt := 13) dX8_proof_8 rfl (by first | omega | exact z_bl_r _) (fun h8 => ?_) (fun h8 => ?_)
  · first | rw [z_bl_n] at h8 | rw [z_bl_0] at h8 | skip
    have hkL : k.toNat < L.length := by omega
    obtain ⟨hD, hp41, hCC, hag⟩ := hI.at hkL
    have hkd := hCC.kd
    have ekd := hD.2.2.1
    refine aw_aload_n (pc := 13) dX8_proof_13 rfl ?_
    refine aw_getR (pc := 14) dX8_proof_14 k_fl_X8_21 rfl (by omega) (by first | rfl | exact z_shr _ (by omega) | exact z_shc0 (by omega) | exact z_shc1 (by omega) | exact z_shc2 (by omega) | exact z_shc3 (by omega) | exact z_shc4 (by omega)) (by first | rfl | exact z_Rc0 _ (by omega) | exact z_Rc1 _ (by omega) | exact z_Rc2 _ (by omega) | exact z_Rc3 _ (by omega)) ?_
    refine aw_getR (pc := 17) dX8_proof_17 k_fl_X8_125 rfl (by omega) (by first | rfl | exact z_shr _ (by omega) | exact z_shc0 (by omega) | exact z_shc1 (by omega) | exact z_shc2 (by omega) | exact z_shc3 (by omega) | exact z_shc4 (by omega)) (by first | rfl | exact z_Rc0 _ (by omega) | exact z_Rc1 _ (by omega) | exact z_Rc2 _ (by omega) | exact z_Rc3 _ (by omega)) ?_
    refine aw_iload_n (pc := 20) dX8_proof_20 rfl ?_
    refine aw_aaloadQ (b := 19 + 5 * π k.toNat) (pc := 21) dX8_proof_21 (by omega) (Nat.le_refl _) rfl (by omega) (by rfl) ?_
    refine aw_astore (pc := 22) (lv' := [_, _, _, _, _, _]) dX8_proof_22 (Nat.le_of_ble_eq_true rfl) rfl ?_
    refine aw_aload_n (pc := 24) dX8_proof_24 rfl ?_
    refine aw_aload (pc := 25) dX8_proof_25 rfl ?_
    refine aw_iload_n (pc := 27) dX8_proof_27 rfl ?_
    refine aw_iload_n (pc := 28) dX8_proof_28 rfl ?_
    refine aw_qV (pc := 29) (d := m_X8_refusalOfShown) (c_X8_refusalOfShown h hp41 hCC hw hi) k_X8_refusalOfShown dX8_proof_29 k_ml_X8_150 rfl ⟨rfl, rfl⟩ (by omega) (by first | rfl | exact z_shr _ (by omega) | exact z_shc0 (by omega) | exact z_shc1 (by omega) | exact z_shc2 (by omega) | exact z_shc3 (by omega) | exact z_shc4 (by omega)) rfl ⟨Nat.le_of_ble_eq_true rfl, Nat.le_of_ble_eq_true rfl⟩ ⟨Nat.zero_le _, Nat.zero_le _⟩ rfl (Nat.le_of_ble_eq_true rfl) (z_Pk ?_)
    refine aw_istore (pc := 32) (lv' := [_, _, _, _, _, _]) dX8_proof_32 (Nat.le_of_ble_eq_true rfl) rfl ?_
    refine aw_iload (pc := 34) dX8_proof_34 rfl ?_
    refine aw_if_ne (pc := 36) (tgt := 49) dX8_proof_36 rfl (by have := z_rfS_b (z_clM I J) (I (19 + 5 * π k.toNat) 5) w i; omega) (fun h36 => ?_) (fun h36 => ?_)
    · refine aw_iload (pc := 49) dX8_proof_49 rfl ?_
      rw [ekd] at h36 ⊢
      exact aw_ireturn (pc := 51) dX8_proof_51 rfl ⟨Nat.zero_le _, Nat.zero_le _⟩ (z_PCr ((if_neg (by omega)).trans (by rw [if_neg (by assumption)])) hI z_FR.rf)
    · have h36b : z_rfS (z_clM I J) (I (19 + 5 * π k.toNat) 5) w i = 0 := by omega
      rw [ekd] at h36b
      obtain ⟨g1, g2, g3, g4⟩ := z_rfS_0 h36b
      refine aw_aload (pc := 39) dX8_proof_39 rfl ?_
      refine aw_iload_n (pc := 41) dX8_proof_41 rfl ?_
      refine aw_iload_n (pc := 42) dX8_proof_42 rfl ?_
      refine aw_qV (pc := 43) (d := m_X4_shown) (c_X4_shown hp41 hCC hw (fun q1 q2 => by have := g4 (by omega); omega) (fun q1 => by have := g4 (by omega); omega)) k_X4_shown dX8_proof_43 k_ml_X8_154 rfl ⟨rfl, rfl⟩ (by omega) (by first | rfl | exact z_shr _ (by omega) | exact z_shc0 (by omega) | exact z_shc1 (by omega) | exact z_shc2 (by omega) | exact z_shc3 (by omega) | exact z_shc4 (by omega)) rfl ⟨Nat.le_of_ble_eq_true rfl, Nat.le_of_ble_eq_true rfl⟩ ⟨Nat.zero_le _, Nat.zero_le _⟩ rfl (Nat.le_of_ble_eq_true rfl) (z_Pk ?_)
      refine aw_goto (pc := 46) (tgt := 51) dX8_proof_46 rfl ?_
      rw [z_shw_cl hD (by omega) (by assumption)]
      exact aw_ireturn (pc := 51) dX8_proof_51 rfl ⟨Nat.zero_le _, Nat.zero_le _⟩ (z_PCr ((if_neg (by omega)).trans (by rw [if_pos (by assumption)])) hI z_FR.rf)
  · refine aw_iconst (pc := 11) dX8_proof_11 ?_
    refine aw_ireturn (pc := 12) dX8_proof_12 rfl ⟨Nat.zero_le _, Nat.zero_le _⟩ ?_
    first | rw [z_bl_n] at h8 | rw [z_bl_0] at h8 | skip
    exact z_PCr (if_pos (by omega)) hI z_FR.rf
