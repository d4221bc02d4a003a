/-- the heap with the cut in cell c given by its parts -/
def z_ct9 (I : AwI) (c : Nat) (f rt lt ht : Nat → Int) (r kd ag dv cr : Int) : AwI := fun a k => if a = 19 + 5 * c + 1 then f k else if a = 19 + 5 * c + 2 then rt k else if a = 19 + 5 * c + 3 then lt k else if a = 19 + 5 * c + 4 then ht k else if a = 19 + 5 * c then (if k = 4 then r else if k = 5 then kd else if k = 6 then ag else if k = 7 then dv else if k = 8 then cr else I a k) else I a k
theorem z_c9_o {I : AwI} {c : Nat} {f rt lt ht : Nat → Int} {r kd ag dv cr : Int} {a k : Nat} (h : a < 19 + 5 * c ∨ 19 + 5 * c + 4 < a) : z_ct9 I c f rt lt ht r kd ag dv cr a k = I a k := by
  unfold z_ct9
  rw [if_neg (by omega), if_neg (by omega), if_neg (by omega), if_neg (by omega), if_neg (by omega)]
theorem z_c9_f {I : AwI} {c : Nat} {f rt lt ht : Nat → Int} {r kd ag dv cr : Int} (k : Nat) : z_ct9 I c f rt lt ht r kd ag dv cr (19 + 5 * c + 1) k = f k := by
  unfold z_ct9
  rw [if_pos rfl]
theorem z_c9_rt {I : AwI} {c : Nat} {f rt lt ht : Nat → Int} {r kd ag dv cr : Int} (k : Nat) : z_ct9 I c f rt lt ht r kd ag dv cr (19 + 5 * c + 2) k = rt k := by
  unfold z_ct9
  rw [if_neg (by omega), if_pos rfl]
theorem z_c9_lt {I : AwI} {c : Nat} {f rt lt ht : Nat → Int} {r kd ag dv cr : Int} (k : Nat) : z_ct9 I c f rt lt ht r kd ag dv cr (19 + 5 * c + 3) k = lt k := by
  unfold z_ct9
  rw [if_neg (by omega), if_neg (by omega), if_pos rfl]
theorem z_c9_ht {I : AwI} {c : Nat} {f rt lt ht : Nat → Int} {r kd ag dv cr : Int} (k : Nat) : z_ct9 I c f rt lt ht r kd ag dv cr (19 + 5 * c + 4) k = ht k := by
  unfold z_ct9
  rw [if_neg (by omega), if_neg (by omega), if_neg (by omega), if_pos rfl]
theorem z_c9_r {I : AwI} {c : Nat} {f rt lt ht : Nat → Int} {r kd ag dv cr : Int} : z_ct9 I c f rt lt ht r kd ag dv cr (19 + 5 * c) 4 = r := by
  unfold z_ct9
  rw [if_neg (by omega), if_neg (by omega), if_neg (by omega), if_neg (by omega), if_pos rfl, if_pos rfl]
theorem z_c9_kd {I : AwI} {c : Nat} {f rt lt ht : Nat → Int} {r kd ag dv cr : Int} : z_ct9 I c f rt lt ht r kd ag dv cr (19 + 5 * c) 5 = kd := by
  unfold z_ct9
  rw [if_neg (by omega), if_neg (by omega), if_neg (by omega), if_neg (by omega), if_pos rfl, if_neg (by omega), if_pos rfl]
theorem z_c9_ag {I : AwI} {c : Nat} {f rt lt ht : Nat → Int} {r kd ag dv cr : Int} : z_ct9 I c f rt lt ht r kd ag dv cr (19 + 5 * c) 6 = ag := by
  unfold z_ct9
  rw [if_neg (by omega), if_neg (by omega), if_neg (by omega), if_neg (by omega), if_pos rfl, if_neg (by omega), if_neg (by omega), if_pos rfl]
theorem z_c9_dv {I : AwI} {c : Nat} {f rt lt ht : Nat → Int} {r kd ag dv cr : Int} : z_ct9 I c f rt lt ht r kd ag dv cr (19 + 5 * c) 7 = dv := by
  unfold z_ct9
  rw [if_neg (by omega), if_neg (by omega), if_neg (by omega), if_neg (by omega), if_pos rfl, if_neg (by omega), if_neg (by omega), if_neg (by omega), if_pos rfl]
theorem z_c9_cr {I : AwI} {c : Nat} {f rt lt ht : Nat → Int} {r kd ag dv cr : Int} : z_ct9 I c f rt lt ht r kd ag dv cr (19 + 5 * c) 8 = cr := by
  unfold z_ct9
  rw [if_neg (by omega), if_neg (by omega), if_neg (by omega), if_neg (by omega), if_pos rfl, if_neg (by omega), if_neg (by omega), if_neg (by omega), if_neg (by omega), if_pos rfl]
theorem z_c9_uf {I : AwI} {c : Nat} {f rt lt ht : Nat → Int} {r kd ag dv cr : Int} {k : Nat} {v : Int} : z_up (z_ct9 I c f rt lt ht r kd ag dv cr) (19 + 5 * c + 1) k v = z_ct9 I c (va_up f k v) rt lt ht r kd ag dv cr := by
  funext a' k'
  unfold z_up
  by_cases e : a' = 19 + 5 * c + 1
  · subst e
    rw [z_c9_f, z_c9_f]
    unfold va_up
    by_cases e2 : k' = k
    · rw [if_pos ⟨rfl, e2⟩, if_pos e2]
    · rw [if_neg (fun q => e2 q.2), if_neg e2]
  · rw [if_neg (fun q => e q.1)]
    unfold z_ct9
    simp only [e, if_false]
theorem z_c9_urt {I : AwI} {c : Nat} {f rt lt ht : Nat → Int} {r kd ag dv cr : Int} {k : Nat} {v : Int} : z_up (z_ct9 I c f rt lt ht r kd ag dv cr) (19 + 5 * c + 2) k v = z_ct9 I c f (va_up rt k v) lt ht r kd ag dv cr := by
  funext a' k'
  unfold z_up
  by_cases e : a' = 19 + 5 * c + 2
  · subst e
    rw [z_c9_rt, z_c9_rt]
    unfold va_up
    by_cases e2 : k' = k
    · rw [if_pos ⟨rfl, e2⟩, if_pos e2]
    · rw [if_neg (fun q => e2 q.2), if_neg e2]
  · rw [if_neg (fun q => e q.1)]
    unfold z_ct9
    simp only [e, if_false]
theorem z_c9_ult {I : AwI} {c : Nat} {f rt lt ht : Nat → Int} {r kd ag dv cr : Int} {k : Nat} {v : Int} : z_up (z_ct9 I c f rt lt ht r kd ag dv cr) (19 + 5 * c + 3) k v = z_ct9 I c f rt (va_up lt k v) ht r kd ag dv cr := by
  funext a' k'
  unfold z_up
  by_cases e : a' = 19 + 5 * c + 3
  · subst e
    rw [z_c9_lt, z_c9_lt]
    unfold va_up
    by_cases e2 : k' = k
    · rw [if_pos ⟨rfl, e2⟩, if_pos e2]
    · rw [if_neg (fun q => e2 q.2), if_neg e2]
  · rw [if_neg (fun q => e q.1)]
    unfold z_ct9
    simp only [e, if_false]
theorem z_c9_uht {I : AwI} {c : Nat} {f rt lt ht : Nat → Int} {r kd ag dv cr : Int} {k : Nat} {v : Int} : z_up (z_ct9 I c f rt lt ht r kd ag dv cr) (19 + 5 * c + 4) k v = z_ct9 I c f rt lt (va_up ht k v) r kd ag dv cr := by
  funext a' k'
  unfold z_up
  by_cases e : a' = 19 + 5 * c + 4
  · subst e
    rw [z_c9_ht, z_c9_ht]
    unfold va_up
    by_cases e2 : k' = k
    · rw [if_pos ⟨rfl, e2⟩, if_pos e2]
    · rw [if_neg (fun q => e2 q.2), if_neg e2]
  · rw [if_neg (fun q => e q.1)]
    unfold z_ct9
    simp only [e, if_false]
theorem z_c9_ur {I : AwI} {c : Nat} {f rt lt ht : Nat → Int} {r kd ag dv cr : Int} {v : Int} : z_up (z_ct9 I c f rt lt ht r kd ag dv cr) (19 + 5 * c) 4 v = z_ct9 I c f rt lt ht v kd ag dv cr := by
  funext a' k'
  unfold z_up
  by_cases e : a' = 19 + 5 * c
  · subst e
    by_cases e2 : k' = 4
    · subst e2
      rw [if_pos ⟨rfl, rfl⟩, z_c9_r]
    · rw [if_neg (fun q => e2 q.2)]
      unfold z_ct9
      simp only [e2, if_false]
  · rw [if_neg (fun q => e q.1)]
    unfold z_ct9
    simp only [e, if_false]
theorem z_c9_ukd {I : AwI} {c : Nat} {f rt lt ht : Nat → Int} {r kd ag dv cr : Int} {v : Int} : z_up (z_ct9 I c f rt lt ht r kd ag dv cr) (19 + 5 * c) 5 v = z_ct9 I c f rt lt ht r v ag dv cr := by
  funext a' k'
  unfold z_up
  by_cases e : a' = 19 + 5 * c
  · subst e
    by_cases e2 : k' = 5
    · subst e2
      rw [if_pos ⟨rfl, rfl⟩, z_c9_kd]
    · rw [if_neg (fun q => e2 q.2)]
      unfold z_ct9
      simp only [e2, if_false]
  · rw [if_neg (fun q => e q.1)]
    unfold z_ct9
    simp only [e, if_false]
theorem z_c9_uag {I : AwI} {c : Nat} {f rt lt ht : Nat → Int} {r kd ag dv cr : Int} {v : Int} : z_up (z_ct9 I c f rt lt ht r kd ag dv cr) (19 + 5 * c) 6 v = z_ct9 I c f rt lt ht r kd v dv cr := by
  funext a' k'
  unfold z_up
  by_cases e : a' = 19 + 5 * c
  · subst e
    by_cases e2 : k' = 6
    · subst e2
      rw [if_pos ⟨rfl, rfl⟩, z_c9_ag]
    · rw [if_neg (fun q => e2 q.2)]
      unfold z_ct9
      simp only [e2, if_false]
  · rw [if_neg (fun q => e q.1)]
    unfold z_ct9
    simp only [e, if_false]
theorem z_c9_udv {I : AwI} {c : Nat} {f rt lt ht : Nat → Int} {r kd ag dv cr : Int} {v : Int} : z_up (z_ct9 I c f rt lt ht r kd ag dv cr) (19 + 5 * c) 7 v = z_ct9 I c f rt lt ht r kd ag v cr := by
  funext a' k'
  unfold z_up
  by_cases e : a' = 19 + 5 * c
  · subst e
    by_cases e2 : k' = 7
    · subst e2
      rw [if_pos ⟨rfl, rfl⟩, z_c9_dv]
    · rw [if_neg (fun q => e2 q.2)]
      unfold z_ct9
      simp only [e2, if_false]
  · rw [if_neg (fun q => e q.1)]
    unfold z_ct9
    simp only [e, if_false]
theorem z_c9_ucr {I : AwI} {c : Nat} {f rt lt ht : Nat → Int} {r kd ag dv cr : Int} {v : Int} : z_up (z_ct9 I c f rt lt ht r kd ag dv cr) (19 + 5 * c) 8 v = z_ct9 I c f rt lt ht r kd ag dv v := by
  funext a' k'
  unfold z_up
  by_cases e : a' = 19 + 5 * c
  · subst e
    by_cases e2 : k' = 8
    · subst e2
      rw [if_pos ⟨rfl, rfl⟩, z_c9_cr]
    · rw [if_neg (fun q => e2 q.2)]
      unfold z_ct9
      simp only [e2, if_false]
  · rw [if_neg (fun q => e q.1)]
    unfold z_ct9
    simp only [e, if_false]
def z_f0 (I : AwI) (a n : Nat) : Nat → Int := fun k => if k < n then 0 else I a k
theorem z_bg9 (I : AwI) (c : Nat) (kd : Int) : z_bg I c kd = z_ct9 I c (z_f0 I (19 + 5 * c + 1) 8) (z_f0 I (19 + 5 * c + 2) 10) (z_f0 I (19 + 5 * c + 3) 8) (z_f0 I (19 + 5 * c + 4) 8) 0 kd 0 0 0 := by
  funext a k
  unfold z_bg z_ct9 z_f0
  by_cases e1 : a = 19 + 5 * c + 1
  · subst e1
    rw [if_pos rfl, z_up_a _ _ (by omega), z_up_a _ _ (by omega), z_up_a _ _ (by omega), z_up_a _ _ (by omega), z_up_a _ _ (by omega), z_fl_a _ _ (by omega), z_fl_a _ _ (by omega), z_fl_a _ _ (by omega)]
    unfold z_fl
    simp
  rw [if_neg e1]
  by_cases e2 : a = 19 + 5 * c + 2
  · subst e2
    rw [if_pos rfl, z_up_a _ _ (by omega), z_up_a _ _ (by omega), z_up_a _ _ (by omega), z_up_a _ _ (by omega), z_up_a _ _ (by omega), z_fl_a _ _ (by omega), z_fl_a _ _ (by omega)]
    unfold z_fl
    simp
  rw [if_neg e2]
  by_cases e3 : a = 19 + 5 * c + 3
  · subst e3
    rw [if_pos rfl, z_up_a _ _ (by omega), z_up_a _ _ (by omega), z_up_a _ _ (by omega), z_up_a _ _ (by omega), z_up_a _ _ (by omega), z_fl_a _ _ (by omega)]
    unfold z_fl
    simp
  rw [if_neg e3]
  by_cases e4 : a = 19 + 5 * c + 4
  · subst e4
    rw [if_pos rfl, z_up_a _ _ (by omega), z_up_a _ _ (by omega), z_up_a _ _ (by omega), z_up_a _ _ (by omega), z_up_a _ _ (by omega)]
    unfold z_fl
    simp
  rw [if_neg e4]
  by_cases e5 : a = 19 + 5 * c
  · subst e5
    rw [if_pos rfl]
    unfold z_up z_fl
    by_cases k4 : k = 4
    · subst k4; simp
    by_cases k5 : k = 5
    · subst k5; simp
    by_cases k6 : k = 6
    · subst k6; simp
    by_cases k7 : k = 7
    · subst k7; simp
    by_cases k8 : k = 8
    · subst k8; simp
    simp [k4, k5, k6, k7, k8]
  rw [if_neg e5]
  exact z_bg_o I c kd (by omega)
def z_pf (g f : Nat → Int) (x : Nat) : Nat → Int := fun k => if k < x then g k else f k
theorem z_pf_s {g f : Nat → Int} {x v : Int} (hx : 0 ≤ x) (hv : v = g x.toNat) : va_up (z_pf g f x.toNat) x.toNat v = z_pf g f (x + 1).toNat := by
  funext k
  unfold va_up z_pf
  by_cases e : k = x.toNat
  · subst e; rw [if_pos rfl, if_pos (by omega), hv]
  · rw [if_neg e]
    by_cases e2 : k < x.toNat
    · rw [if_pos e2, if_pos (by omega)]
    · rw [if_neg e2, if_neg (by omega)]
theorem z_pf_n {g f : Nat → Int} {x : Int} (hx : 0 ≤ x) (hv : g x.toNat = f x.toNat) : z_pf g f x.toNat = z_pf g f (x + 1).toNat := by
  funext k
  unfold z_pf
  by_cases e2 : k < x.toNat
  · rw [if_pos e2, if_pos (by omega)]
  · rw [if_neg e2]
    by_cases e : k = x.toNat
    · subst e; rw [if_pos (by omega), hv]
    · rw [if_neg (by omega)]
theorem z_pf_0 (g f : Nat → Int) : z_pf g f 0 = f := by
  funext k
  unfold z_pf
  rw [if_neg (by omega)]
theorem z_pf_at {g f : Nat → Int} {x : Nat} : z_pf g f x x = f x := if_neg (by omega)
theorem z_pf_lt {g f : Nat → Int} {x k : Nat} (h : k < x) : z_pf g f x k = g k := if_pos h
theorem z_pf_b {g f : Nat → Int} {x : Nat} {B : Int} (h1 : ∀ k, -B ≤ g k ∧ g k ≤ B) (h2 : ∀ k, -B ≤ f k ∧ f k ≤ B) (k : Nat) : -B ≤ z_pf g f x k ∧ z_pf g f x k ≤ B := by
  unfold z_pf
  split
  · exact h1 k
  · exact h2 k
theorem z_vu {f : Nat → Int} {k : Nat} {a b : Int} : va_up (va_up f k a) k b = va_up f k b := bx_uu f k a b
theorem z_vs {f : Nat → Int} {k : Nat} {a : Int} : va_up f k a k = a := if_pos rfl
theorem z_M.c9 {I J : AwI} {c : Nat} {f rt lt ht : Nat → Int} {r kd ag dv cr : Int} (h : z_M I J) : z_M (z_ct9 I c f rt lt ht r kd ag dv cr) J := h.congr (fun a k ha => z_c9_o (by omega)) (fun _ => rfl)
theorem z_C.c9 {I : AwI} {c d : Nat} {f rt lt ht : Nat → Int} {r kd ag dv cr : Int} (h : z_C I d) (hf : ∀ k, -1000 ≤ f k ∧ f k ≤ 1000) (hrt : ∀ k, -1000 ≤ rt k ∧ rt k ≤ 1000) (hlt : ∀ k, -1000 ≤ lt k ∧ lt k ≤ 1000) (hht : ∀ k, -1000 ≤ ht k ∧ ht k ≤ 1000) (hr : -200000 ≤ r ∧ r ≤ 200000) (hkd : 0 ≤ kd ∧ kd ≤ 3) (hag : 0 ≤ ag ∧ ag ≤ 3) (hdv : -1000 ≤ dv ∧ dv ≤ 1000) (hcr : -1000 ≤ cr ∧ cr ≤ 1000) : z_C (z_ct9 I c f rt lt ht r kd ag dv cr) d := by
  by_cases e : d = c
  · subst e
    refine ⟨fun n => ?_, fun n => ?_, fun n => ?_, fun n => ?_, ?_, ?_, ?_, ?_, ?_⟩
    · rw [z_c9_f]; exact hf n
    · rw [z_c9_rt]; exact hrt n
    · rw [z_c9_lt]; exact hlt n
    · rw [z_c9_ht]; exact hht n
    · rw [z_c9_r]; exact hr
    · rw [z_c9_kd]; exact hkd
    · rw [z_c9_ag]; exact hag
    · rw [z_c9_dv]; exact hdv
    · rw [z_c9_cr]; exact hcr
  · refine ⟨fun n => ?_, fun n => ?_, fun n => ?_, fun n => ?_, ?_, ?_, ?_, ?_, ?_⟩
    · rw [z_c9_o (by omega)]; exact h.f n
    · rw [z_c9_o (by omega)]; exact h.rt n
    · rw [z_c9_o (by omega)]; exact h.lt n
    · rw [z_c9_o (by omega)]; exact h.ht n
    · rw [z_c9_o (by omega)]; exact h.r
    · rw [z_c9_o (by omega)]; exact h.kd
    · rw [z_c9_o (by omega)]; exact h.ag
    · rw [z_c9_o (by omega)]; exact h.dv
    · rw [z_c9_o (by omega)]; exact h.cr
theorem z_L.c9 {I : AwI} {π : Nat → Nat} {c : Nat} {f rt lt ht : Nat → Int} {r kd ag dv cr : Int} (h : z_L I π) (hf : ∀ k, -1000 ≤ f k ∧ f k ≤ 1000) (hrt : ∀ k, -1000 ≤ rt k ∧ rt k ≤ 1000) (hlt : ∀ k, -1000 ≤ lt k ∧ lt k ≤ 1000) (hht : ∀ k, -1000 ≤ ht k ∧ ht k ≤ 1000) (hr : -200000 ≤ r ∧ r ≤ 200000) (hkd : 0 ≤ kd ∧ kd ≤ 3) (hag : 0 ≤ ag ∧ ag ≤ 3) (hdv : -1000 ≤ dv ∧ dv ≤ 1000) (hcr : -1000 ≤ cr ∧ cr ≤ 1000) : z_L (z_ct9 I c f rt lt ht r kd ag dv cr) π :=
  ⟨by rw [z_c9_o (by omega)]; exact h.n, h.2.1, fun d hd => (h.c hd).c9 hf hrt hlt hht hr hkd hag hdv hcr⟩
theorem z_L.f0 {I : AwI} {π : Nat → Nat} {c : Nat} (h : z_L I π) (hc : c < 41) : (∀ k, -1000 ≤ z_f0 I (19 + 5 * c + 1) 8 k ∧ z_f0 I (19 + 5 * c + 1) 8 k ≤ 1000) ∧ (∀ k, -1000 ≤ z_f0 I (19 + 5 * c + 2) 10 k ∧ z_f0 I (19 + 5 * c + 2) 10 k ≤ 1000) ∧ (∀ k, -1000 ≤ z_f0 I (19 + 5 * c + 3) 8 k ∧ z_f0 I (19 + 5 * c + 3) 8 k ≤ 1000) ∧ (∀ k, -1000 ≤ z_f0 I (19 + 5 * c + 4) 8 k ∧ z_f0 I (19 + 5 * c + 4) 8 k ≤ 1000) := by
  have hC := h.c hc
  refine ⟨fun k => ?_, fun k => ?_, fun k => ?_, fun k => ?_⟩ <;> unfold z_f0 <;> split <;> first | omega | exact hC.f k | exact hC.rt k | exact hC.lt k | exact hC.ht k
def z_hn (I J : AwI) (n : Nat) : Prop := 27720 * (I 2 n + I 3 n) ≤ 2 * J 4 n
def z_lc (I J : AwI) (n : Nat) (q d : Int) : Prop := q * (J 4 n - 27720 * I 2 n) ≤ (d - q) * (27720 * I 3 n - J 4 n)
theorem z_hn9 {I J : AwI} {c : Nat} {f rt lt ht : Nat → Int} {r kd ag dv cr : Int} {n : Nat} : z_hn (z_ct9 I c f rt lt ht r kd ag dv cr) J n = z_hn I J n := by
  unfold z_hn
  rw [z_c9_o (by omega), z_c9_o (by omega)]
theorem z_lc9 {I J : AwI} {c : Nat} {f rt lt ht : Nat → Int} {r kd ag dv cr : Int} {n : Nat} {q d : Int} : z_lc (z_ct9 I c f rt lt ht r kd ag dv cr) J n q d = z_lc I J n q d := by
  unfold z_lc
  rw [z_c9_o (by omega), z_c9_o (by omega)]
set_option maxHeartbeats 4000000 in
theorem c_X7_isHighNearer {π : Nat → Nat} {I J : AwI} {n : Int} (h : z_M I J) (hn : 0 ≤ n ∧ n < 8) : CT m_X7_isHighNearer [zr 224, zi n] 255 I J (z_R π) (z_P (some (zi (z_bl (z_hn I J n.toNat)))) 255 I J (z_R π)) := by
  refine CT.of (by decide) (Nat.le_of_ble_eq_true rfl) ?_
  show AW _ 0 0 _ 0 [some (zr 224), some (zi n)] [] _ _ _
  have g1 := h.lo n.toNat
  have g2 := h.hi n.toNat
  have g3 := h.pt n.toNat
  refine aw_ldc2 (pc := 0) (v := 2) dX7_isHighNearer_0 k_cst_X7_106 ?_
  refine aw_aload_n (pc := 3) dX7_isHighNearer_3 rfl ?_
  refine aw_getR (pc := 4) dX7_isHighNearer_4 k_fl_X7_15 rfl (by omega) (by first | rfl | exact z_shr _ (by omega) | exact z_shc0 (by omega) | exact z_shc1 (by omega) | exact z_shc2 (by omega) | exact z_shc3 (by omega) | exact z_shc4 (by omega)) (by first | rfl | exact z_Rc0 _ (by omega) | exact z_Rc1 _ (by omega) | exact z_Rc2 _ (by omega) | exact z_Rc3 _ (by omega)) ?_
  refine aw_getR (pc := 7) dX7_isHighNearer_7 k_fl_X7_108 rfl (by omega) (by first | rfl | exact z_shr _ (by omega) | exact z_shc0 (by omega) | exact z_shc1 (by omega) | exact z_shc2 (by omega) | exact z_shc3 (by omega) | exact z_shc4 (by omega)) (by first | rfl | exact z_Rc0 _ (by omega) | exact z_Rc1 _ (by omega) | exact z_Rc2 _ (by omega) | exact z_Rc3 _ (by omega)) ?_
  refine aw_iload_n (pc := 10) dX7_isHighNearer_10 rfl ?_
  refine aw_laload (pc := 11) dX7_isHighNearer_11 (by omega) (Nat.le_refl _) (by first | rfl | exact z_shr _ (by omega) | exact z_shc0 (by omega) | exact z_shc1 (by omega) | exact z_shc2 (by omega) | exact z_shc3 (by omega) | exact z_shc4 (by omega)) (by first | omega | exact z_bl_r _) ?_
  refine aw_lmul (pc := 12) dX7_isHighNearer_12 ?_
  refine aw_ldc2 (pc := 13) (v := 27720) dX7_isHighNearer_13 k_cst_X7_112 ?_
  refine aw_aload_n (pc := 16) dX7_isHighNearer_16 rfl ?_
  refine aw_getR (pc := 17) dX7_isHighNearer_17 k_fl_X7_15 rfl (by omega) (by first | rfl | exact z_shr _ (by omega) | exact z_shc0 (by omega) | exact z_shc1 (by omega) | exact z_shc2 (by omega) | exact z_shc3 (by omega) | exact z_shc4 (by omega)) (by first | rfl | exact z_Rc0 _ (by omega) | exact z_Rc1 _ (by omega) | exact z_Rc2 _ (by omega) | exact z_Rc3 _ (by omega)) ?_
  refine aw_getR (pc := 20) dX7_isHighNearer_20 k_fl_X7_114 rfl (by omega) (by first | rfl | exact z_shr _ (by omega) | exact z_shc0 (by omega) | exact z_shc1 (by omega) | exact z_shc2 (by omega) | exact z_shc3 (by omega) | exact z_shc4 (by omega)) (by first | rfl | exact z_Rc0 _ (by omega) | exact z_Rc1 _ (by omega) | exact z_Rc2 _ (by omega) | exact z_Rc3 _ (by omega)) ?_
  refine aw_iload_n (pc := 23) dX7_isHighNearer_23 rfl ?_
  refine aw_iaload (pc := 24) dX7_isHighNearer_24 (by omega) (Nat.le_refl _) (by first | rfl | exact z_shr _ (by omega) | exact z_shc0 (by omega) | exact z_shc1 (by omega) | exact z_shc2 (by omega) | exact z_shc3 (by omega) | exact z_shc4 (by omega)) (by first | omega | exact z_bl_r _) ?_
  refine aw_aload_n (pc := 25) dX7_isHighNearer_25 rfl ?_
  refine aw_getR (pc := 26) dX7_isHighNearer_26 k_fl_X7_15 rfl (by omega) (by first | rfl | exact z_shr _ (by omega) | exact z_shc0 (by omega) | exact z_shc1 (by omega) | exact z_shc2 (by omega) | exact z_shc3 (by omega) | exact z_shc4 (by omega)) (by first | rfl | exact z_Rc0 _ (by omega) | exact z_Rc1 _ (by omega) | exact z_Rc2 _ (by omega) | exact z_Rc3 _ (by omega)) ?_
  refine aw_getR (pc := 29) dX7_isHighNearer_29 k_fl_X7_117 rfl (by omega) (by first | rfl | exact z_shr _ (by omega) | exact z_shc0 (by omega) | exact z_shc1 (by omega) | exact z_shc2 (by omega) | exact z_shc3 (by omega) | exact z_shc4 (by omega)) (by first | rfl | exact z_Rc0 _ (by omega) | exact z_Rc1 _ (by omega) | exact z_Rc2 _ (by omega) | exact z_Rc3 _ (by omega)) ?_
  refine aw_iload_n (pc := 32) dX7_isHighNearer_32 rfl ?_
  refine aw_iaload (pc := 33) dX7_isHighNearer_33 (by omega) (Nat.le_refl _) (by first | rfl | exact z_shr _ (by omega) | exact z_shc0 (by omega) | exact z_shc1 (by omega) | exact z_shc2 (by omega) | exact z_shc3 (by omega) | exact z_shc4 (by omega)) (by first | omega | exact z_bl_r _) ?_
  refine aw_iadd (pc := 34) dX7_isHighNearer_34 ?_
  refine aw_i2l (pc := 35) dX7_isHighNearer_35 (by first | omega | exact z_bl_r _) ?_
  refine aw_lmul (pc := 36) dX7_isHighNearer_36 ?_
  refine aw_lcmp_lt (pc := 37) (tgt := 45) dX7_isHighNearer_37 dX7_isHighNearer_38 rfl (by first | omega | exact z_bl_r _) (by first | omega | exact z_bl_r _) (fun h37 => ?_) (fun h37 => ?_)
  · refine aw_iconst (pc := 45) dX7_isHighNearer_45 ?_
    exact aw_zreturn (pc := 46) dX7_isHighNearer_46 rfl (by first | exact Or.inl rfl | exact Or.inr rfl | omega) ⟨Nat.zero_le _, Nat.zero_le _⟩ (⟨by first | exact z_r1 (show z_hn I J n.toNat by unfold z_hn; omega) | exact z_r0 (show ¬ z_hn I J n.toNat by unfold z_hn; omega), rfl, rfl, rfl, rfl⟩)
  · refine aw_iconst (pc := 41) dX7_isHighNearer_41 ?_
    refine aw_goto (pc := 42) (tgt := 46) dX7_isHighNearer_42 rfl ?_
    exact aw_zreturn (pc := 46) dX7_isHighNearer_46 rfl (by first | exact Or.inl rfl | exact Or.inr rfl | omega) ⟨Nat.zero_le _, Nat.zero_le _⟩ (⟨by first | exact z_r1 (show z_hn I J n.toNat by unfold z_hn; omega) | exact z_r0 (show ¬ z_hn I J n.toNat by unfold z_hn; omega), rfl, rfl, rfl, rfl⟩)
set_option maxHeartbeats 4000000 in
theorem c_X7_isLowCheaper {π : Nat → Nat} {I J : AwI} {n q d : Int} (h : z_M I J) (hn : 0 ≤ n ∧ n < 8) (hq : 0 ≤ q ∧ q ≤ 9) (hd : q ≤ d ∧ d ≤ 9) : CT m_X7_isLowCheaper [zr 224, zi n, zi q, zi d] 255 I J (z_R π) (z_P (some (zi (z_bl (z_lc I J n.toNat q d)))) 255 I J (z_R π)) := by
  refine CT.of (by decide) (Nat.le_of_ble_eq_true rfl) ?_
  show AW _ 0 0 _ 0 [some (zr 224), some (zi n), some (zi q), some (zi d), none, none, none, none] [] _ _ _
  have g1 := h.lo n.toNat
  have g2 := h.hi n.toNat
  have g3 := h.pt n.toNat
  have g4 := z_mulb (a := q) (b := J 4 n.toNat - 27720 * I 2 n.toNat) (A := 10) (B := 12000000) (by omega) (by omega)
  have g5 := z_mulb (a := d - q) (b := 27720 * I 3 n.toNat - J 4 n.toNat) (A := 10) (B := 12000000) (by omega) (by omega)
  refine aw_aload_n (pc := 0) dX7_isLowCheaper_0 rfl ?_
  refine aw_getR (pc := 1) dX7_isLowCheaper_1 k_fl_X7_15 rfl (by omega) (by first | rfl | exact z_shr _ (by omega) | exact z_shc0 (by omega) | exact z_shc1 (by omega) | exact z_shc2 (by omega) | exact z_shc3 (by omega) | exact z_shc4 (by omega)) (by first | rfl | exact z_Rc0 _ (by omega) | exact z_Rc1 _ (by omega) | exact z_Rc2 _ (by omega) | exact z_Rc3 _ (by omega)) ?_
  refine aw_getR (pc := 4) dX7_isLowCheaper_4 k_fl_X7_108 rfl (by omega) (by first | rfl | exact z_shr _ (by omega) | exact z_shc0 (by omega) | exact z_shc1 (by omega) | exact z_shc2 (by omega) | exact z_shc3 (by omega) | exact z_shc4 (by omega)) (by first | rfl | exact z_Rc0 _ (by omega) | exact z_Rc1 _ (by omega) | exact z_Rc2 _ (by omega) | exact z_Rc3 _ (by omega)) ?_
  refine aw_iload_n (pc := 7) dX7_isLowCheaper_7 rfl ?_
  refine aw_laload (pc := 8) dX7_isLowCheaper_8 (by omega) (Nat.le_refl _) (by first | rfl | exact z_shr _ (by omega) | exact z_shc0 (by omega) | exact z_shc1 (by omega) | exact z_shc2 (by omega) | exact z_shc3 (by omega) | exact z_shc4 (by omega)) (by first | omega | exact z_bl_r _) ?_
  refine aw_ldc2 (pc := 9) (v := 27720) dX7_isLowCheaper_9 k_cst_X7_112 ?_
  refine aw_aload_n (pc := 12) dX7_isLowCheaper_12 rfl ?_
  refine aw_getR (pc := 13) dX7_isLowCheaper_13 k_fl_X7_15 rfl (by omega) (by first | rfl | exact z_shr _ (by omega) | exact z_shc0 (by omega) | exact z_shc1 (by omega) | exact z_shc2 (by omega) | exact z_shc3 (by omega) | exact z_shc4 (by omega)) (by first | rfl | exact z_Rc0 _ (by omega) | exact z_Rc1 _ (by omega) | exact z_Rc2 _ (by omega) | exact z_Rc3 _ (by omega)) ?_
  refine aw_getR (pc := 16) dX7_isLowCheaper_16 k_fl_X7_114 rfl (by omega) (by first | rfl | exact z_shr _ (by omega) | exact z_shc0 (by omega) | exact z_shc1 (by omega) | exact z_shc2 (by omega) | exact z_shc3 (by omega) | exact z_shc4 (by omega)) (by first | rfl | exact z_Rc0 _ (by omega) | exact z_Rc1 _ (by omega) | exact z_Rc2 _ (by omega) | exact z_Rc3 _ (by omega)) ?_
  refine aw_iload_n (pc := 19) dX7_isLowCheaper_19 rfl ?_
  refine aw_iaload (pc := 20) dX7_isLowCheaper_20 (by omega) (Nat.le_refl _) (by first | rfl | exact z_shr _ (by omega) | exact z_shc0 (by omega) | exact z_shc1 (by omega) | exact z_shc2 (by omega) | exact z_shc3 (by omega) | exact z_shc4 (by omega)) (by first | omega | exact z_bl_r _) ?_
  refine aw_i2l (pc := 21) dX7_isLowCheaper_21 (by first | omega | exact z_bl_r _) ?_
  refine aw_lmul (pc := 22) dX7_isLowCheaper_22 ?_
  refine aw_lsub (pc := 23) dX7_isLowCheaper_23 ?_
  refine aw_lstore (pc := 24) (lv' := [_, _, _, _, _, _, _, _]) dX7_isLowCheaper_24 (Nat.le_of_ble_eq_true rfl) rfl ?_
  refine aw_ldc2 (pc := 26) (v := 27720) dX7_isLowCheaper_26 k_cst_X7_112 ?_
  refine aw_aload_n (pc := 29) dX7_isLowCheaper_29 rfl ?_
  refine aw_getR (pc := 30) dX7_isLowCheaper_30 k_fl_X7_15 rfl (by omega) (by first | rfl | exact z_shr _ (by omega) | exact z_shc0 (by omega) | exact z_shc1 (by omega) | exact z_shc2 (by omega) | exact z_shc3 (by omega) | exact z_shc4 (by omega)) (by first | rfl | exact z_Rc0 _ (by omega) | exact z_Rc1 _ (by omega) | exact z_Rc2 _ (by omega) | exact z_Rc3 _ (by omega)) ?_
  refine aw_getR (pc := 33) dX7_isLowCheaper_33 k_fl_X7_117 rfl (by omega) (by first | rfl | exact z_shr _ (by omega) | exact z_shc0 (by omega) | exact z_shc1 (by omega) | exact z_shc2 (by omega) | exact z_shc3 (by omega) | exact z_shc4 (by omega)) (by first | rfl | exact z_Rc0 _ (by omega) | exact z_Rc1 _ (by omega) | exact z_Rc2 _ (by omega) | exact z_Rc3 _ (by omega)) ?_
  refine aw_iload_n (pc := 36) dX7_isLowCheaper_36 rfl ?_
  refine aw_iaload (pc := 37) dX7_isLowCheaper_37 (by omega) (Nat.le_refl _) (by first | rfl | exact z_shr _ (by omega) | exact z_shc0 (by omega) | exact z_shc1 (by omega) | exact z_shc2 (by omega) | exact z_shc3 (by omega) | exact z_shc4 (by omega)) (by first | omega | exact z_bl_r _) ?_
  refine aw_i2l (pc := 38) dX7_isLowCheaper_38 (by first | omega | exact z_bl_r _) ?_
  refine aw_lmul (pc := 39) dX7_isLowCheaper_39 ?_
  refine aw_aload_n (pc := 40) dX7_isLowCheaper_40 rfl ?_
  refine aw_getR (pc := 41) dX7_isLowCheaper_41 k_fl_X7_15 rfl (by omega) (by first | rfl | exact z_shr _ (by omega) | exact z_shc0 (by omega) | exact z_shc1 (by omega) | exact z_shc2 (by omega) | exact z_shc3 (by omega) | exact z_shc4 (by omega)) (by first | rfl | exact z_Rc0 _ (by omega) | exact z_Rc1 _ (by omega) | exact z_Rc2 _ (by omega) | exact z_Rc3 _ (by omega)) ?_
  refine aw_getR (pc := 44) dX7_isLowCheaper_44 k_fl_X7_108 rfl (by omega) (by first | rfl | exact z_shr _ (by omega) | exact z_shc0 (by omega) | exact z_shc1 (by omega) | exact z_shc2 (by omega) | exact z_shc3 (by omega) | exact z_shc4 (by omega)) (by first | rfl | exact z_Rc0 _ (by omega) | exact z_Rc1 _ (by omega) | exact z_Rc2 _ (by omega) | exact z_Rc3 _ (by omega)) ?_
  refine aw_iload_n (pc := 47) dX7_isLowCheaper_47 rfl ?_
  refine aw_laload (pc := 48) dX7_isLowCheaper_48 (by omega) (Nat.le_refl _) (by first | rfl | exact z_shr _ (by omega) | exact z_shc0 (by omega) | exact z_shc1 (by omega) | exact z_shc2 (by omega) | exact z_shc3 (by omega) | exact z_shc4 (by omega)) (by first | omega | exact z_bl_r _) ?_
  refine aw_lsub (pc := 49) dX7_isLowCheaper_49 ?_
  refine aw_lstore (pc := 50) (lv' := [_, _, _, _, _, _, _, _]) dX7_isLowCheaper_50 (Nat.le_of_ble_eq_true rfl) rfl ?_
  refine aw_iload_n (pc := 52) dX7_isLowCheaper_52 rfl ?_
  refine aw_i2l (pc := 53) dX7_isLowCheaper_53 (by first | omega | exact z_bl_r _) ?_
  refine aw_lload (pc := 54) dX7_isLowCheaper_54 rfl ?_
  refine aw_lmul (pc := 56) dX7_isLowCheaper_56 ?_
  refine aw_iload_n (pc := 57) dX7_isLowCheaper_57 rfl ?_
  refine aw_iload_n (pc := 58) dX7_isLowCheaper_58 rfl ?_
  refine aw_isub (pc := 59) dX7_isLowCheaper_59 ?_
  refine aw_i2l (pc := 60) dX7_isLowCheaper_60 (by first | omega | exact z_bl_r _) ?_
  refine aw_lload (pc := 61) dX7_isLowCheaper_61 rfl ?_
  refine aw_lmul (pc := 63) dX7_isLowCheaper_63 ?_
  refine aw_lcmp_gt (pc := 64) (tgt := 72) dX7_isLowCheaper_64 dX7_isLowCheaper_65 rfl (by first | omega | exact z_bl_r _) (by first | omega | exact z_bl_r _) (fun h64 => ?_) (fun h64 => ?_)
  · refine aw_iconst (pc := 72) dX7_isLowCheaper_72 ?_
    exact aw_zreturn (pc := 73) dX7_isLowCheaper_73 rfl (by first | exact Or.inl rfl | exact Or.inr rfl | omega) ⟨Nat.zero_le _, Nat.zero_le _⟩ (⟨by first | exact z_r1 (show z_lc I J n.toNat q d from h64) | exact z_r0 (show ¬ z_lc I J n.toNat q d from by unfold z_lc; omega), rfl, rfl, rfl, rfl⟩)
  · refine aw_iconst (pc := 68) dX7_isLowCheaper_68 ?_
    refine aw_goto (pc := 69) (tgt := 73) dX7_isLowCheaper_69 rfl ?_
    exact aw_zreturn (pc := 73) dX7_isLowCheaper_73 rfl (by first | exact Or.inl rfl | exact Or.inr rfl | omega) ⟨Nat.zero_le _, Nat.zero_le _⟩ (⟨by first | exact z_r1 (show z_lc I J n.toNat q d from h64) | exact z_r0 (show ¬ z_lc I J n.toNat q d from by unfold z_lc; omega), rfl, rfl, rfl, rfl⟩)
set_option maxHeartbeats 4000000 in
theorem c_X7_takeLow {π : Nat → Nat} {I J : AwI} {c : Nat} {f rt lt ht : Nat → Int} {r kd ag dv cr n t : Int} (hc : c < 41) (hn : 0 ≤ n ∧ n < 8) : CT m_X7_takeLow [zr 224, zr (19 + 5 * c), zi n, zi t] 255 (z_ct9 I c f rt lt ht r kd ag dv cr) J (z_R π) (z_P none 255 (z_ct9 I c (va_up f n.toNat (f n.toNat - t)) rt (va_up lt n.toNat t) ht (r - t * I 2 n.toNat) kd ag dv cr) J (z_R π)) := by
  refine CT.of (by decide) (Nat.le_of_ble_eq_true rfl) ?_
  show AW _ 0 0 _ 0 [some (zr 224), some (zr (19 + 5 * c)), some (zi n), some (zi t)] [] _ _ _
  refine aw_aload_n (pc := 0) dX7_takeLow_0 rfl ?_
  refine aw_getR (pc := 1) dX7_takeLow_1 k_fl_X7_120 rfl (by omega) (by first | rfl | exact z_shr _ (by omega) | exact z_shc0 (by omega) | exact z_shc1 (by omega) | exact z_shc2 (by omega) | exact z_shc3 (by omega) | exact z_shc4 (by omega)) (by first | rfl | exact z_Rc0 _ (by omega) | exact z_Rc1 _ (by omega) | exact z_Rc2 _ (by omega) | exact z_Rc3 _ (by omega)) ?_
  refine aw_iload_n (pc := 4) dX7_takeLow_4 rfl ?_
  refine aw_iload_n (pc := 5) dX7_takeLow_5 rfl ?_
  refine aw_iastore (pc := 6) dX7_takeLow_6 (by omega) (Nat.le_refl _) (by first | rfl | exact z_shr _ (by omega) | exact z_shc0 (by omega) | exact z_shc1 (by omega) | exact z_shc2 (by omega) | exact z_shc3 (by omega) | exact z_shc4 (by omega)) (by first | omega | exact z_bl_r _) ?_
  rw [z_c9_ult]
  refine aw_aload_n (pc := 7) dX7_takeLow_7 rfl ?_
  refine aw_getR (pc := 8) dX7_takeLow_8 k_fl_X7_80 rfl (by omega) (by first | rfl | exact z_shr _ (by omega) | exact z_shc0 (by omega) | exact z_shc1 (by omega) | exact z_shc2 (by omega) | exact z_shc3 (by omega) | exact z_shc4 (by omega)) (by first | rfl | exact z_Rc0 _ (by omega) | exact z_Rc1 _ (by omega) | exact z_Rc2 _ (by omega) | exact z_Rc3 _ (by omega)) ?_
  refine aw_iload_n (pc := 11) dX7_takeLow_11 rfl ?_
  refine aw_dup2 (pc := 12) dX7_takeLow_12 (fun _ h => by cases h) (fun _ h => by cases h) ?_
  refine aw_ialoadV (pc := 13) (v := f n.toNat) dX7_takeLow_13 (by omega) (Nat.le_refl _) (by first | rfl | exact z_shr _ (by omega) | exact z_shc0 (by omega) | exact z_shc1 (by omega) | exact z_shc2 (by omega) | exact z_shc3 (by omega) | exact z_shc4 (by omega)) (by first | omega | exact z_bl_r _) (z_c9_f _) ?_
  refine aw_iload_n (pc := 14) dX7_takeLow_14 rfl ?_
  refine aw_isub (pc := 15) dX7_takeLow_15 ?_
  refine aw_iastore (pc := 16) dX7_takeLow_16 (by omega) (Nat.le_refl _) (by first | rfl | exact z_shr _ (by omega) | exact z_shc0 (by omega) | exact z_shc1 (by omega) | exact z_shc2 (by omega) | exact z_shc3 (by omega) | exact z_shc4 (by omega)) (by first | omega | exact z_bl_r _) ?_
  rw [z_c9_uf]
  refine aw_aload_n (pc := 17) dX7_takeLow_17 rfl ?_
  refine aw_dup (pc := 18) dX7_takeLow_18 (fun _ h => by cases h) ?_
  refine aw_getV (pc := 19) (v := r) dX7_takeLow_19 k_fl_X7_77 rfl (by omega) (by first | rfl | exact z_shr _ (by omega) | exact z_shc0 (by omega) | exact z_shc1 (by omega) | exact z_shc2 (by omega) | exact z_shc3 (by omega) | exact z_shc4 (by omega)) (z_c9_r) ?_
  refine aw_iload_n (pc := 22) dX7_takeLow_22 rfl ?_
  refine aw_aload_n (pc := 23) dX7_takeLow_23 rfl ?_
  refine aw_getR (pc := 24) dX7_takeLow_24 k_fl_X7_15 rfl (by omega) (by first | rfl | exact z_shr _ (by omega) | exact z_shc0 (by omega) | exact z_shc1 (by omega) | exact z_shc2 (by omega) | exact z_shc3 (by omega) | exact z_shc4 (by omega)) (by first | rfl | exact z_Rc0 _ (by omega) | exact z_Rc1 _ (by omega) | exact z_Rc2 _ (by omega) | exact z_Rc3 _ (by omega)) ?_
  refine aw_getR (pc := 27) dX7_takeLow_27 k_fl_X7_114 rfl (by omega) (by first | rfl | exact z_shr _ (by omega) | exact z_shc0 (by omega) | exact z_shc1 (by omega) | exact z_shc2 (by omega) | exact z_shc3 (by omega) | exact z_shc4 (by omega)) (by first | rfl | exact z_Rc0 _ (by omega) | exact z_Rc1 _ (by omega) | exact z_Rc2 _ (by omega) | exact z_Rc3 _ (by omega)) ?_
  refine aw_iload_n (pc := 30) dX7_takeLow_30 rfl ?_
  refine aw_ialoadV (pc := 31) (v := I 2 n.toNat) dX7_takeLow_31 (by omega) (Nat.le_refl _) (by first | rfl | exact z_shr _ (by omega) | exact z_shc0 (by omega) | exact z_shc1 (by omega) | exact z_shc2 (by omega) | exact z_shc3 (by omega) | exact z_shc4 (by omega)) (by first | omega | exact z_bl_r _) (z_c9_o (by omega)) ?_
  refine aw_imul (pc := 32) dX7_takeLow_32 ?_
  refine aw_isub (pc := 33) dX7_takeLow_33 ?_
  refine aw_putI (pc := 34) dX7_takeLow_34 k_fl_X7_77 rfl (by omega) (by first | rfl | exact z_shr _ (by omega) | exact z_shc0 (by omega) | exact z_shc1 (by omega) | exact z_shc2 (by omega) | exact z_shc3 (by omega) | exact z_shc4 (by omega)) ?_
  rw [z_c9_ur]
  exact aw_return (pc := 37) dX7_takeLow_37 rfl ⟨Nat.zero_le _, Nat.zero_le _⟩ (⟨rfl, rfl, rfl, rfl, rfl⟩)
set_option maxHeartbeats 4000000 in
theorem c_X7_takeHigh {π : Nat → Nat} {I J : AwI} {c : Nat} {f rt lt ht : Nat → Int} {r kd ag dv cr n t : Int} (hc : c < 41) (hn : 0 ≤ n ∧ n < 8) : CT m_X7_takeHigh [zr 224, zr (19 + 5 * c), zi n, zi t] 255 (z_ct9 I c f rt lt ht r kd ag dv cr) J (z_R π) (z_P none 255 (z_ct9 I c (va_up f n.toNat (f n.toNat + t)) rt lt (va_up ht n.toNat t) (r + t * I 3 n.toNat) kd ag dv cr) J (z_R π)) := by
  refine CT.of (by decide) (Nat.le_of_ble_eq_true rfl) ?_
  show AW _ 0 0 _ 0 [some (zr 224), some (zr (19 + 5 * c)), some (zi n), some (zi t)] [] _ _ _
  refine aw_aload_n (pc := 0) dX7_takeHigh_0 rfl ?_
  refine aw_getR (pc := 1) dX7_takeHigh_1 k_fl_X7_123 rfl (by omega) (by first | rfl | exact z_shr _ (by omega) | exact z_shc0 (by omega) | exact z_shc1 (by omega) | exact z_shc2 (by omega) | exact z_shc3 (by omega) | exact z_shc4 (by omega)) (by first | rfl | exact z_Rc0 _ (by omega) | exact z_Rc1 _ (by omega) | exact z_Rc2 _ (by omega) | exact z_Rc3 _ (by omega)) ?_
  refine aw_iload_n (pc := 4) dX7_takeHigh_4 rfl ?_
  refine aw_iload_n (pc := 5) dX7_takeHigh_5 rfl ?_
  refine aw_iastore (pc := 6) dX7_takeHigh_6 (by omega) (Nat.le_refl _) (by first | rfl | exact z_shr _ (by omega) | exact z_shc0 (by omega) | exact z_shc1 (by omega) | exact z_shc2 (by omega) | exact z_shc3 (by omega) | exact z_shc4 (by omega)) (by first | omega | exact z_bl_r _) ?_
  rw [z_c9_uht]
  refine aw_aload_n (pc := 7) dX7_takeHigh_7 rfl ?_
  refine aw_getR (pc := 8) dX7_takeHigh_8 k_fl_X7_80 rfl (by omega) (by first | rfl | exact z_shr _ (by omega) | exact z_shc0 (by omega) | exact z_shc1 (by omega) | exact z_shc2 (by omega) | exact z_shc3 (by omega) | exact z_shc4 (by omega)) (by first | rfl | exact z_Rc0 _ (by omega) | exact z_Rc1 _ (by omega) | exact z_Rc2 _ (by omega) | exact z_Rc3 _ (by omega)) ?_
  refine aw_iload_n (pc := 11) dX7_takeHigh_11 rfl ?_
  refine aw_dup2 (pc := 12) dX7_takeHigh_12 (fun _ h => by cases h) (fun _ h => by cases h) ?_
  refine aw_ialoadV (pc := 13) (v := f n.toNat) dX7_takeHigh_13 (by omega) (Nat.le_refl _) (by first | rfl | exact z_shr _ (by omega) | exact z_shc0 (by omega) | exact z_shc1 (by omega) | exact z_shc2 (by omega) | exact z_shc3 (by omega) | exact z_shc4 (by omega)) (by first | omega | exact z_bl_r _) (z_c9_f _) ?_
  refine aw_iload_n (pc := 14) dX7_takeHigh_14 rfl ?_
  refine aw_iadd (pc := 15) dX7_takeHigh_15 ?_
  refine aw_iastore (pc := 16) dX7_takeHigh_16 (by omega) (Nat.le_refl _) (by first | rfl | exact z_shr _ (by omega) | exact z_shc0 (by omega) | exact z_shc1 (by omega) | exact z_shc2 (by omega) | exact z_shc3 (by omega) | exact z_shc4 (by omega)) (by first | omega | exact z_bl_r _) ?_
  rw [z_c9_uf]
  refine aw_aload_n (pc := 17) dX7_takeHigh_17 rfl ?_
  refine aw_dup (pc := 18) dX7_takeHigh_18 (fun _ h => by cases h) ?_
  refine aw_getV (pc := 19) (v := r) dX7_takeHigh_19 k_fl_X7_77 rfl (by omega) (by first | rfl | exact z_shr _ (by omega) | exact z_shc0 (by omega) | exact z_shc1 (by omega) | exact z_shc2 (by omega) | exact z_shc3 (by omega) | exact z_shc4 (by omega)) (z_c9_r) ?_
  refine aw_iload_n (pc := 22) dX7_takeHigh_22 rfl ?_
  refine aw_aload_n (pc := 23) dX7_takeHigh_23 rfl ?_
  refine aw_getR (pc := 24) dX7_takeHigh_24 k_fl_X7_15 rfl (by omega) (by first | rfl | exact z_shr _ (by omega) | exact z_shc0 (by omega) | exact z_shc1 (by omega) | exact z_shc2 (by omega) | exact z_shc3 (by omega) | exact z_shc4 (by omega)) (by first | rfl | exact z_Rc0 _ (by omega) | exact z_Rc1 _ (by omega) | exact z_Rc2 _ (by omega) | exact z_Rc3 _ (by omega)) ?_
  refine aw_getR (pc := 27) dX7_takeHigh_27 k_fl_X7_117 rfl (by omega) (by first | rfl | exact z_shr _ (by omega) | exact z_shc0 (by omega) | exact z_shc1 (by omega) | exact z_shc2 (by omega) | exact z_shc3 (by omega) | exact z_shc4 (by omega)) (by first | rfl | exact z_Rc0 _ (by omega) | exact z_Rc1 _ (by omega) | exact z_Rc2 _ (by omega) | exact z_Rc3 _ (by omega)) ?_
  refine aw_iload_n (pc := 30) dX7_takeHigh_30 rfl ?_
  refine aw_ialoadV (pc := 31) (v := I 3 n.toNat) dX7_takeHigh_31 (by omega) (Nat.le_refl _) (by first | rfl | exact z_shr _ (by omega) | exact z_shc0 (by omega) | exact z_shc1 (by omega) | exact z_shc2 (by omega) | exact z_shc3 (by omega) | exact z_shc4 (by omega)) (by first | omega | exact z_bl_r _) (z_c9_o (by omega)) ?_
  refine aw_imul (pc := 32) dX7_takeHigh_32 ?_
  refine aw_iadd (pc := 33) dX7_takeHigh_33 ?_
  refine aw_putI (pc := 34) dX7_takeHigh_34 k_fl_X7_77 rfl (by omega) (by first | rfl | exact z_shr _ (by omega) | exact z_shc0 (by omega) | exact z_shc1 (by omega) | exact z_shc2 (by omega) | exact z_shc3 (by omega) | exact z_shc4 (by omega)) ?_
  rw [z_c9_ur]
  exact aw_return (pc := 37) dX7_takeHigh_37 rfl ⟨Nat.zero_le _, Nat.zero_le _⟩ (⟨rfl, rfl, rfl, rfl, rfl⟩)
theorem z_sd01 (I J : AwI) (π : Nat → Nat) : (z_sd I J π).1 = 0 ∨ (z_sd I J π).1 = 1 := by
  unfold z_sd
  split
  · exact Or.inr rfl
  · split
    · exact Or.inl rfl
    · exact Or.inr rfl
theorem z_tdb (x : Int) {d : Int} (hd : 1 ≤ d ∧ d ≤ 9) : x.tdiv d ≤ max x (-x) ∧ -(max x (-x)) ≤ x.tdiv d := by
  have h1 : (x.tdiv d).natAbs = x.natAbs / d.natAbs := Int.natAbs_tdiv x d
  have h2 : x.natAbs / d.natAbs ≤ x.natAbs := Nat.div_le_self _ _
  omega
theorem z_edb (x : Int) {d : Int} (hd : 1 ≤ d ∧ d ≤ 9) : x / d ≤ max x 0 ∧ min x (-1) ≤ x / d := by
  have h1 := Int.emod_nonneg x (show d ≠ 0 by omega)
  have h2 := Int.emod_lt_of_pos x (show 0 < d by omega)
  have h3 := Int.mul_ediv_add_emod x d
  constructor
  · by_cases h : 0 ≤ x
    · have := Int.ediv_le_self d h
      omega
    · have := Int.ediv_neg_of_neg_of_pos (by omega : x < 0) (by omega : 0 < d)
      omega
  · by_cases h : 0 ≤ x
    · have := Int.ediv_nonneg h (by omega : 0 ≤ d)
      omega
    · have h5 : 0 ≤ (-x) * (d - 1) := Int.mul_nonneg (by omega) (by omega)
      rw [Int.mul_sub, Int.neg_mul] at h5
      have h6 : x ≤ x / d := (Int.le_ediv_iff_mul_le (by omega)).mpr (by omega)
      omega
set_option maxHeartbeats 4000000 in
theorem c_X7_divideAndSettle {π : Nat → Nat} {I J : AwI} {c : Nat} {f rt lt ht : Nat → Int} {r kd ag dv cr d : Int} (h : z_M I J) (hL : z_L I π) (hc : c < 41) (hd : 1 ≤ d ∧ d ≤ 9) (hf : ∀ k, -1000 ≤ f k ∧ f k ≤ 1000) (hrt : ∀ k, -1000 ≤ rt k ∧ rt k ≤ 1000) (hlt : ∀ k, -1000 ≤ lt k ∧ lt k ≤ 1000) (hht : ∀ k, -1000 ≤ ht k ∧ ht k ≤ 1000) (hr : -200000 ≤ r ∧ r ≤ 200000) (hkd : 0 ≤ kd ∧ kd ≤ 3) (hag : 0 ≤ ag ∧ ag ≤ 3) (hdv : -1000 ≤ dv ∧ dv ≤ 1000) (hcr : -1000 ≤ cr ∧ cr ≤ 1000) : CT m_X7_divideAndSettle [zr 224, zr (19 + 5 * c), zi d] 255 (z_ct9 I c f rt lt ht r kd ag dv cr) J (z_R π) (z_P (some (zi (z_sd (z_ct9 I c (z_pf (fun k => (f k).tdiv d) f (I 1 5).toNat) rt lt ht (r / d) kd ag dv cr) J π).1)) 255 (z_sd (z_ct9 I c (z_pf (fun k => (f k).tdiv d) f (I 1 5).toNat) rt lt ht (r / d) kd ag dv cr) J π).2 J (z_R π)) := by
  refine CT.of (by decide) (Nat.le_of_ble_eq_true rfl) ?_
  show AW _ 0 0 _ 0 [some (zr 224), some (zr (19 + 5 * c)), some (zi d), none] [] _ _ _
  have hnm := h.nm
  have loop : ∀ (k : Nat) (x : Int), 0 ≤ x → x + k = I 1 5 → AW (FM m_X7_divideAndSettle (z_P (some (zi (z_sd (z_ct9 I c (z_pf (fun k => (f k).tdiv d) f (I 1 5).toNat) rt lt ht (r / d) kd ag dv cr) J π).1)) 255 (z_sd (z_ct9 I c (z_pf (fun k => (f k).tdiv d) f (I 1 5).toNat) rt lt ht (r / d) kd ag dv cr) J π).2 J (z_R π))) 0 0 255 9 [some (zr 224), some (zr (19 + 5 * c)), some (zi d), some (zi x)] [] (z_ct9 I c (z_pf (fun k => (f k).tdiv d) f x.toNat) rt lt ht r kd ag dv cr) J (z_R π) := by
    intro k
    induction k with
    | zero =>
      intro x hx he
      refine aw_iload_n (pc := 9) dX7_divideAndSettle_9 rfl ?_
      refine aw_aload_n (pc := 10) dX7_divideAndSettle_10 rfl ?_
      refine aw_getR (pc := 11) dX7_divideAndSettle_11 k_fl_X7_15 rfl (by omega) (by first | rfl | exact z_shr _ (by omega) | exact z_shc0 (by omega) | exact z_shc1 (by omega) | exact z_shc2 (by omega) | exact z_shc3 (by omega) | exact z_shc4 (by omega)) (by first | rfl | exact z_Rc0 _ (by omega) | exact z_Rc1 _ (by omega) | exact z_Rc2 _ (by omega) | exact z_Rc3 _ (by omega)) ?_
      refine aw_getV (pc := 14) (v := I 1 5) dX7_divideAndSettle_14 k_fl_X7_53 rfl (by omega) (by first | rfl | exact z_shr _ (by omega) | exact z_shc0 (by omega) | exact z_shc1 (by omega) | exact z_shc2 (by omega) | exact z_shc3 (by omega) | exact z_shc4 (by omega)) (z_c9_o (by omega)) ?_
      refine aw_icmp_ge (pc := 17) (tgt := 36) dX7_divideAndSettle_17 rfl (by first | omega | exact z_bl_r _) (by first | omega | exact z_bl_r _) (fun h17 => ?_) (fun h17 => absurd h17 (by omega))
      refine aw_aload_n (pc := 36) dX7_divideAndSettle_36 rfl ?_
      refine aw_aload_n (pc := 37) dX7_divideAndSettle_37 rfl ?_
      refine aw_getV (pc := 38) (v := r) dX7_divideAndSettle_38 k_fl_X7_77 rfl (by omega) (by first | rfl | exact z_shr _ (by omega) | exact z_shc0 (by omega) | exact z_shc1 (by omega) | exact z_shc2 (by omega) | exact z_shc3 (by omega) | exact z_shc4 (by omega)) (z_c9_r) ?_
      refine aw_iload_n (pc := 41) dX7_divideAndSettle_41 rfl ?_
      refine aw_qS (pc := 42) (d := m_J9_floorDiv_7cf53) (c_floorDiv (by omega) (by omega)) k_J9_floorDiv_7cf53 dX7_divideAndSettle_42 k_ml_X7_126 rfl ⟨rfl, rfl⟩ ⟨Nat.le_of_ble_eq_true rfl, Nat.le_of_ble_eq_true rfl⟩ ⟨Nat.zero_le _, Nat.zero_le _⟩ rfl (Nat.le_of_ble_eq_true rfl) (z_Pk ?_)
      refine aw_putI (pc := 45) dX7_divideAndSettle_45 k_fl_X7_77 rfl (by omega) (by first | rfl | exact z_shr _ (by omega) | exact z_shc0 (by omega) | exact z_shc1 (by omega) | exact z_shc2 (by omega) | exact z_shc3 (by omega) | exact z_shc4 (by omega)) ?_
      rw [z_c9_ur, show x.toNat = (I 1 5).toNat by omega]
      refine aw_aload_n (pc := 48) dX7_divideAndSettle_48 rfl ?_
      refine aw_getR (pc := 49) dX7_divideAndSettle_49 k_fl_X7_19 rfl (by omega) (by first | rfl | exact z_shr _ (by omega) | exact z_shc0 (by omega) | exact z_shc1 (by omega) | exact z_shc2 (by omega) | exact z_shc3 (by omega) | exact z_shc4 (by omega)) (by first | rfl | exact z_Rc0 _ (by omega) | exact z_Rc1 _ (by omega) | exact z_Rc2 _ (by omega) | exact z_Rc3 _ (by omega)) ?_
      refine aw_qV (pc := 52) (d := m_X5_settleDraft) (c_X5_settleDraft h.c9 (hL.c9 (z_pf_b (fun k => by have := hf k; have := z_tdb (f k) hd; omega) hf) hrt hlt hht (by have := z_edb r hd; omega) hkd hag hdv hcr)) k_X5_settleDraft dX7_divideAndSettle_52 k_ml_X7_129 rfl ⟨rfl, rfl⟩ (by omega) (by first | rfl | exact z_shr _ (by omega) | exact z_shc0 (by omega) | exact z_shc1 (by omega) | exact z_shc2 (by omega) | exact z_shc3 (by omega) | exact z_shc4 (by omega)) rfl ⟨Nat.le_of_ble_eq_true rfl, Nat.le_of_ble_eq_true rfl⟩ ⟨Nat.zero_le _, Nat.zero_le _⟩ rfl (Nat.le_of_ble_eq_true rfl) (z_Pk ?_)
      exact aw_zreturn (pc := 55) dX7_divideAndSettle_55 rfl (z_sd01 _ _ _) ⟨Nat.zero_le _, Nat.zero_le _⟩ (⟨rfl, rfl, rfl, rfl, rfl⟩)
    | succ k ih =>
      intro x hx he
      refine aw_iload_n (pc := 9) dX7_divideAndSettle_9 rfl ?_
      refine aw_aload_n (pc := 10) dX7_divideAndSettle_10 rfl ?_
      refine aw_getR (pc := 11) dX7_divideAndSettle_11 k_fl_X7_15 rfl (by omega) (by first | rfl | exact z_shr _ (by omega) | exact z_shc0 (by omega) | exact z_shc1 (by omega) | exact z_shc2 (by omega) | exact z_shc3 (by omega) | exact z_shc4 (by omega)) (by first | rfl | exact z_Rc0 _ (by omega) | exact z_Rc1 _ (by omega) | exact z_Rc2 _ (by omega) | exact z_Rc3 _ (by omega)) ?_
      refine aw_getV (pc := 14) (v := I 1 5) dX7_divideAndSettle_14 k_fl_X7_53 rfl (by omega) (by first | rfl | exact z_shr _ (by omega) | exact z_shc0 (by omega) | exact z_shc1 (by omega) | exact z_shc2 (by omega) | exact z_shc3 (by omega) | exact z_shc4 (by omega)) (z_c9_o (by omega)) ?_
      refine aw_icmp_ge (pc := 17) (tgt := 36) dX7_divideAndSettle_17 rfl (by first | omega | exact z_bl_r _) (by first | omega | exact z_bl_r _) (fun h17 => absurd h17 (by omega)) (fun h17 => ?_)
      have g := hf x.toNat
      refine aw_aload_n (pc := 20) dX7_divideAndSettle_20 rfl ?_
      refine aw_getR (pc := 21) dX7_divideAndSettle_21 k_fl_X7_80 rfl (by omega) (by first | rfl | exact z_shr _ (by omega) | exact z_shc0 (by omega) | exact z_shc1 (by omega) | exact z_shc2 (by omega) | exact z_shc3 (by omega) | exact z_shc4 (by omega)) (by first | rfl | exact z_Rc0 _ (by omega) | exact z_Rc1 _ (by omega) | exact z_Rc2 _ (by omega) | exact z_Rc3 _ (by omega)) ?_
      refine aw_iload_n (pc := 24) dX7_divideAndSettle_24 rfl ?_
      refine aw_dup2 (pc := 25) dX7_divideAndSettle_25 (fun _ h => by cases h) (fun _ h => by cases h) ?_
      refine aw_ialoadV (pc := 26) (v := f x.toNat) dX7_divideAndSettle_26 (by omega) (Nat.le_refl _) (by first | rfl | exact z_shr _ (by omega) | exact z_shc0 (by omega) | exact z_shc1 (by omega) | exact z_shc2 (by omega) | exact z_shc3 (by omega) | exact z_shc4 (by omega)) (by first | omega | exact z_bl_r _) ((z_c9_f _).trans z_pf_at) ?_
      refine aw_iload_n (pc := 27) dX7_divideAndSettle_27 rfl ?_
      refine aw_idiv (pc := 28) dX7_divideAndSettle_28 (by omega) (by omega) (by omega) ?_
      refine aw_iastore (pc := 29) dX7_divideAndSettle_29 (by omega) (Nat.le_refl _) (by first | rfl | exact z_shr _ (by omega) | exact z_shc0 (by omega) | exact z_shc1 (by omega) | exact z_shc2 (by omega) | exact z_shc3 (by omega) | exact z_shc4 (by omega)) (by first | omega | exact z_bl_r _) ?_
      rw [z_c9_uf, z_pf_s hx rfl]
      refine aw_iinc (pc := 30) (lv' := [_, _, _, _]) dX7_divideAndSettle_30 (Nat.le_of_ble_eq_true rfl) rfl rfl ?_
      refine aw_goto (pc := 33) (tgt := 9) dX7_divideAndSettle_33 rfl ?_
      exact ih (x + 1) (by omega) (by omega)
  refine aw_iload_n (pc := 0) dX7_divideAndSettle_0 rfl ?_
  refine aw_iconst (pc := 1) dX7_divideAndSettle_1 ?_
  refine aw_icmp_ge (pc := 2) (tgt := 7) dX7_divideAndSettle_2 rfl (by first | omega | exact z_bl_r _) (by first | omega | exact z_bl_r _) (fun h2 => ?_) (fun h2 => absurd h2 (by omega))
  refine aw_iconst (pc := 7) dX7_divideAndSettle_7 ?_
  refine aw_istore_n (pc := 8) (lv' := [_, _, _, _]) dX7_divideAndSettle_8 (Nat.le_of_ble_eq_true rfl) rfl ?_
  have K := loop (I 1 5).toNat 0 (by omega) (by omega)
  rw [show (0 : Int).toNat = 0 from rfl, z_pf_0] at K
  exact K
