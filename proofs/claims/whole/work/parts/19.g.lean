/-! MATHEMATICS that both sides are tied to. A model: names, rows, lows, highs, point, factors, rights (0 out of range); a cut: factors, right, kind, age, what shows it -/
noncomputable def z_if {α : Type} (p : Prop) (a b : α) : α := @ite _ p (Classical.propDecidable p) a b
theorem z_if_t {α : Type} {p : Prop} {a b : α} (h : p) : z_if p a b = a := if_pos h
theorem z_if_f {α : Type} {p : Prop} {a b : α} (h : ¬ p) : z_if p a b = b := if_neg h
abbrev z_MM : Type := Nat × Nat × (Nat → Int) × (Nat → Int) × (Nat → Int) × (Nat → Nat → Int) × (Nat → Int)
abbrev z_CC : Type := (Nat → Int) × Int × Int × Int × (Nat → Int)
def mN (m : z_MM) : Nat := m.1
def mR (m : z_MM) : Nat := m.2.1
def mlo (m : z_MM) : Nat → Int := m.2.2.1
def mhi (m : z_MM) : Nat → Int := m.2.2.2.1
def mpt (m : z_MM) : Nat → Int := m.2.2.2.2.1
def mF (m : z_MM) : Nat → Nat → Int := m.2.2.2.2.2.1
def mrt (m : z_MM) : Nat → Int := m.2.2.2.2.2.2
def cF (C : z_CC) : Nat → Int := C.1
def cR (C : z_CC) : Int := C.2.1
def cK (C : z_CC) : Int := C.2.2.1
def cA (C : z_CC) : Int := C.2.2.2.1
def cS (C : z_CC) : Nat → Int := C.2.2.2.2
def z_mk (n : Nat) (f : Nat → Int) : Nat → Int := fun k => if k < n then f k else 0
theorem z_mk_in {n k : Nat} {f : Nat → Int} (h : k < n) : z_mk n f k = f k := if_pos h
def z_str2 (m : z_MM) (C : z_CC) : Int := z_sum (fun n => cF C n * mpt m n) (mN m) - cR C * 27720
def z_same (m : z_MM) (C D : z_CC) : Prop := cR C = cR D ∧ ∀ n, n < mN m → cF C n = cF D n
noncomputable def z_of (m : z_MM) (s : List z_CC × Int) (C : z_CC) : List z_CC × Int := z_if (z_str2 m C ≤ 0 ∨ ∃ D ∈ s.1, z_same m D C) s (if 40 ≤ s.1.length then (s.1, 0) else (s.1 ++ [C], s.2))
/-- the class's model and cuts -/
def z_clM (I J : AwI) : z_MM := ((I 1 5).toNat, (I 1 6).toNat, z_mk (I 1 5).toNat (fun n => I 2 n), z_mk (I 1 5).toNat (fun n => I 3 n), z_mk (I 1 5).toNat (fun n => J 4 n), fun r => z_mk (if r < (I 1 6).toNat then (I 1 5).toNat else 0) (fun n => I (6 + r) n), z_mk (I 1 6).toNat (fun r => I 16 r))
def z_clC (I : AwI) (c : Nat) (m : z_MM) (C : z_CC) : Prop := (∀ n, n < mN m → I (19 + 5 * c + 1) n = cF C n) ∧ I (19 + 5 * c) 4 = cR C ∧ I (19 + 5 * c) 5 = cK C ∧ I (19 + 5 * c) 6 = cA C ∧ (cK C = 0 ∨ cK C = 1 → (∀ r, r < mR m → I (19 + 5 * c + 2) r = cS C r) ∧ (∀ n, n < mN m → I (19 + 5 * c + 3) n = cS C (10 + n)) ∧ (∀ n, n < mN m → I (19 + 5 * c + 4) n = cS C (18 + n)) ∧ I (19 + 5 * c) 7 = cS C 26) ∧ (cK C = 2 → I (19 + 5 * c) 8 = cS C 0)
def z_clL (I : AwI) (π : Nat → Nat) (m : z_MM) (L : List z_CC) : Prop := I 17 1 = L.length ∧ ∀ k C, L[k]? = some C → z_clC I (π k) m C
theorem z_clC.congr {I I' : AwI} {c : Nat} {m : z_MM} {C : z_CC} (h : z_clC I c m C) (hI : ∀ a k, 19 + 5 * c ≤ a → a ≤ 19 + 5 * c + 4 → I' a k = I a k) : z_clC I' c m C := by
  obtain ⟨h1, h2, h3, h4, h5, h6⟩ := h
  refine ⟨fun n hn => by rw [hI _ _ (by omega) (by omega)]; exact h1 n hn, by rw [hI _ _ (by omega) (by omega)]; exact h2, by rw [hI _ _ (by omega) (by omega)]; exact h3, by rw [hI _ _ (by omega) (by omega)]; exact h4, fun q => ?_, fun q => by rw [hI _ _ (by omega) (by omega)]; exact h6 q⟩
  obtain ⟨g1, g2, g3, g4⟩ := h5 q
  exact ⟨fun n hn => by rw [hI _ _ (by omega) (by omega)]; exact g1 n hn, fun n hn => by rw [hI _ _ (by omega) (by omega)]; exact g2 n hn, fun n hn => by rw [hI _ _ (by omega) (by omega)]; exact g3 n hn, by rw [hI _ _ (by omega) (by omega)]; exact g4⟩
theorem z_clL.congr {I I' : AwI} {π : Nat → Nat} {m : z_MM} {L : List z_CC} (h : z_clL I π m L) (hP : ∀ k, k < 41 → π k < 41) (hl : L.length ≤ 40) (h17 : I' 17 1 = I 17 1) (hI : ∀ a k, 19 ≤ a → a < 224 → I' a k = I a k) : z_clL I' π m L := by
  refine ⟨by rw [h17]; exact h.1, fun k C hk => (h.2 k C hk).congr (fun a j h1 h2 => hI a j (by omega) ?_)⟩
  have hlt := (List.getElem?_eq_some_iff.mp hk).1
  have := hP k (by omega)
  omega
theorem z_clM_str {I J : AwI} (h : z_M I J) {c : Nat} {C : z_CC} (hC : z_clC I c (z_clM I J) C) : z_cst I J c = z_str2 (z_clM I J) C := by
  unfold z_cst z_str2 z_sm
  rw [hC.2.1]
  congr 1
  refine z_sum_c _ (fun k hk => ?_)
  have hk' : k < mN (z_clM I J) := hk
  rw [hC.1 k hk', show mpt (z_clM I J) k = J 4 k from z_mk_in hk]
theorem z_clM_same {I J : AwI} (h : z_M I J) {c d : Nat} {C D : z_CC} (hC : z_clC I c (z_clM I J) C) (hD : z_clC I d (z_clM I J) D) : z_sa I c d ↔ z_same (z_clM I J) C D := by
  have hnm := h.nm
  unfold z_sa z_same
  rw [hC.2.1, hD.2.1]
  refine and_congr_right (fun _ => ⟨fun q n hn => ?_, fun q n hn => ?_⟩)
  · have := q n (by have hn : n < (I 1 5).toNat := hn; omega)
    rw [hC.1 n hn, hD.1 n hn] at this
    exact this
  · have hn' : n < mN (z_clM I J) := by show n < (I 1 5).toNat; omega
    rw [hC.1 n hn', hD.1 n hn']
    exact q n hn'
theorem z_clM_tl {I J : AwI} {π : Nat → Nat} (h : z_M I J) {L : List z_CC} (hL : z_clL I π (z_clM I J) L) {d : Nat} {C : z_CC} (hC : z_clC I d (z_clM I J) C) : z_tl I π d ↔ ∃ D ∈ L, z_same (z_clM I J) D C := by
  constructor
  · rintro ⟨k, hk, hs⟩
    have hk2 : k < L.length := by have := hL.1; omega
    have hg : L[k]? = some L[k] := List.getElem?_eq_getElem hk2
    exact ⟨L[k], List.getElem_mem hk2, (z_clM_same h (hL.2 k _ hg) hC).mp hs⟩
  · rintro ⟨D, hD, hs⟩
    obtain ⟨k, hk⟩ := List.getElem?_of_mem hD
    have hlt := (List.getElem?_eq_some_iff.mp hk).1
    exact ⟨k, by have := hL.1; omega, (z_clM_same h (hL.2 k _ hk) hC).mpr hs⟩
/-- settling a draft is the offer of its cut -/
theorem z_settle {I J : AwI} {π : Nat → Nat} {L : List z_CC} {C : z_CC} (h : z_M I J) (hL : z_L I π) (hc : z_clL I π (z_clM I J) L) (hd : z_clC I (π (I 17 1).toNat) (z_clM I J) C) (ht : I 17 2 = 1) :
    (z_sd I J π).1 = (z_of (z_clM I J) (L, 1) C).2 ∧ z_clL (z_sd I J π).2 π (z_clM I J) (z_of (z_clM I J) (L, 1) C).1 ∧ (z_sd I J π).2 17 2 = (z_of (z_clM I J) (L, 1) C).2 ∧ (∀ a k, a ≠ 17 → (z_sd I J π).2 a k = I a k) ∧ z_L (z_sd I J π).2 π := by
  have hn := hL.n
  have hlen := hc.1
  have hiff : (z_cst I J (π (I 17 1).toNat) ≤ 0 ∨ z_tl I π (π (I 17 1).toNat)) ↔ (z_str2 (z_clM I J) C ≤ 0 ∨ ∃ D ∈ L, z_same (z_clM I J) D C) := by
    rw [z_clM_str h hd, z_clM_tl h hc hd]
  have hcng : ∀ (k v : Nat) (x : Int), k = 1 ∨ k = 2 → ∀ c, c < 41 → z_C (z_up I 17 k x) c := fun k v x hk c hcc => by
    have g := hL.c hcc
    refine ⟨fun n => ?_, fun n => ?_, fun n => ?_, fun n => ?_, ?_, ?_, ?_, ?_, ?_⟩
    · rw [z_up_a _ _ (by omega)]; exact g.f n
    · rw [z_up_a _ _ (by omega)]; exact g.rt n
    · rw [z_up_a _ _ (by omega)]; exact g.lt n
    · rw [z_up_a _ _ (by omega)]; exact g.ht n
    · rw [z_up_a _ _ (by omega)]; exact g.r
    · rw [z_up_a _ _ (by omega)]; exact g.kd
    · rw [z_up_a _ _ (by omega)]; exact g.ag
    · rw [z_up_a _ _ (by omega)]; exact g.dv
    · rw [z_up_a _ _ (by omega)]; exact g.cr
  unfold z_sd z_of
  by_cases hp : z_str2 (z_clM I J) C ≤ 0 ∨ ∃ D ∈ L, z_same (z_clM I J) D C
  · rw [if_pos (hiff.mpr hp), z_if_t hp]
    exact ⟨rfl, hc, ht, fun _ _ _ => rfl, hL⟩
  · rw [if_neg (fun q => hp (hiff.mp q)), z_if_f hp]
    by_cases h4 : 40 ≤ I 17 1
    · rw [if_pos h4, if_pos (show 40 ≤ L.length by omega)]
      refine ⟨rfl, ?_, show z_up I 17 2 0 17 2 = 0 from z_up_s _ _ _ _, fun a k ha => z_up_a _ _ ha, ⟨?_, hL.2.1, hcng 2 0 0 (Or.inr rfl)⟩⟩
      · exact ⟨by show z_up I 17 2 0 17 1 = _; rw [z_up_k _ _ (by omega)]; exact hlen, fun k D hk => (hc.2 k D hk).congr (fun a j h1 h2 => z_up_a _ _ (by omega))⟩
      · show 0 ≤ z_up I 17 2 0 17 1 ∧ z_up I 17 2 0 17 1 ≤ 40
        rw [z_up_k _ _ (by omega)]
        exact hn
    · rw [if_neg h4, if_neg (show ¬ 40 ≤ L.length by omega)]
      refine ⟨rfl, ?_, ?_, fun a k ha => z_up_a _ _ ha, ⟨?_, hL.2.1, hcng 1 0 _ (Or.inl rfl)⟩⟩
      · refine ⟨?_, fun k D hk => ?_⟩
        · show z_up I 17 1 (I 17 1 + 1) 17 1 = ((L ++ [C]).length : Int)
          rw [z_up_s, List.length_append, hlen]
          rfl
        · replace hk : (L ++ [C])[k]? = some D := hk
          by_cases hk2 : k < L.length
          · rw [List.getElem?_append_left hk2] at hk
            exact (hc.2 k D hk).congr (fun a j h1 h2 => z_up_a _ _ (by omega))
          · rw [List.getElem?_append_right (by omega)] at hk
            have h0 : k - L.length < 1 := (List.getElem?_eq_some_iff.mp hk).1
            rw [show k - L.length = 0 by omega] at hk
            cases hk
            rw [show k = (I 17 1).toNat by omega]
            exact hd.congr (fun a j h1 h2 => z_up_a _ _ (by omega))
      · show z_up I 17 1 (I 17 1 + 1) 17 2 = 1
        rw [z_up_k _ _ (by omega)]
        exact ht
      · show 0 ≤ z_up I 17 1 (I 17 1 + 1) 17 1 ∧ z_up I 17 1 (I 17 1 + 1) 17 1 ≤ 40
        rw [z_up_s]
        omega
theorem z_clM.congr {I I' J J' : AwI} (h : z_M I J) (hI : ∀ a k, a < 17 → I' a k = I a k) (hJ : ∀ k, J' 4 k = J 4 k) : z_clM I' J' = z_clM I J := by
  unfold z_clM
  rw [hI 1 5 (by omega), hI 1 6 (by omega), show (fun n => I' 2 n) = fun n => I 2 n from funext fun n => hI 2 n (by omega), show (fun n => I' 3 n) = fun n => I 3 n from funext fun n => hI 3 n (by omega), show (fun n => J' 4 n) = fun n => J 4 n from funext hJ, show (fun r => I' 16 r) = fun r => I 16 r from funext fun n => hI 16 n (by omega)]
  have e : (fun r => z_mk (if r < (I 1 6).toNat then (I 1 5).toNat else 0) (fun n => I' (6 + r) n)) = fun r => z_mk (if r < (I 1 6).toNat then (I 1 5).toNat else 0) (fun n => I (6 + r) n) := by
    funext r n
    unfold z_mk
    dsimp only
    by_cases hr : r < 10
    · rw [hI (6 + r) n (by omega)]
    · have := h.rw
      have e0 : (if r < (I 1 6).toNat then (I 1 5).toNat else 0) = 0 := if_neg (by omega)
      rw [e0, if_neg (by omega), if_neg (by omega)]
  rw [e]
theorem k_nl_X8_9 : Cond.methodLinkNest RX8 9 yX6_init "CutProofs" ∈ z_nl := by decide +kernel
theorem k_nl_X0_101 : Cond.methodLinkNest RX0 101 yX8_isIn "CutProofs" ∈ z_nl := by decide +kernel
theorem k_nl_X2_54 : Cond.methodLinkNest RX2 54 yX8_isIn "CutProofs" ∈ z_nl := by decide +kernel
theorem k_nl_X3_80 : Cond.methodLinkNest RX3 80 yX8_isIn "CutProofs" ∈ z_nl := by decide +kernel
theorem k_nl_X5_25 : Cond.methodLinkNest RX5 25 yX4_init "CutProofs" ∈ z_nl := by decide +kernel
theorem k_nl_X7_50 : Cond.methodLinkNest RX7 50 yX8_isIn "CutProofs" ∈ z_nl := by decide +kernel
