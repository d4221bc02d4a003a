theorem z_it1 {w : Cond} (i : Nat) (h : tables_1_1[i]? = some w) : w ∈ lw_tbl := List.mem_append_right _ (List.mem_append_left _ (List.mem_of_getElem? h))
theorem z_it2 {w : Cond} (i : Nat) (h : tables_1_2[i]? = some w) : w ∈ lw_tbl := List.mem_append_right _ (List.mem_append_right _ (List.mem_append_left _ (List.mem_of_getElem? h)))
theorem z_it3 {w : Cond} (i : Nat) (h : tables_1_3[i]? = some w) : w ∈ lw_tbl := List.mem_append_right _ (List.mem_append_right _ (List.mem_append_right _ (List.mem_append_left _ (List.mem_of_getElem? h))))
theorem z_it4 {w : Cond} (i : Nat) (h : tables_1_4[i]? = some w) : w ∈ lw_tbl := List.mem_append_right _ (List.mem_append_right _ (List.mem_append_right _ (List.mem_append_right _ (List.mem_append_left _ (List.mem_of_getElem? h)))))
theorem z_it5 {w : Cond} (i : Nat) (h : tables_1_5[i]? = some w) : w ∈ lw_tbl := List.mem_append_right _ (List.mem_append_right _ (List.mem_append_right _ (List.mem_append_right _ (List.mem_append_right _ (List.mem_of_getElem? h)))))
theorem z_Pi0 : z_Pi id := by
  unfold z_Pi
  exact ⟨fun k hk => hk, fun a b _ _ h => h⟩
def z_I0 : AwI := z_up (z_up (fun _ _ => 0) 17 2 1) 237 13 1
theorem z_I0z {a k : Nat} (h : a ≠ 17 ∧ a ≠ 237) : z_I0 a k = 0 := by
  unfold z_I0
  rw [z_up_a _ _ h.2, z_up_a _ _ h.1]
theorem z_CI0 : z_CI z_I0 (fun _ _ => 0) id z_m0 [] 1 := by
  have h0 : ∀ a k : Nat, a ≠ 17 ∧ a ≠ 237 → z_I0 a k = 0 := fun a k h => z_I0z h
  refine ⟨⟨?_, ?_, fun n => ?_, fun n => ?_, fun n => ?_, fun r n hr => ?_, fun r => ?_, fun r n q1 => (by rw [h0 _ _ (by decide)] at q1; omega)⟩, ?_, fun n hn => absurd hn (Nat.not_lt_zero n), ⟨?_, ?_, fun c hc => ?_⟩, ⟨?_, fun k C hk => (by cases hk)⟩, ?_, Or.inr rfl, fun n => ?_, fun j => ?_, fun C hC => (by cases hC)⟩
  · rw [h0 _ _ (by decide)]; decide
  · rw [h0 _ _ (by decide)]; decide
  · rw [h0 _ _ (by decide)]; decide
  · rw [h0 _ _ (by decide)]; decide
  · dsimp only; decide
  · rw [h0 _ _ (by omega)]; decide
  · rw [h0 _ _ (by decide)]; decide
  · rw [z_clM_mk, h0 _ _ (by decide), h0 _ _ (by decide)]; exact z_mkM_0
  · rw [show z_I0 17 1 = 0 from rfl]; decide
  · exact z_Pi0
  · unfold z_C
    rw [h0 _ 4 (by omega), h0 _ 5 (by omega), h0 _ 6 (by omega), h0 _ 7 (by omega), h0 _ 8 (by omega)]
    refine ⟨fun n => ?_, fun n => ?_, fun n => ?_, fun n => ?_, by decide, by decide, by decide, by decide, by decide⟩
    all_goals (rw [h0 _ _ (by omega)]; decide)
  · rfl
  · rfl
  · rw [h0 _ _ (by decide)]; decide
  · rw [h0 _ _ (by decide)]; decide
theorem z_RI0 : z_RI z_I0 (fun _ _ => 0) z_m0 [] 1 := by
  have h0 : ∀ a k : Nat, a ≠ 17 ∧ a ≠ 237 → z_I0 a k = 0 := fun a k h => z_I0z h
  refine ⟨⟨?_, ?_, fun n => ?_, fun n => ?_, fun n => ?_, fun j => ?_, fun r => ?_⟩, ?_, fun n hn => absurd hn (Nat.not_lt_zero n), ⟨fun j => ?_, fun j => ?_, fun j => ?_, fun j => ?_, fun j => ?_, ?_⟩, ⟨rfl, fun k C hk => (by cases hk)⟩, rfl⟩
  · rw [show z_I0 237 0 = 0 from rfl]; decide
  · rw [show z_I0 237 4 = 0 from rfl]; decide
  · rw [h0 _ _ (by decide)]; decide
  · rw [h0 _ _ (by decide)]; decide
  · dsimp only; decide
  · rw [h0 _ _ (by decide)]; decide
  · rw [h0 _ _ (by decide)]; decide
  · unfold z_rfM; rw [show z_I0 237 0 = 0 from rfl, show z_I0 237 4 = 0 from rfl]; exact z_mkM_0
  · dsimp only; decide
  · dsimp only; decide
  · rw [h0 _ _ (by decide)]; decide
  · rw [h0 _ _ (by decide)]; decide
  · rw [h0 _ _ (by decide)]; decide
  · rw [show z_I0 237 7 = 0 from rfl]; decide
theorem z_backW {p : Program} {l : Launch} {e : Env} {Rm : Room} {s : State} {m : MethodId} {args : Array Value} {below : List Frame} {meth : Method} {c : Code} {H : Heap} {locs : List Loc} {cells slots mc ms pc : Nat} {QQ : State → Prop} {G : ZG} {Q : ZQ} {ls : Array Slot} {a : Array Value} {st0 st : List Value} (hS : va_S (fun q => G.2.2 ≤ q) s.heap H locs)
    (hr : va_Run p l e Rm s m args below meth c H locs cells slots mc ms (F0 m pc ls st0) st (z_Qc G Q a) (fun q => G.2.2 ≤ q))
    (kk : ∀ (r : Option AwV) (sz' : Nat) (I' J' : AwI) (R' : AwR) (H' : Heap) (locs' : List Loc), Q r sz' I' J' R' → z_Rl G sz' I' J' R' H' → va_S (fun q => G.2.2 ≤ q) s.heap H' locs' → W p l e Rm s m args below meth c H' locs' (cells + mc) (slots + ms) QQ (F0 m (pc + 3) ls ((r.map (z_cv G.2.2)).toList ++ st))) : W p l e Rm s m args below meth c H locs cells slots QQ (F0 m pc ls st0) := by
  intro T hT XS
  obtain ⟨v, st₀, t, T', L, h0, X', hL', e1, e2, ⟨⟨r, sz2, I2, J2, R2, hv, hq, hR2⟩, hz, hk⟩, go⟩ := hr T hT XS
  rw [h0] at hz hk
  have hv : v = r.map (z_cv G.2.2) := Outcome.returned.inj hv
  subst hv
  obtain ⟨t2, a1, b1⟩ := kk r sz2 I2 J2 R2 T'.heap (locs ++ L) hq (by rw [e1]; exact hR2)
    ⟨Nat.le_trans hS.1 (by rw [e1]; exact hz), fun q h1 h2 => by rw [e1, hk q (Nat.lt_of_lt_of_le h1 hS.1) h2]; exact hS.2.1 q h1 h2, fun q hq => by
      rcases List.mem_append.mp hq with h | h
      · exact hS.2.2 q h
      · exact hL' q h⟩ T' rfl X'
  exact ⟨t2, go t2 a1, b1⟩
theorem z_Rend : z_Rc9 255 (z_mR 237 254 (z_mR 0 237 (fun _ _ => none))) (z_R id) := by
  refine z_Rc9.of fun b hb k hr => ?_
  rcases z_relC (by omega) hr with rfl | rfl | rfl | rfl | rfl | rfl | rfl | rfl | rfl | rfl | rfl | h
  all_goals first | rfl | (unfold z_mR; rw [if_neg (by omega), if_pos (by omega)])
theorem k_nlT : ∀ w ∈ z_nl, w ∈ lw_tbl := by
  intro w hw
  unfold z_nl at hw
  simp only [List.mem_cons, List.not_mem_nil, or_false] at hw
  rcases hw with h | h | h | h | h | h <;> subst h
  · exact z_it1 29 (by decide +kernel)
  · exact z_it3 84 (by decide +kernel)
  · exact z_it2 237 (by decide +kernel)
  · exact z_it2 194 (by decide +kernel)
  · exact z_it1 97 (by decide +kernel)
  · exact z_it2 101 (by decide +kernel)
set_option maxHeartbeats 4000000 in
set_option maxRecDepth 100000 in
theorem whole_start {p : Program} {e : Env} {s : State} {m : MethodId} {below : List Frame} {meth : Method} {c : Code} (l : Launch) (htr : l.stackTraces = false) {b L : Nat} {xs : Nat → Int32} (hL : L ≤ 2560) (C0 : lw_At p s m meth c b L xs) : W p l e room_1 s m #[Value.ref b] below meth c s.heap [] 0 0 (lw_Z below #[Value.ref b] s) (entryFrame m ([Value.ref b] : List Value).toArray 8) := by
  obtain ⟨hx, hb, hr, hml, hown, hts, hX, hbl, hlocks, hgv⟩ := id C0
  have hfl := flat_of_before _ hgv
  obtain ⟨c0, iS0, hK0⟩ := u_known (C := RX0) (T := TX0) (N := z_cn 0) (n := z_cn 0) hts (fun w hw => (List.mem_filter.mp (z_lX0 w hw)).1) (hts (.instantiable RX0 (z_cn 0)) (z_it2 3 (by decide +kernel)))
  obtain ⟨c1, iS1, hK1⟩ := u_known (C := RX1) (T := TX1) (N := z_cn 1) (n := z_cn 1) hts (fun w hw => (List.mem_filter.mp (z_lX1 w hw)).1) (hts (.instantiable RX1 (z_cn 1)) (z_it2 13 (by decide +kernel)))
  obtain ⟨c2, iS2, hK2⟩ := u_known (C := RX2) (T := TX2) (N := z_cn 2) (n := z_cn 2) hts (fun w hw => (List.mem_filter.mp (z_lX2 w hw)).1) (hts (.instantiable RX2 (z_cn 2)) (z_it1 224 (by decide +kernel)))
  obtain ⟨c3, iS3, hK3⟩ := u_known (C := RX3) (T := TX3) (N := z_cn 3) (n := z_cn 3) hts (fun w hw => (List.mem_filter.mp (z_lX3 w hw)).1) (hts (.instantiable RX3 (z_cn 3)) (z_it1 193 (by decide +kernel)))
  obtain ⟨c4, iS4, hK4⟩ := u_known (C := RX4) (T := TX4) (N := z_cn 4) (n := z_cn 4) hts (fun w hw => (List.mem_filter.mp (z_lX4 w hw)).1) (hts (.instantiable RX4 (z_cn 4)) (z_it1 96 (by decide +kernel)))
  obtain ⟨c5, iS5, hK5⟩ := u_known (C := RX5) (T := TX5) (N := z_cn 5) (n := z_cn 5) hts (fun w hw => (List.mem_filter.mp (z_lX5 w hw)).1) (hts (.instantiable RX5 (z_cn 5)) (z_it1 89 (by decide +kernel)))
  obtain ⟨c6, iS6, hK6⟩ := u_known (C := RX6) (T := TX6) (N := z_cn 6) (n := z_cn 6) hts (fun w hw => (List.mem_filter.mp (z_lX6 w hw)).1) (hts (.instantiable RX6 (z_cn 6)) (z_it1 28 (by decide +kernel)))
  obtain ⟨c7, iS7, hK7⟩ := u_known (C := RX7) (T := TX7) (N := z_cn 7) (n := z_cn 7) hts (fun w hw => (List.mem_filter.mp (z_lX7 w hw)).1) (hts (.instantiable RX7 (z_cn 7)) (z_it1 174 (by decide +kernel)))
  obtain ⟨c8, iS8, hK8⟩ := u_known (C := RX8) (T := TX8) (N := z_cn 8) (n := z_cn 8) hts (fun w hw => (List.mem_filter.mp (z_lX8 w hw)).1) (hts (.instantiable RX8 (z_cn 8)) (z_it1 20 (by decide +kernel)))
  obtain ⟨c9, iS9, hK9⟩ := u_known (C := RX9) (T := TX9) (N := z_cn 9) (n := z_cn 9) hts (fun w hw => (List.mem_filter.mp (z_lX9 w hw)).1) (hts (.instantiable RX9 (z_cn 9)) (z_it4 25 (by decide +kernel)))
  obtain ⟨a0, ka0, co0, f0, g0, j0⟩ := Cond.arrayClass_spec (hts (.arrayClass .int) (z_it1 86 (by decide +kernel)))
  obtain ⟨a1, ka1, co1, f1, g1, j1⟩ := Cond.arrayClass_spec (hts (.arrayClass .long) (z_it1 87 (by decide +kernel)))
  have hao := hts (.arrayOver (.object "CutProofs$Cut")) (z_it1 95 (by decide +kernel))
  have haa := hts (.arrayOver (.array .int)) (z_it1 34 (by decide +kernel))
  obtain ⟨co2, a2, ka2, e2, -, g2, j2, f2⟩ := Cond.arrayOver_spec hao
  obtain ⟨co3, a3, ka3, e3, -, g3, j3, f3⟩ := arrayOverA_spec haa
  obtain ⟨G, hG0, hG1, hG2⟩ : ∃ G : ZG, (∀ (k : Nat) (q : vw_C), vwCl[k]? = some q → u_Kn s q.1 q.2.1 q.2.2 (G.1.1 k) (G.1.2 k)) ∧ (G.2.1 0 = a0 ∧ G.2.1 1 = a1 ∧ G.2.1 2 = a2 ∧ G.2.1 3 = a3) ∧ G.2.2 = s.heap.size := by
    refine ⟨((fun k => [c0, c1, c2, c3, c4, c5, c6, c7, c8, c9].getD k c0, fun k => [iS0, iS1, iS2, iS3, iS4, iS5, iS6, iS7, iS8, iS9].getD k iS0), fun k => [a0, a1, a2, a3].getD k a0, s.heap.size), ?_, ⟨rfl, rfl, rfl, rfl⟩, rfl⟩
    intro k q hq
    match k, hq with
    | 0, hq => cases hq; exact hK0
    | 1, hq => cases hq; exact hK1
    | 2, hq => cases hq; exact hK2
    | 3, hq => cases hq; exact hK3
    | 4, hq => cases hq; exact hK4
    | 5, hq => cases hq; exact hK5
    | 6, hq => cases hq; exact hK6
    | 7, hq => cases hq; exact hK7
    | 8, hq => cases hq; exact hK8
    | 9, hq => cases hq; exact hK9
    | k + 10, hq => simp [vwCl] at hq
  have hK : z_K G s := by
    refine ⟨⟨hG0, fun k q hq => ?_⟩, fun w hw => ?_⟩
    · unfold z_ty at hq
      rw [hG1.1, hG1.2.1, hG1.2.2.1, hG1.2.2.2] at hq
      match k, hq with
      | 0, hq => cases hq; exact ⟨fun n z => ⟨fun q h => (by cases h), ka0, g0, co0, j0⟩, f0⟩
      | 1, hq => cases hq; exact ⟨fun n z => ⟨fun q h => (by cases h), ka1, g1, co1, j1⟩, f1⟩
      | 2, hq => cases hq; exact ⟨fun n z => ⟨fun q h => (by cases h), ka2, g2, co2, j2⟩, ka2, co2, g2, j2, e2, f2⟩
      | 3, hq => cases hq; exact ⟨fun n z => ⟨fun q h => (by cases h), ka3, g3, co3, j3⟩, f3⟩
      | k + 4, hq => simp at hq
    · obtain ⟨i1, i2, i3, i4, rfl⟩ := z_nl_M w hw
      exact va_tabs rfl rfl (hts _ (k_nlT _ hw))
  have hA : ∀ a : Nat, a < s.heap.size → ¬ G.2.2 ≤ a := fun a h => by omega
  have hini := hts (.initialized "java/lang/Throwable") (z_it1 14 (by decide +kernel))
  obtain ⟨v0, -, -, -, w0, -⟩ := Cond.exactly_spec (hfl (.exactly (.string RX8 120) "java/lang/String") (by decide +kernel))
  obtain ⟨v1, -, -, -, w1, -⟩ := Cond.exactly_spec (hfl (.exactly (.string RX8 129) "java/lang/String") (by decide +kernel))
  obtain ⟨v2, -, -, -, w2, -⟩ := Cond.exactly_spec (hfl (.exactly (.string RX8 147) "java/lang/String") (by decide +kernel))
  obtain ⟨v3, -, -, -, w3, -⟩ := Cond.exactly_spec (hfl (.exactly (.string RX8 168) "java/lang/String") (by decide +kernel))
  have hdc : ∀ y ∈ zDC, va_Nw (.declares (Bundle.initS y)) s := by
    intro y hy
    simp only [List.mem_cons, List.not_mem_nil, or_false] at hy
    rcases hy with rfl | rfl | rfl
    · exact va_tabs rfl rfl (hts (.declares (Bundle.initS "java/lang/RuntimeException")) (z_it3 166 (by decide +kernel)))
    · exact va_tabs rfl rfl (hts (.declares (Bundle.initS "java/lang/Exception")) (z_it3 168 (by decide +kernel)))
    · exact va_tabs rfl rfl (hts (.declares (Bundle.initS "java/lang/Throwable")) (z_it3 170 (by decide +kernel)))
  have hT : z_XT l G s := ⟨htr, vx_Zqof (hts _ (z_it3 189 (by decide +kernel))) hini (hfl (.isRef (.static Bundle.tN "UNASSIGNED_STACK" Bundle.steD)) (by decide +kernel)) hA, vx_Zqof (hts _ (z_it3 191 (by decide +kernel))) hini (hfl (.isRef (.static Bundle.tN "SUPPRESSED_SENTINEL" Bundle.listD)) (by decide +kernel)) hA,
    ⟨v0, vk_R.of (hts _ (z_it3 202 (by decide +kernel))) w0⟩, ⟨v1, vk_R.of (hts _ (z_it3 229 (by decide +kernel))) w1⟩, ⟨v2, vk_R.of (hts _ (z_it3 239 (by decide +kernel))) w2⟩, ⟨v3, vk_R.of (hts _ (z_it4 13 (by decide +kernel))) w3⟩,
    va_tabs rfl rfl (hts (.castable zIO zIO) (z_it3 164 (by decide +kernel))), va_tabs rfl rfl (hts (.castable zIA zIA) (z_it3 232 (by decide +kernel))), va_Nc.of (hfl (.not (.castable zIA zIO)) (by decide +kernel)), hdc⟩
  have hE : z_E0 l G s := ⟨va_AO.of hao, haa⟩
  have X : z_X (F_L meth.name) p s m #[Value.ref b] meth c G := ⟨hx, hb, hml, hr, hlocks, hown, fun w hw => hts w (List.mem_filter.mp hw).1, hK, rfl⟩
  have C : z_LX p l s m meth c G b L xs := ⟨X, hT, hX, hbl, hG2.symm, hL⟩
  have hS : va_S (fun q => G.2.2 ≤ q) s.heap s.heap [] := va_S.rf
  have hl := lv_entry ([.ref b]) (n := 8) (Nat.le_of_ble_eq_true rfl)
  rw [lg_entry_eq]
  generalize (lg_sl ([.ref b]) ++ List.replicate (8 - (lg_sl ([.ref b])).length) Slot.unset).toArray = ls at hl ⊢
  have hl : lv_has ls 8 [(0, .ref b)] := hl
  have hR : z_Rl G 0 (fun _ _ => 0) (fun _ _ => 0) (fun _ _ => none) s.heap := ⟨fun _ => by omega, by omega, fun a h => absurd h (Nat.not_lt_zero a)⟩
  have hz : z_Z 0 (fun _ _ => 0) (fun _ _ => 0) (fun _ _ => none) := fun _ _ _ => ⟨rfl, rfl, rfl⟩
  refine z_newW X hR hS dL_law_0 k_nw_L_8 (by omega) rfl hz ⟨Nat.le_of_ble_eq_true rfl, Nat.le_of_ble_eq_true rfl⟩ fun H hR hS => ?_
  refine lv_dup X.1 X.2.1 dL_law_3 rfl ?_
  refine z_backW hS (z_initW z_E0k (As := []) (c_X8_init (hz.mono (by omega))) k_X8_init hE X hR hS hl.1 dL_law_4 (Or.inl k_ml_L_21) rfl ⟨Nat.le_of_ble_eq_true rfl, Nat.le_of_ble_eq_true rfl⟩ ⟨Nat.le_of_ble_eq_true rfl, Nat.le_of_ble_eq_true rfl⟩ (Nat.le_of_ble_eq_true rfl)) ?_
  rintro r sz I J R H locs ⟨rfl, rfl, rfl, rfl, rfl⟩ hR hS
  refine lv_astore_n (lv' := [(1, .ref (G.2.2 + 0)), (0, .ref b)]) X.1 X.2.1 dL_law_7 rfl hl (by decide) rfl (fun ls hl => ?_)
  have hz := z_mZ 0 (hi := 237) ((hz.mono (sz' := 18) (by omega)).upI (a := 17) (k := 2) (x := 1) (by omega))
  refine z_newW X hR hS dL_law_8 k_nw_L_22 (by omega) rfl hz ⟨Nat.le_of_ble_eq_true rfl, Nat.le_of_ble_eq_true rfl⟩ fun H hR hS => ?_
  refine lv_dup X.1 X.2.1 dL_law_11 rfl ?_
  refine z_backW hS (z_initW z_E0k (As := []) (c_X9_init (hz.mono (by omega))) k_X9_init hE X hR hS hl.1 dL_law_12 (Or.inl k_ml_L_24) rfl ⟨Nat.le_of_ble_eq_true rfl, Nat.le_of_ble_eq_true rfl⟩ ⟨Nat.le_of_ble_eq_true rfl, Nat.le_of_ble_eq_true rfl⟩ (Nat.le_of_ble_eq_true rfl)) ?_
  rintro r sz I J R H locs ⟨rfl, rfl, rfl, rfl, rfl⟩ hR hS
  refine lv_astore_n (lv' := [(2, .ref (G.2.2 + 237)), (1, .ref (G.2.2 + 0)), (0, .ref b)]) X.1 X.2.1 dL_law_15 rfl hl (by decide) rfl (fun ls hl => ?_)
  have hz := z_mZ 237 (hi := 254) ((hz.mono (sz' := 238) (by omega)).upI (a := 237) (k := 13) (x := 1) (by omega))
  refine lv_iconst (v := Int32.ofInt ((1 : Nat) : Int)) X.1 X.2.1 dL_law_16 rfl ?_
  refine z_newJW (n := 1) X hR hS dL_law_17 k_arJ (by omega) rfl hz (by omega) ⟨Nat.le_of_ble_eq_true rfl, Nat.le_of_ble_eq_true rfl⟩ fun H hR hS => ?_
  refine lv_astore_n (lv' := [(3, .ref (G.2.2 + 254)), (2, .ref (G.2.2 + 237)), (1, .ref (G.2.2 + 0)), (0, .ref b)]) X.1 X.2.1 dL_law_19 rfl hl (by decide) rfl (fun ls hl => ?_)
  refine lv_iconst (v := Int32.ofInt 0) X.1 X.2.1 dL_law_20 rfl ?_
  refine lv_istore (lv' := [(4, .int (Int32.ofInt 0)), (3, .ref (G.2.2 + 254)), (2, .ref (G.2.2 + 237)), (1, .ref (G.2.2 + 0)), (0, .ref b)]) X.1 X.2.1 dL_law_21 hl (by decide) rfl (fun ls hl => ?_)
  refine W.widen (k := 255 + 0) (n := 3816 + 6 * 0) (Nat.le_of_ble_eq_true rfl) (Nat.le_of_ble_eq_true rfl) ?_
  exact lw_loop C 512 0 (by omega) (by omega) z_I0 (fun _ _ => 0) id z_m0 [] 1 z_CI0 z_RI0 H locs ls (hR.cg z_Rend) (lv_sub hl [4, 3, 2, 1, 0] rfl) hS
