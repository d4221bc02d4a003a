theorem z_Lo.sq {b nL : Nat} {ls ls' : Array Slot} {lv : List (Option AwV)} {i : Nat} {v : Value} (h : z_Lo b ls nL lv) (hi : lv[i]? = some none) (hp : ∀ j x, j + 1 = i → lv[j]? ≠ some (some (zl x))) (h' : lv_has ls' nL ((i, v) :: ((List.range lv.length).filterMap (fun i => match lv[i]? with | some (some v) => some (i, z_cv b v) | _ => none)).filter (fun q => !(q.1 == i) && !(q.1 + 1 == i && q.2.category == 2)))) : z_Lo b ls' nL lv := by
  refine ⟨h.1, h'.1, h'.2.1, fun j w hj => ?_⟩
  by_cases e : j = i
  · subst e
    rw [hi] at hj
    cases hj
  · refine h'.2.2 (j, z_cv b w) (List.mem_cons_of_mem _ (List.mem_filter.mpr ⟨z_Lo.in (nL := nL) hj, ?_⟩))
    by_cases e2 : j + 1 = i
    · have h3 : ¬ (z_cv b w).category = 2 := fun q => by
        obtain ⟨x, hx⟩ := (z_cat b w).mp q
        exact hp j x e2 (by rw [hj, hx])
      simp [e, h3]
    · simp [e, e2]
def z_EH (hh : List (Nat × Nat × Nat × Nat)) : ZE := fun l G _ s c => z_XT l G s ∧ c.exceptionTable.toList = tableOf hh
/-- a call that throws, caught here; the thrown thing is stored -/
theorem av_catch {hh : List (Nat × Nat × Nat × Nat)} {F : ZF} {cells slots pc : Nat} {lv : List (Option AwV)} {st stk : List AwV} {I J : AwI} {R : AwR} {d : ZD} {As : List AwV} {idx n i : Nat} {En : String} (hM : CX d (zr 0 :: As) I J R En) (hc : z_Cv d n) (hC : d.1.cls = RX8) (hd : decode F.2.1 pc = .ok (.invokevirtual idx, 3)) (hl : Cond.methodLink F.1.cls idx d.1 ∈ z_tb) (hn : As.length = n) (hrm : z_Rm d F) (hce : cells + d.2.2.2.2.cells ≤ F.2.2.2.2.1.cells ∧ slots + d.2.2.2.2.slots ≤ F.2.2.2.2.1.slots) (hst : stk = As.reverse ++ zr 0 :: st) (hw : (st.map z_c12).sum ≤ 8)
    (pre : List ExceptionTableEntry) (x : ExceptionTableEntry) (suf : List ExceptionTableEntry) (hsplit : tableOf hh = pre ++ x :: suf) (hpass : ∀ z ∈ pre, z.catchType ≠ 0 ∧ ∃ nm : String, Cond.classLink F.1.cls z.catchType nm ∈ z_tb ∧ ∀ l G s, z_XT l G s → va_Nc En nm s) (hx : covers x pc = true) (h0 : x.catchType ≠ 0) (hlink : Cond.classLink F.1.cls x.catchType En ∈ z_tb) (hcast : ∀ l G s, z_XT l G s → va_Nw (.castable En En) s)
    (hdi : decode F.2.1 x.handlerPc = .ok (.astore i, 2)) (hin : i < F.2.2.1) (hi : lv[i]? = some none) (hp : ∀ j x, j + 1 = i → lv[j]? ≠ some (some (zl x)))
    (kk : AV (z_EH hh) F (cells + d.2.2.2.2.cells) (slots + d.2.2.2.2.slots) 255 (x.handlerPc + 2) lv [] I J R) : AV (z_EH hh) F cells slots 255 pc lv stk I J R := by
  intro p l e s m args below meth c H locs ls G hE X hR hL hS
  subst hst
  obtain ⟨hXT, htab⟩ := hE
  obtain ⟨h1, h2, h3, h4, h5, h6⟩ := hc
  have hts := X.2.2.2.2.2.2.1
  obtain ⟨cell, q1, q2, q3, q4⟩ := (hR.2.2 0 (by omega)).2.2.2.2 8 7 rfl
  have hcls : s.vm.findClass d.1.cls = some cell.cls := by rw [q2, hC]; exact (X.2.2.2.2.2.2.2.1.1.1 8 _ rfl).2.1
  have hrun := vx_runV (Ts := z_tb) (own := F.1.cls) (C := d.1.cls) (b := G.2.2 + 0) (As := As.map (z_cv G.2.2)) (rest := st.map (z_cv G.2.2)) (bytes := d.2.1) (maxL := d.2.2.1) (ret := d.2.2.2.1) (n := n) (g := F0 m pc ls ((As.reverse ++ zr 0 :: st).map (z_cv G.2.2))) (locs := locs) (e := e) (below := below) (meth := meth) ⟨X.1, X.2.1, X.2.2.1, X.2.2.2.2.2.1, hts⟩ (hM l G) ⟨⟨rfl, rfl, hrm.1, hrm.2, pay_in hts (z_goodIn h1), List.mem_cons_self, hts _ h1, hts _ h4, h5, z_sig h6, hts _ hl⟩, hts _ h2, hts _ h3⟩ ⟨z_blindE z_XTk, ⟨cell, q1, by rw [q3]; rfl, hcls⟩, fun U hU hW => ⟨⟨rfl, X.2.2.2.2.2.2.2.1.moved hW, by rw [hU]; exact hR⟩, z_XTk.1 _ _ _ _ hW (fun q g1 g2 => by rw [hU]; exact hS.2.1 q g1 (by omega)) hXT⟩⟩ rfl (by rw [List.length_map]; exact hn) (hL.2.1) (by simp [z_cv, z_rf]) (lv_room (z_wid _ _ hw)) hd hce
  intro T hT XS
  rcases hrun T hT XS with ⟨v, st₀, t, T', L, -, -, -, -, -, hq, -⟩ | ⟨q, st₀, t, T', L, E9, ce, g0, X', hL', e1, e2, ⟨rfl, hR2, hz, hk⟩, hce9, hcv, hcl, stp⟩
  · exact hq.elim
  · rw [g0] at hz hk
    have hS' : va_S (fun q => G.2.2 ≤ q) s.heap T'.heap (locs ++ L) := ⟨Nat.le_trans hS.1 (by rw [e1]; exact hz), fun q h1 h2 => by rw [e1, hk q (Nat.lt_of_lt_of_le h1 hS.1) h2]; exact hS.2.1 q h1 h2, fun q hq => by
      rcases List.mem_append.mp hq with h | h
      · exact hS.2.2 q h
      · exact hL' q h⟩
    have K : vx_W p l e F.2.2.2.2.1 s m args below meth c T'.heap (locs ++ L) (cells + d.2.2.2.2.cells) (slots + d.2.2.2.2.slots) (F.2.2.2.2.2 G args s below) (F0 m pc ls (st.map (z_cv G.2.2))) q := by
      refine vx_catch (own := F.1.cls) (name := E9) (E := E9) (ce := ce) X.2.2.2.2.2.1 pre x suf (htab.trans hsplit) (fun z hz => ?_) hx h0 (hts _ hlink) (va_Nw.use rfl (hcast l G s hXT)) (by rw [e1]; exact hce9) hcv hcl ?_
      · obtain ⟨g1, nm, g2, g3⟩ := hpass z hz
        exact Or.inr ⟨g1, nm, hts _ g2, g3 l G s hXT⟩
      · exact lv_astore X.1 X.2.1 hdi hL.has hin rfl (fun ls2 h2 => kk p l e s m args below meth c T'.heap (locs ++ L) ls2 G ⟨hXT, htab⟩ X (by rw [e1]; exact hR2) (z_Lo.sq hL hi hp h2) hS')
    obtain ⟨t2, a1, b1⟩ := K T' rfl X'
    exact ⟨t2, stp.trans a1, b1⟩
def z_wsH (d : ZD) (hh : List (Nat × Nat × Nat × Nat)) : List Cond := Cond.codeWith d.1 d.2.1 d.2.2.1 d.2.2.2.1 hh :: z_tb
def CH (hh : List (Nat × Nat × Nat × Nat)) (d : ZD) (as : List AwV) (I J : AwI) (R : AwR) (Q : ZQ) : Prop :=
  ∀ (l : Launch) (G : ZG), Met l d.1 (z_wsH d hh) d.2.2.2.2 (z_PE z_XT l G as 255 I J R) (z_Qc G Q) d.2.2.2.2.cells d.2.2.2.2.slots (fun q => G.2.2 ≤ q)
theorem CH.of {hh : List (Nat × Nat × Nat × Nat)} {d : ZD} {as : List AwV} {I J : AwI} {R : AwR} {Q : ZQ} (hy : plainName d.1.cls = true) (hn : (z_en1 as).length ≤ d.2.2.1) (h : AV (z_EH hh) (FM d Q) 0 0 255 0 (z_en as d.2.2.1) [] I J R) : CH hh d as I J R Q := by
  intro l G
  refine va_MetW (cc := d.2.1) (maxL := d.2.2.1) (ret := d.2.2.2.1) (hh := hh) hy rfl ?_
  intro p e s m args below meth c s₁ B hml hv
  obtain ⟨⟨rfl, hK, hRl⟩, hE⟩ := hv
  rw [lg_entry_eq]
  have hts := atoms_spec (ws := z_wsH d hh) B.pre
  have htab := vx_table (x := d.1) B (hts _ List.mem_cons_self)
  exact h p l e s m _ below meth c s.heap [] _ G ⟨hE, htab⟩ ⟨B.exec, B.bytes, hml, B.returns, B.notSynchronized, findClass_of_methodNamed B.named, fun w hw => hts w (List.mem_cons_of_mem _ hw), hK, (name_of_methodNamed B.named B.method).1⟩ hRl (z_en_Lo _ as d.2.2.1 hn) va_S.rf
def m_L_cut : ZD := (yL_cut, cL_cut, 6, some .int, { frames := 7, cells := 1, slots := 6, locals := 130 })
def m_L_strength : ZD := (yL_strength, cL_strength, 5, some .int, { frames := 7, cells := 1, slots := 6, locals := 130 })
abbrev hhC : List (Nat × Nat × Nat × Nat) := [(0, 12, 15, 13), (0, 12, 19, 15)]
abbrev hhS : List (Nat × Nat × Nat × Nat) := [(0, 9, 12, 13), (0, 9, 16, 15)]
theorem k_clL13 : Cond.classLink RL 13 zIO ∈ z_tb := z_in3 156 (by decide +kernel) (by decide +kernel)
theorem k_clL15 : Cond.classLink RL 15 zIA ∈ z_tb := z_in3 157 (by decide +kernel) (by decide +kernel)
/-- what a helper leaves -/
def z_PH (r : Int × Int) (I J : AwI) (R : AwR) : ZQ := fun q sz I' J' R' => q = some (zi r.2) ∧ sz = 255 ∧ I' = I ∧ R' = R ∧ (r.2 = 0 ∨ r.2 = 1 ∨ r.2 = 2) ∧ (∀ a k, a < 254 → J' a k = J a k) ∧ (r.2 = 0 → J' 254 0 = r.1)
theorem z_cutv_r {π : Nat → Nat} {I J : AwI} {m : z_MM} {L : List z_CC} {t : Int} {k w i : Int} (hI : z_CI I J π m L t) (h0 : 0 ≤ k ∧ k < (L.length : Int)) (hn : w = 0 → 0 ≤ i ∧ i < (mN m : Int)) : -2147483648 ≤ z_cutv (z_g L k.toNat) w i ∧ z_cutv (z_g L k.toNat) w i ≤ 2147483647 := by
  obtain ⟨hD, hp41, hCC, hag⟩ := hI.at (k := k.toNat) (by omega)
  obtain ⟨c1, -, -, -, c5, c6, c7, -⟩ := hCC
  unfold z_cutv
  by_cases w0 : w = 0
  · have h9 := hn w0
    rw [if_pos w0, ← hD.1 i.toNat (by omega)]
    have := c1 i.toNat
    omega
  · rw [if_neg w0]
    by_cases w1 : w = 1
    · rw [if_pos w1, ← hD.2.1]; omega
    · rw [if_neg w1]
      by_cases w2 : w = 2
      · rw [if_pos w2, ← hD.2.2.1]; omega
      · rw [if_neg w2, ← hD.2.2.2.1]; omega
set_option maxHeartbeats 4000000 in
theorem c_L_cut {π : Nat → Nat} {I J : AwI} {m : z_MM} {L : List z_CC} {t : Int} {k w i : Int} (hI : z_CI I J π m L t) (hk : -2147483648 ≤ k ∧ k ≤ 2147483647) (hw : -2147483648 ≤ w ∧ w ≤ 2147483647) (hi : -2147483648 ≤ i ∧ i ≤ 2147483647) : CH hhC m_L_cut [zr 0, zi k, zi w, zi i, zr 254] I J (z_R π) (z_PH (z_rCu m L k w i) I J (z_R π)) := by
  refine CH.of (by decide) (Nat.le_of_ble_eq_true rfl) ?_
  show AV _ _ 0 0 _ 0 [some (zr 0), some (zi k), some (zi w), some (zi i), some (zr 254), none] [] _ _ _
  refine av_aload (pc := 0) dL_cut_0 rfl ?_
  refine av_iconst (pc := 2) dL_cut_2 ?_
  refine av_aload_n (pc := 3) dL_cut_3 rfl ?_
  refine av_iload_n (pc := 4) dL_cut_4 rfl ?_
  refine av_iload_n (pc := 5) dL_cut_5 rfl ?_
  refine av_iload_n (pc := 6) dL_cut_6 rfl ?_
  by_cases h0 : 0 ≤ k ∧ k < (L.length : Int)
  · by_cases h9 : w = 0 ∧ ¬ (0 ≤ i ∧ i < (mN m : Int))
    · have er : z_rCu m L k w i = (0, 1) := by unfold z_rCu; rw [if_pos (Or.inr h9)]
      rw [er]
      refine av_catch (hh := hhC) (pc := 7) (d := m_X8_cutT) (As := [zi k, zi w, zi i]) (En := zIO) (c_X8_cutN hI hk hw hi h0 h9.1 h9.2) k_X8_cut rfl dL_cut_7 k_ml_L_7 rfl ⟨Nat.le_of_ble_eq_true rfl, Nat.le_of_ble_eq_true rfl⟩ ⟨Nat.le_of_ble_eq_true rfl, Nat.le_of_ble_eq_true rfl⟩ rfl (Nat.le_of_ble_eq_true rfl) [] ⟨0, 12, 15, 13⟩ [⟨0, 12, 19, 15⟩] rfl (fun z hz => by cases hz) rfl (by decide) k_clL13 (fun _ _ _ h => h.2.2.2.2.2.2.2.1) dL_cut_15 (Nat.le_of_ble_eq_true rfl) rfl (fun j x hj => by have hj : j = 4 := (by omega); subst hj; intro q; cases q) ?_
      refine av_iconst (pc := 17) dL_cut_17 ?_
      exact av_ireturn (pc := 18) dL_cut_18 rfl ⟨Nat.le_of_ble_eq_true rfl, Nat.le_of_ble_eq_true rfl⟩ ⟨rfl, rfl, rfl, rfl, by decide, fun _ _ _ => rfl, fun q => absurd q (by decide)⟩
    · by_cases h3 : w < 0 ∨ 3 < w
      · have er : z_rCu m L k w i = (0, 2) := by unfold z_rCu; rw [if_neg (fun q => q.elim (fun q => q h0) h9), if_pos h3]
        rw [er]
        refine av_catch (hh := hhC) (pc := 7) (d := m_X8_cutT) (As := [zi k, zi w, zi i]) (En := zIA) (c_X8_cutW hI hk hw hi h0 h3) k_X8_cut rfl dL_cut_7 k_ml_L_7 rfl ⟨Nat.le_of_ble_eq_true rfl, Nat.le_of_ble_eq_true rfl⟩ ⟨Nat.le_of_ble_eq_true rfl, Nat.le_of_ble_eq_true rfl⟩ rfl (Nat.le_of_ble_eq_true rfl) [⟨0, 12, 15, 13⟩] ⟨0, 12, 19, 15⟩ [] rfl (fun z hz => by rw [List.mem_singleton.mp hz]; exact ⟨by decide, zIO, k_clL13, fun _ _ _ h => h.2.2.2.2.2.2.2.2.2.1⟩) rfl (by decide) k_clL15 (fun _ _ _ h => h.2.2.2.2.2.2.2.2.1) dL_cut_19 (Nat.le_of_ble_eq_true rfl) rfl (fun j x hj => by have hj : j = 4 := (by omega); subst hj; intro q; cases q) ?_
        refine av_iconst (pc := 21) dL_cut_21 ?_
        exact av_ireturn (pc := 22) dL_cut_22 rfl ⟨Nat.le_of_ble_eq_true rfl, Nat.le_of_ble_eq_true rfl⟩ ⟨rfl, rfl, rfl, rfl, by decide, fun _ _ _ => rfl, fun q => absurd q (by decide)⟩
      · have er : z_rCu m L k w i = (z_cutv (z_g L k.toNat) w i, 0) := by unfold z_rCu; rw [if_neg (fun q => q.elim (fun q => q h0) h9), if_neg h3]
        rw [er]
        have hn9 : w = 0 → 0 ≤ i ∧ i < (mN m : Int) := fun q => Decidable.not_not.mp (fun z => h9 ⟨q, z⟩)
        have hv := z_cutv_r hI h0 (w := w) (i := i) hn9
        refine av_qV (pc := 7) (d := m_X8_cut) (c_X8_cut hI h0 (by omega) hi hn9) k_X8_cut dL_cut_7 k_ml_L_7 rfl ⟨rfl, rfl⟩ (by omega) rfl rfl ⟨Nat.le_of_ble_eq_true rfl, Nat.le_of_ble_eq_true rfl⟩ ⟨Nat.zero_le _, Nat.zero_le _⟩ rfl (Nat.le_of_ble_eq_true rfl) (z_Pk ?_)
        refine av_i2l (pc := 10) dL_cut_10 hv ?_
        refine av_lastore (pc := 11) dL_cut_11 (by omega) (Nat.le_refl _) rfl (by omega) ?_
        refine av_goto (pc := 12) (tgt := 23) dL_cut_12 rfl ?_
        refine av_iconst (pc := 23) dL_cut_23 ?_
        exact av_ireturn (pc := 24) dL_cut_24 rfl ⟨Nat.zero_le _, Nat.zero_le _⟩ ⟨rfl, rfl, rfl, rfl, Or.inl rfl, fun a k ha => by rw [z_up_a _ _ (by omega)], fun _ => z_up_s _ _ _ _⟩
  · have er : z_rCu m L k w i = (0, 1) := by unfold z_rCu; rw [if_pos (Or.inl h0)]
    rw [er]
    refine av_catch (hh := hhC) (pc := 7) (d := m_X8_cutT) (As := [zi k, zi w, zi i]) (En := zIO) (c_X8_cutK hI hk hw hi h0) k_X8_cut rfl dL_cut_7 k_ml_L_7 rfl ⟨Nat.le_of_ble_eq_true rfl, Nat.le_of_ble_eq_true rfl⟩ ⟨Nat.le_of_ble_eq_true rfl, Nat.le_of_ble_eq_true rfl⟩ rfl (Nat.le_of_ble_eq_true rfl) [] ⟨0, 12, 15, 13⟩ [⟨0, 12, 19, 15⟩] rfl (fun z hz => by cases hz) rfl (by decide) k_clL13 (fun _ _ _ h => h.2.2.2.2.2.2.2.1) dL_cut_15 (Nat.le_of_ble_eq_true rfl) rfl (fun j x hj => by have hj : j = 4 := (by omega); subst hj; intro q; cases q) ?_
    refine av_iconst (pc := 17) dL_cut_17 ?_
    exact av_ireturn (pc := 18) dL_cut_18 rfl ⟨Nat.le_of_ble_eq_true rfl, Nat.le_of_ble_eq_true rfl⟩ ⟨rfl, rfl, rfl, rfl, by decide, fun _ _ _ => rfl, fun q => absurd q (by decide)⟩
set_option maxHeartbeats 4000000 in
theorem c_L_strength {π : Nat → Nat} {I J : AwI} {m : z_MM} {L : List z_CC} {t : Int} {k p : Int} (hI : z_CI I J π m L t) (hk : -2147483648 ≤ k ∧ k ≤ 2147483647) (hp : -2147483648 ≤ p ∧ p ≤ 2147483647) : CH hhS m_L_strength [zr 0, zi k, zi p, zr 254] I J (z_R π) (z_PH (z_rSt m L k p) I J (z_R π)) := by
  refine CH.of (by decide) (Nat.le_of_ble_eq_true rfl) ?_
  show AV _ _ 0 0 _ 0 [some (zr 0), some (zi k), some (zi p), some (zr 254), none] [] _ _ _
  refine av_aload_n (pc := 0) dL_strength_0 rfl ?_
  refine av_iconst (pc := 1) dL_strength_1 ?_
  refine av_aload_n (pc := 2) dL_strength_2 rfl ?_
  refine av_iload_n (pc := 3) dL_strength_3 rfl ?_
  refine av_iload_n (pc := 4) dL_strength_4 rfl ?_
  by_cases h0 : 0 ≤ k ∧ k < (L.length : Int)
  · by_cases h3 : p < 0 ∨ 1 < p
    · have er : z_rSt m L k p = (0, 2) := by unfold z_rSt; rw [if_neg (fun q => q h0), if_pos h3]
      rw [er]
      refine av_catch (hh := hhS) (pc := 5) (d := m_X8_strengthT) (As := [zi k, zi p]) (En := zIA) (c_X8_strengthP hI hk hp h0 h3) k_X8_strength rfl dL_strength_5 k_ml_L_17 rfl ⟨Nat.le_of_ble_eq_true rfl, Nat.le_of_ble_eq_true rfl⟩ ⟨Nat.le_of_ble_eq_true rfl, Nat.le_of_ble_eq_true rfl⟩ rfl (Nat.le_of_ble_eq_true rfl) [⟨0, 9, 12, 13⟩] ⟨0, 9, 16, 15⟩ [] rfl (fun z hz => by rw [List.mem_singleton.mp hz]; exact ⟨by decide, zIO, k_clL13, fun _ _ _ h => h.2.2.2.2.2.2.2.2.2.1⟩) rfl (by decide) k_clL15 (fun _ _ _ h => h.2.2.2.2.2.2.2.2.1) dL_strength_16 (Nat.le_of_ble_eq_true rfl) rfl (fun j x hj => by have hj : j = 3 := (by omega); subst hj; intro q; cases q) ?_
      refine av_iconst (pc := 18) dL_strength_18 ?_
      exact av_ireturn (pc := 19) dL_strength_19 rfl ⟨Nat.le_of_ble_eq_true rfl, Nat.le_of_ble_eq_true rfl⟩ ⟨rfl, rfl, rfl, rfl, by decide, fun _ _ _ => rfl, fun q => absurd q (by decide)⟩
    · have er : z_rSt m L k p = (z_stv m (z_g L k.toNat) p, 0) := by unfold z_rSt; rw [if_neg (fun q => q h0), if_neg h3]
      rw [er]
      refine av_qV (pc := 5) (d := m_X8_strength) (c_X8_strength hI h0 (by omega)) k_X8_strength dL_strength_5 k_ml_L_17 rfl ⟨rfl, rfl⟩ (by omega) rfl rfl ⟨Nat.le_of_ble_eq_true rfl, Nat.le_of_ble_eq_true rfl⟩ ⟨Nat.zero_le _, Nat.zero_le _⟩ rfl (Nat.le_of_ble_eq_true rfl) (z_Pk ?_)
      refine av_lastore (pc := 8) dL_strength_8 (by omega) (Nat.le_refl _) rfl (by omega) ?_
      refine av_goto (pc := 9) (tgt := 20) dL_strength_9 rfl ?_
      refine av_iconst (pc := 20) dL_strength_20 ?_
      exact av_ireturn (pc := 21) dL_strength_21 rfl ⟨Nat.zero_le _, Nat.zero_le _⟩ ⟨rfl, rfl, rfl, rfl, Or.inl rfl, fun a k ha => by rw [z_up_a _ _ (by omega)], fun _ => z_up_s _ _ _ _⟩
  · have er : z_rSt m L k p = (0, 1) := by unfold z_rSt; rw [if_pos h0]
    rw [er]
    refine av_catch (hh := hhS) (pc := 5) (d := m_X8_strengthT) (As := [zi k, zi p]) (En := zIO) (c_X8_strengthK hI hk hp h0) k_X8_strength rfl dL_strength_5 k_ml_L_17 rfl ⟨Nat.le_of_ble_eq_true rfl, Nat.le_of_ble_eq_true rfl⟩ ⟨Nat.le_of_ble_eq_true rfl, Nat.le_of_ble_eq_true rfl⟩ rfl (Nat.le_of_ble_eq_true rfl) [] ⟨0, 9, 12, 13⟩ [⟨0, 9, 16, 15⟩] rfl (fun z hz => by cases hz) rfl (by decide) k_clL13 (fun _ _ _ h => h.2.2.2.2.2.2.2.1) dL_strength_12 (Nat.le_of_ble_eq_true rfl) rfl (fun j x hj => by have hj : j = 3 := (by omega); subst hj; intro q; cases q) ?_
    refine av_iconst (pc := 14) dL_strength_14 ?_
    exact av_ireturn (pc := 15) dL_strength_15 rfl ⟨Nat.le_of_ble_eq_true rfl, Nat.le_of_ble_eq_true rfl⟩ ⟨rfl, rfl, rfl, rfl, by decide, fun _ _ _ => rfl, fun q => absurd q (by decide)⟩
