abbrev zIO : String := "java/lang/IndexOutOfBoundsException"
abbrev zIA : String := "java/lang/IllegalArgumentException"
abbrev zDC : List String := ["java/lang/RuntimeException", "java/lang/Exception", "java/lang/Throwable"]
abbrev zNM : List String := ["java/lang/RuntimeException", "java/lang/Exception"]
/-- what a throw needs of the start -/
def z_XT : Launch → ZG → State → Prop := fun l G s => l.stackTraces = false ∧ vx_Zq Bundle.tN "UNASSIGNED_STACK" Bundle.steD (fun q => G.2.2 ≤ q) s s.heap ∧ vx_Zq Bundle.tN "SUPPRESSED_SENTINEL" Bundle.listD (fun q => G.2.2 ≤ q) s s.heap ∧
  (∃ a, vk_R RX8 120 "there is no such cut" a s) ∧ (∃ a, vk_R RX8 129 "there is no such name" a s) ∧ (∃ a, vk_R RX8 147 "a cut has no such part" a s) ∧ (∃ a, vk_R RX8 168 "a strength has no such part" a s) ∧
  va_Nw (.castable zIO zIO) s ∧ va_Nw (.castable zIA zIA) s ∧ va_Nc zIA zIO s ∧ ∀ y ∈ zDC, va_Nw (.declares (Bundle.initS y)) s
theorem z_XTk : z_Ek z_XT := by
  refine ⟨fun l G s U hW hq h => ?_, fun l G U g mk a h => ?_⟩
  · obtain ⟨h1, h2, h3, ⟨a4, h4⟩, ⟨a5, h5⟩, ⟨a6, h6⟩, ⟨a7, h7⟩, h8, h9, h10, h11⟩ := h
    have hk : ∀ a : Nat, a < s.heap.size → ¬ G.2.2 ≤ a → U.heap[a]? = s.heap[a]? := fun a g1 g2 => hq a g1 (by omega)
    exact ⟨h1, vx_Zq.moved hW.alike (h2.kept hk), vx_Zq.moved hW.alike (h3.kept hk), ⟨a4, h4.warm hW⟩, ⟨a5, h5.warm hW⟩, ⟨a6, h6.warm hW⟩, ⟨a7, h7.warm hW⟩, va_Nw.warmC hW h8, va_Nw.warmC hW h9, va_Nc.moved hW.alike h10, fun y hy => va_Nw.warmD hW (h11 y hy)⟩
  · obtain ⟨h1, h2, h3, ⟨a4, h4⟩, ⟨a5, h5⟩, ⟨a6, h6⟩, ⟨a7, h7⟩, h8, h9, h10, h11⟩ := h
    have hv : (U.calling g mk a).vm = U.vm := rfl
    exact ⟨h1, vx_Zq.moved (u := U) (U := U.calling g mk a) (Vm.Alike.refl U.vm) h2, vx_Zq.moved (u := U) (U := U.calling g mk a) (Vm.Alike.refl U.vm) h3, ⟨a4, vk_R.same hv h4⟩, ⟨a5, vk_R.same hv h5⟩, ⟨a6, vk_R.same hv h6⟩, ⟨a7, vk_R.same hv h7⟩,
      va_Nw.same (w := .castable zIO zIO) rfl (u := U) rfl h8, va_Nw.same (w := .castable zIA zIA) rfl (u := U) rfl h9, va_Nc.moved (u := U) (U := U.calling g mk a) (Vm.Alike.refl U.vm) h10, fun y hy => va_Nw.same (w := .declares (Bundle.initS y)) rfl (u := U) rfl (h11 y hy)⟩
def z_XC (G : ZG) (En : String) (I J : AwI) (R : AwR) : String → State → State → Prop := fun E st t => E = En ∧ z_Rl G 255 I J R t.heap ∧ va_F (fun q => G.2.2 ≤ q) st t
def z_no : Array Value → State → Outcome → State → Prop := fun _ _ _ _ => False
/-- a method that throws -/
def CX (d : ZD) (as : List AwV) (I J : AwI) (R : AwR) (En : String) : Prop :=
  ∀ (l : Launch) (G : ZG), vx_Met l d.1 (z_ws d) d.2.2.2.2 (z_PE z_XT l G as 255 I J R) z_no (z_XC G En I J R) d.2.2.2.2.cells d.2.2.2.2.slots (fun q => G.2.2 ≤ q)
def FX (d : ZD) (I J : AwI) (R : AwR) (En : String) : ZF := (d.1, d.2.1, d.2.2.1, d.2.2.2.1, d.2.2.2.2, fun G args s below => vx_MQ below z_no (z_XC G En I J R) args s d.2.2.2.2.cells d.2.2.2.2.slots (fun q => G.2.2 ≤ q))
def z_ET : ZE := fun l G _ s c => z_XT l G s ∧ ∀ x ∈ c.exceptionTable.toList, False
theorem CX.of {d : ZD} {as : List AwV} {I J : AwI} {R : AwR} {En : String} (hy : plainName d.1.cls = true) (hn : (z_en1 as).length ≤ d.2.2.1) (h : AV z_ET (FX d I J R En) 0 0 255 0 (z_en as d.2.2.1) [] I J R) : CX d as I J R En := by
  intro l G
  refine vx_ofW (cc := d.2.1) (maxL := d.2.2.1) (ret := d.2.2.2.1) hy rfl ?_
  intro p e s m args below meth c s₁ B hml hx hv
  obtain ⟨⟨rfl, hK, hRl⟩, hE⟩ := hv
  rw [lg_entry_eq]
  have hts := atoms_spec (ws := z_ws d) B.pre
  exact h p l e s m _ below meth c s.heap [] _ G ⟨hE, hx⟩ ⟨B.exec, B.bytes, hml, B.returns, B.notSynchronized, findClass_of_methodNamed B.named, fun w hw => hts w (List.mem_cons_of_mem _ hw), hK, (name_of_methodNamed B.named B.method).1⟩ hRl (z_en_Lo _ as d.2.2.1 hn) va_S.rf
theorem av_throw {d : ZD} {En text : String} {ik is ic cells slots pc : Nat} {lv : List (Option AwV)} {I J : AwI} {R : AwR}
    (hstr : ∀ l G s, z_XT l G s → ∃ a, vk_R d.1.cls is text a s) (hcast : ∀ l G s, z_XT l G s → va_Nw (.castable En En) s) (hk : Cond.classLink d.1.cls ik En ∈ z_tb) (hini : Cond.initialized En ∈ z_tb) (hfit : Bundle.fit En = true)
    (hat : ∀ w ∈ (vx_atS d.1.cls ic En zNM).filter goodWord, w ∈ z_tb) (hng : ∀ w ∈ (vx_atS d.1.cls ic En zNM).filter (fun w => !goodWord w), w ∈ Cond.castable En En :: zDC.map (fun y => Cond.declares (Bundle.initS y))) (hot : ∀ w ∈ vx_atS d.1.cls ic En zNM, vx_ot w = true)
    (d0 : decode d.2.1 pc = .ok (.new ik, 3)) (d3 : decode d.2.1 (pc + 3) = .ok (.dup, 1)) (d4 : decode d.2.1 (pc + 4) = .ok (.ldc is, 2)) (d6 : decode d.2.1 (pc + 6) = .ok (.invokespecial ic, 3)) (d9 : decode d.2.1 (pc + 9) = .ok (.athrow, 1))
    (hr : 5 < d.2.2.2.2.frames ∧ 82 ≤ d.2.2.2.2.locals) (hce : cells + 1 ≤ d.2.2.2.2.cells ∧ slots + 6 ≤ d.2.2.2.2.slots) : AV z_ET (FX d I J R En) cells slots 255 pc lv [] I J R := by
  intro p l e s m args below meth c H locs ls G hE X hR hL hS
  obtain ⟨hXT, htab⟩ := hE
  have hts := X.2.2.2.2.2.2.1
  obtain ⟨sa, hsa⟩ := hstr l G s hXT
  have hgw : ∀ w, w ∈ z_tb → vx_ot w = true := fun w hw => by unfold vx_ot; rw [z_gW hw, Bool.or_true]
  refine vx_throwS (cc := d.2.1) X.1 X.2.1 hXT.1 (own := d.1.cls) (cls := En) (text := text) (names := zNM) (ik := ik) (is := is) (ic := ic) (sa := sa) (A := fun q => G.2.2 ≤ q) X.2.2.2.2.2.1 hfit (by decide) (hts _ hk) (hts _ hini) hsa
    (vx_hat (fun w hw => hts w (hat w hw)) hng (vx_c (va_Nw.use rfl (hcast l G s hXT)) (fun w hw => by obtain ⟨y, hy, rfl⟩ := List.mem_map.mp hw; exact va_Nw.use rfl (hXT.2.2.2.2.2.2.2.2.2.2 y hy)))) ?_ hXT.2.1 hXT.2.2.1 hS (hL.2.1.trans X.2.2.1.symm) d0 d3 d4 d6 d9 (fun x hx => (htab x hx).elim) hr.1 (by show 0 + 82 ≤ d.2.2.2.2.locals; omega) hce.1 hce.2 X.2.2.2.2.1 ?_ hS.2.2 hce.1 hce.2
  · intro w hw
    rcases List.mem_cons.mp hw with rfl | hw
    · exact hgw _ hk
    rcases List.mem_cons.mp hw with rfl | hw
    · exact hgw _ hini
    · exact hot w hw
  · intro t hal hsz hq
    refine ⟨rfl, ⟨fun h => absurd h (by omega), Nat.le_trans hR.2.1 hsz, fun a ha => (hR.2.2 a ha).kept (hq _ (by have := hR.2.1; omega))⟩, Nat.le_trans hS.1 hsz, fun q h1 h2 => (hq q (Nat.lt_of_lt_of_le h1 hS.1)).trans (hS.2.1 q h1 h2)⟩
theorem k_cl118 : Cond.classLink RX8 118 zIO ∈ z_tb := z_in3 162 (by decide +kernel) (by decide +kernel)
theorem k_cl145 : Cond.classLink RX8 145 zIA ∈ z_tb := z_in3 230 (by decide +kernel) (by decide +kernel)
theorem k_iIO : Cond.initialized zIO ∈ z_tb := z_in1 17 (by decide +kernel) (by decide +kernel)
theorem k_iIA : Cond.initialized zIA ∈ z_tb := z_in1 18 (by decide +kernel) (by decide +kernel)
theorem k_atIO : ∀ w ∈ (vx_atS RX8 122 zIO zNM).filter goodWord, w ∈ z_tb := fun w hw => List.mem_filter.mpr ⟨(by decide +kernel : ∀ w ∈ (vx_atS RX8 122 zIO zNM).filter goodWord, w ∈ lw_tbl) w hw, (List.mem_filter.mp hw).2⟩
theorem k_atIA : ∀ w ∈ (vx_atS RX8 149 zIA zNM).filter goodWord, w ∈ z_tb := fun w hw => List.mem_filter.mpr ⟨(by decide +kernel : ∀ w ∈ (vx_atS RX8 149 zIA zNM).filter goodWord, w ∈ lw_tbl) w hw, (List.mem_filter.mp hw).2⟩
theorem k_ngIO : ∀ w ∈ (vx_atS RX8 122 zIO zNM).filter (fun w => !goodWord w), w ∈ Cond.castable zIO zIO :: zDC.map (fun y => Cond.declares (Bundle.initS y)) := by decide +kernel
theorem k_ngIA : ∀ w ∈ (vx_atS RX8 149 zIA zNM).filter (fun w => !goodWord w), w ∈ Cond.castable zIA zIA :: zDC.map (fun y => Cond.declares (Bundle.initS y)) := by decide +kernel
theorem k_otIO : ∀ w ∈ vx_atS RX8 122 zIO zNM, vx_ot w = true := by decide +kernel
theorem k_otIA : ∀ w ∈ vx_atS RX8 149 zIA zNM, vx_ot w = true := by decide +kernel
def m_X8_cutT : ZD := (yX8_cut, cX8_cut, 5, some .int, { frames := 6, cells := 1, slots := 6, locals := 100 })
def m_X8_strengthT : ZD := (yX8_strength, cX8_strength, 7, some .long, { frames := 6, cells := 1, slots := 6, locals := 100 })
set_option maxHeartbeats 4000000 in
theorem c_X8_cutK {π : Nat → Nat} {I J : AwI} {m : z_MM} {L : List z_CC} {t : Int} {k w i : Int} (hI : z_CI I J π m L t) (hk : -2147483648 ≤ k ∧ k ≤ 2147483647) (hw : -2147483648 ≤ w ∧ w ≤ 2147483647) (hi : -2147483648 ≤ i ∧ i ≤ 2147483647) (h0 : ¬ (0 ≤ k ∧ k < (L.length : Int))) : CX m_X8_cutT [zr 0, zi k, zi w, zi i] I J (z_R π) zIO := by
  have hI0 := hI
  obtain ⟨h, hm, hlh, hL, hc, ht, h01, h225, h232, hA⟩ := hI0
  subst hm
  have hlen := hc.1
  have hnm := h.nm
  have hn4 := hL.n
  have eN : mN (z_clM I J) = (I 1 5).toNat := rfl
  refine CX.of (by decide) (Nat.le_of_ble_eq_true rfl) ?_
  show AV _ _ 0 0 _ 0 [some (zr 0), some (zi k), some (zi w), some (zi i), none] [] _ _ _
  refine av_aload_n (pc := 0) dX8_cut_0 rfl ?_
  refine av_getR (pc := 1) dX8_cut_1 k_fl_X8_21 rfl (by omega) (by first | rfl | exact z_shr _ (by omega) | exact z_shc0 (by omega) | exact z_shc1 (by omega) | exact z_shc2 (by omega) | exact z_shc3 (by omega) | exact z_shc4 (by omega)) (by first | rfl | exact z_Rc0 _ (by omega) | exact z_Rc1 _ (by omega) | exact z_Rc2 _ (by omega) | exact z_Rc3 _ (by omega)) ?_
  refine av_iload_n (pc := 4) dX8_cut_4 rfl ?_
  refine av_qV (pc := 5) (d := m_X5_has) (c_X5_has hL (by omega)) k_X5_has dX8_cut_5 k_ml_X8_115 rfl ⟨rfl, rfl⟩ (by omega) (by first | rfl | exact z_shr _ (by omega) | exact z_shc0 (by omega) | exact z_shc1 (by omega) | exact z_shc2 (by omega) | exact z_shc3 (by omega) | exact z_shc4 (by omega)) rfl ⟨Nat.le_of_ble_eq_true rfl, Nat.le_of_ble_eq_true rfl⟩ ⟨Nat.zero_le _, Nat.zero_le _⟩ rfl (Nat.le_of_ble_eq_true rfl) (z_Pk ?_)
  refine av_if_ne (pc := 8) (tgt := 21) dX8_cut_8 rfl (by first | omega | exact z_bl_r _) (fun h8 => absurd h8 (fun q => q (z_bl_f (by omega)))) (fun h8 => ?_)
  exact av_throw (pc := 11) (En := zIO) (fun _ _ _ h => h.2.2.2.1) (fun _ _ _ h => h.2.2.2.2.2.2.2.1) k_cl118 k_iIO (by decide) k_atIO k_ngIO k_otIO dX8_cut_11 dX8_cut_14 dX8_cut_15 dX8_cut_17 dX8_cut_20 ⟨Nat.le_of_ble_eq_true rfl, Nat.le_of_ble_eq_true rfl⟩ ⟨Nat.le_of_ble_eq_true rfl, Nat.le_of_ble_eq_true rfl⟩
set_option maxHeartbeats 4000000 in
theorem c_X8_cutN {π : Nat → Nat} {I J : AwI} {m : z_MM} {L : List z_CC} {t : Int} {k w i : Int} (hI : z_CI I J π m L t) (hk : -2147483648 ≤ k ∧ k ≤ 2147483647) (hw : -2147483648 ≤ w ∧ w ≤ 2147483647) (hi : -2147483648 ≤ i ∧ i ≤ 2147483647) (h0 : 0 ≤ k ∧ k < (L.length : Int)) (h9 : w = 0) (hn : ¬ (0 ≤ i ∧ i < (mN m : Int))) : CX m_X8_cutT [zr 0, zi k, zi w, zi i] I J (z_R π) zIO := by
  have hI0 := hI
  obtain ⟨h, hm, hlh, hL, hc, ht, h01, h225, h232, hA⟩ := hI0
  subst hm
  have hlen := hc.1
  have hnm := h.nm
  have hn4 := hL.n
  have eN : mN (z_clM I J) = (I 1 5).toNat := rfl
  refine CX.of (by decide) (Nat.le_of_ble_eq_true rfl) ?_
  subst h9
  show AV _ _ 0 0 _ 0 [some (zr 0), some (zi k), some (zi 0), some (zi i), none] [] _ _ _
  refine av_aload_n (pc := 0) dX8_cut_0 rfl ?_
  refine av_getR (pc := 1) dX8_cut_1 k_fl_X8_21 rfl (by omega) (by first | rfl | exact z_shr _ (by omega) | exact z_shc0 (by omega) | exact z_shc1 (by omega) | exact z_shc2 (by omega) | exact z_shc3 (by omega) | exact z_shc4 (by omega)) (by first | rfl | exact z_Rc0 _ (by omega) | exact z_Rc1 _ (by omega) | exact z_Rc2 _ (by omega) | exact z_Rc3 _ (by omega)) ?_
  refine av_iload_n (pc := 4) dX8_cut_4 rfl ?_
  refine av_qV (pc := 5) (d := m_X5_has) (c_X5_has hL (by omega)) k_X5_has dX8_cut_5 k_ml_X8_115 rfl ⟨rfl, rfl⟩ (by omega) (by first | rfl | exact z_shr _ (by omega) | exact z_shc0 (by omega) | exact z_shc1 (by omega) | exact z_shc2 (by omega) | exact z_shc3 (by omega) | exact z_shc4 (by omega)) rfl ⟨Nat.le_of_ble_eq_true rfl, Nat.le_of_ble_eq_true rfl⟩ ⟨Nat.zero_le _, Nat.zero_le _⟩ rfl (Nat.le_of_ble_eq_true rfl) (z_Pk ?_)
  refine av_if_ne (pc := 8) (tgt := 21) dX8_cut_8 rfl (by first | omega | exact z_bl_r _) (fun h8 => ?_) (fun h8 => absurd h8 (by rw [z_bl_t (by omega)]; decide))
  refine av_aload_n (pc := 21) dX8_cut_21 rfl ?_
  refine av_getR (pc := 22) dX8_cut_22 k_fl_X8_21 rfl (by omega) (by first | rfl | exact z_shr _ (by omega) | exact z_shc0 (by omega) | exact z_shc1 (by omega) | exact z_shc2 (by omega) | exact z_shc3 (by omega) | exact z_shc4 (by omega)) (by first | rfl | exact z_Rc0 _ (by omega) | exact z_Rc1 _ (by omega) | exact z_Rc2 _ (by omega) | exact z_Rc3 _ (by omega)) ?_
  refine av_getR (pc := 25) dX8_cut_25 k_fl_X8_125 rfl (by omega) (by first | rfl | exact z_shr _ (by omega) | exact z_shc0 (by omega) | exact z_shc1 (by omega) | exact z_shc2 (by omega) | exact z_shc3 (by omega) | exact z_shc4 (by omega)) (by first | rfl | exact z_Rc0 _ (by omega) | exact z_Rc1 _ (by omega) | exact z_Rc2 _ (by omega) | exact z_Rc3 _ (by omega)) ?_
  refine av_iload_n (pc := 28) dX8_cut_28 rfl ?_
  refine av_aaloadQ (pc := 29) dX8_cut_29 (by omega) (Nat.le_refl _) rfl (by omega) (by rfl) ?_
  refine av_astore (pc := 30) (lv' := [_, _, _, _, _]) dX8_cut_30 (Nat.le_of_ble_eq_true rfl) rfl ?_
  refine av_iload_n (pc := 32) dX8_cut_32 rfl ?_
  refine av_tbl_in (pc := 33) (tgt := 64) (off := 31) dX8_cut_33 (by omega) (by omega) rfl rfl ?_
  refine av_aload_n (pc := 64) dX8_cut_64 rfl ?_
  refine av_getR (pc := 65) dX8_cut_65 k_fl_X8_10 rfl (by omega) (by first | rfl | exact z_shr _ (by omega) | exact z_shc0 (by omega) | exact z_shc1 (by omega) | exact z_shc2 (by omega) | exact z_shc3 (by omega) | exact z_shc4 (by omega)) (by first | rfl | exact z_Rc0 _ (by omega) | exact z_Rc1 _ (by omega) | exact z_Rc2 _ (by omega) | exact z_Rc3 _ (by omega)) ?_
  refine av_iload_n (pc := 68) dX8_cut_68 rfl ?_
  refine av_qV (pc := 69) (d := m_X6_hasName) (c_X6_hasName h (by omega)) k_X6_hasName dX8_cut_69 k_ml_X8_88 rfl ⟨rfl, rfl⟩ (by omega) (by first | rfl | exact z_shr _ (by omega) | exact z_shc0 (by omega) | exact z_shc1 (by omega) | exact z_shc2 (by omega) | exact z_shc3 (by omega) | exact z_shc4 (by omega)) rfl ⟨Nat.le_of_ble_eq_true rfl, Nat.le_of_ble_eq_true rfl⟩ ⟨Nat.zero_le _, Nat.zero_le _⟩ rfl (Nat.le_of_ble_eq_true rfl) (z_Pk ?_)
  refine av_if_ne (pc := 72) (tgt := 85) dX8_cut_72 rfl (by first | omega | exact z_bl_r _) (fun h72 => absurd h72 (fun q => q (z_bl_f (by omega)))) (fun h72 => ?_)
  exact av_throw (pc := 75) (En := zIO) (fun _ _ _ h => h.2.2.2.2.1) (fun _ _ _ h => h.2.2.2.2.2.2.2.1) k_cl118 k_iIO (by decide) k_atIO k_ngIO k_otIO dX8_cut_75 dX8_cut_78 dX8_cut_79 dX8_cut_81 dX8_cut_84 ⟨Nat.le_of_ble_eq_true rfl, Nat.le_of_ble_eq_true rfl⟩ ⟨Nat.le_of_ble_eq_true rfl, Nat.le_of_ble_eq_true rfl⟩
set_option maxHeartbeats 4000000 in
theorem c_X8_cutW {π : Nat → Nat} {I J : AwI} {m : z_MM} {L : List z_CC} {t : Int} {k w i : Int} (hI : z_CI I J π m L t) (hk : -2147483648 ≤ k ∧ k ≤ 2147483647) (hw : -2147483648 ≤ w ∧ w ≤ 2147483647) (hi : -2147483648 ≤ i ∧ i ≤ 2147483647) (h0 : 0 ≤ k ∧ k < (L.length : Int)) (h9 : w < 0 ∨ 3 < w) : CX m_X8_cutT [zr 0, zi k, zi w, zi i] I J (z_R π) zIA := by
  have hI0 := hI
  obtain ⟨h, hm, hlh, hL, hc, ht, h01, h225, h232, hA⟩ := hI0
  subst hm
  have hlen := hc.1
  have hnm := h.nm
  have hn4 := hL.n
  have eN : mN (z_clM I J) = (I 1 5).toNat := rfl
  refine CX.of (by decide) (Nat.le_of_ble_eq_true rfl) ?_
  show AV _ _ 0 0 _ 0 [some (zr 0), some (zi k), some (zi w), some (zi i), none] [] _ _ _
  refine av_aload_n (pc := 0) dX8_cut_0 rfl ?_
  refine av_getR (pc := 1) dX8_cut_1 k_fl_X8_21 rfl (by omega) (by first | rfl | exact z_shr _ (by omega) | exact z_shc0 (by omega) | exact z_shc1 (by omega) | exact z_shc2 (by omega) | exact z_shc3 (by omega) | exact z_shc4 (by omega)) (by first | rfl | exact z_Rc0 _ (by omega) | exact z_Rc1 _ (by omega) | exact z_Rc2 _ (by omega) | exact z_Rc3 _ (by omega)) ?_
  refine av_iload_n (pc := 4) dX8_cut_4 rfl ?_
  refine av_qV (pc := 5) (d := m_X5_has) (c_X5_has hL (by omega)) k_X5_has dX8_cut_5 k_ml_X8_115 rfl ⟨rfl, rfl⟩ (by omega) (by first | rfl | exact z_shr _ (by omega) | exact z_shc0 (by omega) | exact z_shc1 (by omega) | exact z_shc2 (by omega) | exact z_shc3 (by omega) | exact z_shc4 (by omega)) rfl ⟨Nat.le_of_ble_eq_true rfl, Nat.le_of_ble_eq_true rfl⟩ ⟨Nat.zero_le _, Nat.zero_le _⟩ rfl (Nat.le_of_ble_eq_true rfl) (z_Pk ?_)
  refine av_if_ne (pc := 8) (tgt := 21) dX8_cut_8 rfl (by first | omega | exact z_bl_r _) (fun h8 => ?_) (fun h8 => absurd h8 (by rw [z_bl_t (by omega)]; decide))
  refine av_aload_n (pc := 21) dX8_cut_21 rfl ?_
  refine av_getR (pc := 22) dX8_cut_22 k_fl_X8_21 rfl (by omega) (by first | rfl | exact z_shr _ (by omega) | exact z_shc0 (by omega) | exact z_shc1 (by omega) | exact z_shc2 (by omega) | exact z_shc3 (by omega) | exact z_shc4 (by omega)) (by first | rfl | exact z_Rc0 _ (by omega) | exact z_Rc1 _ (by omega) | exact z_Rc2 _ (by omega) | exact z_Rc3 _ (by omega)) ?_
  refine av_getR (pc := 25) dX8_cut_25 k_fl_X8_125 rfl (by omega) (by first | rfl | exact z_shr _ (by omega) | exact z_shc0 (by omega) | exact z_shc1 (by omega) | exact z_shc2 (by omega) | exact z_shc3 (by omega) | exact z_shc4 (by omega)) (by first | rfl | exact z_Rc0 _ (by omega) | exact z_Rc1 _ (by omega) | exact z_Rc2 _ (by omega) | exact z_Rc3 _ (by omega)) ?_
  refine av_iload_n (pc := 28) dX8_cut_28 rfl ?_
  refine av_aaloadQ (pc := 29) dX8_cut_29 (by omega) (Nat.le_refl _) rfl (by omega) (by rfl) ?_
  refine av_astore (pc := 30) (lv' := [_, _, _, _, _]) dX8_cut_30 (Nat.le_of_ble_eq_true rfl) rfl ?_
  refine av_iload_n (pc := 32) dX8_cut_32 rfl ?_
  refine av_tbl_out (pc := 33) (tgt := 111) dX8_cut_33 (by omega) (by omega) rfl ?_
  exact av_throw (pc := 111) (En := zIA) (fun _ _ _ h => h.2.2.2.2.2.1) (fun _ _ _ h => h.2.2.2.2.2.2.2.2.1) k_cl145 k_iIA (by decide) k_atIA k_ngIA k_otIA dX8_cut_111 dX8_cut_114 dX8_cut_115 dX8_cut_117 dX8_cut_120 ⟨Nat.le_of_ble_eq_true rfl, Nat.le_of_ble_eq_true rfl⟩ ⟨Nat.le_of_ble_eq_true rfl, Nat.le_of_ble_eq_true rfl⟩
set_option maxHeartbeats 4000000 in
theorem c_X8_strengthK {π : Nat → Nat} {I J : AwI} {m : z_MM} {L : List z_CC} {t : Int} {k p : Int} (hI : z_CI I J π m L t) (hk : -2147483648 ≤ k ∧ k ≤ 2147483647) (hp : -2147483648 ≤ p ∧ p ≤ 2147483647) (h0 : ¬ (0 ≤ k ∧ k < (L.length : Int))) : CX m_X8_strengthT [zr 0, zi k, zi p] I J (z_R π) zIO := by
  have hI0 := hI
  obtain ⟨h, hm, hlh, hL, hc, ht, h01, h225, h232, hA⟩ := hI0
  subst hm
  have hlen := hc.1
  have hnm := h.nm
  have hn4 := hL.n
  have eN : mN (z_clM I J) = (I 1 5).toNat := rfl
  refine CX.of (by decide) (Nat.le_of_ble_eq_true rfl) ?_
  show AV _ _ 0 0 _ 0 [some (zr 0), some (zi k), some (zi p), none, none, none, none] [] _ _ _
  refine av_aload_n (pc := 0) dX8_strength_0 rfl ?_
  refine av_getR (pc := 1) dX8_strength_1 k_fl_X8_21 rfl (by omega) (by first | rfl | exact z_shr _ (by omega) | exact z_shc0 (by omega) | exact z_shc1 (by omega) | exact z_shc2 (by omega) | exact z_shc3 (by omega) | exact z_shc4 (by omega)) (by first | rfl | exact z_Rc0 _ (by omega) | exact z_Rc1 _ (by omega) | exact z_Rc2 _ (by omega) | exact z_Rc3 _ (by omega)) ?_
  refine av_iload_n (pc := 4) dX8_strength_4 rfl ?_
  refine av_qV (pc := 5) (d := m_X5_has) (c_X5_has hL (by omega)) k_X5_has dX8_strength_5 k_ml_X8_115 rfl ⟨rfl, rfl⟩ (by omega) (by first | rfl | exact z_shr _ (by omega) | exact z_shc0 (by omega) | exact z_shc1 (by omega) | exact z_shc2 (by omega) | exact z_shc3 (by omega) | exact z_shc4 (by omega)) rfl ⟨Nat.le_of_ble_eq_true rfl, Nat.le_of_ble_eq_true rfl⟩ ⟨Nat.zero_le _, Nat.zero_le _⟩ rfl (Nat.le_of_ble_eq_true rfl) (z_Pk ?_)
  refine av_if_ne (pc := 8) (tgt := 21) dX8_strength_8 rfl (by first | omega | exact z_bl_r _) (fun h8 => absurd h8 (fun q => q (z_bl_f (by omega)))) (fun h8 => ?_)
  exact av_throw (pc := 11) (En := zIO) (fun _ _ _ h => h.2.2.2.1) (fun _ _ _ h => h.2.2.2.2.2.2.2.1) k_cl118 k_iIO (by decide) k_atIO k_ngIO k_otIO dX8_strength_11 dX8_strength_14 dX8_strength_15 dX8_strength_17 dX8_strength_20 ⟨Nat.le_of_ble_eq_true rfl, Nat.le_of_ble_eq_true rfl⟩ ⟨Nat.le_of_ble_eq_true rfl, Nat.le_of_ble_eq_true rfl⟩
set_option maxHeartbeats 4000000 in
theorem c_X8_strengthP {π : Nat → Nat} {I J : AwI} {m : z_MM} {L : List z_CC} {t : Int} {k p : Int} (hI : z_CI I J π m L t) (hk : -2147483648 ≤ k ∧ k ≤ 2147483647) (hp : -2147483648 ≤ p ∧ p ≤ 2147483647) (h0 : 0 ≤ k ∧ k < (L.length : Int)) (h9 : p < 0 ∨ 1 < p) : CX m_X8_strengthT [zr 0, zi k, zi p] I J (z_R π) zIA := by
  have hI0 := hI
  obtain ⟨h, hm, hlh, hL, hc, ht, h01, h225, h232, hA⟩ := hI0
  subst hm
  have hlen := hc.1
  have hnm := h.nm
  have hn4 := hL.n
  have eN : mN (z_clM I J) = (I 1 5).toNat := rfl
  refine CX.of (by decide) (Nat.le_of_ble_eq_true rfl) ?_
  show AV _ _ 0 0 _ 0 [some (zr 0), some (zi k), some (zi p), none, none, none, none] [] _ _ _
  refine av_aload_n (pc := 0) dX8_strength_0 rfl ?_
  refine av_getR (pc := 1) dX8_strength_1 k_fl_X8_21 rfl (by omega) (by first | rfl | exact z_shr _ (by omega) | exact z_shc0 (by omega) | exact z_shc1 (by omega) | exact z_shc2 (by omega) | exact z_shc3 (by omega) | exact z_shc4 (by omega)) (by first | rfl | exact z_Rc0 _ (by omega) | exact z_Rc1 _ (by omega) | exact z_Rc2 _ (by omega) | exact z_Rc3 _ (by omega)) ?_
  refine av_iload_n (pc := 4) dX8_strength_4 rfl ?_
  refine av_qV (pc := 5) (d := m_X5_has) (c_X5_has hL (by omega)) k_X5_has dX8_strength_5 k_ml_X8_115 rfl ⟨rfl, rfl⟩ (by omega) (by first | rfl | exact z_shr _ (by omega) | exact z_shc0 (by omega) | exact z_shc1 (by omega) | exact z_shc2 (by omega) | exact z_shc3 (by omega) | exact z_shc4 (by omega)) rfl ⟨Nat.le_of_ble_eq_true rfl, Nat.le_of_ble_eq_true rfl⟩ ⟨Nat.zero_le _, Nat.zero_le _⟩ rfl (Nat.le_of_ble_eq_true rfl) (z_Pk ?_)
  refine av_if_ne (pc := 8) (tgt := 21) dX8_strength_8 rfl (by first | omega | exact z_bl_r _) (fun h8 => ?_) (fun h8 => absurd h8 (by rw [z_bl_t (by omega)]; decide))
  refine av_iload_n (pc := 21) dX8_strength_21 rfl ?_
  refine av_if_eq (pc := 22) (tgt := 40) dX8_strength_22 rfl (by first | omega | exact z_bl_r _) (fun h22 => absurd h22 (by omega)) (fun h22 => ?_)
  refine av_iload_n (pc := 25) dX8_strength_25 rfl ?_
  refine av_iconst (pc := 26) dX8_strength_26 ?_
  refine av_icmp_eq (pc := 27) (tgt := 40) dX8_strength_27 rfl (by first | omega | exact z_bl_r _) (by first | omega | exact z_bl_r _) (fun h27 => absurd h27 (by omega)) (fun h27 => ?_)
  exact av_throw (pc := 30) (En := zIA) (fun _ _ _ h => h.2.2.2.2.2.2.1) (fun _ _ _ h => h.2.2.2.2.2.2.2.2.1) k_cl145 k_iIA (by decide) k_atIA k_ngIA k_otIA dX8_strength_30 dX8_strength_33 dX8_strength_34 dX8_strength_36 dX8_strength_39 ⟨Nat.le_of_ble_eq_true rfl, Nat.le_of_ble_eq_true rfl⟩ ⟨Nat.le_of_ble_eq_true rfl, Nat.le_of_ble_eq_true rfl⟩
