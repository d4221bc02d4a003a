abbrev z_lb (b : Nat) (G : ZG) (j : Nat) : List (Nat × Value) := [(0, .ref b), (1, .ref (G.2.2 + 0)), (2, .ref (G.2.2 + 237)), (3, .ref (G.2.2 + 254)), (4, .int (Int32.ofInt (5 * (j : Int))))]
theorem x_r (v : Int32) : -2147483648 ≤ v.toInt ∧ v.toInt ≤ 2147483647 := by
  have h1 := Int32.le_toInt v
  have h2 := Int32.toInt_lt v
  omega
theorem z_RIc {I J I' J' : AwI} {m : z_MM} {L : List z_CC} {t : Int} (h : z_RI I J m L t) (hF : z_FR I J I' J') : z_RI I' J' m L t := h.frame ⟨fun a k q => hF.1 a k (by omega), fun a k q => hF.2 a k (by omega)⟩
theorem z_CIr {I J I' J' : AwI} {π : Nat → Nat} {m : z_MM} {L : List z_CC} {t : Int} (h : z_CI I J π m L t) (hF : z_FQ I J I' J') : z_CI I' J' π m L t := h.frame (fun a k q => hF.1 a k (Or.inl (by omega))) (fun k => hF.2 4 k (Or.inl (by omega)))
theorem z_rCu_r {π : Nat → Nat} {I J : AwI} {m : z_MM} {L : List z_CC} {t : Int} (hI : z_CI I J π m L t) (k w i : Int) : -2147483648 ≤ (z_rCu m L k w i).1 ∧ (z_rCu m L k w i).1 ≤ 2147483647 := by
  unfold z_rCu
  by_cases h1 : ¬ (0 ≤ k ∧ k < (L.length : Int)) ∨ (w = 0 ∧ ¬ (0 ≤ i ∧ i < (mN m : Int)))
  · rw [if_pos h1]; exact ⟨by decide, by decide⟩
  · rw [if_neg h1]
    by_cases h2 : w < 0 ∨ 3 < w
    · rw [if_pos h2]; exact ⟨by decide, by decide⟩
    · rw [if_neg h2]
      exact z_cutv_r hI (by omega) (fun q => by omega)
theorem k_L_cut : z_Ch m_L_cut hhC 5 := ⟨z_in3 155 (by decide +kernel) (by decide +kernel), z_in3 154 (by decide +kernel) (by decide +kernel), z_in1 0 (by decide +kernel) (by decide +kernel), by decide +kernel, by decide +kernel⟩
theorem k_L_strength : z_Ch m_L_strength hhS 4 := ⟨z_in4 8 (by decide +kernel) (by decide +kernel), z_in4 7 (by decide +kernel) (by decide +kernel), z_in1 0 (by decide +kernel) (by decide +kernel), by decide +kernel, by decide +kernel⟩
def z_K7 (p : Program) (l : Launch) (e : Env) (s : State) (m : MethodId) (below : List Frame) (meth : Method) (c : Code) (G : ZG) (b : Nat) (j : Nat) : Prop := ∀ (c2 s2 : Nat), c2 ≤ 256 + j → s2 ≤ 3822 + 6 * j → ∀ (I J : AwI) (π : Nat → Nat) (mm : z_MM) (L : List z_CC) (t : Int), z_CI I J π mm L t → z_RI I J mm L t → LW p l e s m below meth c G b c2 s2 700 (z_lb b G j) [] I J (z_R π)
section LWC
variable {p : Program} {l : Launch} {e : Env} {s : State} {m : MethodId} {below : List Frame} {meth : Method} {c : Code} {G : ZG} {b N : Nat} {xs : Nat → Int32} {I J : AwI} {π : Nat → Nat} {mm : z_MM} {L : List z_CC} {t : Int} {j : Nat}
theorem lw_end {cells slots : Nat} {lv : List (Nat × Value)} {R : AwR} (C : z_LX p l s m meth c G b N xs) (hce : cells ≤ 601024 ∧ slots ≤ 7293034) : LW p l e s m below meth c G b cells slots 706 lv [] I J R := by
  intro H locs ls hR hL hS
  obtain ⟨X, hXT, hX, hb, hG, hN⟩ := C
  refine W.widen (k := 601024) (n := 7293034) hce.1 hce.2 ?_
  refine va_forget (fun q hq => by rw [hG]; exact hS.2.2 q hq) ?_
  refine lv_iconst (v := 1) X.1 X.2.1 dL_law_706 rfl ?_
  exact lw_ret X.1 X.2.1 X.2.2.2.1 X.2.2.2.2.1 dL_law_707
theorem lw_sw {v : Int} {cells slots : Nat} {lv : List (Nat × Value)} {R : AwR} (C : z_LX p l s m meth c G b N xs) (k : ∀ t : Nat, t ∈ ([120, 157, 182, 231, 280, 305, 318, 398, 447, 508, 533, 600, 613, 638, 651, 664, 689, 700] : List Nat) → LW p l e s m below meth c G b cells slots t lv [] I J R) : LW p l e s m below meth c G b cells slots 36 lv [zi v] I J R := by
  intro H locs ls hR hL hS
  have X := C.1
  refine lv_bipush (v := Int32.ofInt 31) X.1 X.2.1 dL_law_36 rfl ?_
  refine lv_iand X.1 X.2.1 dL_law_38 ?_
  generalize Int32.ofInt v &&& Int32.ofInt 31 = y
  rcases (show (y.toInt < 0 ∨ 16 < y.toInt) ∨ y.toInt = 0 ∨ y.toInt = 1 ∨ y.toInt = 2 ∨ y.toInt = 3 ∨ y.toInt = 4 ∨ y.toInt = 5 ∨ y.toInt = 6 ∨ y.toInt = 7 ∨ y.toInt = 8 ∨ y.toInt = 9 ∨ y.toInt = 10 ∨ y.toInt = 11 ∨ y.toInt = 12 ∨ y.toInt = 13 ∨ y.toInt = 14 ∨ y.toInt = 15 ∨ y.toInt = 16 by omega) with h | h | h | h | h | h | h | h | h | h | h | h | h | h | h | h | h | h
  · exact lv_tableOut (tgt := 700) X.1 X.2.1 dL_law_39 h rfl (k 700 (by decide) H locs ls hR hL hS)
  · exact lv_tableIn (tgt := 120) (off := 81) X.1 X.2.1 dL_law_39 (by omega) (by omega) (by rw [h]; rfl) rfl (k 120 (by decide) H locs ls hR hL hS)
  · exact lv_tableIn (tgt := 157) (off := 118) X.1 X.2.1 dL_law_39 (by omega) (by omega) (by rw [h]; rfl) rfl (k 157 (by decide) H locs ls hR hL hS)
  · exact lv_tableIn (tgt := 182) (off := 143) X.1 X.2.1 dL_law_39 (by omega) (by omega) (by rw [h]; rfl) rfl (k 182 (by decide) H locs ls hR hL hS)
  · exact lv_tableIn (tgt := 231) (off := 192) X.1 X.2.1 dL_law_39 (by omega) (by omega) (by rw [h]; rfl) rfl (k 231 (by decide) H locs ls hR hL hS)
  · exact lv_tableIn (tgt := 280) (off := 241) X.1 X.2.1 dL_law_39 (by omega) (by omega) (by rw [h]; rfl) rfl (k 280 (by decide) H locs ls hR hL hS)
  · exact lv_tableIn (tgt := 305) (off := 266) X.1 X.2.1 dL_law_39 (by omega) (by omega) (by rw [h]; rfl) rfl (k 305 (by decide) H locs ls hR hL hS)
  · exact lv_tableIn (tgt := 318) (off := 279) X.1 X.2.1 dL_law_39 (by omega) (by omega) (by rw [h]; rfl) rfl (k 318 (by decide) H locs ls hR hL hS)
  · exact lv_tableIn (tgt := 398) (off := 359) X.1 X.2.1 dL_law_39 (by omega) (by omega) (by rw [h]; rfl) rfl (k 398 (by decide) H locs ls hR hL hS)
  · exact lv_tableIn (tgt := 447) (off := 408) X.1 X.2.1 dL_law_39 (by omega) (by omega) (by rw [h]; rfl) rfl (k 447 (by decide) H locs ls hR hL hS)
  · exact lv_tableIn (tgt := 508) (off := 469) X.1 X.2.1 dL_law_39 (by omega) (by omega) (by rw [h]; rfl) rfl (k 508 (by decide) H locs ls hR hL hS)
  · exact lv_tableIn (tgt := 533) (off := 494) X.1 X.2.1 dL_law_39 (by omega) (by omega) (by rw [h]; rfl) rfl (k 533 (by decide) H locs ls hR hL hS)
  · exact lv_tableIn (tgt := 600) (off := 561) X.1 X.2.1 dL_law_39 (by omega) (by omega) (by rw [h]; rfl) rfl (k 600 (by decide) H locs ls hR hL hS)
  · exact lv_tableIn (tgt := 613) (off := 574) X.1 X.2.1 dL_law_39 (by omega) (by omega) (by rw [h]; rfl) rfl (k 613 (by decide) H locs ls hR hL hS)
  · exact lv_tableIn (tgt := 638) (off := 599) X.1 X.2.1 dL_law_39 (by omega) (by omega) (by rw [h]; rfl) rfl (k 638 (by decide) H locs ls hR hL hS)
  · exact lv_tableIn (tgt := 651) (off := 612) X.1 X.2.1 dL_law_39 (by omega) (by omega) (by rw [h]; rfl) rfl (k 651 (by decide) H locs ls hR hL hS)
  · exact lv_tableIn (tgt := 664) (off := 625) X.1 X.2.1 dL_law_39 (by omega) (by omega) (by rw [h]; rfl) rfl (k 664 (by decide) H locs ls hR hL hS)
  · exact lv_tableIn (tgt := 689) (off := 650) X.1 X.2.1 dL_law_39 (by omega) (by omega) (by rw [h]; rfl) rfl (k 689 (by decide) H locs ls hR hL hS)
set_option maxHeartbeats 4000000 in
theorem lw_c0 (C : z_LX p l s m meth c G b N xs) (hj : 5 * j + 5 ≤ N) (K : z_K7 p l e s m below meth c G b j) (hI : z_CI I J π mm L t) (hR : z_RI I J mm L t) : LW p l e s m below meth c G b (255 + j) (3816 + 6 * j) 120 (z_lb b G j) [] I J (z_R π) := by
  have hN := C.2.2.2.2.2
  refine lw_aload (a := 0) (i := 1) C dL_law_120 rfl ?_
  refine lw_arg (x := 5 * (j : Int)) (k := 1) (i := 0) (i4 := 4) C dL_law_121 dL_law_122 dL_law_124 dL_law_125 dL_law_126 rfl rfl (by omega) ?_
  refine lw_arg (x := 5 * (j : Int)) (k := 2) (i := 0) (i4 := 4) C dL_law_127 dL_law_128 dL_law_130 dL_law_131 dL_law_132 rfl rfl (by omega) ?_
  refine lw_callV (d := m_X8_name) C (c_X8_name hI (x_r _) (x_r _)) k_X8_name dL_law_133 k_ml_L_25 rfl ⟨rfl, rfl⟩ (by omega) rfl rfl ⟨Nat.le_of_ble_eq_true rfl, Nat.le_of_ble_eq_true rfl⟩ ⟨by omega, by omega⟩ rfl (Nat.le_of_ble_eq_true rfl) (fun _ _ _ _ _ h => h.2.1) ?_
  rintro _ I2 J2 R2 ⟨rfl, -, π2, rfl, hI2, hF2⟩
  have hR2 := z_RIc hR hF2
  refine lw_aload (a := 237) (i := 2) C dL_law_136 rfl ?_
  refine lw_arg (x := 5 * (j : Int)) (k := 1) (i := 0) (i4 := 4) C dL_law_137 dL_law_138 dL_law_140 dL_law_141 dL_law_142 rfl rfl (by omega) ?_
  refine lw_arg (x := 5 * (j : Int)) (k := 2) (i := 0) (i4 := 4) C dL_law_143 dL_law_144 dL_law_146 dL_law_147 dL_law_148 rfl rfl (by omega) ?_
  refine lw_callV (d := m_X9_name) C (c_X9_name hR2 (x_r _) (x_r _)) k_X9_name dL_law_149 k_ml_L_29 rfl ⟨rfl, rfl⟩ (by omega) rfl rfl ⟨Nat.le_of_ble_eq_true rfl, Nat.le_of_ble_eq_true rfl⟩ ⟨by omega, by omega⟩ rfl (Nat.le_of_ble_eq_true rfl) (fun _ _ _ _ _ h => h.2.1) ?_
  rintro _ I3 J3 R3 ⟨rfl, -, rfl, hR3, hF3⟩
  refine lw_same (tgt := 700) C dL_law_152 rfl ?_
  exact K _ _ (by omega) (by omega) I3 J3 π2 _ _ _ (z_CIr hI2 hF3) hR3
set_option maxHeartbeats 4000000 in
theorem lw_c1 (C : z_LX p l s m meth c G b N xs) (hj : 5 * j + 5 ≤ N) (K : z_K7 p l e s m below meth c G b j) (hI : z_CI I J π mm L t) (hR : z_RI I J mm L t) : LW p l e s m below meth c G b (255 + j) (3816 + 6 * j) 157 (z_lb b G j) [] I J (z_R π) := by
  have hN := C.2.2.2.2.2
  refine lw_aload (a := 0) (i := 1) C dL_law_157 rfl ?_
  refine lw_arg (x := 5 * (j : Int)) (k := 1) (i := 0) (i4 := 4) C dL_law_158 dL_law_159 dL_law_161 dL_law_162 dL_law_163 rfl rfl (by omega) ?_
  refine lw_callV (d := m_X8_row) C (c_X8_row hI (x_r _)) k_X8_row dL_law_164 k_ml_L_30 rfl ⟨rfl, rfl⟩ (by omega) rfl rfl ⟨Nat.le_of_ble_eq_true rfl, Nat.le_of_ble_eq_true rfl⟩ ⟨by omega, by omega⟩ rfl (Nat.le_of_ble_eq_true rfl) (fun _ _ _ _ _ h => h.2.1) ?_
  rintro _ I2 J2 R2 ⟨rfl, -, π2, rfl, hI2, hF2⟩
  have hR2 := z_RIc hR hF2
  refine lw_aload (a := 237) (i := 2) C dL_law_167 rfl ?_
  refine lw_arg (x := 5 * (j : Int)) (k := 1) (i := 0) (i4 := 4) C dL_law_168 dL_law_169 dL_law_171 dL_law_172 dL_law_173 rfl rfl (by omega) ?_
  refine lw_callV (d := m_X9_row) C (c_X9_row hR2 (x_r _)) k_X9_row dL_law_174 k_ml_L_34 rfl ⟨rfl, rfl⟩ (by omega) rfl rfl ⟨Nat.le_of_ble_eq_true rfl, Nat.le_of_ble_eq_true rfl⟩ ⟨by omega, by omega⟩ rfl (Nat.le_of_ble_eq_true rfl) (fun _ _ _ _ _ h => h.2.1) ?_
  rintro _ I3 J3 R3 ⟨rfl, -, rfl, hR3, hF3⟩
  refine lw_same (tgt := 700) C dL_law_177 rfl ?_
  exact K _ _ (by omega) (by omega) I3 J3 π2 _ _ _ (z_CIr hI2 hF3) hR3
set_option maxHeartbeats 4000000 in
theorem lw_c2 (C : z_LX p l s m meth c G b N xs) (hj : 5 * j + 5 ≤ N) (K : z_K7 p l e s m below meth c G b j) (hI : z_CI I J π mm L t) (hR : z_RI I J mm L t) : LW p l e s m below meth c G b (255 + j) (3816 + 6 * j) 182 (z_lb b G j) [] I J (z_R π) := by
  have hN := C.2.2.2.2.2
  refine lw_aload (a := 0) (i := 1) C dL_law_182 rfl ?_
  refine lw_arg (x := 5 * (j : Int)) (k := 1) (i := 0) (i4 := 4) C dL_law_183 dL_law_184 dL_law_186 dL_law_187 dL_law_188 rfl rfl (by omega) ?_
  refine lw_arg (x := 5 * (j : Int)) (k := 2) (i := 0) (i4 := 4) C dL_law_189 dL_law_190 dL_law_192 dL_law_193 dL_law_194 rfl rfl (by omega) ?_
  refine lw_arg (x := 5 * (j : Int)) (k := 3) (i := 0) (i4 := 4) C dL_law_195 dL_law_196 dL_law_198 dL_law_199 dL_law_200 rfl rfl (by omega) ?_
  refine lw_callV (d := m_X8_factor) C (c_X8_factor hI (x_r _) (x_r _) (x_r _)) k_X8_factor dL_law_201 k_ml_L_35 rfl ⟨rfl, rfl⟩ (by omega) rfl rfl ⟨Nat.le_of_ble_eq_true rfl, Nat.le_of_ble_eq_true rfl⟩ ⟨by omega, by omega⟩ rfl (Nat.le_of_ble_eq_true rfl) (fun _ _ _ _ _ h => h.2.1) ?_
  rintro _ I2 J2 R2 ⟨rfl, -, π2, rfl, hI2, hF2⟩
  have hR2 := z_RIc hR hF2
  refine lw_aload (a := 237) (i := 2) C dL_law_204 rfl ?_
  refine lw_arg (x := 5 * (j : Int)) (k := 1) (i := 0) (i4 := 4) C dL_law_205 dL_law_206 dL_law_208 dL_law_209 dL_law_210 rfl rfl (by omega) ?_
  refine lw_arg (x := 5 * (j : Int)) (k := 2) (i := 0) (i4 := 4) C dL_law_211 dL_law_212 dL_law_214 dL_law_215 dL_law_216 rfl rfl (by omega) ?_
  refine lw_arg (x := 5 * (j : Int)) (k := 3) (i := 0) (i4 := 4) C dL_law_217 dL_law_218 dL_law_220 dL_law_221 dL_law_222 rfl rfl (by omega) ?_
  refine lw_callV (d := m_X9_factor) C (c_X9_factor hR2 (x_r _) (x_r _) (x_r _)) k_X9_factor dL_law_223 k_ml_L_38 rfl ⟨rfl, rfl⟩ (by omega) rfl rfl ⟨Nat.le_of_ble_eq_true rfl, Nat.le_of_ble_eq_true rfl⟩ ⟨by omega, by omega⟩ rfl (Nat.le_of_ble_eq_true rfl) (fun _ _ _ _ _ h => h.2.1) ?_
  rintro _ I3 J3 R3 ⟨rfl, -, rfl, hR3, hF3⟩
  refine lw_same (tgt := 700) C dL_law_226 rfl ?_
  exact K _ _ (by omega) (by omega) I3 J3 π2 _ _ _ (z_CIr hI2 hF3) hR3
set_option maxHeartbeats 4000000 in
theorem lw_c3 (C : z_LX p l s m meth c G b N xs) (hj : 5 * j + 5 ≤ N) (K : z_K7 p l e s m below meth c G b j) (hI : z_CI I J π mm L t) (hR : z_RI I J mm L t) : LW p l e s m below meth c G b (255 + j) (3816 + 6 * j) 231 (z_lb b G j) [] I J (z_R π) := by
  have hN := C.2.2.2.2.2
  refine lw_aload (a := 0) (i := 1) C dL_law_231 rfl ?_
  refine lw_arg (x := 5 * (j : Int)) (k := 1) (i := 0) (i4 := 4) C dL_law_232 dL_law_233 dL_law_235 dL_law_236 dL_law_237 rfl rfl (by omega) ?_
  refine lw_arg (x := 5 * (j : Int)) (k := 2) (i := 0) (i4 := 4) C dL_law_238 dL_law_239 dL_law_241 dL_law_242 dL_law_243 rfl rfl (by omega) ?_
  refine lw_arg (x := 5 * (j : Int)) (k := 3) (i := 0) (i4 := 4) C dL_law_244 dL_law_245 dL_law_247 dL_law_248 dL_law_249 rfl rfl (by omega) ?_
  refine lw_callV (d := m_X8_point) C (c_X8_point hI (x_r _) (x_r _) (x_r _)) k_X8_point dL_law_250 k_ml_L_39 rfl ⟨rfl, rfl⟩ (by omega) rfl rfl ⟨Nat.le_of_ble_eq_true rfl, Nat.le_of_ble_eq_true rfl⟩ ⟨by omega, by omega⟩ rfl (Nat.le_of_ble_eq_true rfl) (fun _ _ _ _ _ h => h.2.1) ?_
  rintro _ I2 J2 R2 ⟨rfl, -, π2, rfl, hI2, hF2⟩
  have hR2 := z_RIc hR hF2
  refine lw_aload (a := 237) (i := 2) C dL_law_253 rfl ?_
  refine lw_arg (x := 5 * (j : Int)) (k := 1) (i := 0) (i4 := 4) C dL_law_254 dL_law_255 dL_law_257 dL_law_258 dL_law_259 rfl rfl (by omega) ?_
  refine lw_arg (x := 5 * (j : Int)) (k := 2) (i := 0) (i4 := 4) C dL_law_260 dL_law_261 dL_law_263 dL_law_264 dL_law_265 rfl rfl (by omega) ?_
  refine lw_arg (x := 5 * (j : Int)) (k := 3) (i := 0) (i4 := 4) C dL_law_266 dL_law_267 dL_law_269 dL_law_270 dL_law_271 rfl rfl (by omega) ?_
  refine lw_callV (d := m_X9_point) C (c_X9_point hR2 (x_r _) (x_r _) (x_r _)) k_X9_point dL_law_272 k_ml_L_42 rfl ⟨rfl, rfl⟩ (by omega) rfl rfl ⟨Nat.le_of_ble_eq_true rfl, Nat.le_of_ble_eq_true rfl⟩ ⟨by omega, by omega⟩ rfl (Nat.le_of_ble_eq_true rfl) (fun _ _ _ _ _ h => h.2.1) ?_
  rintro _ I3 J3 R3 ⟨rfl, -, rfl, hR3, hF3⟩
  refine lw_same (tgt := 700) C dL_law_275 rfl ?_
  exact K _ _ (by omega) (by omega) I3 J3 π2 _ _ _ (z_CIr hI2 hF3) hR3
set_option maxHeartbeats 4000000 in
theorem lw_c4 (C : z_LX p l s m meth c G b N xs) (hj : 5 * j + 5 ≤ N) (K : z_K7 p l e s m below meth c G b j) (hI : z_CI I J π mm L t) (hR : z_RI I J mm L t) : LW p l e s m below meth c G b (255 + j) (3816 + 6 * j) 280 (z_lb b G j) [] I J (z_R π) := by
  have hN := C.2.2.2.2.2
  refine lw_aload (a := 0) (i := 1) C dL_law_280 rfl ?_
  refine lw_arg (x := 5 * (j : Int)) (k := 1) (i := 0) (i4 := 4) C dL_law_281 dL_law_282 dL_law_284 dL_law_285 dL_law_286 rfl rfl (by omega) ?_
  refine lw_callV (d := m_X8_find) C (c_X8_find hI (x_r _)) k_X8_find dL_law_287 k_ml_L_43 rfl ⟨rfl, rfl⟩ (by omega) rfl rfl ⟨Nat.le_of_ble_eq_true rfl, Nat.le_of_ble_eq_true rfl⟩ ⟨by omega, by omega⟩ rfl (Nat.le_of_ble_eq_true rfl) (fun _ _ _ _ _ h => h.2.1) ?_
  rintro _ I2 J2 R2 ⟨rfl, -, π2, rfl, hI2, hF2⟩
  have hR2 := z_RIc hR hF2
  refine lw_aload (a := 237) (i := 2) C dL_law_290 rfl ?_
  refine lw_arg (x := 5 * (j : Int)) (k := 1) (i := 0) (i4 := 4) C dL_law_291 dL_law_292 dL_law_294 dL_law_295 dL_law_296 rfl rfl (by omega) ?_
  refine lw_callV (d := m_X9_find) C (c_X9_find hR2 (x_r _)) k_X9_find dL_law_297 k_ml_L_46 rfl ⟨rfl, rfl⟩ (by omega) rfl rfl ⟨Nat.le_of_ble_eq_true rfl, Nat.le_of_ble_eq_true rfl⟩ ⟨by omega, by omega⟩ rfl (Nat.le_of_ble_eq_true rfl) (fun _ _ _ _ _ h => h.2.1) ?_
  rintro _ I3 J3 R3 ⟨rfl, -, rfl, hR3, hF3⟩
  refine lw_same (tgt := 700) C dL_law_300 rfl ?_
  exact K _ _ (by omega) (by omega) I3 J3 π2 _ _ _ (z_CIr hI2 hF3) hR3
set_option maxHeartbeats 4000000 in
theorem lw_c5 (C : z_LX p l s m meth c G b N xs) (hj : 5 * j + 5 ≤ N) (K : z_K7 p l e s m below meth c G b j) (hI : z_CI I J π mm L t) (hR : z_RI I J mm L t) : LW p l e s m below meth c G b (255 + j) (3816 + 6 * j) 305 (z_lb b G j) [] I J (z_R π) := by
  have hN := C.2.2.2.2.2
  refine lw_aload (a := 0) (i := 1) C dL_law_305 rfl ?_
  refine lw_callV (d := m_X8_closed) C (c_X8_closed hI) k_X8_closed dL_law_306 k_ml_L_47 rfl ⟨rfl, rfl⟩ (by omega) rfl rfl ⟨Nat.le_of_ble_eq_true rfl, Nat.le_of_ble_eq_true rfl⟩ ⟨by omega, by omega⟩ rfl (Nat.le_of_ble_eq_true rfl) (fun _ _ _ _ _ h => h.2.1) ?_
  rintro _ I2 J2 R2 ⟨rfl, -, π2, rfl, hI2, hF2⟩
  have hR2 := z_RIc hR hF2
  refine lw_aload (a := 237) (i := 2) C dL_law_309 rfl ?_
  refine lw_callV (d := m_X9_closed) C (c_X9_closed hR2) k_X9_closed dL_law_310 k_ml_L_51 rfl ⟨rfl, rfl⟩ (by omega) rfl rfl ⟨Nat.le_of_ble_eq_true rfl, Nat.le_of_ble_eq_true rfl⟩ ⟨by omega, by omega⟩ rfl (Nat.le_of_ble_eq_true rfl) (fun _ _ _ _ _ h => h.2.1) ?_
  rintro _ I3 J3 R3 ⟨rfl, -, rfl, hR3, hF3⟩
  refine lw_same (tgt := 700) C dL_law_313 rfl ?_
  exact K _ _ (by omega) (by omega) I3 J3 π2 _ _ _ (z_CIr hI2 hF3) hR3
set_option maxHeartbeats 4000000 in
theorem lw_c7 (C : z_LX p l s m meth c G b N xs) (hj : 5 * j + 5 ≤ N) (K : z_K7 p l e s m below meth c G b j) (hI : z_CI I J π mm L t) (hR : z_RI I J mm L t) : LW p l e s m below meth c G b (255 + j) (3816 + 6 * j) 398 (z_lb b G j) [] I J (z_R π) := by
  have hN := C.2.2.2.2.2
  refine lw_aload (a := 0) (i := 1) C dL_law_398 rfl ?_
  refine lw_arg (x := 5 * (j : Int)) (k := 1) (i := 0) (i4 := 4) C dL_law_399 dL_law_400 dL_law_402 dL_law_403 dL_law_404 rfl rfl (by omega) ?_
  refine lw_arg (x := 5 * (j : Int)) (k := 2) (i := 0) (i4 := 4) C dL_law_405 dL_law_406 dL_law_408 dL_law_409 dL_law_410 rfl rfl (by omega) ?_
  refine lw_arg (x := 5 * (j : Int)) (k := 3) (i := 0) (i4 := 4) C dL_law_411 dL_law_412 dL_law_414 dL_law_415 dL_law_416 rfl rfl (by omega) ?_
  refine lw_callV (d := m_X8_proof) C (c_X8_proof hI (x_r _) (x_r _) (x_r _)) k_X8_proof dL_law_417 k_ml_L_61 rfl ⟨rfl, rfl⟩ (by omega) rfl rfl ⟨Nat.le_of_ble_eq_true rfl, Nat.le_of_ble_eq_true rfl⟩ ⟨by omega, by omega⟩ rfl (Nat.le_of_ble_eq_true rfl) (fun _ _ _ _ _ h => h.2.1) ?_
  rintro _ I2 J2 R2 ⟨rfl, -, π2, rfl, hI2, hF2⟩
  have hR2 := z_RIc hR hF2
  refine lw_aload (a := 237) (i := 2) C dL_law_420 rfl ?_
  refine lw_arg (x := 5 * (j : Int)) (k := 1) (i := 0) (i4 := 4) C dL_law_421 dL_law_422 dL_law_424 dL_law_425 dL_law_426 rfl rfl (by omega) ?_
  refine lw_arg (x := 5 * (j : Int)) (k := 2) (i := 0) (i4 := 4) C dL_law_427 dL_law_428 dL_law_430 dL_law_431 dL_law_432 rfl rfl (by omega) ?_
  refine lw_arg (x := 5 * (j : Int)) (k := 3) (i := 0) (i4 := 4) C dL_law_433 dL_law_434 dL_law_436 dL_law_437 dL_law_438 rfl rfl (by omega) ?_
  refine lw_callV (d := m_X9_proof) C (c_X9_proof hR2 (x_r _) (x_r _) (x_r _)) k_X9_proof dL_law_439 k_ml_L_64 rfl ⟨rfl, rfl⟩ (by omega) rfl rfl ⟨Nat.le_of_ble_eq_true rfl, Nat.le_of_ble_eq_true rfl⟩ ⟨by omega, by omega⟩ rfl (Nat.le_of_ble_eq_true rfl) (fun _ _ _ _ _ h => h.2.1) ?_
  rintro _ I3 J3 R3 ⟨rfl, -, rfl, hR3, hF3⟩
  refine lw_same (tgt := 700) C dL_law_442 rfl ?_
  exact K _ _ (by omega) (by omega) I3 J3 π2 _ _ _ (z_CIr hI2 hF3) hR3
set_option maxHeartbeats 4000000 in
theorem lw_c8 (C : z_LX p l s m meth c G b N xs) (hj : 5 * j + 5 ≤ N) (K : z_K7 p l e s m below meth c G b j) (hI : z_CI I J π mm L t) (hR : z_RI I J mm L t) : LW p l e s m below meth c G b (255 + j) (3816 + 6 * j) 447 (z_lb b G j) [] I J (z_R π) := by
  have hN := C.2.2.2.2.2
  refine lw_aload (a := 0) (i := 1) C dL_law_447 rfl ?_
  refine lw_arg (x := 5 * (j : Int)) (k := 1) (i := 0) (i4 := 4) C dL_law_448 dL_law_449 dL_law_451 dL_law_452 dL_law_453 rfl rfl (by omega) ?_
  refine lw_arg (x := 5 * (j : Int)) (k := 2) (i := 0) (i4 := 4) C dL_law_454 dL_law_455 dL_law_457 dL_law_458 dL_law_459 rfl rfl (by omega) ?_
  refine lw_arg (x := 5 * (j : Int)) (k := 3) (i := 0) (i4 := 4) C dL_law_460 dL_law_461 dL_law_463 dL_law_464 dL_law_465 rfl rfl (by omega) ?_
  refine lw_arg (x := 5 * (j : Int)) (k := 4) (i := 0) (i4 := 4) C dL_law_466 dL_law_467 dL_law_469 dL_law_470 dL_law_471 rfl rfl (by omega) ?_
  refine lw_callV (d := m_X8_plant) C (c_X8_plant hI (x_r _) (x_r _) (x_r _) (x_r _)) k_X8_plant dL_law_472 k_ml_L_65 rfl ⟨rfl, rfl⟩ (by omega) rfl rfl ⟨Nat.le_of_ble_eq_true rfl, Nat.le_of_ble_eq_true rfl⟩ ⟨by omega, by omega⟩ rfl (Nat.le_of_ble_eq_true rfl) (fun _ _ _ _ _ h => h.2.1) ?_
  rintro _ I2 J2 R2 ⟨rfl, -, π2, rfl, hI2, hF2⟩
  have hR2 := z_RIc hR hF2
  refine lw_aload (a := 237) (i := 2) C dL_law_475 rfl ?_
  refine lw_arg (x := 5 * (j : Int)) (k := 1) (i := 0) (i4 := 4) C dL_law_476 dL_law_477 dL_law_479 dL_law_480 dL_law_481 rfl rfl (by omega) ?_
  refine lw_arg (x := 5 * (j : Int)) (k := 2) (i := 0) (i4 := 4) C dL_law_482 dL_law_483 dL_law_485 dL_law_486 dL_law_487 rfl rfl (by omega) ?_
  refine lw_arg (x := 5 * (j : Int)) (k := 3) (i := 0) (i4 := 4) C dL_law_488 dL_law_489 dL_law_491 dL_law_492 dL_law_493 rfl rfl (by omega) ?_
  refine lw_arg (x := 5 * (j : Int)) (k := 4) (i := 0) (i4 := 4) C dL_law_494 dL_law_495 dL_law_497 dL_law_498 dL_law_499 rfl rfl (by omega) ?_
  refine lw_callV (d := m_X9_plant) C (c_X9_plant hR2 (x_r _) (x_r _) (x_r _) (x_r _)) k_X9_plant dL_law_500 k_ml_L_69 rfl ⟨rfl, rfl⟩ (by omega) rfl rfl ⟨Nat.le_of_ble_eq_true rfl, Nat.le_of_ble_eq_true rfl⟩ ⟨by omega, by omega⟩ rfl (Nat.le_of_ble_eq_true rfl) (fun _ _ _ _ _ h => h.2.1) ?_
  rintro _ I3 J3 R3 ⟨rfl, -, rfl, hR3, hF3⟩
  refine lw_same (tgt := 700) C dL_law_503 rfl ?_
  exact K _ _ (by omega) (by omega) I3 J3 π2 _ _ _ (z_CIr hI2 hF3) hR3
set_option maxHeartbeats 4000000 in
theorem lw_c9 (C : z_LX p l s m meth c G b N xs) (hj : 5 * j + 5 ≤ N) (K : z_K7 p l e s m below meth c G b j) (hI : z_CI I J π mm L t) (hR : z_RI I J mm L t) : LW p l e s m below meth c G b (255 + j) (3816 + 6 * j) 508 (z_lb b G j) [] I J (z_R π) := by
  have hN := C.2.2.2.2.2
  refine lw_aload (a := 0) (i := 1) C dL_law_508 rfl ?_
  refine lw_arg (x := 5 * (j : Int)) (k := 1) (i := 0) (i4 := 4) C dL_law_509 dL_law_510 dL_law_512 dL_law_513 dL_law_514 rfl rfl (by omega) ?_
  refine lw_callV (d := m_X8_check) C (c_X8_check hI (x_r _)) k_X8_check dL_law_515 k_ml_L_70 rfl ⟨rfl, rfl⟩ (by omega) rfl rfl ⟨Nat.le_of_ble_eq_true rfl, Nat.le_of_ble_eq_true rfl⟩ ⟨by omega, by omega⟩ rfl (Nat.le_of_ble_eq_true rfl) (fun _ _ _ _ _ h => h.2.1) ?_
  rintro _ I2 J2 R2 ⟨rfl, -, π2, rfl, hI2, hF2⟩
  have hR2 := z_RIc hR hF2
  refine lw_aload (a := 237) (i := 2) C dL_law_518 rfl ?_
  refine lw_arg (x := 5 * (j : Int)) (k := 1) (i := 0) (i4 := 4) C dL_law_519 dL_law_520 dL_law_522 dL_law_523 dL_law_524 rfl rfl (by omega) ?_
  refine lw_callV (d := m_X9_check) C (c_X9_check hR2 (x_r _)) k_X9_check dL_law_525 k_ml_L_73 rfl ⟨rfl, rfl⟩ (by omega) rfl rfl ⟨Nat.le_of_ble_eq_true rfl, Nat.le_of_ble_eq_true rfl⟩ ⟨by omega, by omega⟩ rfl (Nat.le_of_ble_eq_true rfl) (fun _ _ _ _ _ h => h.2.1) ?_
  rintro _ I3 J3 R3 ⟨rfl, -, rfl, hR3, hF3⟩
  refine lw_same (tgt := 700) C dL_law_528 rfl ?_
  exact K _ _ (by omega) (by omega) I3 J3 π2 _ _ _ (z_CIr hI2 hF3) hR3
set_option maxHeartbeats 4000000 in
theorem lw_c11 (C : z_LX p l s m meth c G b N xs) (hj : 5 * j + 5 ≤ N) (K : z_K7 p l e s m below meth c G b j) (hI : z_CI I J π mm L t) (hR : z_RI I J mm L t) : LW p l e s m below meth c G b (255 + j) (3816 + 6 * j) 600 (z_lb b G j) [] I J (z_R π) := by
  have hN := C.2.2.2.2.2
  refine lw_aload (a := 0) (i := 1) C dL_law_600 rfl ?_
  refine lw_callV (d := m_X8_best) C (c_X8_best hI) k_X8_best dL_law_601 k_ml_L_78 rfl ⟨rfl, rfl⟩ (by omega) rfl rfl ⟨Nat.le_of_ble_eq_true rfl, Nat.le_of_ble_eq_true rfl⟩ ⟨by omega, by omega⟩ rfl (Nat.le_of_ble_eq_true rfl) (fun _ _ _ _ _ h => h.2.1) ?_
  rintro _ I2 J2 R2 ⟨rfl, -, π2, rfl, hI2, hF2⟩
  have hR2 := z_RIc hR hF2
  refine lw_aload (a := 237) (i := 2) C dL_law_604 rfl ?_
  refine lw_callV (d := m_X9_best) C (c_X9_best hR2) k_X9_best dL_law_605 k_ml_L_81 rfl ⟨rfl, rfl⟩ (by omega) rfl rfl ⟨Nat.le_of_ble_eq_true rfl, Nat.le_of_ble_eq_true rfl⟩ ⟨by omega, by omega⟩ rfl (Nat.le_of_ble_eq_true rfl) (fun _ _ _ _ _ h => h.2.1) ?_
  rintro _ I3 J3 R3 ⟨rfl, -, rfl, hR3, hF3⟩
  refine lw_same (tgt := 700) C dL_law_608 rfl ?_
  exact K _ _ (by omega) (by omega) I3 J3 π2 _ _ _ (z_CIr hI2 hF3) hR3
set_option maxHeartbeats 4000000 in
theorem lw_c12 (C : z_LX p l s m meth c G b N xs) (hj : 5 * j + 5 ≤ N) (K : z_K7 p l e s m below meth c G b j) (hI : z_CI I J π mm L t) (hR : z_RI I J mm L t) : LW p l e s m below meth c G b (255 + j) (3816 + 6 * j) 613 (z_lb b G j) [] I J (z_R π) := by
  have hN := C.2.2.2.2.2
  refine lw_aload (a := 0) (i := 1) C dL_law_613 rfl ?_
  refine lw_arg (x := 5 * (j : Int)) (k := 1) (i := 0) (i4 := 4) C dL_law_614 dL_law_615 dL_law_617 dL_law_618 dL_law_619 rfl rfl (by omega) ?_
  refine lw_callV (d := m_X8_holds) C (c_X8_holds hI (x_r _)) k_X8_holds dL_law_620 k_ml_L_82 rfl ⟨rfl, rfl⟩ (by omega) rfl rfl ⟨Nat.le_of_ble_eq_true rfl, Nat.le_of_ble_eq_true rfl⟩ ⟨by omega, by omega⟩ rfl (Nat.le_of_ble_eq_true rfl) (fun _ _ _ _ _ h => h.2.1) ?_
  rintro _ I2 J2 R2 ⟨rfl, -, π2, rfl, hI2, hF2⟩
  have hR2 := z_RIc hR hF2
  refine lw_aload (a := 237) (i := 2) C dL_law_623 rfl ?_
  refine lw_arg (x := 5 * (j : Int)) (k := 1) (i := 0) (i4 := 4) C dL_law_624 dL_law_625 dL_law_627 dL_law_628 dL_law_629 rfl rfl (by omega) ?_
  refine lw_callV (d := m_X9_holds) C (c_X9_holds hR2 (x_r _)) k_X9_holds dL_law_630 k_ml_L_85 rfl ⟨rfl, rfl⟩ (by omega) rfl rfl ⟨Nat.le_of_ble_eq_true rfl, Nat.le_of_ble_eq_true rfl⟩ ⟨by omega, by omega⟩ rfl (Nat.le_of_ble_eq_true rfl) (fun _ _ _ _ _ h => h.2.1) ?_
  rintro _ I3 J3 R3 ⟨rfl, -, rfl, hR3, hF3⟩
  refine lw_same (tgt := 700) C dL_law_633 rfl ?_
  exact K _ _ (by omega) (by omega) I3 J3 π2 _ _ _ (z_CIr hI2 hF3) hR3
set_option maxHeartbeats 4000000 in
theorem lw_c13 (C : z_LX p l s m meth c G b N xs) (hj : 5 * j + 5 ≤ N) (K : z_K7 p l e s m below meth c G b j) (hI : z_CI I J π mm L t) (hR : z_RI I J mm L t) : LW p l e s m below meth c G b (255 + j) (3816 + 6 * j) 638 (z_lb b G j) [] I J (z_R π) := by
  have hN := C.2.2.2.2.2
  refine lw_aload (a := 0) (i := 1) C dL_law_638 rfl ?_
  refine lw_callV (d := m_X8_plans) C (c_X8_plans hI) k_X8_plans dL_law_639 k_ml_L_86 rfl ⟨rfl, rfl⟩ (by omega) rfl rfl ⟨Nat.le_of_ble_eq_true rfl, Nat.le_of_ble_eq_true rfl⟩ ⟨by omega, by omega⟩ rfl (Nat.le_of_ble_eq_true rfl) (fun _ _ _ _ _ h => h.2.1) ?_
  rintro _ I2 J2 R2 ⟨rfl, -, π2, rfl, hI2, hF2⟩
  have hR2 := z_RIc hR hF2
  refine lw_aload (a := 237) (i := 2) C dL_law_642 rfl ?_
  refine lw_callV (d := m_X9_plans) C (c_X9_plans hR2) k_X9_plans dL_law_643 k_ml_L_89 rfl ⟨rfl, rfl⟩ (by omega) rfl rfl ⟨Nat.le_of_ble_eq_true rfl, Nat.le_of_ble_eq_true rfl⟩ ⟨by omega, by omega⟩ rfl (Nat.le_of_ble_eq_true rfl) (fun _ _ _ _ _ h => h.2.1) ?_
  rintro _ I3 J3 R3 ⟨rfl, -, rfl, hR3, hF3⟩
  refine lw_same (tgt := 700) C dL_law_646 rfl ?_
  exact K _ _ (by omega) (by omega) I3 J3 π2 _ _ _ (z_CIr hI2 hF3) hR3
set_option maxHeartbeats 4000000 in
theorem lw_c14 (C : z_LX p l s m meth c G b N xs) (hj : 5 * j + 5 ≤ N) (K : z_K7 p l e s m below meth c G b j) (hI : z_CI I J π mm L t) (hR : z_RI I J mm L t) : LW p l e s m below meth c G b (255 + j) (3816 + 6 * j) 651 (z_lb b G j) [] I J (z_R π) := by
  have hN := C.2.2.2.2.2
  refine lw_aload (a := 0) (i := 1) C dL_law_651 rfl ?_
  refine lw_callV (d := m_X8_turn) C (c_X8_turn hI) k_X8_turn dL_law_652 k_ml_L_90 rfl ⟨rfl, rfl⟩ (by omega) rfl rfl ⟨Nat.le_of_ble_eq_true rfl, Nat.le_of_ble_eq_true rfl⟩ ⟨by omega, by omega⟩ rfl (Nat.le_of_ble_eq_true rfl) (fun _ _ _ _ _ h => h.2.1) ?_
  rintro _ I2 J2 R2 ⟨rfl, -, π2, rfl, hI2, hF2⟩
  have hR2 := z_RIc hR hF2
  refine lw_aload (a := 237) (i := 2) C dL_law_655 rfl ?_
  refine lw_callV (d := m_X9_turn) C (c_X9_turn hR2) k_X9_turn dL_law_656 k_ml_L_93 rfl ⟨rfl, rfl⟩ (by omega) rfl rfl ⟨Nat.le_of_ble_eq_true rfl, Nat.le_of_ble_eq_true rfl⟩ ⟨by omega, by omega⟩ rfl (Nat.le_of_ble_eq_true rfl) (fun _ _ _ _ _ h => h.2.1) ?_
  rintro _ I3 J3 R3 ⟨rfl, -, rfl, hR3, hF3⟩
  refine lw_same (tgt := 700) C dL_law_659 rfl ?_
  exact K _ _ (by omega) (by omega) I3 J3 π2 _ _ _ (z_CIr hI2 hF3) hR3
set_option maxHeartbeats 4000000 in
theorem lw_c15 (C : z_LX p l s m meth c G b N xs) (hj : 5 * j + 5 ≤ N) (K : z_K7 p l e s m below meth c G b j) (hI : z_CI I J π mm L t) (hR : z_RI I J mm L t) : LW p l e s m below meth c G b (255 + j) (3816 + 6 * j) 664 (z_lb b G j) [] I J (z_R π) := by
  have hN := C.2.2.2.2.2
  refine lw_aload (a := 0) (i := 1) C dL_law_664 rfl ?_
  refine lw_arg (x := 5 * (j : Int)) (k := 1) (i := 0) (i4 := 4) C dL_law_665 dL_law_666 dL_law_668 dL_law_669 dL_law_670 rfl rfl (by omega) ?_
  refine lw_callV (d := m_X8_told) C (c_X8_told hI (x_r _)) k_X8_told dL_law_671 k_ml_L_94 rfl ⟨rfl, rfl⟩ (by omega) rfl rfl ⟨Nat.le_of_ble_eq_true rfl, Nat.le_of_ble_eq_true rfl⟩ ⟨by omega, by omega⟩ rfl (Nat.le_of_ble_eq_true rfl) (fun _ _ _ _ _ h => h.2.1) ?_
  rintro _ I2 J2 R2 ⟨rfl, -, π2, rfl, hI2, hF2⟩
  have hR2 := z_RIc hR hF2
  refine lw_aload (a := 237) (i := 2) C dL_law_674 rfl ?_
  refine lw_arg (x := 5 * (j : Int)) (k := 1) (i := 0) (i4 := 4) C dL_law_675 dL_law_676 dL_law_678 dL_law_679 dL_law_680 rfl rfl (by omega) ?_
  refine lw_callV (d := m_X9_told) C (c_X9_told hR2 (x_r _)) k_X9_told dL_law_681 k_ml_L_97 rfl ⟨rfl, rfl⟩ (by omega) rfl rfl ⟨Nat.le_of_ble_eq_true rfl, Nat.le_of_ble_eq_true rfl⟩ ⟨by omega, by omega⟩ rfl (Nat.le_of_ble_eq_true rfl) (fun _ _ _ _ _ h => h.2.1) ?_
  rintro _ I3 J3 R3 ⟨rfl, -, rfl, hR3, hF3⟩
  refine lw_same (tgt := 700) C dL_law_684 rfl ?_
  exact K _ _ (by omega) (by omega) I3 J3 π2 _ _ _ (z_CIr hI2 hF3) hR3
set_option maxHeartbeats 4000000 in
theorem lw_c16 (C : z_LX p l s m meth c G b N xs) (hj : 5 * j + 5 ≤ N) (K : z_K7 p l e s m below meth c G b j) (hI : z_CI I J π mm L t) (hR : z_RI I J mm L t) : LW p l e s m below meth c G b (255 + j) (3816 + 6 * j) 689 (z_lb b G j) [] I J (z_R π) := by
  have hN := C.2.2.2.2.2
  refine lw_aload (a := 0) (i := 1) C dL_law_689 rfl ?_
  refine lw_callV (d := m_X8_clear) C (c_X8_clear hI) k_X8_clear dL_law_690 k_ml_L_98 rfl ⟨rfl, rfl⟩ (by omega) rfl rfl ⟨Nat.le_of_ble_eq_true rfl, Nat.le_of_ble_eq_true rfl⟩ ⟨by omega, by omega⟩ rfl (Nat.le_of_ble_eq_true rfl) (fun _ _ _ _ _ h => h.2.1) ?_
  rintro _ I2 J2 R2 ⟨rfl, -, π2, rfl, hI2, hF2⟩
  have hR2 := z_RIc hR hF2
  refine lw_aload (a := 237) (i := 2) C dL_law_693 rfl ?_
  refine lw_callV (d := m_X9_clear) C (c_X9_clear hR2) k_X9_clear dL_law_694 k_ml_L_101 rfl ⟨rfl, rfl⟩ (by omega) rfl rfl ⟨Nat.le_of_ble_eq_true rfl, Nat.le_of_ble_eq_true rfl⟩ ⟨by omega, by omega⟩ rfl (Nat.le_of_ble_eq_true rfl) (fun _ _ _ _ _ h => h.2.1) ?_
  rintro _ I3 J3 R3 ⟨rfl, -, rfl, hR3, hF3⟩
  refine lw_goto (tgt := 700) C dL_law_697 rfl ?_
  exact K _ _ (by omega) (by omega) I3 J3 π2 _ _ _ (z_CIr hI2 hF3) hR3
set_option maxHeartbeats 4000000 in
theorem lw_c6 (C : z_LX p l s m meth c G b N xs) (hj : 5 * j + 5 ≤ N) (K : z_K7 p l e s m below meth c G b j) (hI : z_CI I J π mm L t) (hR : z_RI I J mm L t) : LW p l e s m below meth c G b (255 + j) (3816 + 6 * j) 318 (z_lb b G j) [] I J (z_R π) := by
  have hN := C.2.2.2.2.2
  refine lw_aload (a := 0) (i := 1) C dL_law_318 rfl ?_
  refine lw_arg (x := 5 * (j : Int)) (k := 1) (i := 0) (i4 := 4) C dL_law_319 dL_law_320 dL_law_322 dL_law_323 dL_law_324 rfl rfl (by omega) ?_
  refine lw_arg (x := 5 * (j : Int)) (k := 2) (i := 0) (i4 := 4) C dL_law_325 dL_law_326 dL_law_328 dL_law_329 dL_law_330 rfl rfl (by omega) ?_
  refine lw_arg (x := 5 * (j : Int)) (k := 3) (i := 0) (i4 := 4) C dL_law_331 dL_law_332 dL_law_334 dL_law_335 dL_law_336 rfl rfl (by omega) ?_
  refine lw_aload (a := 254) (i := 3) C dL_law_337 rfl ?_
  refine lw_callH (d := m_L_cut) C (c_L_cut hI (x_r _) (x_r _) (x_r _)) k_L_cut dL_law_338 k_ml_L_52 rfl ⟨Nat.le_of_ble_eq_true rfl, Nat.le_of_ble_eq_true rfl⟩ ⟨by show 255 + j + 1 ≤ _; omega, by show 3816 + 6 * j + 6 ≤ _; omega⟩ rfl (Nat.le_of_ble_eq_true rfl) (fun _ _ _ _ _ h => h.2.1) ?_
  rintro _ I2 J2 R2 ⟨rfl, -, rfl, rfl, h012, hJ2, hJ0⟩
  show LW p l e s m below meth c G b (255 + j + 1) (3816 + 6 * j + 6) _ _ _ _ _ _
  have hv9 := z_rCu_r hI ((xs (5 * (j : Int) + 1).toNat).toInt) ((xs (5 * (j : Int) + 2).toNat).toInt) ((xs (5 * (j : Int) + 3).toNat).toInt)
  have hI2 : z_CI I2 J2 π mm L t := hI.frame (fun _ _ _ => rfl) (fun k => hJ2 4 k (by omega))
  have hR2 : z_RI I2 J2 mm L t := hR.frame ⟨fun _ _ _ => rfl, fun a k q => hJ2 a k (by omega)⟩
  refine lw_istore (n := 5) (lv' := (5, .int (Int32.ofInt (z_rCu mm L ((xs (5 * (j : Int) + 1).toNat).toInt) ((xs (5 * (j : Int) + 2).toNat).toInt) ((xs (5 * (j : Int) + 3).toNat).toInt)).2)) :: z_lb b G j) C dL_law_341 (by decide) rfl ?_
  refine lw_aload (a := 237) (i := 3) C dL_law_343 rfl ?_
  refine lw_arg (x := 5 * (j : Int)) (k := 1) (i := 1) (i4 := 5) C dL_law_344 dL_law_345 dL_law_347 dL_law_348 dL_law_349 rfl rfl (by omega) ?_
  refine lw_arg (x := 5 * (j : Int)) (k := 2) (i := 1) (i4 := 5) C dL_law_350 dL_law_351 dL_law_353 dL_law_354 dL_law_355 rfl rfl (by omega) ?_
  refine lw_arg (x := 5 * (j : Int)) (k := 3) (i := 1) (i4 := 5) C dL_law_356 dL_law_357 dL_law_359 dL_law_360 dL_law_361 rfl rfl (by omega) ?_
  refine lw_callV (d := m_X9_cut) C (c_X9_cut hR2 (x_r _) (x_r _) (x_r _)) k_X9_cut dL_law_362 k_ml_L_57 rfl ⟨rfl, rfl⟩ (by omega) rfl rfl ⟨Nat.le_of_ble_eq_true rfl, Nat.le_of_ble_eq_true rfl⟩ ⟨by omega, by omega⟩ rfl (Nat.le_of_ble_eq_true rfl) (fun _ _ _ _ _ h => h.2.1) ?_
  rintro _ I3 J3 R3 ⟨rfl, -, rfl, hR3, hF3, hc3⟩
  refine lw_istore (n := 6) (lv' := (6, .int (Int32.ofInt (z_rCu mm L ((xs (5 * (j : Int) + 1).toNat).toInt) ((xs (5 * (j : Int) + 2).toNat).toInt) ((xs (5 * (j : Int) + 3).toNat).toInt)).1)) :: (5, .int (Int32.ofInt (z_rCu mm L ((xs (5 * (j : Int) + 1).toNat).toInt) ((xs (5 * (j : Int) + 2).toNat).toInt) ((xs (5 * (j : Int) + 3).toNat).toInt)).2)) :: z_lb b G j) C dL_law_365 (by decide) rfl ?_
  refine lw_aload (a := 237) (i := 4) C dL_law_367 rfl ?_
  refine lw_callV (d := m_X9_thrown) C (c_X9_thrown) k_X9_thrown dL_law_368 k_ml_L_58 rfl ⟨rfl, rfl⟩ (by omega) rfl rfl ⟨Nat.le_of_ble_eq_true rfl, Nat.le_of_ble_eq_true rfl⟩ ⟨by omega, by omega⟩ rfl (Nat.le_of_ble_eq_true rfl) (fun _ _ _ _ _ h => h.2.1) ?_
  rintro _ I4 J4 R4 ⟨rfl, -, rfl, rfl, rfl⟩
  rw [hc3]
  refine lw_iload (i := 1) C dL_law_371 rfl ?_
  refine lw_same (tgt := 378) C dL_law_373 rfl ?_
  refine lw_iload (i := 1) C dL_law_378 rfl ?_
  refine lw_ifne1 (tgt := 395) C dL_law_380 rfl h012 (fun _ => ?_) (fun h0 => ?_)
  · refine lw_goto (tgt := 700) C dL_law_395 rfl ?_
    refine lw_sub [2, 3, 4, 5, 6] rfl ?_
    exact K _ _ (by show 255 + j + 1 ≤ _; omega) (by show 3816 + 6 * j + 6 ≤ _; omega) _ _ π _ _ _ (z_CIr hI2 hF3) hR3
  · refine lw_aload (a := 254) (i := 5) C dL_law_383 rfl ?_
    refine lw_iconst C dL_law_384 ?_
    refine lw_laload C dL_law_385 ?_
    rw [hF3.2 254 0 (Or.inr rfl), hJ0 h0]
    refine lw_iload (i := 0) C dL_law_386 rfl ?_
    refine lw_i2l C dL_law_388 hv9 ?_
    refine lw_lsame (tgt := 395) C dL_law_389 dL_law_390 rfl ?_
    refine lw_goto (tgt := 700) C dL_law_395 rfl ?_
    refine lw_sub [2, 3, 4, 5, 6] rfl ?_
    exact K _ _ (by show 255 + j + 1 ≤ _; omega) (by show 3816 + 6 * j + 6 ≤ _; omega) _ _ π _ _ _ (z_CIr hI2 hF3) hR3
set_option maxHeartbeats 4000000 in
theorem lw_c10 (C : z_LX p l s m meth c G b N xs) (hj : 5 * j + 5 ≤ N) (K : z_K7 p l e s m below meth c G b j) (hI : z_CI I J π mm L t) (hR : z_RI I J mm L t) : LW p l e s m below meth c G b (255 + j) (3816 + 6 * j) 533 (z_lb b G j) [] I J (z_R π) := by
  have hN := C.2.2.2.2.2
  refine lw_aload (a := 0) (i := 1) C dL_law_533 rfl ?_
  refine lw_arg (x := 5 * (j : Int)) (k := 1) (i := 0) (i4 := 4) C dL_law_534 dL_law_535 dL_law_537 dL_law_538 dL_law_539 rfl rfl (by omega) ?_
  refine lw_arg (x := 5 * (j : Int)) (k := 2) (i := 0) (i4 := 4) C dL_law_540 dL_law_541 dL_law_543 dL_law_544 dL_law_545 rfl rfl (by omega) ?_
  refine lw_aload (a := 254) (i := 3) C dL_law_546 rfl ?_
  refine lw_callH (d := m_L_strength) C (c_L_strength hI (x_r _) (x_r _)) k_L_strength dL_law_547 k_ml_L_74 rfl ⟨Nat.le_of_ble_eq_true rfl, Nat.le_of_ble_eq_true rfl⟩ ⟨by show 255 + j + 1 ≤ _; omega, by show 3816 + 6 * j + 6 ≤ _; omega⟩ rfl (Nat.le_of_ble_eq_true rfl) (fun _ _ _ _ _ h => h.2.1) ?_
  rintro _ I2 J2 R2 ⟨rfl, -, rfl, rfl, h012, hJ2, hJ0⟩
  show LW p l e s m below meth c G b (255 + j + 1) (3816 + 6 * j + 6) _ _ _ _ _ _
  have hI2 : z_CI I2 J2 π mm L t := hI.frame (fun _ _ _ => rfl) (fun k => hJ2 4 k (by omega))
  have hR2 : z_RI I2 J2 mm L t := hR.frame ⟨fun _ _ _ => rfl, fun a k q => hJ2 a k (by omega)⟩
  refine lw_istore (n := 5) (lv' := (5, .int (Int32.ofInt (z_rSt mm L ((xs (5 * (j : Int) + 1).toNat).toInt) ((xs (5 * (j : Int) + 2).toNat).toInt)).2)) :: z_lb b G j) C dL_law_550 (by decide) rfl ?_
  refine lw_aload (a := 237) (i := 3) C dL_law_552 rfl ?_
  refine lw_arg (x := 5 * (j : Int)) (k := 1) (i := 1) (i4 := 5) C dL_law_553 dL_law_554 dL_law_556 dL_law_557 dL_law_558 rfl rfl (by omega) ?_
  refine lw_arg (x := 5 * (j : Int)) (k := 2) (i := 1) (i4 := 5) C dL_law_559 dL_law_560 dL_law_562 dL_law_563 dL_law_564 rfl rfl (by omega) ?_
  refine lw_callV (d := m_X9_strength) C (c_X9_strength hR2 (x_r _) (x_r _)) k_X9_strength dL_law_565 k_ml_L_77 rfl ⟨rfl, rfl⟩ (by omega) rfl rfl ⟨Nat.le_of_ble_eq_true rfl, Nat.le_of_ble_eq_true rfl⟩ ⟨by omega, by omega⟩ rfl (Nat.le_of_ble_eq_true rfl) (fun _ _ _ _ _ h => h.2.1) ?_
  rintro _ I3 J3 R3 ⟨rfl, -, rfl, hR3, hF3, hc3⟩
  refine lw_lstore (n := 6) (lv' := (6, .long (Int64.ofInt (z_rSt mm L ((xs (5 * (j : Int) + 1).toNat).toInt) ((xs (5 * (j : Int) + 2).toNat).toInt)).1)) :: (5, .int (Int32.ofInt (z_rSt mm L ((xs (5 * (j : Int) + 1).toNat).toInt) ((xs (5 * (j : Int) + 2).toNat).toInt)).2)) :: z_lb b G j) C dL_law_568 (by decide) rfl ?_
  refine lw_aload (a := 237) (i := 4) C dL_law_570 rfl ?_
  refine lw_callV (d := m_X9_thrown) C (c_X9_thrown) k_X9_thrown dL_law_571 k_ml_L_58 rfl ⟨rfl, rfl⟩ (by omega) rfl rfl ⟨Nat.le_of_ble_eq_true rfl, Nat.le_of_ble_eq_true rfl⟩ ⟨by omega, by omega⟩ rfl (Nat.le_of_ble_eq_true rfl) (fun _ _ _ _ _ h => h.2.1) ?_
  rintro _ I4 J4 R4 ⟨rfl, -, rfl, rfl, rfl⟩
  rw [hc3]
  refine lw_iload (i := 1) C dL_law_574 rfl ?_
  refine lw_same (tgt := 581) C dL_law_576 rfl ?_
  refine lw_iload (i := 1) C dL_law_581 rfl ?_
  refine lw_ifne1 (tgt := 597) C dL_law_583 rfl h012 (fun _ => ?_) (fun h0 => ?_)
  · refine lw_goto (tgt := 700) C dL_law_597 rfl ?_
    refine lw_sub [2, 3, 4, 5, 6] rfl ?_
    exact K _ _ (by show 255 + j + 1 ≤ _; omega) (by show 3816 + 6 * j + 6 ≤ _; omega) _ _ π _ _ _ (z_CIr hI2 hF3) hR3
  · refine lw_aload (a := 254) (i := 5) C dL_law_586 rfl ?_
    refine lw_iconst C dL_law_587 ?_
    refine lw_laload C dL_law_588 ?_
    rw [hF3.2 254 0 (Or.inr rfl), hJ0 h0]
    refine lw_lload (i := 0) C dL_law_589 rfl ?_
    refine lw_lsame (tgt := 597) C dL_law_591 dL_law_592 rfl ?_
    refine lw_goto (tgt := 700) C dL_law_597 rfl ?_
    refine lw_sub [2, 3, 4, 5, 6] rfl ?_
    exact K _ _ (by show 255 + j + 1 ≤ _; omega) (by show 3816 + 6 * j + 6 ≤ _; omega) _ _ π _ _ _ (z_CIr hI2 hF3) hR3
set_option maxHeartbeats 4000000 in
theorem lw_loop (C : z_LX p l s m meth c G b N xs) : ∀ (k j : Nat), N < 5 * (j + k) + 5 → j + k ≤ 512 → ∀ (I J : AwI) (π : Nat → Nat) (mm : z_MM) (L : List z_CC) (t : Int), z_CI I J π mm L t → z_RI I J mm L t → LW p l e s m below meth c G b (255 + j) (3816 + 6 * j) 23 (z_lb b G j) [] I J (z_R π) := by
  intro k
  induction k with
  | zero =>
    intro j hN5 h512 I J π mm L t hI hR
    have hN := C.2.2.2.2.2
    refine lw_head (pc := 23) (tgt := 706) (x := 5 * (j : Int)) (i := 0) (i4 := 4) C dL_law_23 dL_law_25 dL_law_26 dL_law_27 dL_law_28 dL_law_29 rfl rfl rfl (by omega) (fun _ => ?_) (fun h => absurd h (by omega))
    exact lw_end C ⟨by omega, by omega⟩
  | succ k ih =>
    intro j hN5 h512 I J π mm L t hI hR
    have hN := C.2.2.2.2.2
    refine lw_head (pc := 23) (tgt := 706) (x := 5 * (j : Int)) (i := 0) (i4 := 4) C dL_law_23 dL_law_25 dL_law_26 dL_law_27 dL_law_28 dL_law_29 rfl rfl rfl (by omega) (fun _ => lw_end C ⟨by omega, by omega⟩) (fun h => ?_)
    have hj : 5 * j + 5 ≤ N := by omega
    have K : z_K7 p l e s m below meth c G b j := by
      intro c2 s2 hc2 hs2 I2 J2 π2 mm2 L2 t2 hI2 hR2
      refine lw_widen (c2 := 255 + (j + 1)) (s2 := 3816 + 6 * (j + 1)) (by omega) (by omega) ?_
      refine lw_iinc (pc := 700) (x := 5 * (j : Int)) (i := 4) (lv' := [(4, .int (Int32.ofInt (5 * (j : Int) + 5))), (0, .ref b), (1, .ref (G.2.2 + 0)), (2, .ref (G.2.2 + 237)), (3, .ref (G.2.2 + 254))]) C dL_law_700 rfl rfl ?_
      refine lw_goto (pc := 703) (tgt := 23) C dL_law_703 rfl ?_
      refine lw_sub [1, 2, 3, 4, 0] rfl ?_
      have K2 := ih (j + 1) (by omega) (by omega) I2 J2 π2 mm2 L2 t2 hI2 hR2
      rw [show z_lb b G (j + 1) = [(0, .ref b), (1, .ref (G.2.2 + 0)), (2, .ref (G.2.2 + 237)), (3, .ref (G.2.2 + 254)), (4, .int (Int32.ofInt (5 * (j : Int) + 5)))] by unfold z_lb; rw [show 5 * ((j + 1 : Nat) : Int) = 5 * (j : Int) + 5 by omega]] at K2
      exact K2
    refine lw_arg0 (pc := 32) (x := 5 * (j : Int)) (i := 0) (i4 := 4) C dL_law_32 dL_law_33 dL_law_35 rfl rfl (by omega) ?_
    refine lw_sw C (fun q hq => ?_)
    simp only [List.mem_cons, List.not_mem_nil, or_false] at hq
    rcases hq with rfl | rfl | rfl | rfl | rfl | rfl | rfl | rfl | rfl | rfl | rfl | rfl | rfl | rfl | rfl | rfl | rfl | rfl
    · exact lw_c0 C hj K hI hR
    · exact lw_c1 C hj K hI hR
    · exact lw_c2 C hj K hI hR
    · exact lw_c3 C hj K hI hR
    · exact lw_c4 C hj K hI hR
    · exact lw_c5 C hj K hI hR
    · exact lw_c6 C hj K hI hR
    · exact lw_c7 C hj K hI hR
    · exact lw_c8 C hj K hI hR
    · exact lw_c9 C hj K hI hR
    · exact lw_c10 C hj K hI hR
    · exact lw_c11 C hj K hI hR
    · exact lw_c12 C hj K hI hR
    · exact lw_c13 C hj K hI hR
    · exact lw_c14 C hj K hI hR
    · exact lw_c15 C hj K hI hR
    · exact lw_c16 C hj K hI hR
    · exact K _ _ (by omega) (by omega) I J π mm L t hI hR
end LWC
