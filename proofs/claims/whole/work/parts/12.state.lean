/-! calls of methods whose answer and state are known -/
def z_P (v : Option AwV) (sz : Nat) (I J : AwI) (R : AwR) : ZQ := fun r sz' I' J' R' => r = v ∧ sz' = sz ∧ I' = I ∧ J' = J ∧ R' = R
def z_n0 (d : ZD) : Prop := d.2.2.2.2.cells = 0 ∧ d.2.2.2.2.slots = 0
section AWP
variable {F : ZF} {cells slots sz pc : Nat} {lv lv' : List (Option AwV)} {st stk : List AwV} {I J : AwI} {R : AwR}
theorem z_kk {d : ZD} (h0 : z_n0 d) {P : Nat → Nat → Prop} (h : P cells slots) : P (cells + d.2.2.2.2.cells) (slots + d.2.2.2.2.slots) := by
  rw [h0.1, h0.2]
  exact h
theorem aw_qV {d : ZD} {As : List AwV} {a c idx n : Nat} {Q : ZQ} (hM : CT d (zr a :: As) sz I J R Q) (hc : z_Cv d n) (hd : decode F.2.1 pc = .ok (.invokevirtual idx, 3)) (hl : Cond.methodLink F.1.cls idx d.1 ∈ z_tb) (hn : As.length = n) (h0 : z_n0 d) (ha : a < sz) (hs : z_sh a = (c + 10, z_cn c)) (hC : (vwCl[c]?).map (fun q => q.1) = some d.1.cls) (hrm : z_Rm d F) (hce : cells ≤ F.2.2.2.2.1.cells ∧ slots ≤ F.2.2.2.2.1.slots) (hst : stk = As.reverse ++ zr a :: st) (hw : (st.map z_c12).sum ≤ 8)
    (kk : ∀ r sz' I' J' R', Q r sz' I' J' R' → AW F cells slots sz' (pc + 3) lv (r.toList ++ st) I' J' R') : AW F cells slots sz pc lv stk I J R :=
  aw_invV hM hc hd hl hn ha hs hC hrm (by rw [h0.1, h0.2]; exact hce) hst hw (fun r sz' I' J' R' q => z_kk h0 (P := fun a b => AW F a b sz' (pc + 3) lv (r.toList ++ st) I' J' R') (kk r sz' I' J' R' q))
theorem aw_qS {d : ZD} {As : List AwV} {idx n : Nat} {Q : ZQ} (hM : CT d As sz I J R Q) (hc : z_Cs d n) (hd : decode F.2.1 pc = .ok (.invokestatic idx, 3)) (hl : Cond.methodLink F.1.cls idx d.1 ∈ z_tb) (hn : As.length = n) (h0 : z_n0 d) (hrm : z_Rm d F) (hce : cells ≤ F.2.2.2.2.1.cells ∧ slots ≤ F.2.2.2.2.1.slots) (hst : stk = As.reverse ++ st) (hw : (st.map z_c12).sum ≤ 8)
    (kk : ∀ r sz' I' J' R', Q r sz' I' J' R' → AW F cells slots sz' (pc + 3) lv (r.toList ++ st) I' J' R') : AW F cells slots sz pc lv stk I J R :=
  aw_invS hM hc hd hl hn hrm (by rw [h0.1, h0.2]; exact hce) hst hw (fun r sz' I' J' R' q => z_kk h0 (P := fun a b => AW F a b sz' (pc + 3) lv (r.toList ++ st) I' J' R') (kk r sz' I' J' R' q))
theorem aw_qN {d : ZD} {As : List AwV} {idx n : Nat} {Q : ZQ} (hM : CT d As sz I J R Q) (hc : z_Cs d n) (hd : decode F.2.1 pc = .ok (.invokestatic idx, 3)) (hl : Cond.methodLinkNest F.1.cls idx d.1 "CutProofs" ∈ z_nl) (hn : As.length = n) (h0 : z_n0 d) (hrm : z_Rm d F) (hce : cells ≤ F.2.2.2.2.1.cells ∧ slots ≤ F.2.2.2.2.1.slots) (hst : stk = As.reverse ++ st) (hw : (st.map z_c12).sum ≤ 8)
    (kk : ∀ r sz' I' J' R', Q r sz' I' J' R' → AW F cells slots sz' (pc + 3) lv (r.toList ++ st) I' J' R') : AW F cells slots sz pc lv stk I J R :=
  aw_invSN hM hc hd hl hn hrm (by rw [h0.1, h0.2]; exact hce) hst hw (fun r sz' I' J' R' q => z_kk h0 (P := fun a b => AW F a b sz' (pc + 3) lv (r.toList ++ st) I' J' R') (kk r sz' I' J' R' q))
theorem z_Pk {v : Option AwV} {sz2 : Nat} {I2 J2 : AwI} {R2 : AwR} {P : Option AwV → Nat → AwI → AwI → AwR → Prop} (h : P v sz2 I2 J2 R2) : ∀ r sz' I' J' R', z_P v sz2 I2 J2 R2 r sz' I' J' R' → P r sz' I' J' R' := by
  rintro _ _ _ _ _ ⟨rfl, rfl, rfl, rfl, rfl⟩
  exact h
end AWP
/-- the references of the system: fixed, but for the order of the cuts' slots -/
def z_R (π : Nat → Nat) : AwR := fun a k =>
  if a = 0 then ([1, 17, 224, 226, 231, 233, 234] : List Nat)[k]? else
  if a = 1 then ([2, 3, 4, 5, 16] : List Nat)[k]? else
  if a = 5 then some (6 + k) else
  if a = 17 then ([some 18, none, none, some 1] : List (Option Nat)).getD k none else
  if a = 18 then some (19 + 5 * π k) else
  if a < 224 then some (a + 1 + k) else
  if a = 224 then ([1, 17, 225] : List Nat)[k]? else
  if a = 226 then ([1, 17, 227, 228, 229, 230] : List Nat)[k]? else
  if a = 231 then ([1, 17, 232] : List Nat)[k]? else
  if a = 233 then ([1] : List Nat)[k]? else
  if a = 234 then ([1, 235, 236] : List Nat)[k]? else
  if a = 237 then ([none, some 238, some 239, some 240, none, some 241, some 242, none, some 243, some 244, some 245, some 246, some 247, none, none, none, some 248, none, some 249, some 250, some 251, some 252, none, none, some 253] : List (Option Nat)).getD k none else none
theorem z_Rc (π : Nat → Nat) {c : Nat} (k : Nat) (h : c < 41) : z_R π (19 + 5 * c) k = some (19 + 5 * c + 1 + k) := by
  unfold z_R
  rw [if_neg (by omega), if_neg (by omega), if_neg (by omega), if_neg (by omega), if_neg (by omega), if_pos (by omega)]
theorem z_shc0 {c : Nat} (h : c < 41) : z_sh (19 + 5 * c) = (14, 9) := by
  unfold z_sh
  rw [if_neg (by omega), if_pos (by omega), show (19 + 5 * c - 19) % 5 = 0 by omega]
  rfl
theorem z_shc1 {c : Nat} (h : c < 41) : z_sh (19 + 5 * c + 1) = (0, 8) := by
  unfold z_sh
  rw [if_neg (by omega), if_pos (by omega), show (19 + 5 * c + 1 - 19) % 5 = 1 by omega]
  rfl
theorem z_Rc0 (π : Nat → Nat) {c : Nat} (h : c < 41) : z_R π (19 + 5 * c) 0 = some (19 + 5 * c + 1) := by
  rw [z_Rc π 0 h]
theorem z_shc2 {c : Nat} (h : c < 41) : z_sh (19 + 5 * c + 2) = (0, 10) := by
  unfold z_sh
  rw [if_neg (by omega), if_pos (by omega), show (19 + 5 * c + 2 - 19) % 5 = 2 by omega]
  rfl
theorem z_Rc1 (π : Nat → Nat) {c : Nat} (h : c < 41) : z_R π (19 + 5 * c) 1 = some (19 + 5 * c + 2) := by
  rw [z_Rc π 1 h]
theorem z_shc3 {c : Nat} (h : c < 41) : z_sh (19 + 5 * c + 3) = (0, 8) := by
  unfold z_sh
  rw [if_neg (by omega), if_pos (by omega), show (19 + 5 * c + 3 - 19) % 5 = 3 by omega]
  rfl
theorem z_Rc2 (π : Nat → Nat) {c : Nat} (h : c < 41) : z_R π (19 + 5 * c) 2 = some (19 + 5 * c + 3) := by
  rw [z_Rc π 2 h]
theorem z_shc4 {c : Nat} (h : c < 41) : z_sh (19 + 5 * c + 4) = (0, 8) := by
  unfold z_sh
  rw [if_neg (by omega), if_pos (by omega), show (19 + 5 * c + 4 - 19) % 5 = 4 by omega]
  rfl
theorem z_Rc3 (π : Nat → Nat) {c : Nat} (h : c < 41) : z_R π (19 + 5 * c) 3 = some (19 + 5 * c + 4) := by
  rw [z_Rc π 3 h]
theorem z_shr : ∀ r, r < 10 → z_sh (6 + r) = (0, 8) := by decide +kernel
section AWV
variable {F : ZF} {cells slots sz pc : Nat} {lv lv' : List (Option AwV)} {st stk : List AwV} {I J : AwI} {R : AwR}
theorem aw_getV {a c idx k : Nat} {fin : Bool} {t : FieldType} {v : Int} (hd : decode F.2.1 pc = .ok (.getfield idx, 3)) (hl : z_Fl F.1.cls idx c k fin t) (hf : z_fk c k = 0) (ha : a < sz) (hs : z_sh a = (c + 10, z_cn c)) (hv : I a k = v) (kk : AW F cells slots sz (pc + 3) lv (zi v :: st) I J R) : AW F cells slots sz pc lv (zr a :: st) I J R := by
  subst hv
  exact aw_getI hd hl hf ha hs kk
theorem aw_getW {a c idx k : Nat} {fin : Bool} {t : FieldType} {v : Int} (hd : decode F.2.1 pc = .ok (.getfield idx, 3)) (hl : z_Fl F.1.cls idx c k fin t) (hf : z_fk c k = 1) (ha : a < sz) (hs : z_sh a = (c + 10, z_cn c)) (hv : J a k = v) (kk : AW F cells slots sz (pc + 3) lv (zl v :: st) I J R) : AW F cells slots sz pc lv (zr a :: st) I J R := by
  subst hv
  exact aw_getJ hd hl hf ha hs kk
theorem aw_ialoadV {a n : Nat} {i v : Int} (hd : decode F.2.1 pc = .ok (.iaload, 1)) (ha : a < sz) (hz : sz ≤ 255) (hs : z_sh a = (0, n)) (hi : 0 ≤ i ∧ i < (n : Int)) (hv : I a i.toNat = v) (k : AW F cells slots sz (pc + 1) lv (zi v :: st) I J R) : AW F cells slots sz pc lv (zi i :: zr a :: st) I J R := by
  subst hv
  exact aw_iaload hd ha hz hs hi k
theorem aw_laloadV {a n : Nat} {i v : Int} (hd : decode F.2.1 pc = .ok (.laload, 1)) (ha : a < sz) (hz : sz ≤ 255) (hs : z_sh a = (1, n)) (hi : 0 ≤ i ∧ i < (n : Int)) (hv : J a i.toNat = v) (k : AW F cells slots sz (pc + 1) lv (zl v :: st) I J R) : AW F cells slots sz pc lv (zi i :: zr a :: st) I J R := by
  subst hv
  exact aw_laload hd ha hz hs hi k
/-- the state on the stack under another name -/
theorem aw_eq {st2 : List AwV} (h : st = st2) (k : AW F cells slots sz pc lv st2 I J R) : AW F cells slots sz pc lv st I J R := h ▸ k
end AWV
theorem k_cst_X8_178 : Cond.constantLong RX8 178 (Int64.ofInt 27720) ∈ z_tb := z_in4 17 (by decide +kernel) (by decide +kernel)
theorem k_cst_X8_184 : Cond.constantLong RX8 184 (Int64.ofInt 20000) ∈ z_tb := z_in3 103 (by decide +kernel) (by decide +kernel)
theorem k_cst_X3_79 : Cond.constant RX3 79 (Int32.ofInt 1000000) ∈ z_tb := z_in2 193 (by decide +kernel) (by decide +kernel)
theorem k_cst_X6_58 : Cond.constantLong RX6 58 (Int64.ofInt 27720) ∈ z_tb := z_in2 149 (by decide +kernel) (by decide +kernel)
theorem k_cst_X7_106 : Cond.constantLong RX7 106 (Int64.ofInt 2) ∈ z_tb := z_in2 124 (by decide +kernel) (by decide +kernel)
theorem k_cst_X7_112 : Cond.constantLong RX7 112 (Int64.ofInt 27720) ∈ z_tb := z_in2 125 (by decide +kernel) (by decide +kernel)
theorem k_cst_X9_82 : Cond.constantLong RX9 82 (Int64.ofInt 27720) ∈ z_tb := z_in4 134 (by decide +kernel) (by decide +kernel)
theorem k_cst_X9_198 : Cond.constantLong RX9 198 (Int64.ofInt 20000) ∈ z_tb := z_in5 50 (by decide +kernel) (by decide +kernel)
theorem k_cst_J6_265 : Cond.constant RJ6 265 (Int32.ofInt 1431655765) ∈ z_tb := z_in2 209 (by decide +kernel) (by decide +kernel)
theorem k_cst_J6_266 : Cond.constant RJ6 266 (Int32.ofInt 858993459) ∈ z_tb := z_in2 210 (by decide +kernel) (by decide +kernel)
theorem k_cst_J6_267 : Cond.constant RJ6 267 (Int32.ofInt 252645135) ∈ z_tb := z_in2 211 (by decide +kernel) (by decide +kernel)
