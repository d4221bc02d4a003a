theorem k_arI : Cond.arrayClass .int ∈ z_tb := z_in1 86 (by decide +kernel) (by decide +kernel)
theorem k_arJ : Cond.arrayClass .long ∈ z_tb := z_in1 87 (by decide +kernel) (by decide +kernel)
theorem k_oi1 : Cond.instanceMethod Lib.objectInit ∈ z_tb := z_in1 25 (by decide +kernel) (by decide +kernel)
theorem k_oi2 : Cond.code Lib.objectInit ⟨#[0xb1]⟩ 1 none ∈ z_tb := z_in1 26 (by decide +kernel) (by decide +kernel)
theorem k_oi_X0 : Cond.methodLink RX0 3 Lib.objectInit ∈ z_tb := z_in2 7 (by decide +kernel) (by decide +kernel)
theorem k_oi_X1 : Cond.methodLink RX1 3 Lib.objectInit ∈ z_tb := z_in2 17 (by decide +kernel) (by decide +kernel)
theorem k_oi_X2 : Cond.methodLink RX2 3 Lib.objectInit ∈ z_tb := z_in1 228 (by decide +kernel) (by decide +kernel)
theorem k_oi_X3 : Cond.methodLink RX3 3 Lib.objectInit ∈ z_tb := z_in1 197 (by decide +kernel) (by decide +kernel)
theorem k_oi_X4 : Cond.methodLink RX4 3 Lib.objectInit ∈ z_tb := z_in1 100 (by decide +kernel) (by decide +kernel)
theorem k_oi_X5 : Cond.methodLink RX5 3 Lib.objectInit ∈ z_tb := z_in1 93 (by decide +kernel) (by decide +kernel)
theorem k_oi_X6 : Cond.methodLink RX6 3 Lib.objectInit ∈ z_tb := z_in1 32 (by decide +kernel) (by decide +kernel)
theorem k_oi_X7 : Cond.methodLink RX7 3 Lib.objectInit ∈ z_tb := z_in1 178 (by decide +kernel) (by decide +kernel)
theorem k_oi_X8 : Cond.methodLink RX8 1 Lib.objectInit ∈ z_tb := z_in1 24 (by decide +kernel) (by decide +kernel)
theorem k_oi_X9 : Cond.methodLink RX9 1 Lib.objectInit ∈ z_tb := z_in4 29 (by decide +kernel) (by decide +kernel)
theorem k_nw_X8_7 : z_Nw RX8 7 6 := ⟨RX6, TX6, tyX6, z_kX6, z_in1 27 (by decide +kernel) (by decide +kernel), z_in1 28 (by decide +kernel) (by decide +kernel), z_in1 2 (by decide +kernel) (by decide +kernel), fun j hj => by
  change j < 7 at hj
  match j, hj with
  | 0, _ => rfl
  | 1, _ => rfl
  | 2, _ => rfl
  | 3, _ => rfl
  | 4, _ => rfl
  | 5, _ => rfl
  | 6, _ => rfl
  | q + 7, h => exact absurd h (by omega)⟩
theorem k_nw_X8_16 : z_Nw RX8 16 5 := ⟨RX5, TX5, tyX5, z_kX5, z_in1 88 (by decide +kernel) (by decide +kernel), z_in1 89 (by decide +kernel) (by decide +kernel), z_in1 3 (by decide +kernel) (by decide +kernel), fun j hj => by
  change j < 4 at hj
  match j, hj with
  | 0, _ => rfl
  | 1, _ => rfl
  | 2, _ => rfl
  | 3, _ => rfl
  | q + 4, h => exact absurd h (by omega)⟩
theorem k_nw_X8_25 : z_Nw RX8 25 7 := ⟨RX7, TX7, tyX7, z_kX7, z_in1 173 (by decide +kernel) (by decide +kernel), z_in1 174 (by decide +kernel) (by decide +kernel), z_in1 5 (by decide +kernel) (by decide +kernel), fun j hj => by
  change j < 4 at hj
  match j, hj with
  | 0, _ => rfl
  | 1, _ => rfl
  | 2, _ => rfl
  | 3, _ => rfl
  | q + 4, h => exact absurd h (by omega)⟩
theorem k_nw_X8_34 : z_Nw RX8 34 3 := ⟨RX3, TX3, tyX3, z_kX3, z_in1 192 (by decide +kernel) (by decide +kernel), z_in1 193 (by decide +kernel) (by decide +kernel), z_in1 6 (by decide +kernel) (by decide +kernel), fun j hj => by
  change j < 8 at hj
  match j, hj with
  | 0, _ => rfl
  | 1, _ => rfl
  | 2, _ => rfl
  | 3, _ => rfl
  | 4, _ => rfl
  | 5, _ => rfl
  | 6, _ => rfl
  | 7, _ => rfl
  | q + 8, h => exact absurd h (by omega)⟩
theorem k_nw_X8_41 : z_Nw RX8 41 2 := ⟨RX2, TX2, tyX2, z_kX2, z_in1 223 (by decide +kernel) (by decide +kernel), z_in1 224 (by decide +kernel) (by decide +kernel), z_in1 7 (by decide +kernel) (by decide +kernel), fun j hj => by
  change j < 4 at hj
  match j, hj with
  | 0, _ => rfl
  | 1, _ => rfl
  | 2, _ => rfl
  | 3, _ => rfl
  | q + 4, h => exact absurd h (by omega)⟩
theorem k_nw_X8_48 : z_Nw RX8 48 0 := ⟨RX0, TX0, tyX0, z_kX0, z_in2 2 (by decide +kernel) (by decide +kernel), z_in2 3 (by decide +kernel) (by decide +kernel), z_in1 8 (by decide +kernel) (by decide +kernel), fun j hj => by
  change j < 1 at hj
  match j, hj with
  | 0, _ => rfl
  | q + 1, h => exact absurd h (by omega)⟩
theorem k_nw_X8_55 : z_Nw RX8 55 1 := ⟨RX1, TX1, tyX1, z_kX1, z_in2 12 (by decide +kernel) (by decide +kernel), z_in2 13 (by decide +kernel) (by decide +kernel), z_in1 9 (by decide +kernel) (by decide +kernel), fun j hj => by
  change j < 3 at hj
  match j, hj with
  | 0, _ => rfl
  | 1, _ => rfl
  | 2, _ => rfl
  | q + 3, h => exact absurd h (by omega)⟩
theorem k_nw_X5_9 : z_Nw RX5 9 4 := ⟨RX4, TX4, tyX4, z_kX4, z_in1 94 (by decide +kernel) (by decide +kernel), z_in1 96 (by decide +kernel) (by decide +kernel), z_in1 4 (by decide +kernel) (by decide +kernel), fun j hj => by
  change j < 9 at hj
  match j, hj with
  | 0, _ => rfl
  | 1, _ => rfl
  | 2, _ => rfl
  | 3, _ => rfl
  | 4, _ => rfl
  | 5, _ => rfl
  | 6, _ => rfl
  | 7, _ => rfl
  | 8, _ => rfl
  | q + 9, h => exact absurd h (by omega)⟩
theorem k_nw_L_8 : z_Nw RL 8 8 := ⟨RX8, TX8, tyX8, z_kX8, z_in1 19 (by decide +kernel) (by decide +kernel), z_in1 20 (by decide +kernel) (by decide +kernel), z_in1 1 (by decide +kernel) (by decide +kernel), fun j hj => by
  change j < 7 at hj
  match j, hj with
  | 0, _ => rfl
  | 1, _ => rfl
  | 2, _ => rfl
  | 3, _ => rfl
  | 4, _ => rfl
  | 5, _ => rfl
  | 6, _ => rfl
  | q + 7, h => exact absurd h (by omega)⟩
theorem k_nw_L_22 : z_Nw RL 22 9 := ⟨RX9, TX9, tyX9, z_kX9, z_in4 24 (by decide +kernel) (by decide +kernel), z_in4 25 (by decide +kernel) (by decide +kernel), z_in1 10 (by decide +kernel) (by decide +kernel), fun j hj => by
  change j < 25 at hj
  match j, hj with
  | 0, _ => rfl
  | 1, _ => rfl
  | 2, _ => rfl
  | 3, _ => rfl
  | 4, _ => rfl
  | 5, _ => rfl
  | 6, _ => rfl
  | 7, _ => rfl
  | 8, _ => rfl
  | 9, _ => rfl
  | 10, _ => rfl
  | 11, _ => rfl
  | 12, _ => rfl
  | 13, _ => rfl
  | 14, _ => rfl
  | 15, _ => rfl
  | 16, _ => rfl
  | 17, _ => rfl
  | 18, _ => rfl
  | 19, _ => rfl
  | 20, _ => rfl
  | 21, _ => rfl
  | 22, _ => rfl
  | 23, _ => rfl
  | 24, _ => rfl
  | q + 25, h => exact absurd h (by omega)⟩
theorem k_X0_init : z_Ci m_X0_init 1 := ⟨z_in2 6 (by decide +kernel) (by decide +kernel), z_in2 5 (by decide +kernel) (by decide +kernel), z_in1 8 (by decide +kernel) (by decide +kernel), by decide +kernel, by decide +kernel, rfl, rfl⟩
theorem k_X1_init : z_Ci m_X1_init 1 := ⟨z_in2 16 (by decide +kernel) (by decide +kernel), z_in2 15 (by decide +kernel) (by decide +kernel), z_in1 9 (by decide +kernel) (by decide +kernel), by decide +kernel, by decide +kernel, rfl, rfl⟩
theorem k_X2_init : z_Ci m_X2_init 2 := ⟨z_in1 227 (by decide +kernel) (by decide +kernel), z_in1 226 (by decide +kernel) (by decide +kernel), z_in1 7 (by decide +kernel) (by decide +kernel), by decide +kernel, by decide +kernel, rfl, rfl⟩
theorem k_X3_init : z_Ci m_X3_init 2 := ⟨z_in1 196 (by decide +kernel) (by decide +kernel), z_in1 195 (by decide +kernel) (by decide +kernel), z_in1 6 (by decide +kernel) (by decide +kernel), by decide +kernel, by decide +kernel, rfl, rfl⟩
theorem k_X4_init : z_Ci m_X4_init 0 := ⟨z_in1 99 (by decide +kernel) (by decide +kernel), z_in1 98 (by decide +kernel) (by decide +kernel), z_in1 4 (by decide +kernel) (by decide +kernel), by decide +kernel, by decide +kernel, rfl, rfl⟩
theorem k_X5_init : z_Ci m_X5_init 1 := ⟨z_in1 92 (by decide +kernel) (by decide +kernel), z_in1 91 (by decide +kernel) (by decide +kernel), z_in1 3 (by decide +kernel) (by decide +kernel), by decide +kernel, by decide +kernel, rfl, rfl⟩
theorem k_X6_init : z_Ci m_X6_init 0 := ⟨z_in1 31 (by decide +kernel) (by decide +kernel), z_in1 30 (by decide +kernel) (by decide +kernel), z_in1 2 (by decide +kernel) (by decide +kernel), by decide +kernel, by decide +kernel, rfl, rfl⟩
theorem k_X7_init : z_Ci m_X7_init 2 := ⟨z_in1 177 (by decide +kernel) (by decide +kernel), z_in1 176 (by decide +kernel) (by decide +kernel), z_in1 5 (by decide +kernel) (by decide +kernel), by decide +kernel, by decide +kernel, rfl, rfl⟩
theorem k_X8_init : z_Ci m_X8_init 0 := ⟨z_in1 23 (by decide +kernel) (by decide +kernel), z_in1 22 (by decide +kernel) (by decide +kernel), z_in1 1 (by decide +kernel) (by decide +kernel), by decide +kernel, by decide +kernel, rfl, rfl⟩
theorem k_X9_init : z_Ci m_X9_init 0 := ⟨z_in4 28 (by decide +kernel) (by decide +kernel), z_in4 27 (by decide +kernel) (by decide +kernel), z_in1 10 (by decide +kernel) (by decide +kernel), by decide +kernel, by decide +kernel, rfl, rfl⟩
theorem k_clQ : Cond.classLink RX5 9 "CutProofs$Cut" ∈ z_tb := z_in1 94 (by decide +kernel) (by decide +kernel)
theorem k_clM : Cond.classLink RX6 22 "[[I" ∈ z_tb := z_in1 33 (by decide +kernel) (by decide +kernel)
theorem k_nX4 : Cond.methodLinkNest RX5 25 yX4_init "CutProofs" ∈ z_nl := by unfold z_nl; simp [RX5, yX4_init, RX4]
theorem k_nX6 : Cond.methodLinkNest RX8 9 yX6_init "CutProofs" ∈ z_nl := by unfold z_nl; simp [RX8, yX6_init, RX6]
theorem z_idx_bare (vm : Vm) (comp : ClassId) : (vm.bare.classes.findIdx? fun (x : Class) => match x.kind with | .array component _ => component == comp | _ => false) = (vm.classes.findIdx? fun (x : Class) => match x.kind with | .array component _ => component == comp | _ => false) := by
  simp only [Vm.bare, Array.findIdx?_map]
  rfl
def z_E0 : Launch → ZG → State → Prop := fun _ _ U => va_AO "CutProofs$Cut" U ∧ va_AOA .int U
theorem va_AOA.moved {u U : State} (hvm : u.vm.Alike U.vm) (h : va_AOA .int u) : va_AOA .int U := by
  obtain ⟨comp, c, k, h1, h2, h3, h4, h5⟩ := arrayOverA_spec h
  obtain ⟨k', hk', he⟩ := hvm.2.2 _ _ h3
  have hi : (U.vm.classes.findIdx? fun (x : Class) => match x.kind with | .array component _ => component == comp | _ => false) = some c := by
    rw [← z_idx_bare]
    first | rw [hvm.bare_eq] | rw [← hvm.bare_eq]
    rw [z_idx_bare]
    exact h2
  have hkind : k'.kind = .array comp (.array .int) := by rw [he]; exact h4
  have f1 : U.vm.findClass (FieldType.array .int).toString = some comp := by rw [hvm.findClass]; exact h1
  have f2 : U.vm.findClass ("[" ++ (FieldType.array .int).toString) = some c := by rw [hvm.findClass]; exact h5
  unfold va_AOA Cond.before Cond.holds
  simp only [Cond.value]
  rw [f1, Option.bind_some]
  refine (congrArg (fun o : Option Nat => (o.bind (fun c => (U.vm.classes[c]?).map fun (k : Class) => match k.kind with | .array _ ty => decide (ty = FieldType.array .int) && decide (U.vm.findClass ("[" ++ (FieldType.array .int).toString) = some c) | _ => false) == some true)) hi).trans ?_
  simp [hk', hkind, f2]
theorem z_E0k : z_Ek z_E0 := ⟨fun _ _ s U hW _ h => ⟨va_AO.moved hW.alike h.1, va_AOA.moved hW.alike h.2⟩, fun _ _ U g mk a h => ⟨va_AO.moved (u := U) (U := U.calling g mk a) (Vm.Alike.refl U.vm) h.1, va_AOA.moved (u := U) (U := U.calling g mk a) (Vm.Alike.refl U.vm) h.2⟩⟩
def z_rel (a k : Nat) : Prop := k < (z_sh a).2 ∧ ((z_sh a).1 = 2 ∨ (z_sh a).1 = 3 ∨ (10 ≤ (z_sh a).1 ∧ 2 ≤ z_fk ((z_sh a).1 - 10) k))
theorem z_Rc9.of {sz : Nat} {R R' : AwR} (h : ∀ a, a < sz → ∀ k, z_rel a k → R a k = R' a k) : z_Rc9 sz R R' := by
  refine fun a ha => ⟨fun n hs k hk => h a ha k ?_, fun c n hs k hk h2 => h a ha k ?_⟩
  · rcases hs with hs | hs
    · exact ⟨by rw [hs]; exact hk, Or.inl (by rw [hs])⟩
    · exact ⟨by rw [hs]; exact hk, Or.inr (Or.inl (by rw [hs]))⟩
  · exact ⟨by rw [hs]; exact hk, Or.inr (Or.inr ⟨by rw [hs]; exact Nat.le_add_left _ _, by rw [hs]; exact h2⟩)⟩
theorem z_relA : ∀ a, a < 255 → (z_sh a).1 < 2 ∨ a = 0 ∨ a = 1 ∨ a = 5 ∨ a = 17 ∨ a = 18 ∨ a = 224 ∨ a = 226 ∨ a = 231 ∨ a = 233 ∨ a = 234 ∨ a = 237 ∨ (19 ≤ a ∧ a < 224 ∧ (a - 19) % 5 = 0) := by decide +kernel
theorem z_relC {a k : Nat} (ha : a < 255) (h : z_rel a k) : a = 0 ∨ a = 1 ∨ a = 5 ∨ a = 17 ∨ a = 18 ∨ a = 224 ∨ a = 226 ∨ a = 231 ∨ a = 233 ∨ a = 234 ∨ a = 237 ∨ (19 ≤ a ∧ a < 224 ∧ (a - 19) % 5 = 0) := by
  rcases z_relA a ha with h1 | h1
  · obtain ⟨-, h2⟩ := h
    omega
  · exact h1
theorem z_rel0 {k : Nat} (h : z_rel 0 k) : k = 0 ∨ k = 1 ∨ k = 2 ∨ k = 3 ∨ k = 4 ∨ k = 5 ∨ k = 6 := by
  have H : ∀ k, k < 7 → z_rel 0 k → k = 0 ∨ k = 1 ∨ k = 2 ∨ k = 3 ∨ k = 4 ∨ k = 5 ∨ k = 6 := by unfold z_rel; decide
  exact H k h.1 h
theorem z_rel1 {k : Nat} (h : z_rel 1 k) : k = 0 ∨ k = 1 ∨ k = 2 ∨ k = 3 ∨ k = 4 := by
  have H : ∀ k, k < 7 → z_rel 1 k → k = 0 ∨ k = 1 ∨ k = 2 ∨ k = 3 ∨ k = 4 := by unfold z_rel; decide
  exact H k h.1 h
theorem z_rel17 {k : Nat} (h : z_rel 17 k) : k = 0 ∨ k = 3 := by
  have H : ∀ k, k < 4 → z_rel 17 k → k = 0 ∨ k = 3 := by unfold z_rel; decide
  exact H k h.1 h
theorem z_rel224 {k : Nat} (h : z_rel 224 k) : k = 0 ∨ k = 1 ∨ k = 2 := by
  have H : ∀ k, k < 4 → z_rel 224 k → k = 0 ∨ k = 1 ∨ k = 2 := by unfold z_rel; decide
  exact H k h.1 h
theorem z_rel226 {k : Nat} (h : z_rel 226 k) : k = 0 ∨ k = 1 ∨ k = 2 ∨ k = 3 ∨ k = 4 ∨ k = 5 := by
  have H : ∀ k, k < 8 → z_rel 226 k → k = 0 ∨ k = 1 ∨ k = 2 ∨ k = 3 ∨ k = 4 ∨ k = 5 := by unfold z_rel; decide
  exact H k h.1 h
theorem z_rel231 {k : Nat} (h : z_rel 231 k) : k = 0 ∨ k = 1 ∨ k = 2 := by
  have H : ∀ k, k < 4 → z_rel 231 k → k = 0 ∨ k = 1 ∨ k = 2 := by unfold z_rel; decide
  exact H k h.1 h
theorem z_rel233 {k : Nat} (h : z_rel 233 k) : k = 0 := by
  have H : ∀ k, k < 1 → z_rel 233 k → k = 0 := by unfold z_rel; decide
  exact H k h.1 h
theorem z_rel234 {k : Nat} (h : z_rel 234 k) : k = 0 ∨ k = 1 ∨ k = 2 := by
  have H : ∀ k, k < 3 → z_rel 234 k → k = 0 ∨ k = 1 ∨ k = 2 := by unfold z_rel; decide
  exact H k h.1 h
theorem z_rel_c {c k : Nat} (hc : c < 41) (h : z_rel (19 + 5 * c) k) : k < 4 := by
  have e := z_shc0 hc
  obtain ⟨h1, h2⟩ := h
  rw [e] at h1 h2
  have H : ∀ k, k < 9 → 2 ≤ z_fk 4 k → k < 4 := by decide
  rcases h2 with h2 | h2 | h2
  · cases h2
  · cases h2
  · exact H k h1 h2.2
def z_mR (lo hi : Nat) (R : AwR) : AwR := fun a k => if lo ≤ a ∧ a < hi then z_R id a k else R a k
set_option maxHeartbeats 4000000 in
theorem c_X4_init {c : Nat} (hc : c < 41) {I J : AwI} {R : AwR} (hz : z_Z (19 + 5 * c + 1) I J R) : CE z_E0 m_X4_init [zr (19 + 5 * c)] (19 + 5 * c + 1) I J R (z_P none (19 + 5 * c + 5) I J (z_mR (19 + 5 * c) (19 + 5 * c + 5) R)) := by
  refine CE.of (by decide) (Nat.le_of_ble_eq_true rfl) ?_
  show AV _ _ 0 0 _ 0 [some (zr (19 + 5 * c))] [] _ _ _
  refine av_aload_n (pc := 0) dX4_init_0 rfl ?_
  refine av_obj (pc := 1) dX4_init_1 k_oi_X4 k_oi1 k_oi2 (Nat.le_of_ble_eq_true rfl) ⟨Nat.le_of_ble_eq_true rfl, Nat.le_of_ble_eq_true rfl⟩ ?_
  refine av_aload_n (pc := 4) dX4_init_4 rfl ?_
  refine av_bipush (pc := 5) dX4_init_5 rfl ?_
  refine av_newI (pc := 7) (n := 8) (sz' := 19 + 5 * c + 2) dX4_init_7 k_arI (by omega) (z_shc1 hc) hz (by omega) ⟨Nat.le_of_ble_eq_true rfl, Nat.le_of_ble_eq_true rfl⟩ rfl (fun hz => ?_)
  refine av_putR (pc := 9) dX4_init_9 k_fl_X4_9 rfl (fun _ => ⟨rfl, rfl⟩) rfl rfl (by omega) (z_shc0 hc) hz (fun hz => ?_)
  refine av_aload_n (pc := 12) dX4_init_12 rfl ?_
  refine av_bipush (pc := 13) dX4_init_13 rfl ?_
  refine av_newI (pc := 15) (n := 10) (sz' := 19 + 5 * c + 3) dX4_init_15 k_arI (by omega) (z_shc2 hc) hz (by omega) ⟨Nat.le_of_ble_eq_true rfl, Nat.le_of_ble_eq_true rfl⟩ rfl (fun hz => ?_)
  refine av_putR (pc := 17) dX4_init_17 k_fl_X4_15 rfl (fun _ => ⟨rfl, rfl⟩) rfl rfl (by omega) (z_shc0 hc) hz (fun hz => ?_)
  refine av_aload_n (pc := 20) dX4_init_20 rfl ?_
  refine av_bipush (pc := 21) dX4_init_21 rfl ?_
  refine av_newI (pc := 23) (n := 8) (sz' := 19 + 5 * c + 4) dX4_init_23 k_arI (by omega) (z_shc3 hc) hz (by omega) ⟨Nat.le_of_ble_eq_true rfl, Nat.le_of_ble_eq_true rfl⟩ rfl (fun hz => ?_)
  refine av_putR (pc := 25) dX4_init_25 k_fl_X4_18 rfl (fun _ => ⟨rfl, rfl⟩) rfl rfl (by omega) (z_shc0 hc) hz (fun hz => ?_)
  refine av_aload_n (pc := 28) dX4_init_28 rfl ?_
  refine av_bipush (pc := 29) dX4_init_29 rfl ?_
  refine av_newI (pc := 31) (n := 8) (sz' := 19 + 5 * c + 5) dX4_init_31 k_arI (by omega) (z_shc4 hc) hz (by omega) ⟨Nat.le_of_ble_eq_true rfl, Nat.le_of_ble_eq_true rfl⟩ rfl (fun hz => ?_)
  refine av_putR (pc := 33) dX4_init_33 k_fl_X4_21 rfl (fun _ => ⟨rfl, rfl⟩) rfl rfl (by omega) (z_shc0 hc) hz (fun hz => ?_)
  refine av_cg (z_Rc9.of (R' := z_mR (19 + 5 * c) (19 + 5 * c + 5) R) fun b hb k hr => ?_) (av_return (pc := 36) dX4_init_36 rfl ⟨Nat.le_of_ble_eq_true rfl, Nat.le_of_ble_eq_true rfl⟩ ⟨rfl, rfl, rfl, rfl, rfl⟩)
  by_cases hb0 : b < 19 + 5 * c
  · unfold z_mR
    rw [z_up_a _ _ (by omega), z_up_a _ _ (by omega), z_up_a _ _ (by omega), z_up_a _ _ (by omega), if_neg (by omega)]
  · by_cases hb1 : b = 19 + 5 * c
    · subst hb1
      have hk := z_rel_c hc hr
      unfold z_mR
      rw [if_pos (by omega), z_Rc _ _ hc]
      rcases (show k = 0 ∨ k = 1 ∨ k = 2 ∨ k = 3 by omega) with rfl | rfl | rfl | rfl
      all_goals simp [z_up]
    · exfalso
      rcases z_relC (by omega) hr with h | h | h | h | h | h | h | h | h | h | h | h <;> omega
set_option maxHeartbeats 4000000 in
theorem c_X7_init {I J : AwI} {R : AwR} (hz : z_Z 225 I J R) : CE z_E0 m_X7_init [zr 224, zr 1, zr 17] 225 I J R (z_P none 226 I J (z_mR 224 226 R)) := by
  refine CE.of (by decide) (Nat.le_of_ble_eq_true rfl) ?_
  show AV _ _ 0 0 _ 0 [some (zr 224), some (zr 1), some (zr 17)] [] _ _ _
  refine av_aload_n (pc := 0) dX7_init_0 rfl ?_
  refine av_obj (pc := 1) dX7_init_1 k_oi_X7 k_oi1 k_oi2 (Nat.le_of_ble_eq_true rfl) ⟨Nat.le_of_ble_eq_true rfl, Nat.le_of_ble_eq_true rfl⟩ ?_
  refine av_aload_n (pc := 4) dX7_init_4 rfl ?_
  refine av_bipush (pc := 5) dX7_init_5 rfl ?_
  refine av_newI (pc := 7) (n := 8) (sz' := 226) dX7_init_7 k_arI (by omega) rfl hz (by omega) ⟨Nat.le_of_ble_eq_true rfl, Nat.le_of_ble_eq_true rfl⟩ rfl (fun hz => ?_)
  refine av_putR (pc := 9) dX7_init_9 k_fl_X7_9 rfl (fun _ => ⟨rfl, rfl⟩) rfl rfl (by omega) rfl hz (fun hz => ?_)
  refine av_aload_n (pc := 12) dX7_init_12 rfl ?_
  refine av_aload_n (pc := 13) dX7_init_13 rfl ?_
  refine av_putR (pc := 14) dX7_init_14 k_fl_X7_15 rfl (fun _ => ⟨rfl, rfl⟩) rfl rfl (by omega) rfl hz (fun hz => ?_)
  refine av_aload_n (pc := 17) dX7_init_17 rfl ?_
  refine av_aload_n (pc := 18) dX7_init_18 rfl ?_
  refine av_putR (pc := 19) dX7_init_19 k_fl_X7_19 rfl (fun _ => ⟨rfl, rfl⟩) rfl rfl (by omega) rfl hz (fun hz => ?_)
  refine av_cg (z_Rc9.of (R' := z_mR 224 226 R) fun b hb k hr => ?_) (av_return (pc := 22) dX7_init_22 rfl ⟨Nat.le_of_ble_eq_true rfl, Nat.le_of_ble_eq_true rfl⟩ ⟨rfl, rfl, rfl, rfl, rfl⟩)
  rcases z_relC (by omega) hr with rfl | rfl | rfl | rfl | rfl | rfl | rfl | rfl | rfl | rfl | rfl | h
  · rfl
  · rfl
  · rfl
  · rfl
  · rfl
  · rcases z_rel224 hr with rfl | rfl | rfl
    all_goals rfl
  · exfalso; omega
  · exfalso; omega
  · exfalso; omega
  · exfalso; omega
  · exfalso; omega
  · unfold z_mR
    rw [z_up_a _ _ (by omega), z_up_a _ _ (by omega), z_up_a _ _ (by omega), if_neg (by omega)]
set_option maxHeartbeats 4000000 in
theorem c_X3_init {I J : AwI} {R : AwR} (hz : z_Z 227 I J R) : CE z_E0 m_X3_init [zr 226, zr 1, zr 17] 227 I J R (z_P none 231 I J (z_mR 226 231 R)) := by
  refine CE.of (by decide) (Nat.le_of_ble_eq_true rfl) ?_
  show AV _ _ 0 0 _ 0 [some (zr 226), some (zr 1), some (zr 17)] [] _ _ _
  refine av_aload_n (pc := 0) dX3_init_0 rfl ?_
  refine av_obj (pc := 1) dX3_init_1 k_oi_X3 k_oi1 k_oi2 (Nat.le_of_ble_eq_true rfl) ⟨Nat.le_of_ble_eq_true rfl, Nat.le_of_ble_eq_true rfl⟩ ?_
  refine av_aload_n (pc := 4) dX3_init_4 rfl ?_
  refine av_bipush (pc := 5) dX3_init_5 rfl ?_
  refine av_newI (pc := 7) (n := 8) (sz' := 228) dX3_init_7 k_arI (by omega) rfl hz (by omega) ⟨Nat.le_of_ble_eq_true rfl, Nat.le_of_ble_eq_true rfl⟩ rfl (fun hz => ?_)
  refine av_putR (pc := 9) dX3_init_9 k_fl_X3_9 rfl (fun _ => ⟨rfl, rfl⟩) rfl rfl (by omega) rfl hz (fun hz => ?_)
  refine av_aload_n (pc := 12) dX3_init_12 rfl ?_
  refine av_bipush (pc := 13) dX3_init_13 rfl ?_
  refine av_newI (pc := 15) (n := 8) (sz' := 229) dX3_init_15 k_arI (by omega) rfl hz (by omega) ⟨Nat.le_of_ble_eq_true rfl, Nat.le_of_ble_eq_true rfl⟩ rfl (fun hz => ?_)
  refine av_putR (pc := 17) dX3_init_17 k_fl_X3_15 rfl (fun _ => ⟨rfl, rfl⟩) rfl rfl (by omega) rfl hz (fun hz => ?_)
  refine av_aload_n (pc := 20) dX3_init_20 rfl ?_
  refine av_bipush (pc := 21) dX3_init_21 rfl ?_
  refine av_newI (pc := 23) (n := 8) (sz' := 230) dX3_init_23 k_arI (by omega) rfl hz (by omega) ⟨Nat.le_of_ble_eq_true rfl, Nat.le_of_ble_eq_true rfl⟩ rfl (fun hz => ?_)
  refine av_putR (pc := 25) dX3_init_25 k_fl_X3_18 rfl (fun _ => ⟨rfl, rfl⟩) rfl rfl (by omega) rfl hz (fun hz => ?_)
  refine av_aload_n (pc := 28) dX3_init_28 rfl ?_
  refine av_bipush (pc := 29) dX3_init_29 rfl ?_
  refine av_newI (pc := 31) (n := 65) (sz' := 231) dX3_init_31 k_arI (by omega) rfl hz (by omega) ⟨Nat.le_of_ble_eq_true rfl, Nat.le_of_ble_eq_true rfl⟩ rfl (fun hz => ?_)
  refine av_putR (pc := 33) dX3_init_33 k_fl_X3_21 rfl (fun _ => ⟨rfl, rfl⟩) rfl rfl (by omega) rfl hz (fun hz => ?_)
  refine av_aload_n (pc := 36) dX3_init_36 rfl ?_
  refine av_aload_n (pc := 37) dX3_init_37 rfl ?_
  refine av_putR (pc := 38) dX3_init_38 k_fl_X3_24 rfl (fun _ => ⟨rfl, rfl⟩) rfl rfl (by omega) rfl hz (fun hz => ?_)
  refine av_aload_n (pc := 41) dX3_init_41 rfl ?_
  refine av_aload_n (pc := 42) dX3_init_42 rfl ?_
  refine av_putR (pc := 43) dX3_init_43 k_fl_X3_28 rfl (fun _ => ⟨rfl, rfl⟩) rfl rfl (by omega) rfl hz (fun hz => ?_)
  refine av_cg (z_Rc9.of (R' := z_mR 226 231 R) fun b hb k hr => ?_) (av_return (pc := 46) dX3_init_46 rfl ⟨Nat.le_of_ble_eq_true rfl, Nat.le_of_ble_eq_true rfl⟩ ⟨rfl, rfl, rfl, rfl, rfl⟩)
  rcases z_relC (by omega) hr with rfl | rfl | rfl | rfl | rfl | rfl | rfl | rfl | rfl | rfl | rfl | h
  · rfl
  · rfl
  · rfl
  · rfl
  · rfl
  · rfl
  · rcases z_rel226 hr with rfl | rfl | rfl | rfl | rfl | rfl
    all_goals rfl
  · exfalso; omega
  · exfalso; omega
  · exfalso; omega
  · exfalso; omega
  · unfold z_mR
    rw [z_up_a _ _ (by omega), z_up_a _ _ (by omega), z_up_a _ _ (by omega), z_up_a _ _ (by omega), z_up_a _ _ (by omega), z_up_a _ _ (by omega), if_neg (by omega)]
set_option maxHeartbeats 4000000 in
theorem c_X2_init {I J : AwI} {R : AwR} (hz : z_Z 232 I J R) : CE z_E0 m_X2_init [zr 231, zr 1, zr 17] 232 I J R (z_P none 233 I J (z_mR 231 233 R)) := by
  refine CE.of (by decide) (Nat.le_of_ble_eq_true rfl) ?_
  show AV _ _ 0 0 _ 0 [some (zr 231), some (zr 1), some (zr 17)] [] _ _ _
  refine av_aload_n (pc := 0) dX2_init_0 rfl ?_
  refine av_obj (pc := 1) dX2_init_1 k_oi_X2 k_oi1 k_oi2 (Nat.le_of_ble_eq_true rfl) ⟨Nat.le_of_ble_eq_true rfl, Nat.le_of_ble_eq_true rfl⟩ ?_
  refine av_aload_n (pc := 4) dX2_init_4 rfl ?_
  refine av_bipush (pc := 5) dX2_init_5 rfl ?_
  refine av_newI (pc := 7) (n := 8) (sz' := 233) dX2_init_7 k_arI (by omega) rfl hz (by omega) ⟨Nat.le_of_ble_eq_true rfl, Nat.le_of_ble_eq_true rfl⟩ rfl (fun hz => ?_)
  refine av_putR (pc := 9) dX2_init_9 k_fl_X2_9 rfl (fun _ => ⟨rfl, rfl⟩) rfl rfl (by omega) rfl hz (fun hz => ?_)
  refine av_aload_n (pc := 12) dX2_init_12 rfl ?_
  refine av_aload_n (pc := 13) dX2_init_13 rfl ?_
  refine av_putR (pc := 14) dX2_init_14 k_fl_X2_15 rfl (fun _ => ⟨rfl, rfl⟩) rfl rfl (by omega) rfl hz (fun hz => ?_)
  refine av_aload_n (pc := 17) dX2_init_17 rfl ?_
  refine av_aload_n (pc := 18) dX2_init_18 rfl ?_
  refine av_putR (pc := 19) dX2_init_19 k_fl_X2_19 rfl (fun _ => ⟨rfl, rfl⟩) rfl rfl (by omega) rfl hz (fun hz => ?_)
  refine av_cg (z_Rc9.of (R' := z_mR 231 233 R) fun b hb k hr => ?_) (av_return (pc := 22) dX2_init_22 rfl ⟨Nat.le_of_ble_eq_true rfl, Nat.le_of_ble_eq_true rfl⟩ ⟨rfl, rfl, rfl, rfl, rfl⟩)
  rcases z_relC (by omega) hr with rfl | rfl | rfl | rfl | rfl | rfl | rfl | rfl | rfl | rfl | rfl | h
  · rfl
  · rfl
  · rfl
  · rfl
  · rfl
  · rfl
  · rfl
  · rcases z_rel231 hr with rfl | rfl | rfl
    all_goals rfl
  · exfalso; omega
  · exfalso; omega
  · exfalso; omega
  · unfold z_mR
    rw [z_up_a _ _ (by omega), z_up_a _ _ (by omega), z_up_a _ _ (by omega), if_neg (by omega)]
set_option maxHeartbeats 4000000 in
theorem c_X0_init {I J : AwI} {R : AwR} (hz : z_Z 234 I J R) : CE z_E0 m_X0_init [zr 233, zr 1] 234 I J R (z_P none 234 I J (z_mR 233 234 R)) := by
  refine CE.of (by decide) (Nat.le_of_ble_eq_true rfl) ?_
  show AV _ _ 0 0 _ 0 [some (zr 233), some (zr 1)] [] _ _ _
  refine av_aload_n (pc := 0) dX0_init_0 rfl ?_
  refine av_obj (pc := 1) dX0_init_1 k_oi_X0 k_oi1 k_oi2 (Nat.le_of_ble_eq_true rfl) ⟨Nat.le_of_ble_eq_true rfl, Nat.le_of_ble_eq_true rfl⟩ ?_
  refine av_aload_n (pc := 4) dX0_init_4 rfl ?_
  refine av_aload_n (pc := 5) dX0_init_5 rfl ?_
  refine av_putR (pc := 6) dX0_init_6 k_fl_X0_9 rfl (fun _ => ⟨rfl, rfl⟩) rfl rfl (by omega) rfl hz (fun hz => ?_)
  refine av_cg (z_Rc9.of (R' := z_mR 233 234 R) fun b hb k hr => ?_) (av_return (pc := 9) dX0_init_9 rfl ⟨Nat.le_of_ble_eq_true rfl, Nat.le_of_ble_eq_true rfl⟩ ⟨rfl, rfl, rfl, rfl, rfl⟩)
  rcases z_relC (by omega) hr with rfl | rfl | rfl | rfl | rfl | rfl | rfl | rfl | rfl | rfl | rfl | h
  · rfl
  · rfl
  · rfl
  · rfl
  · rfl
  · rfl
  · rfl
  · rfl
  · rcases z_rel233 hr with rfl
    all_goals rfl
  · exfalso; omega
  · exfalso; omega
  · unfold z_mR
    rw [z_up_a _ _ (by omega), if_neg (by omega)]
set_option maxHeartbeats 4000000 in
theorem c_X1_init {I J : AwI} {R : AwR} (hz : z_Z 235 I J R) : CE z_E0 m_X1_init [zr 234, zr 1] 235 I J R (z_P none 237 I J (z_mR 234 237 R)) := by
  refine CE.of (by decide) (Nat.le_of_ble_eq_true rfl) ?_
  show AV _ _ 0 0 _ 0 [some (zr 234), some (zr 1)] [] _ _ _
  refine av_aload_n (pc := 0) dX1_init_0 rfl ?_
  refine av_obj (pc := 1) dX1_init_1 k_oi_X1 k_oi1 k_oi2 (Nat.le_of_ble_eq_true rfl) ⟨Nat.le_of_ble_eq_true rfl, Nat.le_of_ble_eq_true rfl⟩ ?_
  refine av_aload_n (pc := 4) dX1_init_4 rfl ?_
  refine av_bipush (pc := 5) dX1_init_5 rfl ?_
  refine av_newI (pc := 7) (n := 8) (sz' := 236) dX1_init_7 k_arI (by omega) rfl hz (by omega) ⟨Nat.le_of_ble_eq_true rfl, Nat.le_of_ble_eq_true rfl⟩ rfl (fun hz => ?_)
  refine av_putR (pc := 9) dX1_init_9 k_fl_X1_9 rfl (fun _ => ⟨rfl, rfl⟩) rfl rfl (by omega) rfl hz (fun hz => ?_)
  refine av_aload_n (pc := 12) dX1_init_12 rfl ?_
  refine av_bipush (pc := 13) dX1_init_13 rfl ?_
  refine av_newI (pc := 15) (n := 10) (sz' := 237) dX1_init_15 k_arI (by omega) rfl hz (by omega) ⟨Nat.le_of_ble_eq_true rfl, Nat.le_of_ble_eq_true rfl⟩ rfl (fun hz => ?_)
  refine av_putR (pc := 17) dX1_init_17 k_fl_X1_15 rfl (fun _ => ⟨rfl, rfl⟩) rfl rfl (by omega) rfl hz (fun hz => ?_)
  refine av_aload_n (pc := 20) dX1_init_20 rfl ?_
  refine av_aload_n (pc := 21) dX1_init_21 rfl ?_
  refine av_putR (pc := 22) dX1_init_22 k_fl_X1_18 rfl (fun _ => ⟨rfl, rfl⟩) rfl rfl (by omega) rfl hz (fun hz => ?_)
  refine av_cg (z_Rc9.of (R' := z_mR 234 237 R) fun b hb k hr => ?_) (av_return (pc := 25) dX1_init_25 rfl ⟨Nat.le_of_ble_eq_true rfl, Nat.le_of_ble_eq_true rfl⟩ ⟨rfl, rfl, rfl, rfl, rfl⟩)
  rcases z_relC (by omega) hr with rfl | rfl | rfl | rfl | rfl | rfl | rfl | rfl | rfl | rfl | rfl | h
  · rfl
  · rfl
  · rfl
  · rfl
  · rfl
  · rfl
  · rfl
  · rfl
  · rfl
  · rcases z_rel234 hr with rfl | rfl | rfl
    all_goals rfl
  · exfalso; omega
  · unfold z_mR
    rw [z_up_a _ _ (by omega), z_up_a _ _ (by omega), z_up_a _ _ (by omega), if_neg (by omega)]
set_option maxHeartbeats 4000000 in
theorem c_X9_init {I J : AwI} {R : AwR} (hz : z_Z 238 I J R) : CE z_E0 m_X9_init [zr 237] 238 I J R (z_P none 254 (z_up I 237 13 1) J (z_mR 237 254 R)) := by
  refine CE.of (by decide) (Nat.le_of_ble_eq_true rfl) ?_
  show AV _ _ 0 0 _ 0 [some (zr 237)] [] _ _ _
  refine av_aload_n (pc := 0) dX9_init_0 rfl ?_
  refine av_obj (pc := 1) dX9_init_1 k_oi_X9 k_oi1 k_oi2 (Nat.le_of_ble_eq_true rfl) ⟨Nat.le_of_ble_eq_true rfl, Nat.le_of_ble_eq_true rfl⟩ ?_
  refine av_aload_n (pc := 4) dX9_init_4 rfl ?_
  refine av_bipush (pc := 5) dX9_init_5 rfl ?_
  refine av_newI (pc := 7) (n := 8) (sz' := 239) dX9_init_7 k_arI (by omega) rfl hz (by omega) ⟨Nat.le_of_ble_eq_true rfl, Nat.le_of_ble_eq_true rfl⟩ rfl (fun hz => ?_)
  refine av_putR (pc := 9) dX9_init_9 k_fl_X9_7 rfl (fun _ => ⟨rfl, rfl⟩) rfl rfl (by omega) rfl hz (fun hz => ?_)
  refine av_aload_n (pc := 12) dX9_init_12 rfl ?_
  refine av_bipush (pc := 13) dX9_init_13 rfl ?_
  refine av_newI (pc := 15) (n := 8) (sz' := 240) dX9_init_15 k_arI (by omega) rfl hz (by omega) ⟨Nat.le_of_ble_eq_true rfl, Nat.le_of_ble_eq_true rfl⟩ rfl (fun hz => ?_)
  refine av_putR (pc := 17) dX9_init_17 k_fl_X9_13 rfl (fun _ => ⟨rfl, rfl⟩) rfl rfl (by omega) rfl hz (fun hz => ?_)
  refine av_aload_n (pc := 20) dX9_init_20 rfl ?_
  refine av_bipush (pc := 21) dX9_init_21 rfl ?_
  refine av_newJ (pc := 23) (n := 8) (sz' := 241) dX9_init_23 k_arJ (by omega) rfl hz (by omega) ⟨Nat.le_of_ble_eq_true rfl, Nat.le_of_ble_eq_true rfl⟩ rfl (fun hz => ?_)
  refine av_putR (pc := 25) dX9_init_25 k_fl_X9_16 rfl (fun _ => ⟨rfl, rfl⟩) rfl rfl (by omega) rfl hz (fun hz => ?_)
  refine av_aload_n (pc := 28) dX9_init_28 rfl ?_
  refine av_bipush (pc := 29) dX9_init_29 rfl ?_
  refine av_newI (pc := 31) (n := 10) (sz' := 242) dX9_init_31 k_arI (by omega) rfl hz (by omega) ⟨Nat.le_of_ble_eq_true rfl, Nat.le_of_ble_eq_true rfl⟩ rfl (fun hz => ?_)
  refine av_putR (pc := 33) dX9_init_33 k_fl_X9_20 rfl (fun _ => ⟨rfl, rfl⟩) rfl rfl (by omega) rfl hz (fun hz => ?_)
  refine av_aload_n (pc := 36) dX9_init_36 rfl ?_
  refine av_bipush (pc := 37) dX9_init_37 rfl ?_
  refine av_newI (pc := 39) (n := 80) (sz' := 243) dX9_init_39 k_arI (by omega) rfl hz (by omega) ⟨Nat.le_of_ble_eq_true rfl, Nat.le_of_ble_eq_true rfl⟩ rfl (fun hz => ?_)
  refine av_putR (pc := 41) dX9_init_41 k_fl_X9_23 rfl (fun _ => ⟨rfl, rfl⟩) rfl rfl (by omega) rfl hz (fun hz => ?_)
  refine av_aload_n (pc := 44) dX9_init_44 rfl ?_
  refine av_sipush (pc := 45) dX9_init_45 rfl ?_
  refine av_newJ (pc := 48) (n := 320) (sz' := 244) dX9_init_48 k_arJ (by omega) rfl hz (by omega) ⟨Nat.le_of_ble_eq_true rfl, Nat.le_of_ble_eq_true rfl⟩ rfl (fun hz => ?_)
  refine av_putR (pc := 50) dX9_init_50 k_fl_X9_26 rfl (fun _ => ⟨rfl, rfl⟩) rfl rfl (by omega) rfl hz (fun hz => ?_)
  refine av_aload_n (pc := 53) dX9_init_53 rfl ?_
  refine av_bipush (pc := 54) dX9_init_54 rfl ?_
  refine av_newJ (pc := 56) (n := 40) (sz' := 245) dX9_init_56 k_arJ (by omega) rfl hz (by omega) ⟨Nat.le_of_ble_eq_true rfl, Nat.le_of_ble_eq_true rfl⟩ rfl (fun hz => ?_)
  refine av_putR (pc := 58) dX9_init_58 k_fl_X9_29 rfl (fun _ => ⟨rfl, rfl⟩) rfl rfl (by omega) rfl hz (fun hz => ?_)
  refine av_aload_n (pc := 61) dX9_init_61 rfl ?_
  refine av_bipush (pc := 62) dX9_init_62 rfl ?_
  refine av_newI (pc := 64) (n := 40) (sz' := 246) dX9_init_64 k_arI (by omega) rfl hz (by omega) ⟨Nat.le_of_ble_eq_true rfl, Nat.le_of_ble_eq_true rfl⟩ rfl (fun hz => ?_)
  refine av_putR (pc := 66) dX9_init_66 k_fl_X9_32 rfl (fun _ => ⟨rfl, rfl⟩) rfl rfl (by omega) rfl hz (fun hz => ?_)
  refine av_aload_n (pc := 69) dX9_init_69 rfl ?_
  refine av_bipush (pc := 70) dX9_init_70 rfl ?_
  refine av_newI (pc := 72) (n := 40) (sz' := 247) dX9_init_72 k_arI (by omega) rfl hz (by omega) ⟨Nat.le_of_ble_eq_true rfl, Nat.le_of_ble_eq_true rfl⟩ rfl (fun hz => ?_)
  refine av_putR (pc := 74) dX9_init_74 k_fl_X9_35 rfl (fun _ => ⟨rfl, rfl⟩) rfl rfl (by omega) rfl hz (fun hz => ?_)
  refine av_aload_n (pc := 77) dX9_init_77 rfl ?_
  refine av_sipush (pc := 78) dX9_init_78 rfl ?_
  refine av_newI (pc := 81) (n := 1080) (sz' := 248) dX9_init_81 k_arI (by omega) rfl hz (by omega) ⟨Nat.le_of_ble_eq_true rfl, Nat.le_of_ble_eq_true rfl⟩ rfl (fun hz => ?_)
  refine av_putR (pc := 83) dX9_init_83 k_fl_X9_38 rfl (fun _ => ⟨rfl, rfl⟩) rfl rfl (by omega) rfl hz (fun hz => ?_)
  refine av_aload_n (pc := 86) dX9_init_86 rfl ?_
  refine av_iconst (pc := 87) dX9_init_87 ?_
  refine av_putI (pc := 88) dX9_init_88 k_fl_X9_41 rfl (by omega) rfl ?_
  have hz := hz.upI (a := 237) (k := 13) (x := 1) (by omega)
  refine av_aload_n (pc := 91) dX9_init_91 rfl ?_
  refine av_bipush (pc := 92) dX9_init_92 rfl ?_
  refine av_newJ (pc := 94) (n := 8) (sz' := 249) dX9_init_94 k_arJ (by omega) rfl hz (by omega) ⟨Nat.le_of_ble_eq_true rfl, Nat.le_of_ble_eq_true rfl⟩ rfl (fun hz => ?_)
  refine av_putR (pc := 96) dX9_init_96 k_fl_X9_45 rfl (fun _ => ⟨rfl, rfl⟩) rfl rfl (by omega) rfl hz (fun hz => ?_)
  refine av_aload_n (pc := 99) dX9_init_99 rfl ?_
  refine av_bipush (pc := 100) dX9_init_100 rfl ?_
  refine av_newI (pc := 102) (n := 27) (sz' := 250) dX9_init_102 k_arI (by omega) rfl hz (by omega) ⟨Nat.le_of_ble_eq_true rfl, Nat.le_of_ble_eq_true rfl⟩ rfl (fun hz => ?_)
  refine av_putR (pc := 104) dX9_init_104 k_fl_X9_48 rfl (fun _ => ⟨rfl, rfl⟩) rfl rfl (by omega) rfl hz (fun hz => ?_)
  refine av_aload_n (pc := 107) dX9_init_107 rfl ?_
  refine av_bipush (pc := 108) dX9_init_108 rfl ?_
  refine av_newI (pc := 110) (n := 8) (sz' := 251) dX9_init_110 k_arI (by omega) rfl hz (by omega) ⟨Nat.le_of_ble_eq_true rfl, Nat.le_of_ble_eq_true rfl⟩ rfl (fun hz => ?_)
  refine av_putR (pc := 112) dX9_init_112 k_fl_X9_51 rfl (fun _ => ⟨rfl, rfl⟩) rfl rfl (by omega) rfl hz (fun hz => ?_)
  refine av_aload_n (pc := 115) dX9_init_115 rfl ?_
  refine av_bipush (pc := 116) dX9_init_116 rfl ?_
  refine av_newI (pc := 118) (n := 8) (sz' := 252) dX9_init_118 k_arI (by omega) rfl hz (by omega) ⟨Nat.le_of_ble_eq_true rfl, Nat.le_of_ble_eq_true rfl⟩ rfl (fun hz => ?_)
  refine av_putR (pc := 120) dX9_init_120 k_fl_X9_54 rfl (fun _ => ⟨rfl, rfl⟩) rfl rfl (by omega) rfl hz (fun hz => ?_)
  refine av_aload_n (pc := 123) dX9_init_123 rfl ?_
  refine av_bipush (pc := 124) dX9_init_124 rfl ?_
  refine av_newI (pc := 126) (n := 8) (sz' := 253) dX9_init_126 k_arI (by omega) rfl hz (by omega) ⟨Nat.le_of_ble_eq_true rfl, Nat.le_of_ble_eq_true rfl⟩ rfl (fun hz => ?_)
  refine av_putR (pc := 128) dX9_init_128 k_fl_X9_57 rfl (fun _ => ⟨rfl, rfl⟩) rfl rfl (by omega) rfl hz (fun hz => ?_)
  refine av_aload_n (pc := 131) dX9_init_131 rfl ?_
  refine av_bipush (pc := 132) dX9_init_132 rfl ?_
  refine av_newI (pc := 134) (n := 8) (sz' := 254) dX9_init_134 k_arI (by omega) rfl hz (by omega) ⟨Nat.le_of_ble_eq_true rfl, Nat.le_of_ble_eq_true rfl⟩ rfl (fun hz => ?_)
  refine av_putR (pc := 136) dX9_init_136 k_fl_X9_60 rfl (fun _ => ⟨rfl, rfl⟩) rfl rfl (by omega) rfl hz (fun hz => ?_)
  refine av_cg (z_Rc9.of (R' := z_mR 237 254 R) fun b hb k hr => ?_) (av_return (pc := 139) dX9_init_139 rfl ⟨Nat.le_of_ble_eq_true rfl, Nat.le_of_ble_eq_true rfl⟩ ⟨rfl, rfl, rfl, rfl, rfl⟩)
  rcases z_relC (by omega) hr with rfl | rfl | rfl | rfl | rfl | rfl | rfl | rfl | rfl | rfl | rfl | h
  · rfl
  · rfl
  · rfl
  · rfl
  · rfl
  · rfl
  · rfl
  · rfl
  · rfl
  · rfl
  · have hk : k < 25 := hr.1
    rcases (show k = 0 ∨ k = 1 ∨ k = 2 ∨ k = 3 ∨ k = 4 ∨ k = 5 ∨ k = 6 ∨ k = 7 ∨ k = 8 ∨ k = 9 ∨ k = 10 ∨ k = 11 ∨ k = 12 ∨ k = 13 ∨ k = 14 ∨ k = 15 ∨ k = 16 ∨ k = 17 ∨ k = 18 ∨ k = 19 ∨ k = 20 ∨ k = 21 ∨ k = 22 ∨ k = 23 ∨ k = 24 by omega) with rfl | rfl | rfl | rfl | rfl | rfl | rfl | rfl | rfl | rfl | rfl | rfl | rfl | rfl | rfl | rfl | rfl | rfl | rfl | rfl | rfl | rfl | rfl | rfl | rfl
    all_goals first | rfl | (exfalso; revert hr; unfold z_rel; decide)
  · unfold z_mR
    rw [z_up_a _ _ (by omega), z_up_a _ _ (by omega), z_up_a _ _ (by omega), z_up_a _ _ (by omega), z_up_a _ _ (by omega), z_up_a _ _ (by omega), z_up_a _ _ (by omega), z_up_a _ _ (by omega), z_up_a _ _ (by omega), z_up_a _ _ (by omega), z_up_a _ _ (by omega), z_up_a _ _ (by omega), z_up_a _ _ (by omega), z_up_a _ _ (by omega), z_up_a _ _ (by omega), z_up_a _ _ (by omega), if_neg (by omega)]
set_option maxHeartbeats 4000000 in
theorem c_X6_init {I J : AwI} {R : AwR} (hz : z_Z 2 I J R) : CE z_E0 m_X6_init [zr 1] 2 I J R (z_P none 17 I J (z_mR 1 17 R)) := by
  refine CE.of (by decide) (Nat.le_of_ble_eq_true rfl) ?_
  show AV _ _ 0 0 _ 0 [some (zr 1)] [] _ _ _
  refine av_aload_n (pc := 0) dX6_init_0 rfl ?_
  refine av_obj (pc := 1) dX6_init_1 k_oi_X6 k_oi1 k_oi2 (Nat.le_of_ble_eq_true rfl) ⟨Nat.le_of_ble_eq_true rfl, Nat.le_of_ble_eq_true rfl⟩ ?_
  refine av_aload_n (pc := 4) dX6_init_4 rfl ?_
  refine av_bipush (pc := 5) dX6_init_5 rfl ?_
  refine av_newI (pc := 7) (n := 8) (sz' := 3) dX6_init_7 k_arI (by omega) rfl hz (by omega) ⟨Nat.le_of_ble_eq_true rfl, Nat.le_of_ble_eq_true rfl⟩ rfl (fun hz => ?_)
  refine av_putR (pc := 9) dX6_init_9 k_fl_X6_9 rfl (fun _ => ⟨rfl, rfl⟩) rfl rfl (by omega) rfl hz (fun hz => ?_)
  refine av_aload_n (pc := 12) dX6_init_12 rfl ?_
  refine av_bipush (pc := 13) dX6_init_13 rfl ?_
  refine av_newI (pc := 15) (n := 8) (sz' := 4) dX6_init_15 k_arI (by omega) rfl hz (by omega) ⟨Nat.le_of_ble_eq_true rfl, Nat.le_of_ble_eq_true rfl⟩ rfl (fun hz => ?_)
  refine av_putR (pc := 17) dX6_init_17 k_fl_X6_15 rfl (fun _ => ⟨rfl, rfl⟩) rfl rfl (by omega) rfl hz (fun hz => ?_)
  refine av_aload_n (pc := 20) dX6_init_20 rfl ?_
  refine av_bipush (pc := 21) dX6_init_21 rfl ?_
  refine av_newJ (pc := 23) (n := 8) (sz' := 5) dX6_init_23 k_arJ (by omega) rfl hz (by omega) ⟨Nat.le_of_ble_eq_true rfl, Nat.le_of_ble_eq_true rfl⟩ rfl (fun hz => ?_)
  refine av_putR (pc := 25) dX6_init_25 k_fl_X6_18 rfl (fun _ => ⟨rfl, rfl⟩) rfl rfl (by omega) rfl hz (fun hz => ?_)
  refine av_aload_n (pc := 28) dX6_init_28 rfl ?_
  refine av_bipush (pc := 29) dX6_init_29 rfl ?_
  refine av_bipush (pc := 31) dX6_init_31 rfl ?_
  refine av_newM (pc := 33) dX6_init_33 k_clM k_arI (fun _ _ _ _ _ h => h.2) hz ⟨Nat.le_of_ble_eq_true rfl, Nat.le_of_ble_eq_true rfl⟩ (fun hz => ?_)
  refine av_putR (pc := 37) dX6_init_37 k_fl_X6_24 rfl (fun _ => ⟨rfl, rfl⟩) rfl rfl (by omega) rfl hz (fun hz => ?_)
  refine av_aload_n (pc := 40) dX6_init_40 rfl ?_
  refine av_bipush (pc := 41) dX6_init_41 rfl ?_
  refine av_newI (pc := 43) (n := 10) (sz' := 17) dX6_init_43 k_arI (by omega) rfl hz (by omega) ⟨Nat.le_of_ble_eq_true rfl, Nat.le_of_ble_eq_true rfl⟩ rfl (fun hz => ?_)
  refine av_putR (pc := 45) dX6_init_45 k_fl_X6_27 rfl (fun _ => ⟨rfl, rfl⟩) rfl rfl (by omega) rfl hz (fun hz => ?_)
  refine av_cg (z_Rc9.of (R' := z_mR 1 17 R) fun b hb k hr => ?_) (av_return (pc := 48) dX6_init_48 rfl ⟨Nat.le_of_ble_eq_true rfl, Nat.le_of_ble_eq_true rfl⟩ ⟨rfl, rfl, rfl, rfl, rfl⟩)
  rcases z_relC (by omega) hr with rfl | rfl | rfl | rfl | rfl | rfl | rfl | rfl | rfl | rfl | rfl | h
  · rfl
  · rcases z_rel1 hr with rfl | rfl | rfl | rfl | rfl
    all_goals rfl
  · rfl
  · exfalso; omega
  · exfalso; omega
  · exfalso; omega
  · exfalso; omega
  · exfalso; omega
  · exfalso; omega
  · exfalso; omega
  · exfalso; omega
  · exfalso; omega
