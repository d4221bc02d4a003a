theorem z_arrC (cI : ClassId) {N : Nat} {f g : Nat → Value} (h : ∀ j, j < N → f j = g j) : arrV cI N f = arrV cI N g := by
  have e : (fun j : Fin N => f j.val) = fun j : Fin N => g j.val := funext fun j => h j.val j.isLt
  show ({ cls := cI, slots := Array.ofFn (n := N) (fun j => f j.val), vm := .none } : Cell) = { cls := cI, slots := Array.ofFn (n := N) (fun j => g j.val), vm := .none }
  rw [e]
theorem z_at.kept {G : ZG} {I J : AwI} {R : AwR} {H H1 : Heap} {a : Nat} (h : z_at G I J R H a) (hq : H1[G.2.2 + a]? = H[G.2.2 + a]?) : z_at G I J R H1 a :=
  ⟨fun n hs => by rw [hq]; exact h.1 n hs, fun n hs => by rw [hq]; exact h.2.1 n hs, fun n hs => by rw [hq]; exact h.2.2.1 n hs, fun n hs => by rw [hq]; exact h.2.2.2.1 n hs, fun c n hs => (h.2.2.2.2 c n hs).kept hq⟩
/-- nothing is written from sz on -/
def z_Z (sz : Nat) (I J : AwI) (R : AwR) : Prop := ∀ b, sz ≤ b → ∀ k, I b k = 0 ∧ J b k = 0 ∧ R b k = none
theorem z_Z.mono {sz sz' : Nat} {I J : AwI} {R : AwR} (h : z_Z sz I J R) (hs : sz ≤ sz') : z_Z sz' I J R := fun b hb k => h b (Nat.le_trans hs hb) k
theorem z_Z.upR {sz a k : Nat} {I J : AwI} {R : AwR} {x : Option Nat} (h : z_Z sz I J R) (ha : a < sz) : z_Z sz I J (z_up R a k x) := fun b hb j => ⟨(h b hb j).1, (h b hb j).2.1, by rw [z_up_a _ _ (by omega)]; exact (h b hb j).2.2⟩
theorem z_Z.upI {sz a k : Nat} {I J : AwI} {R : AwR} {x : Int} (h : z_Z sz I J R) (ha : a < sz) : z_Z sz (z_up I a k x) J R := fun b hb j => ⟨by rw [z_up_a _ _ (by omega)]; exact (h b hb j).1, (h b hb j).2.1, (h b hb j).2.2⟩
def z_dv (kd : Nat) : Value := match kd with
  | 0 => .int 0
  | 1 => .long 0
  | _ => .null
theorem z_dv_of {b a kd k : Nat} {I J : AwI} {R : AwR} (h : I a k = 0 ∧ J a k = 0 ∧ R a k = none) : z_dv kd = z_cv b (z_rd I J R a kd k) := by
  match kd with
  | 0 => show Value.int 0 = Value.int (Int32.ofInt (I a k)); rw [h.1]; rfl
  | 1 => show Value.long 0 = Value.long (Int64.ofInt (J a k)); rw [h.2.1]; rfl
  | n + 2 => show Value.null = z_rf b (R a k); rw [h.2.2]; rfl
def z_Nw (own : String) (idx c : Nat) : Prop := ∃ (C : String) (T : u_T) (ty : Nat → FieldType), z_Cl c C T ty ∧ Cond.classLink own idx C ∈ z_tb ∧ Cond.instantiable C (z_cn c) ∈ z_tb ∧ Cond.initialized C ∈ z_tb ∧ ∀ j, j < z_cn c → defaultValue (ty j) = z_dv (z_fk c j)
def z_R5 (R : AwR) : AwR := fun a k => if a = 5 then some (6 + k) else R a k
theorem z_R5n (R : AwR) {a : Nat} (h : a ≠ 5) (k : Nat) : z_R5 R a k = R a k := if_neg h
section ZW
variable {p : Program} {l : Launch} {e : Env} {Rm : Room} {s : State} {m : MethodId} {args : Array Value} {below : List Frame} {meth : Method} {c : Code} {H : Heap} {locs : List Loc} {cells slots : Nat} {Q : State → Prop}
variable {F : ZF} {G : ZG} {sz pc : Nat} {I J : AwI} {R : AwR} {ls : Array Slot} {st : List Value}
theorem z_newW {c1 idx : Nat} (X : z_X F p s m args meth c G) (hR : z_Rl G sz I J R H) (hS : va_S (fun q => G.2.2 ≤ q) s.heap H locs) (hd : decode F.2.1 pc = .ok (.new idx, 3)) (hn : z_Nw F.1.cls idx c1) (hz : sz < 255) (hs : z_sh sz = (c1 + 10, z_cn c1)) (h0 : z_Z sz I J R) (hce : cells + 1 ≤ Rm.cells ∧ slots + z_cn c1 ≤ Rm.slots)
    (kk : ∀ H1 : Heap, z_Rl G (sz + 1) I J R H1 → va_S (fun q => G.2.2 ≤ q) s.heap H1 locs → W p l e Rm s m args below meth c H1 locs (cells + 1) (slots + z_cn c1) Q (F0 m (pc + 3) ls (.ref (G.2.2 + sz) :: st))) : W p l e Rm s m args below meth c H locs cells slots Q (F0 m pc ls st) := by
  obtain ⟨C, T, ty, ⟨hc, hin, hty, hnm⟩, h1, h2, h3, hdv⟩ := hn
  have hts := X.2.2.2.2.2.2.1
  have hKn := X.2.2.2.2.2.2.2.1.1.1 c1 _ hc
  have hsz := hR.1 hz
  refine W.newcK X.1 X.2.1 X.2.2.2.2.2.1 (hts _ h1) (hts _ h2) (hts _ h3) rfl hd hce.1 hce.2 hKn.2.1 hsz fun H1 kC hkC e1 z1 o1 => ?_
  refine kk H1 ⟨fun q => by omega, by omega, fun a ha => ?_⟩ ⟨Nat.le_trans hS.1 (by omega), fun x g1 g2 => (o1 x (by have := hS.1; omega)).trans (hS.2.1 x g1 g2), hS.2.2⟩
  by_cases ea : a = sz
  · subst ea
    refine ⟨fun n2 hs2 => ?_, fun n2 hs2 => ?_, fun n2 hs2 => ?_, fun n2 hs2 => ?_, fun c2 n2 hs2 => ?_⟩
    all_goals (rw [hs] at hs2)
    all_goals (first | (cases hs2; done) | (injection hs2 with h1 h2; omega) | skip)
    obtain ⟨g1, g2⟩ := Prod.mk.inj hs2
    have g1 : c2 = c1 := by omega
    subst g1
    subst g2
    exact (u_born ty hts hin hKn hkC e1 hty).to (fun j hj => by rw [hdv j hj]; exact z_dv_of (h0 a (Nat.le_refl _) j))
  · exact (hR.2.2 a (by omega)).kept (o1 _ (by omega))
theorem z_newIW {n : Nat} (X : z_X F p s m args meth c G) (hR : z_Rl G sz I J R H) (hS : va_S (fun q => G.2.2 ≤ q) s.heap H locs) (hd : decode F.2.1 pc = .ok (.newarray .int, 2)) (hw : Cond.arrayClass .int ∈ z_tb) (hz : sz < 255) (hs : z_sh sz = (0, n)) (h0 : z_Z sz I J R) (hn : n ≤ 100000) (hce : cells + 1 ≤ Rm.cells ∧ slots + n ≤ Rm.slots)
    (kk : ∀ H1 : Heap, z_Rl G (sz + 1) I J R H1 → va_S (fun q => G.2.2 ≤ q) s.heap H1 locs → W p l e Rm s m args below meth c H1 locs (cells + 1) (slots + n) Q (F0 m (pc + 2) ls (.ref (G.2.2 + sz) :: st))) : W p l e Rm s m args below meth c H locs cells slots Q (F0 m pc ls (.int (Int32.ofInt (n : Int)) :: st)) := by
  have hts := X.2.2.2.2.2.2.1
  have hsz := hR.1 hz
  have hA : s.vm.findClass ("[" ++ FieldType.int.toString) = some (G.2.1 0) := (X.2.2.2.2.2.2.2.1.1.2 0 _ rfl).2
  have hn0 : ¬ Int32.ofInt (n : Int) < 0 := fun q => by
    have := (i32lt (a := (n : Int)) (b := 0) (by omega) (by omega)).mp q
    omega
  refine va_newaK (N := n) X.1 X.2.1 (atype := .int) (hts _ hw) rfl hd rfl hn0 (by rw [i32cl (by omega)]; omega) (by show n * 4 ≤ _; omega) hce.1 hce.2 hsz fun H1 cA e1 z1 o1 hAr hNm => ?_
  have hcA : cA = G.2.1 0 := Option.some.inj (hNm.symm.trans hA)
  subst hcA
  refine kk H1 ⟨fun q => by omega, by omega, fun a ha => ?_⟩ ⟨Nat.le_trans hS.1 (by omega), fun x g1 g2 => (o1 x (by have := hS.1; omega)).trans (hS.2.1 x g1 g2), hS.2.2⟩
  by_cases ea : a = sz
  · subst ea
    refine ⟨fun n2 hs2 => ?_, fun n2 hs2 => ?_, fun n2 hs2 => ?_, fun n2 hs2 => ?_, fun c2 n2 hs2 => ?_⟩
    all_goals (rw [hs] at hs2)
    all_goals (first | (cases hs2; done) | (injection hs2 with h1 h2; omega) | skip)
    cases hs2
    rw [e1]
    congr 2
    funext j
    rw [(h0 a (Nat.le_refl _) j).1]
    rfl
  · exact (hR.2.2 a (by omega)).kept (o1 _ (by omega))
theorem z_newJW {n : Nat} (X : z_X F p s m args meth c G) (hR : z_Rl G sz I J R H) (hS : va_S (fun q => G.2.2 ≤ q) s.heap H locs) (hd : decode F.2.1 pc = .ok (.newarray .long, 2)) (hw : Cond.arrayClass .long ∈ z_tb) (hz : sz < 255) (hs : z_sh sz = (1, n)) (h0 : z_Z sz I J R) (hn : n ≤ 100000) (hce : cells + 1 ≤ Rm.cells ∧ slots + n ≤ Rm.slots)
    (kk : ∀ H1 : Heap, z_Rl G (sz + 1) I J R H1 → va_S (fun q => G.2.2 ≤ q) s.heap H1 locs → W p l e Rm s m args below meth c H1 locs (cells + 1) (slots + n) Q (F0 m (pc + 2) ls (.ref (G.2.2 + sz) :: st))) : W p l e Rm s m args below meth c H locs cells slots Q (F0 m pc ls (.int (Int32.ofInt (n : Int)) :: st)) := by
  have hts := X.2.2.2.2.2.2.1
  have hsz := hR.1 hz
  have hA : s.vm.findClass ("[" ++ FieldType.long.toString) = some (G.2.1 1) := (X.2.2.2.2.2.2.2.1.1.2 1 _ rfl).2
  have hn0 : ¬ Int32.ofInt (n : Int) < 0 := fun q => by
    have := (i32lt (a := (n : Int)) (b := 0) (by omega) (by omega)).mp q
    omega
  refine va_newaK (N := n) X.1 X.2.1 (atype := .long) (hts _ hw) rfl hd rfl hn0 (by rw [i32cl (by omega)]; omega) (by show n * 8 ≤ _; omega) hce.1 hce.2 hsz fun H1 cA e1 z1 o1 hAr hNm => ?_
  have hcA : cA = G.2.1 1 := Option.some.inj (hNm.symm.trans hA)
  subst hcA
  refine kk H1 ⟨fun q => by omega, by omega, fun a ha => ?_⟩ ⟨Nat.le_trans hS.1 (by omega), fun x g1 g2 => (o1 x (by have := hS.1; omega)).trans (hS.2.1 x g1 g2), hS.2.2⟩
  by_cases ea : a = sz
  · subst ea
    refine ⟨fun n2 hs2 => ?_, fun n2 hs2 => ?_, fun n2 hs2 => ?_, fun n2 hs2 => ?_, fun c2 n2 hs2 => ?_⟩
    all_goals (rw [hs] at hs2)
    all_goals (first | (cases hs2; done) | (injection hs2 with h1 h2; omega) | skip)
    cases hs2
    rw [e1]
    congr 2
    funext j
    rw [(h0 a (Nat.le_refl _) j).2.1]
    rfl
  · exact (hR.2.2 a (by omega)).kept (o1 _ (by omega))
theorem z_newQW {idx n : Nat} (X : z_X F p s m args meth c G) (hR : z_Rl G sz I J R H) (hS : va_S (fun q => G.2.2 ≤ q) s.heap H locs) (hd : decode F.2.1 pc = .ok (.anewarray idx, 3)) (hw : Cond.classLink F.1.cls idx "CutProofs$Cut" ∈ z_tb) (ho : va_AO "CutProofs$Cut" s) (hz : sz < 255) (hs : z_sh sz = (2, n)) (h0 : z_Z sz I J R) (hn : n ≤ 100000) (hce : cells + 1 ≤ Rm.cells ∧ slots + n ≤ Rm.slots)
    (kk : ∀ H1 : Heap, z_Rl G (sz + 1) I J R H1 → va_S (fun q => G.2.2 ≤ q) s.heap H1 locs → W p l e Rm s m args below meth c H1 locs (cells + 1) (slots + n) Q (F0 m (pc + 3) ls (.ref (G.2.2 + sz) :: st))) : W p l e Rm s m args below meth c H locs cells slots Q (F0 m pc ls (.int (Int32.ofInt (n : Int)) :: st)) := by
  have hts := X.2.2.2.2.2.2.1
  have hsz := hR.1 hz
  obtain ⟨kA0, comp0, -, -, -, hA⟩ := (X.2.2.2.2.2.2.2.1.1.2 2 _ rfl).2
  have hn0 : ¬ Int32.ofInt (n : Int) < 0 := fun q => by
    have := (i32lt (a := (n : Int)) (b := 0) (by omega) (by omega)).mp q
    omega
  have hN : (Int32.ofInt (n : Int)).toNatClampNeg = n := by rw [i32cl (by omega)]; omega
  refine W.anew X.1 X.2.1 X.2.2.2.2.2.1 (hts _ hw) (va_AO.use ho) rfl hd rfl hn0 (by rw [hN]; omega) hce.1 (by rw [hN]; exact hce.2) fun cA kA comp f1 f2 f3 f4 => ?_
  have hcA : cA = G.2.1 2 := Option.some.inj (f1.symm.trans hA)
  subst hcA
  rw [hN]
  generalize hH1 : H.push ({ cls := G.2.1 2, slots := Array.replicate n .null, vm := .none } : Cell) = H1
  have z1 : H1.size = H.size + 1 := by rw [← hH1, Array.size_push]
  have e1 : H1[H.size]? = some (arrV (G.2.1 2) n (fun _ => .null)) := by rw [← hH1, Array.getElem?_push_size, ← arrV_new]
  have o1 : ∀ q : Nat, q < H.size → H1[q]? = H[q]? := fun q hq => by rw [← hH1, Array.getElem?_push, if_neg (Nat.ne_of_lt hq)]
  rw [hsz] at e1
  show W p l e Rm s m args below meth c H1 locs (cells + 1) (slots + n) Q (F0 m (pc + 3) ls (.ref H.size :: st))
  rw [hsz]
  refine kk H1 ⟨fun q => by omega, by omega, fun a ha => ?_⟩ ⟨Nat.le_trans hS.1 (by omega), fun x g1 g2 => (o1 x (by have := hS.1; omega)).trans (hS.2.1 x g1 g2), hS.2.2⟩
  by_cases ea : a = sz
  · subst ea
    refine ⟨fun n2 hs2 => ?_, fun n2 hs2 => ?_, fun n2 hs2 => ?_, fun n2 hs2 => ?_, fun c2 n2 hs2 => ?_⟩
    all_goals (rw [hs] at hs2)
    all_goals (first | (cases hs2; done) | (injection hs2 with h1 h2; omega) | skip)
    cases hs2
    rw [e1]
    congr 2
    funext j
    rw [(h0 a (Nat.le_refl _) j).2.2]
    rfl
  · exact (hR.2.2 a (by omega)).kept (o1 _ (by omega))
/-- ten rows of eight ints -/
theorem z_newMW {idx : Nat} (X : z_X F p s m args meth c G) (hR : z_Rl G 5 I J R H) (hS : va_S (fun q => G.2.2 ≤ q) s.heap H locs) (hd : decode F.2.1 pc = .ok (.multianewarray idx 2, 4)) (hw : Cond.classLink F.1.cls idx "[[I" ∈ z_tb) (hw2 : Cond.arrayClass .int ∈ z_tb) (ho : va_AOA .int s) (h0 : z_Z 5 I J R) (hce : cells + 11 ≤ Rm.cells ∧ slots + 90 ≤ Rm.slots)
    (kk : ∀ H1 : Heap, z_Rl G 16 I J (z_R5 R) H1 → va_S (fun q => G.2.2 ≤ q) s.heap H1 locs → W p l e Rm s m args below meth c H1 locs (cells + 11) (slots + 90) Q (F0 m (pc + 4) ls (.ref (G.2.2 + 5) :: st))) : W p l e Rm s m args below meth c H locs cells slots Q (F0 m pc ls (.int (Int32.ofInt 8) :: .int (Int32.ofInt 10) :: st)) := by
  have hts := X.2.2.2.2.2.2.1
  have hsz := hR.1 (by omega)
  have hA : s.vm.findClass ("[" ++ (FieldType.array .int).toString) = some (G.2.1 3) := (X.2.2.2.2.2.2.2.1.1.2 3 _ rfl).2
  have hB : s.vm.findClass ("[" ++ FieldType.int.toString) = some (G.2.1 0) := (X.2.2.2.2.2.2.2.1.1.2 0 _ rfl).2
  intro T hT Xs
  obtain ⟨vm₁, cA, comp, -, fA, fC, hO, -, X', step⟩ := Xs.multianewarray2F X.1 X.2.2.2.2.2.1 (hts _ hw) (va_AOA.use ho) (hts _ hw2) (g := F0 m pc ls (.int (Int32.ofInt 8) :: .int (Int32.ofInt 10) :: st)) rfl (by rw [X.2.1]; exact hd) rfl (by decide) (by decide) (by decide) (by decide) (by decide) rfl rfl hce.1 hce.2
  have ec : comp = G.2.1 0 := Option.some.inj (fC.symm.trans hB)
  subst ec
  have ea : cA = G.2.1 3 := Option.some.inj (fA.symm.trans hA)
  subst ea
  have n10 : (Int32.ofInt 10).toNatClampNeg = 10 := rfl
  have n8 : (Int32.ofInt 8).toNatClampNeg = 8 := rfl
  rw [n10, n8] at X' step
  generalize hF : Jvm.Free.Multi.fill (T.setVm vm₁) (G.2.1 3) (G.2.1 0) 10 8 (defaultValue .int) 10 = FF at X' step
  have hTh : (T.setVm vm₁).heap = H := hT
  obtain ⟨f1, f2, -, -⟩ := Jvm.Free.Multi.fill_facts (T.setVm vm₁) (G.2.1 3) (G.2.1 0) 10 8 (defaultValue .int) 10
  rw [hF, hTh] at f1 f2
  have hold : ∀ x : Nat, x < H.size → FF.heap[x]? = H[x]? := fun x hx => by
    have := Jvm.Free.Multi.fill_old (T.setVm vm₁) (G.2.1 3) (G.2.1 0) 10 8 (defaultValue .int) (a := x) (by rw [hTh]; exact hx) 10
    rw [hF, hTh] at this
    exact this
  have hrow : ∀ j : Nat, j < 10 → FF.heap[H.size + 1 + j]? = some (arrV (G.2.1 0) 8 (fun _ => .int 0)) := fun j hj => by
    have := Jvm.Free.Multi.fill_inner (T.setVm vm₁) (G.2.1 3) (G.2.1 0) 10 8 (defaultValue .int) 10 j hj
    rw [hF, hTh] at this
    rw [this]
    exact congrArg some (arrV_new _ _ _)
  rw [vr_outer, hsz] at f2
  rw [hsz] at hrow f1 hold
  have hall : ∀ a, a < 16 → z_at G I J (z_R5 R) FF.heap a := by
    intro a ha
    by_cases ea : a < 5
    · have h9 := (hR.2.2 a ea).kept (H1 := FF.heap) (hold _ (by omega))
      refine ⟨h9.1, h9.2.1, fun n hs => ?_, fun n hs => ?_, fun c2 n hs => ?_⟩
      · rw [h9.2.2.1 n hs]
        congr 2
        funext j
        rw [z_R5n R (by omega)]
      · rw [h9.2.2.2.1 n hs]
        congr 2
        funext j
        rw [z_R5n R (by omega)]
      · refine (h9.2.2.2.2 c2 n hs).to (fun j _ => ?_)
        unfold z_rd
        rw [z_R5n R (by omega)]
    · by_cases e5 : a = 5
      · subst e5
        refine ⟨fun n hs => (by cases hs), fun n hs => (by cases hs), fun n hs => (by cases hs), fun n hs => ?_, fun c2 n hs => ?_⟩
        · cases hs
          rw [f2]
          refine congrArg some (z_arrC _ fun j hj => ?_)
          rw [if_pos hj]
          exact congrArg Value.ref (show G.2.2 + 5 + 1 + j = G.2.2 + (6 + j) by omega)
        · have h9 := (Prod.mk.inj hs).1
          omega
      · have hs6 : z_sh a = (0, 8) := by
          have h9 : a = 6 + (a - 6) := by omega
          rw [h9]
          exact z_shr (a - 6) (by omega)
        refine ⟨fun n2 hs2 => ?_, fun n2 hs2 => ?_, fun n2 hs2 => ?_, fun n2 hs2 => ?_, fun c2 n2 hs2 => ?_⟩
        all_goals (rw [hs6] at hs2)
        all_goals (first | (cases hs2; done) | (injection hs2 with h1 h2; omega) | skip)
        cases hs2
        have h9 := hrow (a - 6) (by omega)
        rw [show G.2.2 + 5 + 1 + (a - 6) = G.2.2 + a by omega] at h9
        rw [h9]
        congr 2
        funext j
        rw [(h0 a (by omega) j).1]
        rfl
  obtain ⟨t, a1, b1⟩ := kk FF.heap ⟨fun q => by rw [f1], by rw [f1]; omega, hall⟩ ⟨Nat.le_trans hS.1 (by rw [f1, hsz]; omega), fun x g1 g2 => (hold x (by have := hS.1; omega)).trans (hS.2.1 x g1 g2), hS.2.2⟩ FF rfl X'
  refine ⟨t, step t ?_, b1⟩
  have e9 : T.heap.size = G.2.2 + 5 := by rw [hT, hsz]
  rw [e9]
  exact a1
end ZW
/-- two reference functions that agree where the layout has references -/
def z_Rc9 (sz : Nat) (R R' : AwR) : Prop := ∀ a, a < sz → (∀ n, z_sh a = (2, n) ∨ z_sh a = (3, n) → ∀ k, k < n → R a k = R' a k) ∧ (∀ c n, z_sh a = (c + 10, n) → ∀ k, k < n → 2 ≤ z_fk c k → R a k = R' a k)
theorem z_Rl.cg {G : ZG} {sz : Nat} {I J : AwI} {R R' : AwR} {H : Heap} (h : z_Rl G sz I J R H) (hc : z_Rc9 sz R R') : z_Rl G sz I J R' H := by
  refine ⟨h.1, h.2.1, fun a ha => ?_⟩
  obtain ⟨h1, h2, h3, h4, h5⟩ := h.2.2 a ha
  obtain ⟨g1, g2⟩ := hc a ha
  refine ⟨h1, h2, fun n hs => ?_, fun n hs => ?_, fun c n hs => ?_⟩
  · rw [h3 n hs]
    exact congrArg some (z_arrC _ fun j hj => by rw [g1 n (Or.inl hs) j hj])
  · rw [h4 n hs]
    exact congrArg some (z_arrC _ fun j hj => by rw [g1 n (Or.inr hs) j hj])
  · refine (h5 c n hs).to (fun j hj => ?_)
    have h9 := g2 c n hs j hj
    revert h9
    generalize z_fk c j = kd
    intro h9
    match kd with
    | 0 => rfl
    | 1 => rfl
    | q + 2 => show z_rf _ (R a j) = z_rf _ (R' a j); rw [h9 (by omega)]
section AVN
variable {E : ZE} {F : ZF} {cells slots sz pc : Nat} {lv lv' : List (Option AwV)} {st stk : List AwV} {I J : AwI} {R R' : AwR}
theorem av_cg (hc : z_Rc9 sz R R') (k : AV E F cells slots sz pc lv st I J R') : AV E F cells slots sz pc lv st I J R := by
  intro p l e s m args below meth c H locs ls G hE X hR hL hS
  exact k p l e s m args below meth c H locs ls G hE X (hR.cg hc) hL hS
theorem av_new {c1 idx sz' : Nat} (hd : decode F.2.1 pc = .ok (.new idx, 3)) (hn : z_Nw F.1.cls idx c1) (hz : sz < 255) (hs : z_sh sz = (c1 + 10, z_cn c1)) (h0 : z_Z sz I J R) (hce : cells + 1 ≤ F.2.2.2.2.1.cells ∧ slots + z_cn c1 ≤ F.2.2.2.2.1.slots) (hs' : sz + 1 = sz') (k : z_Z sz' I J R → AV E F (cells + 1) (slots + z_cn c1) sz' (pc + 3) lv (zr sz :: st) I J R) : AV E F cells slots sz pc lv st I J R := by
  subst hs'
  intro p l e s m args below meth c H locs ls G hE X hR hL hS
  exact z_newW X hR hS hd hn hz hs h0 hce fun H1 hR1 hS1 => k (h0.mono (Nat.le_succ _)) p l e s m args below meth c H1 locs ls G hE X hR1 hL hS1
theorem av_newI {n sz' : Nat} (hd : decode F.2.1 pc = .ok (.newarray .int, 2)) (hw : Cond.arrayClass .int ∈ z_tb) (hz : sz < 255) (hs : z_sh sz = (0, n)) (h0 : z_Z sz I J R) (hn : n ≤ 100000) (hce : cells + 1 ≤ F.2.2.2.2.1.cells ∧ slots + n ≤ F.2.2.2.2.1.slots) (hs' : sz + 1 = sz') (k : z_Z sz' I J R → AV E F (cells + 1) (slots + n) sz' (pc + 2) lv (zr sz :: st) I J R) : AV E F cells slots sz pc lv (zi (n : Int) :: st) I J R := by
  subst hs'
  intro p l e s m args below meth c H locs ls G hE X hR hL hS
  exact z_newIW X hR hS hd hw hz hs h0 hn hce fun H1 hR1 hS1 => k (h0.mono (Nat.le_succ _)) p l e s m args below meth c H1 locs ls G hE X hR1 hL hS1
theorem av_newJ {n sz' : Nat} (hd : decode F.2.1 pc = .ok (.newarray .long, 2)) (hw : Cond.arrayClass .long ∈ z_tb) (hz : sz < 255) (hs : z_sh sz = (1, n)) (h0 : z_Z sz I J R) (hn : n ≤ 100000) (hce : cells + 1 ≤ F.2.2.2.2.1.cells ∧ slots + n ≤ F.2.2.2.2.1.slots) (hs' : sz + 1 = sz') (k : z_Z sz' I J R → AV E F (cells + 1) (slots + n) sz' (pc + 2) lv (zr sz :: st) I J R) : AV E F cells slots sz pc lv (zi (n : Int) :: st) I J R := by
  subst hs'
  intro p l e s m args below meth c H locs ls G hE X hR hL hS
  exact z_newJW X hR hS hd hw hz hs h0 hn hce fun H1 hR1 hS1 => k (h0.mono (Nat.le_succ _)) p l e s m args below meth c H1 locs ls G hE X hR1 hL hS1
theorem av_newQ {idx n sz' : Nat} (hd : decode F.2.1 pc = .ok (.anewarray idx, 3)) (hw : Cond.classLink F.1.cls idx "CutProofs$Cut" ∈ z_tb) (ho : ∀ l G args s c, E l G args s c → va_AO "CutProofs$Cut" s) (hz : sz < 255) (hs : z_sh sz = (2, n)) (h0 : z_Z sz I J R) (hn : n ≤ 100000) (hce : cells + 1 ≤ F.2.2.2.2.1.cells ∧ slots + n ≤ F.2.2.2.2.1.slots) (hs' : sz + 1 = sz') (k : z_Z sz' I J R → AV E F (cells + 1) (slots + n) sz' (pc + 3) lv (zr sz :: st) I J R) : AV E F cells slots sz pc lv (zi (n : Int) :: st) I J R := by
  subst hs'
  intro p l e s m args below meth c H locs ls G hE X hR hL hS
  exact z_newQW X hR hS hd hw (ho _ _ _ _ _ hE) hz hs h0 hn hce fun H1 hR1 hS1 => k (h0.mono (Nat.le_succ _)) p l e s m args below meth c H1 locs ls G hE X hR1 hL hS1
theorem av_newM {idx : Nat} (hd : decode F.2.1 pc = .ok (.multianewarray idx 2, 4)) (hw : Cond.classLink F.1.cls idx "[[I" ∈ z_tb) (hw2 : Cond.arrayClass .int ∈ z_tb) (ho : ∀ l G args s c, E l G args s c → va_AOA .int s) (h0 : z_Z 5 I J R) (hce : cells + 11 ≤ F.2.2.2.2.1.cells ∧ slots + 90 ≤ F.2.2.2.2.1.slots) (k : z_Z 16 I J (z_R5 R) → AV E F (cells + 11) (slots + 90) 16 (pc + 4) lv (zr 5 :: st) I J (z_R5 R)) : AV E F cells slots 5 pc lv (zi 8 :: zi 10 :: st) I J R := by
  intro p l e s m args below meth c H locs ls G hE X hR hL hS
  exact z_newMW X hR hS hd hw hw2 (ho _ _ _ _ _ hE) h0 hce fun H1 hR1 hS1 => k (fun b hb j => by rw [z_R5n R (by omega)]; exact h0 b (by omega) j) p l e s m args below meth c H1 locs ls G hE X hR1 hL hS1
theorem av_putR {a c idx k b : Nat} {t : FieldType} (hd : decode F.2.1 pc = .ok (.putfield idx, 3)) (hl : z_Fl F.1.cls idx c k true t) (hf : z_fk c k = 2) (ht : ∀ x, narrow t (.ref x) = .ref x ∧ fits t (.ref x) = true) (hnm2 : F.1.name = "<init>") (hcls : (vwCl[c]?).map (fun q => q.1) = some F.1.cls) (ha : a < sz) (hs : z_sh a = (c + 10, z_cn c)) (h0 : z_Z sz I J R) (kk : z_Z sz I J (z_up R a k (some b)) → AV E F cells slots sz (pc + 3) lv st I J (z_up R a k (some b))) : AV E F cells slots sz (pc) lv (zr b :: zr a :: st) I J R := by
  obtain ⟨C, T, ty, ⟨hc, hin, hty, hnm⟩, hk, hlink, hfin, htk, hdec⟩ := hl
  intro p l e s m args below meth c0 H locs ls G hE X hR hL hS
  have hts := X.2.2.2.2.2.2.1
  have hap := va_apart (own := C) hts hin ty hty hnm X.2.2.2.2.2.2.2.1.1 hc
  obtain ⟨cell, q1, q2, q3, q4⟩ := (hR.2.2 a ha).2.2.2.2 c _ hs
  obtain ⟨hS', hfc, kC, hkC, hkind⟩ := X.2.2.2.2.2.2.2.1.1.1 c _ hc
  obtain ⟨cf, kf, fi, f, hi, hsl⟩ := hS' k hk
  have hlay := hts _ (hin _ (u_in_lay hk))
  unfold u_lay at hlay
  rw [if_pos hfin] at hlay
  have hst := (u_facts hfc hkC (u_lays hts hin hk) hi).1
  have hown : s.vm.findClass F.1.cls = some m.cls := X.2.2.2.2.2.1
  have hC : C = F.1.cls := by rw [hc] at hcls; exact Option.some.inj hcls
  have hcf : m.cls = cf := by
    obtain ⟨_, _, c', _, _, _, -, -, hf', -, -, -, hown2, -⟩ := Cond.laysFinal_spec hlay
    have e1 : c' = cf := by have := hi.symm.trans hf'; simp at this; exact this.1.symm
    rw [hdec, hC] at hown2
    rw [← e1]; exact Option.some.inj (hown.symm.trans hown2)
  have h6 := u_fits (v := z_cv G.2.2 (zr b)) hfc hkC hkind (Or.inr hlay) hi (by rw [hty k hk, htk]) (ht _).1 (ht _).2
  refine W.putFinK (v := z_cv G.2.2 (zr b)) X.1 X.2.1 hown (hts _ hlink) hi hst hcf (X.2.2.2.2.2.2.2.2.trans hnm2) (by rw [q2]; exact h6) q1 q3 (by rw [hsl]; exact k2_hasslot (q4 k hk)) rfl rfl hd fun H1 he hz1 oq => ?_
  refine kk (h0.upR ha) p l e s m args below meth c0 H1 _ ls G hE X ⟨fun q => by rw [hz1]; exact hR.1 q, by rw [hz1]; exact hR.2.1, fun a' ha' => ?_⟩ hL (z_Sput hS hz1 oq (Nat.le_add_right _ _))
  by_cases e1 : a' = a
  · subst e1
    refine ⟨fun n2 hs2 => ?_, fun n2 hs2 => ?_, fun n2 hs2 => ?_, fun n2 hs2 => ?_, fun c2 n2 hs2 => ?_⟩
    all_goals (rw [hs] at hs2)
    all_goals (first | (cases hs2; done) | (injection hs2 with h1 h2; omega) | skip)
    obtain ⟨h1, h2⟩ := Prod.mk.inj hs2
    have h1 : c2 = c := by omega
    subst h1
    subst h2
    rw [hsl] at he
    refine t_OB.to (V := updV (fun j => z_cv G.2.2 (z_rd I J R a' (z_fk c2 j) j)) k (z_cv G.2.2 (zr b))) ⟨_, he, q2, q3, t_set q4 hap hk _⟩ (fun j _ => ?_)
    by_cases hj : j = k
    · subst hj; simp [updV, hf, z_rd, z_up_s]
    · simp [updV, hj, z_rd, z_up_k _ _ hj]
  · exact (hR.2.2 a' ha').upR e1 oq
theorem av_obj {a idx : Nat} (hd : decode F.2.1 pc = .ok (.invokespecial idx, 3)) (hl : Cond.methodLink F.1.cls idx Lib.objectInit ∈ z_tb) (h1 : Cond.instanceMethod Lib.objectInit ∈ z_tb) (h2 : Cond.code Lib.objectInit ⟨#[0xb1]⟩ 1 none ∈ z_tb) (hw : (st.map z_c12).sum ≤ 8) (hr : 1 ≤ F.2.2.2.2.1.frames ∧ 20 ≤ F.2.2.2.2.1.locals) (k : AV E F cells slots sz (pc + 3) lv st I J R) : AV E F cells slots sz pc lv (zr a :: st) I J R := by
  intro p l e s m args below meth c H locs ls G hE X hR hL hS
  have hts := X.2.2.2.2.2.2.1
  refine W.objInit X.1 X.2.1 X.2.2.2.2.2.1 (hts _ hl) (hts _ h1) (hts _ h2) rfl (hL.2.1.trans X.2.2.1.symm) rfl hd hr.1 ?_ (k p l e s m args below meth c H locs ls G hE X hR hL hS)
  have h9 := z_wid G.2.2 st hw
  show 2 * 0 + _ + 12 ≤ _
  omega
end AVN
/-! contracts with a premise on the start -/
def z_PE (Ex : Launch → ZG → State → Prop) (l : Launch) (G : ZG) (as : List AwV) (sz : Nat) (I J : AwI) (R : AwR) : Array Value → State → Prop := fun v U => z_Pc G as sz I J R v U ∧ Ex l G U
def CE (Ex : Launch → ZG → State → Prop) (d : ZD) (as : List AwV) (sz : Nat) (I J : AwI) (R : AwR) (Q : ZQ) : Prop :=
  ∀ (l : Launch) (G : ZG), Met l d.1 (z_ws d) d.2.2.2.2 (z_PE Ex l G as sz I J R) (z_Qc G Q) d.2.2.2.2.cells d.2.2.2.2.slots (fun q => G.2.2 ≤ q)
def z_EX (Ex : Launch → ZG → State → Prop) : ZE := fun l G _ s _ => Ex l G s
theorem CE.of {Ex : Launch → ZG → State → Prop} {d : ZD} {as : List AwV} {sz : Nat} {I J : AwI} {R : AwR} {Q : ZQ} (hy : plainName d.1.cls = true) (hn : (z_en1 as).length ≤ d.2.2.1) (h : AV (z_EX Ex) (FM d Q) 0 0 sz 0 (z_en as d.2.2.1) [] I J R) : CE Ex d as sz I J R Q := by
  intro l G
  refine Met.ofW (cc := d.2.1) (maxL := d.2.2.1) (ret := d.2.2.2.1) hy rfl ?_
  intro p e s m args below meth c s₁ B hml hv
  obtain ⟨⟨rfl, hK, hRl⟩, hE⟩ := hv
  rw [lg_entry_eq]
  have hts := atoms_spec (ws := z_ws d) B.pre
  exact h p l e s m _ below meth c s.heap [] _ G hE ⟨B.exec, B.bytes, hml, B.returns, B.notSynchronized, findClass_of_methodNamed B.named, fun w hw => hts w (List.mem_cons_of_mem _ hw), hK, (name_of_methodNamed B.named B.method).1⟩ hRl (z_en_Lo _ as d.2.2.1 hn) va_S.rf
/-- a premise that later states keep -/
def z_Ek (Ex : Launch → ZG → State → Prop) : Prop := (∀ (l : Launch) (G : ZG) (s U : State), s.WarmedH U.vm → (∀ q : Nat, q < s.heap.size → q < G.2.2 → U.heap[q]? = s.heap[q]?) → Ex l G s → Ex l G U) ∧ ∀ (l : Launch) (G : ZG) (U : State) (g : JFrame) (mk : MethodId) (a : Array Value), Ex l G U → Ex l G (U.calling g mk a)
def z_Ci (d : ZD) (n : Nat) : Prop := Cond.code d.1 d.2.1 d.2.2.1 none ∈ z_tb ∧ Cond.instanceMethod d.1 ∈ z_tb ∧ Cond.initialized d.1.cls ∈ z_tb ∧ (d.1.cls ≠ "java/lang/invoke/MethodHandle" ∧ d.1.cls ≠ "java/lang/invoke/VarHandle") ∧ (parseMethodDescriptor d.1.desc).map (fun d => d.parameters.length) = some n ∧ d.1.name = "<init>" ∧ d.2.2.2.1 = none
theorem z_blindE {Ex : Launch → ZG → State → Prop} (hk : z_Ek Ex) {l : Launch} {G : ZG} {as : List AwV} {sz : Nat} {I J : AwI} {R : AwR} : FrameBlind (z_PE Ex l G as sz I J R) := by
  intro a U g mk h
  exact ⟨z_blind a U g mk h.1, hk.2 _ _ _ _ _ _ h.2⟩
theorem z_initW {Ex : Launch → ZG → State → Prop} (hk : z_Ek Ex) {p : Program} {l : Launch} {e : Env} {s : State} {m : MethodId} {args : Array Value} {below : List Frame} {meth : Method} {c : Code} {H : Heap} {locs : List Loc} {cells slots : Nat}
    {F : ZF} {G : ZG} {sz pc : Nat} {I J : AwI} {R : AwR} {ls : Array Slot} {st : List Value} {d : ZD} {As : List AwV} {a idx n : Nat} {Q : ZQ} (hM : CE Ex d (zr a :: As) sz I J R Q) (hc : z_Ci d n) (hE : Ex l G s) (X : z_X F p s m args meth c G) (hR : z_Rl G sz I J R H) (hS : va_S (fun q => G.2.2 ≤ q) s.heap H locs) (hL : ls.size = F.2.2.1) (hd : decode F.2.1 pc = .ok (.invokespecial idx, 3)) (hl : Cond.methodLink F.1.cls idx d.1 ∈ z_tb ∨ ∃ host, Cond.methodLinkNest F.1.cls idx d.1 host ∈ z_nl) (hn : As.length = n) (hrm : z_Rm d F) (hce : cells + d.2.2.2.2.cells ≤ F.2.2.2.2.1.cells ∧ slots + d.2.2.2.2.slots ≤ F.2.2.2.2.1.slots) (hw : (st.map fun v => v.category).sum ≤ 8) :
    va_Run p l e F.2.2.2.2.1 s m args below meth c H locs cells slots d.2.2.2.2.cells d.2.2.2.2.slots (F0 m pc ls ((As.map (z_cv G.2.2)).reverse ++ .ref (G.2.2 + a) :: st)) st (z_Qc G Q ((zr a :: As).map (z_cv G.2.2)).toArray) (fun q => G.2.2 ≤ q) := by
  obtain ⟨h1, h2, h4, h5, h6, h7, h8⟩ := hc
  have hts := X.2.2.2.2.2.2.1
  have hg : GoodIn z_tb (z_ws d) := z_goodIn (by rw [h8]; exact h1)
  have hcm : Cond.code d.1 d.2.1 d.2.2.1 none ∈ z_ws d := by unfold z_ws; rw [h8]; exact List.mem_cons_self
  have hpre : PreS s H (z_PE Ex l G (zr a :: As) sz I J R) (.ref (G.2.2 + a) :: As.map (z_cv G.2.2)) := ⟨z_blindE hk, fun U hU hW => ⟨⟨rfl, X.2.2.2.2.2.2.2.1.moved hW, by rw [hU]; exact hR⟩, hk.1 _ _ _ _ hW (fun q g1 g2 => by rw [hU]; exact hS.2.1 q g1 (by omega)) hE⟩⟩
  rcases hl with hl | ⟨host, hl⟩
  · exact va_runI (Ts := z_tb) (own := F.1.cls) (b := G.2.2 + a) (As := As.map (z_cv G.2.2)) (rest := st) (bytes := d.2.1) (maxL := d.2.2.1) (n := n) ⟨X.1, X.2.1, X.2.2.1, X.2.2.2.2.2.1, hts⟩ (hM l G) ⟨⟨rfl, rfl, hrm.1, hrm.2, pay_in hts hg, hcm, hts _ h1, hts _ h4, h5, z_sig h6, hts _ hl⟩, h7, hts _ h2⟩ hpre rfl (by rw [List.length_map]; exact hn) hL rfl (lv_room hw) hd hce
  · exact va_runIN (host := host) (Ts := z_tb) (own := F.1.cls) (b := G.2.2 + a) (As := As.map (z_cv G.2.2)) (rest := st) (bytes := d.2.1) (maxL := d.2.2.1) (n := n) ⟨X.1, X.2.1, X.2.2.1, X.2.2.2.2.2.1, hts⟩ (hM l G) ⟨⟨⟨rfl, rfl, hrm.1, hrm.2, pay_in hts hg, hcm⟩, hts _ h1, hts _ h4, h5, z_sig h6, va_Nw.use rfl (X.2.2.2.2.2.2.2.1.2 _ hl)⟩, h7, hts _ h2⟩ hpre rfl (by rw [List.length_map]; exact hn) hL rfl (lv_room hw) hd hce
theorem av_init {Ex : Launch → ZG → State → Prop} (hk : z_Ek Ex) {F : ZF} {cells slots sz pc : Nat} {lv : List (Option AwV)} {st stk : List AwV} {I J : AwI} {R : AwR} {d : ZD} {As : List AwV} {a idx n : Nat} {v : Option AwV} {sz2 : Nat} {I2 J2 : AwI} {R2 : AwR} (hM : CE Ex d (zr a :: As) sz I J R (z_P v sz2 I2 J2 R2)) (hc : z_Ci d n) (hd : decode F.2.1 pc = .ok (.invokespecial idx, 3)) (hl : Cond.methodLink F.1.cls idx d.1 ∈ z_tb ∨ ∃ host, Cond.methodLinkNest F.1.cls idx d.1 host ∈ z_nl) (hn : As.length = n) (hrm : z_Rm d F) (hce : cells + d.2.2.2.2.cells ≤ F.2.2.2.2.1.cells ∧ slots + d.2.2.2.2.slots ≤ F.2.2.2.2.1.slots) (hst : stk = As.reverse ++ zr a :: st) (hw : (st.map z_c12).sum ≤ 8)
    (kk : AV (z_EX Ex) F (cells + d.2.2.2.2.cells) (slots + d.2.2.2.2.slots) sz2 (pc + 3) lv (v.toList ++ st) I2 J2 R2) : AV (z_EX Ex) F cells slots sz pc lv stk I J R := by
  intro p l e s m args below meth c H locs ls G hE X hR hL hS
  subst hst
  have hrun := z_initW hk (below := below) (e := e) (st := st.map (z_cv G.2.2)) hM hc hE X hR hS hL.2.1 hd hl hn hrm hce (z_wid _ _ hw)
  rw [List.map_append, List.map_reverse, List.map_cons]
  exact av_back (E := z_EX Ex) (d := d) hE X hL hS hrun (fun r sz' I' J' R' h => by obtain ⟨rfl, rfl, rfl, rfl, rfl⟩ := h; exact kk)

