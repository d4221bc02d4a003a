/-! THE ABSTRACT MACHINE: values are whole numbers without a bound and addresses counted from a base; the heap is three functions over a fixed layout -/
abbrev AwV : Type := Int ⊕ Int ⊕ Option Nat
abbrev zi (x : Int) : AwV := .inl x
abbrev zl (x : Int) : AwV := .inr (.inl x)
abbrev zq (r : Option Nat) : AwV := .inr (.inr r)
abbrev zr (a : Nat) : AwV := .inr (.inr (some a))
def z_rf (b : Nat) : Option Nat → Value
  | none => .null
  | some a => .ref (b + a)
def z_cv (b : Nat) : AwV → Value
  | .inl x => .int (Int32.ofInt x)
  | .inr (.inl x) => .long (Int64.ofInt x)
  | .inr (.inr r) => z_rf b r
abbrev AwI : Type := Nat → Nat → Int
abbrev AwR : Type := Nat → Nat → Option Nat
def z_up {α : Type} (f : Nat → Nat → α) (a k : Nat) (x : α) : Nat → Nat → α := fun a' k' => if a' = a ∧ k' = k then x else f a' k'
theorem z_up_s {α : Type} (f : Nat → Nat → α) (a k : Nat) (x : α) : z_up f a k x a k = x := if_pos ⟨rfl, rfl⟩
theorem z_up_a {α : Type} (f : Nat → Nat → α) {a k : Nat} (x : α) {a' k' : Nat} (h : a' ≠ a) : z_up f a k x a' k' = f a' k' := if_neg (fun q => h q.1)
theorem z_up_k {α : Type} (f : Nat → Nat → α) {a k : Nat} (x : α) {a' k' : Nat} (h : k' ≠ k) : z_up f a k x a' k' = f a' k' := if_neg (fun q => h q.2)
/-- the layout: cells 0 .. 254, by the order in which the law makes them -/
def z_tA : List (Nat × Nat) := [(18, 7), (16, 7), (0, 8), (0, 8), (1, 8), (3, 10), (0, 8), (0, 8), (0, 8), (0, 8), (0, 8), (0, 8), (0, 8), (0, 8), (0, 8), (0, 8), (0, 10), (15, 4), (2, 41)]
def z_tC : List (Nat × Nat) := [(14, 9), (0, 8), (0, 10), (0, 8), (0, 8)]
def z_tB : List (Nat × Nat) := [(17, 4), (0, 8), (13, 8), (0, 8), (0, 8), (0, 8), (0, 65), (12, 4), (0, 8), (10, 1), (11, 3), (0, 8), (0, 10), (19, 25), (0, 8), (0, 8), (1, 8), (0, 10), (0, 80), (1, 320), (1, 40), (0, 40), (0, 40), (0, 1080), (1, 8), (0, 27), (0, 8), (0, 8), (0, 8), (0, 8), (1, 1)]
def z_sh (a : Nat) : Nat × Nat := if a < 19 then z_tA.getD a (0, 0) else if a < 224 then z_tC.getD ((a - 19) % 5) (0, 0) else z_tB.getD (a - 224) (0, 0)
/-- number of fields of class c; kinds of the fields: 0 int, 1 long, 2 reference -/
def z_cn (c : Nat) : Nat := ([1, 3, 4, 8, 9, 4, 7, 4, 7, 25] : List Nat).getD c 0
def z_ft : List (List Nat) := [[2], [2, 2, 2], [2, 2, 2, 0], [2, 2, 2, 2, 2, 2, 0, 0], [2, 2, 2, 2, 0, 0, 0, 0, 0], [2, 0, 0, 2], [2, 2, 2, 2, 2, 0, 0], [2, 2, 2, 0], [2, 2, 2, 2, 2, 2, 2], [0, 2, 2, 2, 0, 2, 2, 0, 2, 2, 2, 2, 2, 0, 0, 0, 2, 1, 2, 2, 2, 2, 0, 0, 2]]
def z_fk (c k : Nat) : Nat := (z_ft.getD c []).getD k 0
def z_rd (I J : AwI) (R : AwR) (a kd k : Nat) : AwV := match kd with
  | 0 => zi (I a k)
  | 1 => zl (J a k)
  | _ => zq (R a k)
theorem z_rd_up (I J : AwI) (R : AwR) (a kd k a' k' : Nat) (h : a' ≠ a) (x : Int) : z_rd (z_up I a k x) J R a' kd k' = z_rd I J R a' kd k' ∧ z_rd I (z_up J a k x) R a' kd k' = z_rd I J R a' kd k' := by
  unfold z_rd
  rw [z_up_a _ _ h, z_up_a _ _ h]
  exact ⟨rfl, rfl⟩
/-- where the base is, the classes' numbers and slots, the array classes -/
abbrev ZG : Type := va_G × (Nat → ClassId) × Nat
def z_at (G : ZG) (I J : AwI) (R : AwR) (H : Heap) (a : Nat) : Prop :=
  (∀ n, z_sh a = (0, n) → H[G.2.2 + a]? = some (arrV (G.2.1 0) n (fun j => .int (Int32.ofInt (I a j))))) ∧
  (∀ n, z_sh a = (1, n) → H[G.2.2 + a]? = some (arrV (G.2.1 1) n (fun j => .long (Int64.ofInt (J a j))))) ∧
  (∀ n, z_sh a = (2, n) → H[G.2.2 + a]? = some (arrV (G.2.1 2) n (fun j => z_rf G.2.2 (R a j)))) ∧
  (∀ n, z_sh a = (3, n) → H[G.2.2 + a]? = some (arrV (G.2.1 3) n (fun j => z_rf G.2.2 (R a j)))) ∧
  (∀ c n, z_sh a = (c + 10, n) → t_OB (G.2.2 + a) (G.1.1 c) n (G.1.2 c) H (fun j => z_cv G.2.2 (z_rd I J R a (z_fk c j) j)))
def z_Rl (G : ZG) (sz : Nat) (I J : AwI) (R : AwR) (H : Heap) : Prop := (sz < 255 → H.size = G.2.2 + sz) ∧ G.2.2 + sz ≤ H.size ∧ ∀ a, a < sz → z_at G I J R H a
/-- the words that every method has -/
def z_tb : List Cond := lw_tbl.filter goodWord
def z_nl : List Cond := [.methodLinkNest "CutProofs" 9 ⟨"CutProofs$Model", "<init>", "()V"⟩ "CutProofs", .methodLinkNest "CutProofs$Checker" 101 ⟨"CutProofs", "isIn", "(II)Z"⟩ "CutProofs", .methodLinkNest "CutProofs$CliqueSearch" 54 ⟨"CutProofs", "isIn", "(II)Z"⟩ "CutProofs", .methodLinkNest "CutProofs$CoverSearch" 80 ⟨"CutProofs", "isIn", "(II)Z"⟩ "CutProofs", .methodLinkNest "CutProofs$CutList" 25 ⟨"CutProofs$Cut", "<init>", "()V"⟩ "CutProofs", .methodLinkNest "CutProofs$RoundingSearch" 50 ⟨"CutProofs", "isIn", "(II)Z"⟩ "CutProofs"]
def z_ty (G : ZG) : List (ClassId × FieldType) := [(G.2.1 0, .int), (G.2.1 1, .long), (G.2.1 2, .object "CutProofs$Cut"), (G.2.1 3, .array .int)]
def z_K (G : ZG) (U : State) : Prop := va_K G.1 vwCl (z_ty G) U ∧ ∀ w ∈ z_nl, va_Nw w U
theorem z_nl_M : ∀ w ∈ z_nl, ∃ a i x h, w = .methodLinkNest a i x h := by
  intro w hw
  unfold z_nl at hw
  simp only [List.mem_cons, List.not_mem_nil, or_false] at hw
  rcases hw with h | h | h | h | h | h <;> exact ⟨_, _, _, _, h⟩
theorem z_K.moved {G : ZG} {s U : State} (hW : s.WarmedH U.vm) (h : z_K G s) : z_K G U := by
  refine ⟨va_K.moved hW.alike h.1, fun w hw => ?_⟩
  obtain ⟨a, i, x, q, rfl⟩ := z_nl_M w hw
  exact va_Nw.warmM hW (h.2 _ hw)
theorem z_K.blind {G : ZG} {U : State} {g : JFrame} {mk : MethodId} {a : Array Value} (h : z_K G U) : z_K G (U.calling g mk a) := by
  refine ⟨va_K.moved (u := U) (U := U.calling g mk a) (Vm.Alike.refl U.vm) h.1, fun w hw => ?_⟩
  obtain ⟨a, i, x, q, rfl⟩ := z_nl_M w hw
  exact va_Nw.same (w := .methodLinkNest a i x q) rfl (u := U) rfl (h.2 _ hw)
/-- locals -/
def z_Lo (b : Nat) (ls : Array Slot) (nL : Nat) (lv : List (Option AwV)) : Prop := lv.length = nL ∧ ls.size = nL ∧ lv_wf ls ∧ ∀ (i : Nat) (v : AwV), lv[i]? = some (some v) → ls[i]? = some (.val (z_cv b v))
def z_kl1 (lv : List (Option AwV)) (j : Nat) : List (Option AwV) := match lv[j]? with
  | some (some (.inr (.inl _))) => lv.set j none
  | _ => lv
def z_kl (lv : List (Option AwV)) : Nat → List (Option AwV)
  | 0 => lv
  | j + 1 => z_kl1 lv j
def z_st (lv : List (Option AwV)) (i : Nat) (v : AwV) : List (Option AwV) := (z_kl lv i).set i (some v)
def z_st2 (lv : List (Option AwV)) (i : Nat) (v : AwV) : List (Option AwV) := (z_st lv i v).set (i + 1) none
theorem z_kl_len (lv : List (Option AwV)) (i : Nat) : (z_kl lv i).length = lv.length := by
  cases i with
  | zero => rfl
  | succ j => show (z_kl1 lv j).length = _; unfold z_kl1; split <;> simp
theorem z_cat (b : Nat) (v : AwV) : (z_cv b v).category = 2 ↔ ∃ x, v = zl x := by
  rcases v with x | x | r
  · simp [z_cv, Value.category]
  · simp [z_cv, Value.category]
  · cases r <;> simp [z_cv, z_rf, Value.category]
theorem z_kl_get {lv : List (Option AwV)} {i j : Nat} {v : AwV} (h : (z_kl lv i)[j]? = some (some v)) : lv[j]? = some (some v) ∧ (j + 1 = i → ∀ x, v ≠ zl x) := by
  cases i with
  | zero => exact ⟨h, fun q => by omega⟩
  | succ k =>
    replace h : (z_kl1 lv k)[j]? = some (some v) := h
    unfold z_kl1 at h
    split at h
    · rename_i y hy
      by_cases hj : j = k
      · subst hj
        rw [List.getElem?_set] at h
        simp at h
      · rw [List.getElem?_set_ne (fun q => hj q.symm)] at h
        exact ⟨h, fun q => by omega⟩
    · rename_i hno
      refine ⟨h, fun q x hx => ?_⟩
      have hjk : j = k := by omega
      subst hjk
      exact hno x (by rw [h, hx])
theorem z_Lo.has {b nL : Nat} {ls : Array Slot} {lv : List (Option AwV)} (h : z_Lo b ls nL lv) : lv_has ls nL ((List.range lv.length).filterMap (fun i => match lv[i]? with | some (some v) => some (i, z_cv b v) | _ => none)) := by
  refine ⟨h.2.1, h.2.2.1, fun q hq => ?_⟩
  obtain ⟨i, -, hi⟩ := List.mem_filterMap.mp hq
  split at hi
  · rename_i v hv
    cases hi
    exact h.2.2.2 i v hv
  · cases hi
theorem z_Lo.in {b nL : Nat} {lv : List (Option AwV)} {i : Nat} {v : AwV} (h : lv[i]? = some (some v)) : (i, z_cv b v) ∈ (List.range lv.length).filterMap (fun i => match lv[i]? with | some (some v) => some (i, z_cv b v) | _ => none) := by
  refine List.mem_filterMap.mpr ⟨i, List.mem_range.mpr (List.getElem?_eq_some_iff.mp h).1, ?_⟩
  rw [h]
theorem z_Lo.st {b nL : Nat} {ls ls' : Array Slot} {lv : List (Option AwV)} {i : Nat} {v : AwV} (h : z_Lo b ls nL lv) (h' : lv_has ls' nL ((i, z_cv b v) :: ((List.range lv.length).filterMap (fun i => match lv[i]? with | some (some v) => some (i, z_cv b v) | _ => none)).filter (fun q => !(q.1 == i) && !(q.1 + 1 == i && q.2.category == 2)))) : z_Lo b ls' nL (z_st lv i v) := by
  refine ⟨by unfold z_st; rw [List.length_set, z_kl_len]; exact h.1, h'.1, h'.2.1, fun j w hj => ?_⟩
  unfold z_st at hj
  by_cases e : j = i
  · subst e
    rw [List.getElem?_set] at hj
    simp only [if_true] at hj
    split at hj
    · cases hj
      exact h'.2.2 (j, z_cv b v) List.mem_cons_self
    · cases hj
  · rw [List.getElem?_set_ne (fun q => e q.symm)] at hj
    obtain ⟨h1, h2⟩ := z_kl_get hj
    refine h'.2.2 (j, z_cv b w) (List.mem_cons_of_mem _ (List.mem_filter.mpr ⟨z_Lo.in (nL := nL) h1, ?_⟩))
    by_cases e2 : j + 1 = i
    · have h3 : ¬ (z_cv b w).category = 2 := fun q => by
        obtain ⟨x, hx⟩ := (z_cat b w).mp q
        exact h2 e2 x hx
      simp [e, h3]
    · simp [e, e2]
theorem z_Lo.st2 {b nL : Nat} {ls ls' : Array Slot} {lv : List (Option AwV)} {i : Nat} {v : AwV} (h : z_Lo b ls nL lv) (h' : lv_has ls' nL ((i, z_cv b v) :: ((List.range lv.length).filterMap (fun i => match lv[i]? with | some (some v) => some (i, z_cv b v) | _ => none)).filter (fun q => !(q.1 == i) && (!(q.1 == i + 1) && !(q.1 + 1 == i && q.2.category == 2))))) : z_Lo b ls' nL (z_st2 lv i v) := by
  refine ⟨by unfold z_st2 z_st; rw [List.length_set, List.length_set, z_kl_len]; exact h.1, h'.1, h'.2.1, fun j w hj => ?_⟩
  unfold z_st2 at hj
  by_cases e1 : j = i + 1
  · subst e1
    rw [List.getElem?_set] at hj
    simp only [if_true] at hj
    split at hj <;> cases hj
  rw [List.getElem?_set_ne (fun q => e1 q.symm)] at hj
  unfold z_st at hj
  by_cases e : j = i
  · subst e
    rw [List.getElem?_set] at hj
    simp only [if_true] at hj
    split at hj
    · cases hj
      exact h'.2.2 (j, z_cv b v) List.mem_cons_self
    · cases hj
  · rw [List.getElem?_set_ne (fun q => e q.symm)] at hj
    obtain ⟨h1, h2⟩ := z_kl_get hj
    refine h'.2.2 (j, z_cv b w) (List.mem_cons_of_mem _ (List.mem_filter.mpr ⟨z_Lo.in (nL := nL) h1, ?_⟩))
    by_cases e2 : j + 1 = i
    · have h3 : ¬ (z_cv b w).category = 2 := fun q => by
        obtain ⟨x, hx⟩ := (z_cat b w).mp q
        exact h2 e2 x hx
      simp [e, e1, h3]
    · simp [e, e1, e2]
def z_en1 (args : List AwV) : List (Option AwV) := args.flatMap fun v => match v with
  | .inr (.inl x) => [some (zl x), none]
  | v => [some v]
def z_en (args : List AwV) (nL : Nat) : List (Option AwV) := z_en1 args ++ List.replicate (nL - (z_en1 args).length) none
theorem z_en1_in (b : Nat) : ∀ (args : List AwV) (k i : Nat) (v : AwV), (z_en1 args)[i]? = some (some v) → (k + i, z_cv b v) ∈ lv_args k (args.map (z_cv b)) := by
  intro args
  induction args with
  | nil => intro k i v h; simp [z_en1] at h
  | cons w ws ih =>
    intro k i v h
    rcases w with x | x | r
    · have e : z_en1 (Sum.inl x :: ws) = some (zi x) :: z_en1 ws := rfl
      rw [e] at h
      cases i with
      | zero => cases h; exact List.mem_cons_self
      | succ j =>
        have h1 := ih (k + 1) j v h
        rw [show k + (j + 1) = k + 1 + j by omega]
        exact List.mem_cons_of_mem _ h1
    · have e : z_en1 (Sum.inr (Sum.inl x) :: ws) = some (zl x) :: none :: z_en1 ws := rfl
      rw [e] at h
      cases i with
      | zero => cases h; exact List.mem_cons_self
      | succ j =>
        cases j with
        | zero => cases h
        | succ j =>
          have h1 := ih (k + 2) j v h
          rw [show k + (j + 1 + 1) = k + 2 + j by omega]
          exact List.mem_cons_of_mem _ h1
    · have e : z_en1 (Sum.inr (Sum.inr r) :: ws) = some (zq r) :: z_en1 ws := rfl
      rw [e] at h
      cases i with
      | zero => cases h; exact List.mem_cons_self
      | succ j =>
        have h1 := ih (k + 1) j v h
        rw [show k + (j + 1) = k + 1 + j by omega]
        cases r <;> exact List.mem_cons_of_mem _ h1
theorem z_en1_len (b : Nat) (args : List AwV) : (lg_sl (args.map (z_cv b))).length = (z_en1 args).length := by
  induction args with
  | nil => rfl
  | cons w ws ih =>
    have e1 : lg_sl ((w :: ws).map (z_cv b)) = (if (z_cv b w).category = 2 then [.val (z_cv b w), .second] else [.val (z_cv b w)]) ++ lg_sl (ws.map (z_cv b)) := rfl
    rw [e1]
    rcases w with x | x | r
    · show _ = (some (zi x) :: z_en1 ws).length
      simp [z_cv, Value.category, ih]
    · show _ = (some (zl x) :: none :: z_en1 ws).length
      simp [z_cv, Value.category, ih]
    · show _ = (some (zq r) :: z_en1 ws).length
      cases r <;> simp [z_cv, z_rf, Value.category, ih]
theorem z_en_Lo (b : Nat) (args : List AwV) (nL : Nat) (h : (z_en1 args).length ≤ nL) : z_Lo b ((lg_sl (args.map (z_cv b)) ++ List.replicate (nL - (lg_sl (args.map (z_cv b))).length) Slot.unset).toArray) nL (z_en args nL) := by
  have h1 := lv_entry (args.map (z_cv b)) (n := nL) (by rw [z_en1_len]; exact h)
  refine ⟨by unfold z_en; simp; omega, h1.1, h1.2.1, fun i v hi => ?_⟩
  have h2 : (z_en1 args)[i]? = some (some v) := by
    unfold z_en at hi
    by_cases hl : i < (z_en1 args).length
    · rw [List.getElem?_append_left hl] at hi; exact hi
    · rw [List.getElem?_append_right (by omega), List.getElem?_replicate] at hi
      split at hi <;> cases hi
  have h3 := z_en1_in b args 0 i v h2
  rw [Nat.zero_add] at h3
  exact h1.2.2 _ h3
/-- a method: its name, code, locals, answer's type, room -/
abbrev ZD : Type := MethodName × ByteArray × Nat × Option FieldType × Room
abbrev ZF : Type := MethodName × ByteArray × Nat × Option FieldType × Room × (ZG → Array Value → State → List Frame → State → Prop)
def z_X (F : ZF) (p : Program) (s : State) (m : MethodId) (args : Array Value) (meth : Method) (c : Code) (G : ZG) : Prop :=
  p.tables.exec = Jvm.exec ∧ c.code = F.2.1 ∧ c.maxLocals = F.2.2.1 ∧ meth.sig.returnType = F.2.2.2.1 ∧ meth.locks = false ∧ s.vm.findClass F.1.cls = some m.cls ∧ (∀ w ∈ z_tb, w.before args s = true) ∧ z_K G s ∧ meth.name = F.1.name
def AW (F : ZF) (cells slots sz pc : Nat) (lv : List (Option AwV)) (st : List AwV) (I J : AwI) (R : AwR) : Prop :=
  ∀ (p : Program) (l : Launch) (e : Env) (s : State) (m : MethodId) (args : Array Value) (below : List Frame) (meth : Method) (c : Code) (H : Heap) (locs : List Loc) (ls : Array Slot) (G : ZG),
    z_X F p s m args meth c G → z_Rl G sz I J R H → z_Lo G.2.2 ls F.2.2.1 lv → va_S (fun q => G.2.2 ≤ q) s.heap H locs →
    W p l e F.2.2.2.2.1 s m args below meth c H locs cells slots (F.2.2.2.2.2 G args s below) (F0 m pc ls (st.map (z_cv G.2.2)))
abbrev ZQ : Type := Option AwV → Nat → AwI → AwI → AwR → Prop
def z_Qc (G : ZG) (Q : ZQ) : Array Value → State → Outcome → State → Prop := fun _ st oc t => (∃ (r : Option AwV) (sz : Nat) (I J : AwI) (R : AwR), oc = .returned (r.map (z_cv G.2.2)) ∧ Q r sz I J R ∧ z_Rl G sz I J R t.heap) ∧ va_F (fun q => G.2.2 ≤ q) st t
def z_Pc (G : ZG) (as : List AwV) (sz : Nat) (I J : AwI) (R : AwR) : Array Value → State → Prop := fun v U => v = (as.map (z_cv G.2.2)).toArray ∧ z_K G U ∧ z_Rl G sz I J R U.heap
def z_ws (d : ZD) : List Cond := Cond.code d.1 d.2.1 d.2.2.1 d.2.2.2.1 :: z_tb
def CT (d : ZD) (as : List AwV) (sz : Nat) (I J : AwI) (R : AwR) (Q : ZQ) : Prop :=
  ∀ (l : Launch) (G : ZG), Met l d.1 (z_ws d) d.2.2.2.2 (z_Pc G as sz I J R) (z_Qc G Q) d.2.2.2.2.cells d.2.2.2.2.slots (fun q => G.2.2 ≤ q)
def FM (d : ZD) (Q : ZQ) : ZF := (d.1, d.2.1, d.2.2.1, d.2.2.2.1, d.2.2.2.2, fun G args s below => MQ below (z_Qc G Q) args s d.2.2.2.2.cells d.2.2.2.2.slots (fun q => G.2.2 ≤ q))
theorem CT.of {d : ZD} {as : List AwV} {sz : Nat} {I J : AwI} {R : AwR} {Q : ZQ} (hy : plainName d.1.cls = true) (hn : (z_en1 as).length ≤ d.2.2.1) (h : AW (FM d Q) 0 0 sz 0 (z_en as d.2.2.1) [] I J R) : CT d as sz I J R Q := by
  intro l G
  refine Met.ofW (cc := d.2.1) (maxL := d.2.2.1) (ret := d.2.2.2.1) hy rfl ?_
  intro p e s m args below meth c s₁ B hml hv
  obtain ⟨rfl, hK, hRl⟩ := hv
  rw [lg_entry_eq]
  have hts := atoms_spec (ws := z_ws d) B.pre
  exact h p l e s m _ below meth c s.heap [] _ G ⟨B.exec, B.bytes, hml, B.returns, B.notSynchronized, findClass_of_methodNamed B.named, fun w hw => hts w (List.mem_cons_of_mem _ hw), hK, (name_of_methodNamed B.named B.method).1⟩ hRl (z_en_Lo _ as d.2.2.1 hn) va_S.rf
theorem CT.mono {d : ZD} {as : List AwV} {sz : Nat} {I J : AwI} {R : AwR} {Q Q' : ZQ} (h : CT d as sz I J R Q) (hq : ∀ r sz I J R, Q r sz I J R → Q' r sz I J R) : CT d as sz I J R Q' := by
  intro l G p e ha hc hk s m args below hf happ hpre hK
  obtain ⟨k, o, h1, h2, h3, ⟨⟨r, sz2, I2, J2, R2, e1, e2, e3⟩, e4⟩, h5⟩ := h l G p e ha hc hk s m args below hf happ hpre hK
  exact ⟨k, o, h1, h2, h3, ⟨⟨r, sz2, I2, J2, R2, e1, hq _ _ _ _ _ e2, e3⟩, e4⟩, h5⟩
