-- the flat world: cells by number, their ints in I, their longs in J; a reference k stands for the cell base + k
abbrev sd_C : Type := Nat × Nat × List (Option Nat)
abbrev sd_I : Type := Nat → Nat → Int32
abbrev sd_J : Type := Nat → Nat → Int64
abbrev sd_S : Type := List sd_C × (Nat × (Nat → Int32)) × sd_I × sd_J
abbrev sd_M : Type := sd_M0
abbrev sd_G : Type := va_G × (Nat → ClassId) × Heap × Nat × Nat × Nat
theorem sd_goodIn {ws : List Cond} (h : ∀ w ∈ ws, w ∈ sd_gd) : GoodIn sd_gd ws := fun w hw => ⟨h w hw, good_of_word (sd_gd_good (h w hw))⟩
def sd_ad (G : sd_G) (k : Nat) : Nat := if k = 100000 then G.2.2.2.1 else if k = 100001 then G.2.2.2.2.1 else if k = 100002 then G.2.2.2.2.2 else G.2.2.1.size + k
def sd_v (G : sd_G) : Value → Value
  | .ref k => .ref (sd_ad G k)
  | v => v
theorem sd_ad_lt {G : sd_G} {k : Nat} (h : k < 100000) : sd_ad G k = G.2.2.1.size + k := by
  unfold sd_ad; rw [if_neg (by omega), if_neg (by omega), if_neg (by omega)]
theorem sd_v_cat (G : sd_G) (v : Value) : (sd_v G v).category = v.category := by cases v <;> rfl
def sd_fv (G : sd_G) (b : Bool) (r : Option Nat) (x : Int32) : Value := if b then va_rf (r.map (G.2.2.1.size + ·)) else .int x
def sd_av (b : Bool) (r : Option Nat) (x : Int32) : Value := if b then va_rf r else .int x
theorem sd_av_v {G : sd_G} {b : Bool} {r : Option Nat} {x : Int32} (h : ∀ k, r = some k → k < 100000) : sd_v G (sd_av b r x) = sd_fv G b r x := by
  cases b with
  | false => rfl
  | true =>
    cases r with
    | none => rfl
    | some k =>
      show Value.ref (sd_ad G k) = Value.ref (G.2.2.1.size + k)
      rw [sd_ad_lt (h k rfl)]
def sd_fs (G : sd_G) (I : sd_I) (k : Nat) (c : sd_C) : List Value := (List.range (sd_nF c.1)).map (fun j => sd_fv G (sd_isR c.1 j) (c.2.2.getD j none) (I k j))
def sd_E (G : sd_G) (I : sd_I) (J : sd_J) (k : Nat) (c : sd_C) : va_E :=
  if c.1 < 13 then .inr (c.1, sd_fs G I k c)
  else if c.1 = 22 then .inl (G.2.1 22, c.2.1, .inr (.inl (J k)))
  else if c.1 < 22 then .inl (G.2.1 c.1, c.2.1, .inl (I k))
  else .inl (G.2.1 c.1, c.2.1, .inr (.inr (.inr (.inr (fun j => (c.2.2.getD j none).map (G.2.2.1.size + ·))))))
def sd_ws (G : sd_G) (C : List sd_C) (I : sd_I) (J : sd_J) : va_W := C.zipIdx.map (fun q => (G.2.2.1.size + q.2, sd_E G I J q.2 q.1))
theorem sd_ws_at {G : sd_G} {C : List sd_C} {I : sd_I} {J : sd_J} (k : Nat) : (sd_ws G C I J)[k]? = C[k]?.map (fun c => (G.2.2.1.size + k, sd_E G I J k c)) := by
  unfold sd_ws
  rw [List.getElem?_map, List.getElem?_zipIdx]
  cases C[k]? <;> simp
theorem sd_ws_upd {G : sd_G} {C : List sd_C} {I I' : sd_I} {J J' : sd_J} {a : Nat} {c c' : sd_C} (h0 : C[a]? = some c) (h2 : ∀ k d, k ≠ a → sd_E G I' J' k d = sd_E G I J k d) : sd_ws G (C.set a c') I' J' = (sd_ws G C I J).set a (G.2.2.1.size + a, sd_E G I' J' a c') := by
  apply List.ext_getElem?
  intro k
  have hl : a < C.length := (List.getElem?_eq_some_iff.mp h0).1
  have hl2 : a < (sd_ws G C I J).length := by unfold sd_ws; simpa using hl
  rw [sd_ws_at]
  by_cases hk : k = a
  · subst hk
    rw [List.getElem?_set_self hl, List.getElem?_set_self hl2]
    rfl
  · rw [List.getElem?_set_ne (fun e => hk e.symm), List.getElem?_set_ne (fun e => hk e.symm), sd_ws_at]
    cases C[k]? with
    | none => rfl
    | some d => simp only [Option.map_some, h2 k d hk]
theorem sd_set_same {C : List sd_C} {a : Nat} {c : sd_C} (h : C[a]? = some c) : C.set a c = C := by
  apply List.ext_getElem?
  intro k
  have hl : a < C.length := (List.getElem?_eq_some_iff.mp h).1
  by_cases hk : k = a
  · subst hk; rw [List.getElem?_set_self hl, h]
  · rw [List.getElem?_set_ne (fun e => hk e.symm)]
def sd_A (G : sd_G) : Nat → Prop := fun q => G.2.2.1.size ≤ q
theorem sd_D (G : sd_G) (C : List sd_C) (I : sd_I) (J : sd_J) : va_D (sd_A G) (sd_ws G C I J) := by
  refine ⟨fun i j p q hp hq e => ?_, fun k q hq => ?_⟩
  · rw [sd_ws_at] at hp hq
    obtain ⟨c1, -, rfl⟩ := Option.map_eq_some_iff.mp hp
    obtain ⟨c2, -, rfl⟩ := Option.map_eq_some_iff.mp hq
    exact Nat.add_left_cancel e
  · rw [sd_ws_at] at hq
    obtain ⟨c1, -, rfl⟩ := Option.map_eq_some_iff.mp hq
    exact Nat.le_add_right _ _
/-- the heap holds the flat world -/
def sd_R (G : sd_G) (C : List sd_C) (I : sd_I) (J : sd_J) (H : Heap) : Prop :=
  H.size = G.2.2.1.size + C.length ∧ C.length ≤ 100000 ∧ (∀ q, q < G.2.2.1.size → H[q]? = G.2.2.1[q]?) ∧ va_P G.1 vwCl (sd_ws G C I J) H
abbrev sd_tys (G : sd_G) : List (ClassId × FieldType) := [(G.2.1 20, .int), (G.2.1 21, .char), (G.2.1 22, .long), (G.2.1 23, .object RX7), (G.2.1 24, .object RX4), (G.2.1 25, .object RX9)]
/-- what is said of the text "pfcth", which lies below the base -/
def sd_Str (G : sd_G) (U : State) : Prop :=
  vk_R RX8 63 "pfcth" G.2.2.2.2.1 U ∧ va_O "java/lang/String" G.2.2.2.2.1 (sd_A G) U G.2.2.1 ∧ va_OF "java/lang/String" "coder" "B" (.int 0) G.2.2.2.2.1 (sd_A G) U G.2.2.1 ∧
  va_OF "java/lang/String" "value" "[B" (.ref G.2.2.2.2.2) G.2.2.2.2.1 (sd_A G) U G.2.2.1 ∧ va_T .byte G.2.2.2.2.2 5 (fun j => .int ([112, 102, 99, 116, 104].getD j 0)) (sd_A G) U G.2.2.1 ∧
  va_Z "java/lang/String" "COMPACT_STRINGS" "Z" (.int 1) (sd_A G) U G.2.2.1
/-- what is carried everywhere, of the tables -/
def sd_F (G : sd_G) (U : State) : Prop :=
  va_K G.1 vwCl (sd_tys G) U ∧ (∀ q ∈ sd_nest, va_Nw (.methodLinkNest q.1 q.2.1 q.2.2.1 q.2.2.2) U) ∧ (∀ q ∈ sd_casts, va_Nw (.castable q.1 q.2) U) ∧ (∀ q ∈ sd_overs, va_AO q U) ∧ sd_Str G U
theorem sd_F.warm {G : sd_G} {s U : State} (hW : s.WarmedH U.vm) (h : sd_F G s) : sd_F G U := by
  obtain ⟨h1, h2, h3, h4, h5, h6, h7, h8, h9, h10⟩ := h
  exact ⟨va_K.moved hW.alike h1, fun q hq => va_Nw.warmM hW (h2 q hq), fun q hq => va_Nw.warmC hW (h3 q hq), fun q hq => va_AO.moved hW.alike (h4 q hq), vk_R.warm hW h5, va_O.moved hW.alike h6, va_OF.moved hW.alike h7, va_OF.moved hW.alike h8, va_T.moved hW.alike h9, va_Z.moved hW.alike h10⟩
theorem sd_F.same {G : sd_G} {u U : State} (hv : U.vm = u.vm) (h : sd_F G u) : sd_F G U := by
  obtain ⟨h1, h2, h3, h4, h5, h6, h7, h8, h9, h10⟩ := h
  have ha : u.vm.Alike U.vm := by rw [hv]; exact Vm.Alike.refl _
  exact ⟨va_K.moved ha h1, fun q hq => va_Nw.same rfl hv.symm (h2 q hq), fun q hq => va_Nw.same rfl hv.symm (h3 q hq), fun q hq => va_AO.moved ha (h4 q hq), vk_R.same hv h5, va_O.moved ha h6, va_OF.moved ha h7, va_OF.moved ha h8, va_T.moved ha h9, va_Z.moved ha h10⟩
/-- a method's surroundings -/
def sd_X (μ : sd_M) (p : Program) (s : State) (m : MethodId) (args : Array Value) (meth : Method) (c : Code) (G : sd_G) : Prop :=
  p.tables.exec = Jvm.exec ∧ c.code = μ.2.1 ∧ meth.sig.returnType = μ.2.2.2.1 ∧ c.maxLocals = μ.2.2.1 ∧ s.vm.findClass μ.1.cls = some m.cls ∧ (∀ w ∈ sd_gd, w.before args s = true) ∧ meth.locks = false ∧ meth.name = μ.1.name ∧ sd_F G s ∧ (∀ q, q < G.2.2.1.size → s.heap[q]? = G.2.2.1[q]?) ∧ G.2.2.1.size ≤ s.heap.size
/-- the script, in the law alone -/
def sd_Sc (μ : sd_M) (G : sd_G) (X : Nat × (Nat → Int32)) (s : State) : Prop := μ.1 = x → va_X G.2.2.2.1 X.1 X.2 s s.heap ∧ G.2.2.2.1 < s.heap.size ∧ ¬ sd_A G G.2.2.2.1
def sd_ret (μ : sd_M) (pc : Nat) (r : Option Int32) : Prop := match r with
  | none => μ.2.2.2.1 = none ∧ decode μ.2.1 pc = .ok (.return_, 1)
  | some v => (∃ ty, μ.2.2.2.1 = some ty ∧ narrow ty (.int v) = .int v) ∧ decode μ.2.1 pc = .ok (.ireturn, 1)
/-- what the end of the method gives -/
def sd_Z (μ : sd_M) (p : Program) (l : Launch) (e : Env) (s : State) (m : MethodId) (args : Array Value) (below : List Frame) (meth : Method) (c : Code) (G : sd_G) (X : Nat × (Nat → Int32)) (Z : State → Prop) (Q : Option Int32 → sd_S → Prop) : Prop :=
  ∀ (r : Option Int32) (C : List sd_C) (I : sd_I) (J : sd_J) (H : Heap) (locs : List Loc) (lsA : Array Slot) (pc : Nat), sd_ret μ pc r → Q r (C, X, I, J) → sd_R G C I J H → va_S (sd_A G) s.heap H locs →
    W p l e μ.2.2.2.2 s m args below meth c H locs μ.2.2.2.2.cells μ.2.2.2.2.slots Z (F0 m pc lsA (r.toList.map Value.int))
def sd_L (G : sd_G) (n : Nat) (ls : List Value) (lsA : Array Slot) : Prop := lsA.size = n ∧ lv_wf lsA ∧ ∀ (i : Nat) (v : Value), ls[i]? = some v → v ≠ .null → lsA[i]? = some (.val (sd_v G v))
/-- the machine, at pc of the method μ, in a state that the flat world tells, comes to an end with Q -/
def AW (μ : sd_M) (kc ks pc : Nat) (ls st : List Value) (σ : sd_S) (Q : Option Int32 → sd_S → Prop) : Prop :=
  ∀ (p : Program) (l : Launch) (e : Env) (s : State) (m : MethodId) (args : Array Value) (below : List Frame) (meth : Method) (c : Code) (G : sd_G) (Z : State → Prop),
    sd_X μ p s m args meth c G → sd_Sc μ G σ.2.1 s → sd_Z μ p l e s m args below meth c G σ.2.1 Z Q →
    ∀ (H : Heap) (locs : List Loc) (lsA : Array Slot), sd_R G σ.1 σ.2.2.1 σ.2.2.2 H → va_S (sd_A G) s.heap H locs → sd_L G μ.2.2.1 ls lsA →
      W p l e μ.2.2.2.2 s m args below meth c H locs kc ks Z (F0 m pc lsA (st.map (sd_v G)))
def sd_u {α : Type} (I : Nat → Nat → α) (a j : Nat) (v : α) : Nat → Nat → α := fun b => if b = a then (fun k => if k = j then v else I a k) else I b
def sd_r {α : Type} (I : Nat → Nat → α) (a : Nat) (f : Nat → α) : Nat → Nat → α := fun b => if b = a then f else I b
/-- a call of μ: its arguments in its locals -/
def sd_en : List Value → List Value
  | [] => []
  | v :: vs => if v.category = 2 then v :: .null :: sd_en vs else v :: sd_en vs
def AWm (μ : sd_M) (vs : List Value) (σ : sd_S) (Q : Option Int32 → sd_S → Prop) : Prop := AW μ 0 0 0 (sd_en vs ++ List.replicate (μ.2.2.1 - (sd_en vs).length) .null) [] σ Q
def AWi (μ : sd_M) (vs : List Value) (σ : sd_S) (Q : Int32 → sd_S → Prop) : Prop := AWm μ vs σ (fun r σ' => ∃ v, r = some v ∧ Q v σ')
def AWv (μ : sd_M) (vs : List Value) (σ : sd_S) (Q : sd_S → Prop) : Prop := AWm μ vs σ (fun r σ' => r = none ∧ Q σ')
