-- one row an instruction, over the flat world
section Rows
variable {μ : sd_M} {kc ks pc : Nat} {ls st : List Value} {σ : sd_S} {Q : Option Int32 → sd_S → Prop}
theorem AW.go {pc' : Nat} {ls' st' : List Value} (h : ∀ (p : Program) (l : Launch) (e : Env) (s : State) (m : MethodId) (args : Array Value) (below : List Frame) (meth : Method) (c : Code) (G : sd_G) (Z : State → Prop) (H : Heap) (locs : List Loc) (lsA : Array Slot), sd_X μ p s m args meth c G → sd_L G μ.2.2.1 ls lsA →
      (∀ lsB, sd_L G μ.2.2.1 ls' lsB → W p l e μ.2.2.2.2 s m args below meth c H locs kc ks Z (F0 m pc' lsB (st'.map (sd_v G)))) → W p l e μ.2.2.2.2 s m args below meth c H locs kc ks Z (F0 m pc lsA (st.map (sd_v G))))
    (k : AW μ kc ks pc' ls' st' σ Q) : AW μ kc ks pc ls st σ Q := by
  intro p l e s m args below meth c G Z hX hSc hZ H locs lsA hR hS hL
  exact h p l e s m args below meth c G Z H locs lsA hX hL (fun lsB hB => k p l e s m args below meth c G Z hX hSc hZ H locs lsB hR hS hB)
theorem AW.iconst {n : Int} {v : Int32} (d : decode μ.2.1 pc = .ok (.iconst n, 1)) (hv : Int32.ofInt n = v) (k : AW μ kc ks (pc + 1) ls (.int v :: st) σ Q) : AW μ kc ks pc ls st σ Q :=
  AW.go (fun _ _ _ _ _ _ _ _ _ _ _ _ _ _ hX hL k => lv_iconst hX.1 hX.2.1 d hv (k _ hL)) k
theorem AW.bipush {n : Int} {v : Int32} (d : decode μ.2.1 pc = .ok (.bipush n, 2)) (hv : (Int8.ofInt n).toInt32 = v) (k : AW μ kc ks (pc + 2) ls (.int v :: st) σ Q) : AW μ kc ks pc ls st σ Q :=
  AW.go (fun _ _ _ _ _ _ _ _ _ _ _ _ _ _ hX hL k => lv_bipush hX.1 hX.2.1 d hv (k _ hL)) k
theorem AW.sipush {n : Int} {v : Int32} (d : decode μ.2.1 pc = .ok (.sipush n, 3)) (hv : (Int16.ofInt n).toInt32 = v) (k : AW μ kc ks (pc + 3) ls (.int v :: st) σ Q) : AW μ kc ks pc ls st σ Q :=
  AW.go (fun _ _ _ _ _ _ _ _ _ _ _ _ _ _ hX hL k => lv_sipush hX.1 hX.2.1 d hv (k _ hL)) k
theorem AW.lconst {n : Fin 2} {v : Int64} (d : decode μ.2.1 pc = .ok (.lconst n, 1)) (hv : Int64.ofNat (n : Nat) = v) (k : AW μ kc ks (pc + 1) ls (.long v :: st) σ Q) : AW μ kc ks pc ls st σ Q :=
  AW.go (fun _ _ _ _ _ _ _ _ _ _ _ _ _ _ hX hL k => lv_lconst hX.1 hX.2.1 d hv (k _ hL)) k
theorem AW.ldc {idx : Nat} {v : Int32} (d : decode μ.2.1 pc = .ok (.ldc idx, 2)) (w : Cond.constant μ.1.cls idx v ∈ sd_gd) (k : AW μ kc ks (pc + 2) ls (.int v :: st) σ Q) : AW μ kc ks pc ls st σ Q :=
  AW.go (fun _ _ _ _ _ _ _ _ _ _ _ _ _ _ hX hL k => lv_ldc hX.1 hX.2.1 hX.2.2.2.2.1 (hX.2.2.2.2.2.1 _ w) d (k _ hL)) k
theorem AW.ldcw {idx : Nat} {v : Int32} (d : decode μ.2.1 pc = .ok (.ldc_w idx, 3)) (w : Cond.constant μ.1.cls idx v ∈ sd_gd) (k : AW μ kc ks (pc + 3) ls (.int v :: st) σ Q) : AW μ kc ks pc ls st σ Q :=
  AW.go (fun _ _ _ _ _ _ _ _ _ _ _ _ _ _ hX hL k => lv_ldcw hX.1 hX.2.1 hX.2.2.2.2.1 (hX.2.2.2.2.2.1 _ w) d (k _ hL)) k
theorem AW.ldc2 {idx : Nat} {v : Int64} (d : decode μ.2.1 pc = .ok (.ldc2_w idx, 3)) (w : Cond.constantLong μ.1.cls idx v ∈ sd_gd) (k : AW μ kc ks (pc + 3) ls (.long v :: st) σ Q) : AW μ kc ks pc ls st σ Q :=
  AW.go (fun _ _ _ _ _ _ _ _ _ _ _ _ _ _ hX hL k => lv_ldc2 hX.1 hX.2.1 hX.2.2.2.2.1 (hX.2.2.2.2.2.1 _ w) d (k _ hL)) k
theorem AW.iload_n {n : Fin 4} {i : Nat} {v : Int32} (d : decode μ.2.1 pc = .ok (.iload_n n, 1)) (hi : (n : Nat) = i) (h : ls[i]? = some (.int v)) (k : AW μ kc ks (pc + 1) ls (.int v :: st) σ Q) : AW μ kc ks pc ls st σ Q :=
  AW.go (fun _ _ _ _ _ _ _ _ _ _ _ _ _ _ hX hL k => lv_iload_n hX.1 hX.2.1 d hi (hL.2.2 i _ h (fun h => by cases h)) (k _ hL)) k
theorem AW.iload {i : Nat} {v : Int32} (d : decode μ.2.1 pc = .ok (.iload i, 2)) (h : ls[i]? = some (.int v)) (k : AW μ kc ks (pc + 2) ls (.int v :: st) σ Q) : AW μ kc ks pc ls st σ Q :=
  AW.go (fun _ _ _ _ _ _ _ _ _ _ _ _ _ _ hX hL k => lv_iload hX.1 hX.2.1 d (hL.2.2 i _ h (fun h => by cases h)) (k _ hL)) k
theorem AW.lload_n {n : Fin 4} {i : Nat} {v : Int64} (d : decode μ.2.1 pc = .ok (.lload_n n, 1)) (hi : (n : Nat) = i) (h : ls[i]? = some (.long v)) (k : AW μ kc ks (pc + 1) ls (.long v :: st) σ Q) : AW μ kc ks pc ls st σ Q :=
  AW.go (fun _ _ _ _ _ _ _ _ _ _ _ _ _ _ hX hL k => lv_lload_n hX.1 hX.2.1 d hi (hL.2.2 i _ h (fun h => by cases h)) (k _ hL)) k
theorem AW.lload {i : Nat} {v : Int64} (d : decode μ.2.1 pc = .ok (.lload i, 2)) (h : ls[i]? = some (.long v)) (k : AW μ kc ks (pc + 2) ls (.long v :: st) σ Q) : AW μ kc ks pc ls st σ Q :=
  AW.go (fun _ _ _ _ _ _ _ _ _ _ _ _ _ _ hX hL k => lv_lload hX.1 hX.2.1 d (hL.2.2 i _ h (fun h => by cases h)) (k _ hL)) k
theorem AW.aload_n {n : Fin 4} {i a : Nat} (d : decode μ.2.1 pc = .ok (.aload_n n, 1)) (hi : (n : Nat) = i) (h : ls[i]? = some (.ref a)) (k : AW μ kc ks (pc + 1) ls (.ref a :: st) σ Q) : AW μ kc ks pc ls st σ Q :=
  AW.go (fun _ _ _ _ _ _ _ _ _ _ _ _ _ _ hX hL k => lv_aload_n hX.1 hX.2.1 d hi (hL.2.2 i _ h (fun h => by cases h)) (k _ hL)) k
theorem AW.aload {i a : Nat} (d : decode μ.2.1 pc = .ok (.aload i, 2)) (h : ls[i]? = some (.ref a)) (k : AW μ kc ks (pc + 2) ls (.ref a :: st) σ Q) : AW μ kc ks pc ls st σ Q :=
  AW.go (fun _ _ _ _ _ _ _ _ _ _ _ _ _ _ hX hL k => lv_aload hX.1 hX.2.1 d (hL.2.2 i _ h (fun h => by cases h)) (k _ hL)) k
/-- the local ahead of place i isn't a long one -/
def sd_one (ls : List Value) (i : Nat) : Bool := match i with
  | 0 => true
  | j + 1 => match ls[j]? with
    | some v => v.category == 1
    | none => true
def sd_known (G : sd_G) (ls : List Value) : List (Nat × Value) := ls.zipIdx.filterMap (fun q => match q.1 with
  | .null => none
  | v => some (q.2, sd_v G v))
theorem sd_known_mem {G : sd_G} {ls : List Value} {i : Nat} {v : Value} (h : ls[i]? = some v) (hv : v ≠ .null) : (i, sd_v G v) ∈ sd_known G ls := by
  unfold sd_known
  refine List.mem_filterMap.mpr ⟨(v, i), ?_, ?_⟩
  · exact List.mem_zipIdx_iff_getElem?.mpr h
  · cases v <;> first | exact absurd rfl hv | rfl
theorem sd_known_has {G : sd_G} {n : Nat} {ls : List Value} {lsA : Array Slot} (h : sd_L G n ls lsA) : lv_has lsA n (sd_known G ls) := by
  refine ⟨h.1, h.2.1, fun q hq => ?_⟩
  unfold sd_known at hq
  obtain ⟨⟨v, i⟩, h1, h2⟩ := List.mem_filterMap.mp hq
  have h1 := List.mem_zipIdx_iff_getElem?.mp h1
  dsimp only at h1 h2
  by_cases hv : v = .null
  · subst hv; cases h2
  · have := h.2.2 i v h1 hv
    cases v <;> first | exact absurd rfl hv | (cases h2; exact this)
theorem sd_L_of {G : sd_G} {n i : Nat} {ls : List Value} {lsA lsB : Array Slot} {v : Value} (hone : sd_one ls i = true) (h : sd_L G n ls lsA) (h' : lv_has lsB n ((i, sd_v G v) :: (sd_known G ls).filter (fun q => !(q.1 == i) && !(q.1 + 1 == i && q.2.category == 2)))) : sd_L G n (ls.set i v) lsB := by
  refine ⟨h'.1, h'.2.1, fun j w hj hw => ?_⟩
  by_cases hji : j = i
  · subst hji
    rw [List.getElem?_set] at hj
    rw [if_pos rfl] at hj
    split at hj
    · cases hj
      exact h'.2.2 _ List.mem_cons_self
    · cases hj
  · rw [List.getElem?_set_ne (fun e => hji e.symm)] at hj
    refine h'.2.2 (j, sd_v G w) (List.mem_cons_of_mem _ (List.mem_filter.mpr ⟨sd_known_mem hj hw, ?_⟩))
    have e1 : (j == i) = false := by simpa using hji
    simp only [e1, Bool.not_false, Bool.true_and, Bool.not_eq_true', Bool.and_eq_false_iff]
    by_cases hj1 : j + 1 = i
    · right
      subst hj1
      have : (w.category == 1) = true := by simpa [sd_one, hj] using hone
      rw [sd_v_cat]
      have h1 : w.category = 1 := by simpa using this
      rw [h1]; rfl
    · left; simpa using hj1
theorem AW.istore_n {n : Fin 4} {i : Nat} {v : Int32} {ls' : List Value} (d : decode μ.2.1 pc = .ok (.istore_n n, 1)) (hi : (n : Nat) = i) (hn : i < μ.2.2.1) (ho : sd_one ls i = true) (hl : ls.set i (.int v) = ls') (k : AW μ kc ks (pc + 1) ls' st σ Q) : AW μ kc ks pc ls (.int v :: st) σ Q := by
  subst hl
  exact AW.go (fun _ _ _ _ _ _ _ _ _ _ _ _ _ _ hX hL k => lv_istore_n hX.1 hX.2.1 d hi (sd_known_has hL) hn rfl (fun lsB hB => k lsB (sd_L_of (v := .int v) ho hL hB))) k
theorem AW.istore {i : Nat} {v : Int32} {ls' : List Value} (d : decode μ.2.1 pc = .ok (.istore i, 2)) (hn : i < μ.2.2.1) (ho : sd_one ls i = true) (hl : ls.set i (.int v) = ls') (k : AW μ kc ks (pc + 2) ls' st σ Q) : AW μ kc ks pc ls (.int v :: st) σ Q := by
  subst hl
  exact AW.go (fun _ _ _ _ _ _ _ _ _ _ _ _ _ _ hX hL k => lv_istore hX.1 hX.2.1 d (sd_known_has hL) hn rfl (fun lsB hB => k lsB (sd_L_of (v := .int v) ho hL hB))) k
theorem AW.astore_n {n : Fin 4} {i a : Nat} {ls' : List Value} (d : decode μ.2.1 pc = .ok (.astore_n n, 1)) (hi : (n : Nat) = i) (hn : i < μ.2.2.1) (ho : sd_one ls i = true) (hl : ls.set i (.ref a) = ls') (k : AW μ kc ks (pc + 1) ls' st σ Q) : AW μ kc ks pc ls (.ref a :: st) σ Q := by
  subst hl
  exact AW.go (fun _ _ _ _ _ _ _ _ _ _ _ _ _ _ hX hL k => lv_astore_n hX.1 hX.2.1 d hi (sd_known_has hL) hn rfl (fun lsB hB => k lsB (sd_L_of (v := .ref a) ho hL hB))) k
theorem AW.astore {i a : Nat} {ls' : List Value} (d : decode μ.2.1 pc = .ok (.astore i, 2)) (hn : i < μ.2.2.1) (ho : sd_one ls i = true) (hl : ls.set i (.ref a) = ls') (k : AW μ kc ks (pc + 2) ls' st σ Q) : AW μ kc ks pc ls (.ref a :: st) σ Q := by
  subst hl
  exact AW.go (fun _ _ _ _ _ _ _ _ _ _ _ _ _ _ hX hL k => lv_astore hX.1 hX.2.1 d (sd_known_has hL) hn rfl (fun lsB hB => k lsB (sd_L_of (v := .ref a) ho hL hB))) k
theorem AW.iinc {i : Nat} {n : Int} {x v : Int32} {ls' : List Value} (d : decode μ.2.1 pc = .ok (.iinc i n, 3)) (h : ls[i]? = some (.int x)) (hv : x + Int32.ofInt n = v) (hn : i < μ.2.2.1) (ho : sd_one ls i = true) (hl : ls.set i (.int v) = ls') (k : AW μ kc ks (pc + 3) ls' st σ Q) : AW μ kc ks pc ls st σ Q := by
  subst hl
  refine AW.go (fun _ _ _ _ _ _ _ _ _ G _ _ _ _ hX hL k => ?_) k
  obtain ⟨j, hj⟩ := List.getElem?_of_mem (sd_known_mem (G := G) h (fun h => by cases h))
  exact lv_iinc hX.1 hX.2.1 d (sd_known_has hL) (k := j) hj hv hn rfl (fun lsB hB => k lsB (sd_L_of (v := .int v) ho hL hB))
theorem AW.iadd {x y : Int32} (d : decode μ.2.1 pc = .ok (.iadd, 1)) (k : AW μ kc ks (pc + 1) ls (.int (x + y) :: st) σ Q) : AW μ kc ks pc ls (.int y :: .int x :: st) σ Q :=
  AW.go (fun _ _ _ _ _ _ _ _ _ _ _ _ _ _ hX hL k => lv_iadd hX.1 hX.2.1 d (k _ hL)) k
theorem AW.isub {x y : Int32} (d : decode μ.2.1 pc = .ok (.isub, 1)) (k : AW μ kc ks (pc + 1) ls (.int (x - y) :: st) σ Q) : AW μ kc ks pc ls (.int y :: .int x :: st) σ Q :=
  AW.go (fun _ _ _ _ _ _ _ _ _ _ _ _ _ _ hX hL k => lv_isub hX.1 hX.2.1 d (k _ hL)) k
theorem AW.imul {x y : Int32} (d : decode μ.2.1 pc = .ok (.imul, 1)) (k : AW μ kc ks (pc + 1) ls (.int (x * y) :: st) σ Q) : AW μ kc ks pc ls (.int y :: .int x :: st) σ Q :=
  AW.go (fun _ _ _ _ _ _ _ _ _ _ _ _ _ _ hX hL k => lv_imul hX.1 hX.2.1 d (k _ hL)) k
theorem AW.iand {x y : Int32} (d : decode μ.2.1 pc = .ok (.iand, 1)) (k : AW μ kc ks (pc + 1) ls (.int (x &&& y) :: st) σ Q) : AW μ kc ks pc ls (.int y :: .int x :: st) σ Q :=
  AW.go (fun _ _ _ _ _ _ _ _ _ _ _ _ _ _ hX hL k => lv_iand hX.1 hX.2.1 d (k _ hL)) k
theorem AW.ior {x y : Int32} (d : decode μ.2.1 pc = .ok (.ior, 1)) (k : AW μ kc ks (pc + 1) ls (.int (x ||| y) :: st) σ Q) : AW μ kc ks pc ls (.int y :: .int x :: st) σ Q :=
  AW.go (fun _ _ _ _ _ _ _ _ _ _ _ _ _ _ hX hL k => lv_ior hX.1 hX.2.1 d (k _ hL)) k
theorem AW.ixor {x y : Int32} (d : decode μ.2.1 pc = .ok (.ixor, 1)) (k : AW μ kc ks (pc + 1) ls (.int (x ^^^ y) :: st) σ Q) : AW μ kc ks pc ls (.int y :: .int x :: st) σ Q :=
  AW.go (fun _ _ _ _ _ _ _ _ _ _ _ _ _ _ hX hL k => lv_ixor hX.1 hX.2.1 d (k _ hL)) k
theorem AW.idiv {x y : Int32} (d : decode μ.2.1 pc = .ok (.idiv, 1)) (hne : ¬ y = 0) (k : AW μ kc ks (pc + 1) ls (.int (x / y) :: st) σ Q) : AW μ kc ks pc ls (.int y :: .int x :: st) σ Q :=
  AW.go (fun _ _ _ _ _ _ _ _ _ _ _ _ _ _ hX hL k => lv_idiv hX.1 hX.2.1 d hne (k _ hL)) k
theorem AW.irem {x y : Int32} (d : decode μ.2.1 pc = .ok (.irem, 1)) (hne : ¬ y = 0) (k : AW μ kc ks (pc + 1) ls (.int (x - x / y * y) :: st) σ Q) : AW μ kc ks pc ls (.int y :: .int x :: st) σ Q :=
  AW.go (fun _ _ _ _ _ _ _ _ _ _ _ _ _ _ hX hL k => lv_irem hX.1 hX.2.1 d hne (k _ hL)) k
theorem AW.ishl {x y : Int32} (d : decode μ.2.1 pc = .ok (.ishl, 1)) (k : AW μ kc ks (pc + 1) ls (.int (x <<< (y &&& 31)) :: st) σ Q) : AW μ kc ks pc ls (.int y :: .int x :: st) σ Q :=
  AW.go (fun _ _ _ _ _ _ _ _ _ _ _ _ _ _ hX hL k => lv_ishl hX.1 hX.2.1 d (k _ hL)) k
theorem AW.ishr {x y : Int32} (d : decode μ.2.1 pc = .ok (.ishr, 1)) (k : AW μ kc ks (pc + 1) ls (.int (x >>> (y &&& 31)) :: st) σ Q) : AW μ kc ks pc ls (.int y :: .int x :: st) σ Q :=
  AW.go (fun _ _ _ _ _ _ _ _ _ _ _ _ _ _ hX hL k => lv_ishr hX.1 hX.2.1 d (k _ hL)) k
theorem AW.iushr {x y : Int32} (d : decode μ.2.1 pc = .ok (.iushr, 1)) (k : AW μ kc ks (pc + 1) ls (.int (x.toUInt32 >>> (y.toUInt32 &&& Int32.toUInt32 31)).toInt32 :: st) σ Q) : AW μ kc ks pc ls (.int y :: .int x :: st) σ Q :=
  AW.go (fun _ _ _ _ _ _ _ _ _ _ _ _ _ _ hX hL k => lv_iushr hX.1 hX.2.1 d rfl (k _ hL)) k
theorem AW.ladd {x y : Int64} (d : decode μ.2.1 pc = .ok (.ladd, 1)) (k : AW μ kc ks (pc + 1) ls (.long (x + y) :: st) σ Q) : AW μ kc ks pc ls (.long y :: .long x :: st) σ Q :=
  AW.go (fun _ _ _ _ _ _ _ _ _ _ _ _ _ _ hX hL k => lv_ladd hX.1 hX.2.1 d (k _ hL)) k
theorem AW.lmul {x y : Int64} (d : decode μ.2.1 pc = .ok (.lmul, 1)) (k : AW μ kc ks (pc + 1) ls (.long (x * y) :: st) σ Q) : AW μ kc ks pc ls (.long y :: .long x :: st) σ Q :=
  AW.go (fun _ _ _ _ _ _ _ _ _ _ _ _ _ _ hX hL k => lv_lmul hX.1 hX.2.1 d (k _ hL)) k
theorem AW.land {x y : Int64} (d : decode μ.2.1 pc = .ok (.land, 1)) (k : AW μ kc ks (pc + 1) ls (.long (x &&& y) :: st) σ Q) : AW μ kc ks pc ls (.long y :: .long x :: st) σ Q :=
  AW.go (fun _ _ _ _ _ _ _ _ _ _ _ _ _ _ hX hL k => lv_land hX.1 hX.2.1 d (k _ hL)) k
theorem AW.lor {x y : Int64} (d : decode μ.2.1 pc = .ok (.lor, 1)) (k : AW μ kc ks (pc + 1) ls (.long (x ||| y) :: st) σ Q) : AW μ kc ks pc ls (.long y :: .long x :: st) σ Q :=
  AW.go (fun _ _ _ _ _ _ _ _ _ _ _ _ _ _ hX hL k => lv_lor hX.1 hX.2.1 d (k _ hL)) k
theorem AW.lrem {x y : Int64} (d : decode μ.2.1 pc = .ok (.lrem, 1)) (hne : ¬ y = 0) (k : AW μ kc ks (pc + 1) ls (.long (x - x / y * y) :: st) σ Q) : AW μ kc ks pc ls (.long y :: .long x :: st) σ Q :=
  AW.go (fun _ _ _ _ _ _ _ _ _ _ _ _ _ _ hX hL k => lv_lrem hX.1 hX.2.1 d hne (k _ hL)) k
theorem AW.lshl {x : Int64} {y : Int32} (d : decode μ.2.1 pc = .ok (.lshl, 1)) (k : AW μ kc ks (pc + 1) ls (.long (x <<< (y.toInt64 &&& 63)) :: st) σ Q) : AW μ kc ks pc ls (.int y :: .long x :: st) σ Q :=
  AW.go (fun _ _ _ _ _ _ _ _ _ _ _ _ _ _ hX hL k => lv_lshl hX.1 hX.2.1 d rfl (k _ hL)) k
theorem AW.lcmp {x y : Int64} (d : decode μ.2.1 pc = .ok (.lcmp, 1)) (k : AW μ kc ks (pc + 1) ls (.int (lg_cmp x y) :: st) σ Q) : AW μ kc ks pc ls (.long y :: .long x :: st) σ Q :=
  AW.go (fun _ _ _ _ _ _ _ _ _ _ _ _ _ _ hX hL k => W.lcmp hX.1 hX.2.1 d (k _ hL)) k
theorem AW.i2l {x : Int32} (d : decode μ.2.1 pc = .ok (.i2l, 1)) (k : AW μ kc ks (pc + 1) ls (.long x.toInt64 :: st) σ Q) : AW μ kc ks pc ls (.int x :: st) σ Q :=
  AW.go (fun _ _ _ _ _ _ _ _ _ _ _ _ _ _ hX hL k => lv_i2l hX.1 hX.2.1 d rfl (k _ hL)) k
theorem AW.l2i {x : Int64} (d : decode μ.2.1 pc = .ok (.l2i, 1)) (k : AW μ kc ks (pc + 1) ls (.int x.toInt32 :: st) σ Q) : AW μ kc ks pc ls (.long x :: st) σ Q :=
  AW.go (fun _ _ _ _ _ _ _ _ _ _ _ _ _ _ hX hL k => lv_l2i hX.1 hX.2.1 d rfl (k _ hL)) k
theorem AW.i2b {x : Int32} (d : decode μ.2.1 pc = .ok (.i2b, 1)) (k : AW μ kc ks (pc + 1) ls (.int x.toInt8.toInt32 :: st) σ Q) : AW μ kc ks pc ls (.int x :: st) σ Q :=
  AW.go (fun _ _ _ _ _ _ _ _ _ _ _ _ _ _ hX hL k => lv_i2b hX.1 hX.2.1 d rfl (k _ hL)) k
theorem AW.i2s {x : Int32} (d : decode μ.2.1 pc = .ok (.i2s, 1)) (k : AW μ kc ks (pc + 1) ls (.int x.toInt16.toInt32 :: st) σ Q) : AW μ kc ks pc ls (.int x :: st) σ Q :=
  AW.go (fun _ _ _ _ _ _ _ _ _ _ _ _ _ _ hX hL k => lv_i2s hX.1 hX.2.1 d rfl (k _ hL)) k
theorem AW.i2c {x : Int32} (d : decode μ.2.1 pc = .ok (.i2c, 1)) (k : AW μ kc ks (pc + 1) ls (.int (x.toUInt32 % 65536).toInt32 :: st) σ Q) : AW μ kc ks pc ls (.int x :: st) σ Q :=
  AW.go (fun _ _ _ _ _ _ _ _ _ _ _ _ _ _ hX hL k => lv_i2c hX.1 hX.2.1 d rfl (k _ hL)) k
theorem AW.dup {v : Value} (d : decode μ.2.1 pc = .ok (.dup, 1)) (h : v.category = 1) (k : AW μ kc ks (pc + 1) ls (v :: v :: st) σ Q) : AW μ kc ks pc ls (v :: st) σ Q :=
  AW.go (fun _ _ _ _ _ _ _ _ _ _ _ _ _ _ hX hL k => lv_dup hX.1 hX.2.1 d (by rw [sd_v_cat]; exact h) (k _ hL)) k
theorem AW.dup2 {v w : Value} (d : decode μ.2.1 pc = .ok (.dup2, 1)) (h : v.category = 1) (h2 : w.category = 1) (k : AW μ kc ks (pc + 1) ls (v :: w :: v :: w :: st) σ Q) : AW μ kc ks pc ls (v :: w :: st) σ Q :=
  AW.go (fun _ _ _ _ _ _ _ _ _ _ _ _ _ _ hX hL k => lv_dup2_11 hX.1 hX.2.1 d (by rw [sd_v_cat]; exact h) (by rw [sd_v_cat]; exact h2) (k _ hL)) k
theorem AW.pop {v : Value} (d : decode μ.2.1 pc = .ok (.pop, 1)) (h : v.category = 1) (k : AW μ kc ks (pc + 1) ls st σ Q) : AW μ kc ks pc ls (v :: st) σ Q :=
  AW.go (fun _ _ _ _ _ _ _ _ _ _ _ _ _ _ hX hL k => lv_pop hX.1 hX.2.1 d (by rw [sd_v_cat]; exact h) (k _ hL)) k
theorem AW.goto {off : Int} {tgt : Nat} (d : decode μ.2.1 pc = .ok (.goto off, 3)) (ht : (pc : Int) + off = (tgt : Int)) (k : AW μ kc ks tgt ls st σ Q) : AW μ kc ks pc ls st σ Q :=
  AW.go (fun _ _ _ _ _ _ _ _ _ _ _ _ _ _ hX hL k => lv_goto hX.1 hX.2.1 d ht (k _ hL)) k
theorem AW.go2 {tgt : Nat} {P : Prop} {st' : List Value} (h : ∀ (p : Program) (l : Launch) (e : Env) (s : State) (m : MethodId) (args : Array Value) (below : List Frame) (meth : Method) (c : Code) (G : sd_G) (Z : State → Prop) (H : Heap) (locs : List Loc) (lsA : Array Slot), sd_X μ p s m args meth c G →
      (P → W p l e μ.2.2.2.2 s m args below meth c H locs kc ks Z (F0 m tgt lsA (st'.map (sd_v G)))) → (¬ P → W p l e μ.2.2.2.2 s m args below meth c H locs kc ks Z (F0 m (pc + 3) lsA (st'.map (sd_v G)))) → W p l e μ.2.2.2.2 s m args below meth c H locs kc ks Z (F0 m pc lsA (st.map (sd_v G))))
    (kt : P → AW μ kc ks tgt ls st' σ Q) (kf : ¬ P → AW μ kc ks (pc + 3) ls st' σ Q) : AW μ kc ks pc ls st σ Q := by
  intro p l e s m args below meth c G Z hX hSc hZ H locs lsA hR hS hL
  exact h p l e s m args below meth c G Z H locs lsA hX (fun hp => kt hp p l e s m args below meth c G Z hX hSc hZ H locs lsA hR hS hL) (fun hp => kf hp p l e s m args below meth c G Z hX hSc hZ H locs lsA hR hS hL)
theorem AW.if_eq {off : Int} {tgt : Nat} {x : Int32} (d : decode μ.2.1 pc = .ok (.ifCond .eq off, 3)) (ht : (pc : Int) + off = (tgt : Int)) (kt : x = 0 → AW μ kc ks tgt ls st σ Q) (kf : ¬ x = 0 → AW μ kc ks (pc + 3) ls st σ Q) : AW μ kc ks pc ls (.int x :: st) σ Q :=
  AW.go2 (fun _ _ _ _ _ _ _ _ _ _ _ _ _ _ hX a b => lv_if_eq hX.1 hX.2.1 d ht a b) kt kf
theorem AW.if_ne {off : Int} {tgt : Nat} {x : Int32} (d : decode μ.2.1 pc = .ok (.ifCond .ne off, 3)) (ht : (pc : Int) + off = (tgt : Int)) (kt : ¬ x = 0 → AW μ kc ks tgt ls st σ Q) (kf : x = 0 → AW μ kc ks (pc + 3) ls st σ Q) : AW μ kc ks pc ls (.int x :: st) σ Q :=
  AW.go2 (fun _ _ _ _ _ _ _ _ _ _ _ _ _ _ hX a b => lv_if_ne hX.1 hX.2.1 d ht a (fun h => b (fun n => n h))) kt (fun h => kf (Classical.not_not.mp h))
theorem AW.if_lt {off : Int} {tgt : Nat} {x : Int32} (d : decode μ.2.1 pc = .ok (.ifCond .lt off, 3)) (ht : (pc : Int) + off = (tgt : Int)) (kt : x < 0 → AW μ kc ks tgt ls st σ Q) (kf : ¬ x < 0 → AW μ kc ks (pc + 3) ls st σ Q) : AW μ kc ks pc ls (.int x :: st) σ Q :=
  AW.go2 (fun _ _ _ _ _ _ _ _ _ _ _ _ _ _ hX a b => lv_if_lt hX.1 hX.2.1 d ht a b) kt kf
theorem AW.if_ge {off : Int} {tgt : Nat} {x : Int32} (d : decode μ.2.1 pc = .ok (.ifCond .ge off, 3)) (ht : (pc : Int) + off = (tgt : Int)) (kt : 0 ≤ x → AW μ kc ks tgt ls st σ Q) (kf : ¬ 0 ≤ x → AW μ kc ks (pc + 3) ls st σ Q) : AW μ kc ks pc ls (.int x :: st) σ Q :=
  AW.go2 (fun _ _ _ _ _ _ _ _ _ _ _ _ _ _ hX a b => lv_if_ge hX.1 hX.2.1 d ht a b) kt kf
theorem AW.if_gt {off : Int} {tgt : Nat} {x : Int32} (d : decode μ.2.1 pc = .ok (.ifCond .gt off, 3)) (ht : (pc : Int) + off = (tgt : Int)) (kt : 0 < x → AW μ kc ks tgt ls st σ Q) (kf : ¬ 0 < x → AW μ kc ks (pc + 3) ls st σ Q) : AW μ kc ks pc ls (.int x :: st) σ Q :=
  AW.go2 (fun _ _ _ _ _ _ _ _ _ _ _ _ _ _ hX a b => lv_if_gt hX.1 hX.2.1 d ht a b) kt kf
theorem AW.if_le {off : Int} {tgt : Nat} {x : Int32} (d : decode μ.2.1 pc = .ok (.ifCond .le off, 3)) (ht : (pc : Int) + off = (tgt : Int)) (kt : x ≤ 0 → AW μ kc ks tgt ls st σ Q) (kf : ¬ x ≤ 0 → AW μ kc ks (pc + 3) ls st σ Q) : AW μ kc ks pc ls (.int x :: st) σ Q :=
  AW.go2 (fun _ _ _ _ _ _ _ _ _ _ _ _ _ _ hX a b => lv_if_le hX.1 hX.2.1 d ht a b) kt kf
theorem AW.icmp_eq {off : Int} {tgt : Nat} {x y : Int32} (d : decode μ.2.1 pc = .ok (.if_icmp .eq off, 3)) (ht : (pc : Int) + off = (tgt : Int)) (kt : x = y → AW μ kc ks tgt ls st σ Q) (kf : ¬ x = y → AW μ kc ks (pc + 3) ls st σ Q) : AW μ kc ks pc ls (.int y :: .int x :: st) σ Q :=
  AW.go2 (fun _ _ _ _ _ _ _ _ _ _ _ _ _ _ hX a b => lv_icmp_eq hX.1 hX.2.1 d ht a b) kt kf
theorem AW.icmp_ne {off : Int} {tgt : Nat} {x y : Int32} (d : decode μ.2.1 pc = .ok (.if_icmp .ne off, 3)) (ht : (pc : Int) + off = (tgt : Int)) (kt : ¬ x = y → AW μ kc ks tgt ls st σ Q) (kf : x = y → AW μ kc ks (pc + 3) ls st σ Q) : AW μ kc ks pc ls (.int y :: .int x :: st) σ Q :=
  AW.go2 (fun _ _ _ _ _ _ _ _ _ _ _ _ _ _ hX a b => lv_icmp_ne hX.1 hX.2.1 d ht a (fun h => b (fun n => n h))) kt (fun h => kf (Classical.not_not.mp h))
theorem AW.icmp_lt {off : Int} {tgt : Nat} {x y : Int32} (d : decode μ.2.1 pc = .ok (.if_icmp .lt off, 3)) (ht : (pc : Int) + off = (tgt : Int)) (kt : x < y → AW μ kc ks tgt ls st σ Q) (kf : ¬ x < y → AW μ kc ks (pc + 3) ls st σ Q) : AW μ kc ks pc ls (.int y :: .int x :: st) σ Q :=
  AW.go2 (fun _ _ _ _ _ _ _ _ _ _ _ _ _ _ hX a b => lv_icmp_lt hX.1 hX.2.1 d ht a b) kt kf
theorem AW.icmp_ge {off : Int} {tgt : Nat} {x y : Int32} (d : decode μ.2.1 pc = .ok (.if_icmp .ge off, 3)) (ht : (pc : Int) + off = (tgt : Int)) (kt : y ≤ x → AW μ kc ks tgt ls st σ Q) (kf : ¬ y ≤ x → AW μ kc ks (pc + 3) ls st σ Q) : AW μ kc ks pc ls (.int y :: .int x :: st) σ Q :=
  AW.go2 (fun _ _ _ _ _ _ _ _ _ _ _ _ _ _ hX a b => lv_icmp_ge hX.1 hX.2.1 d ht a b) kt kf
theorem AW.icmp_gt {off : Int} {tgt : Nat} {x y : Int32} (d : decode μ.2.1 pc = .ok (.if_icmp .gt off, 3)) (ht : (pc : Int) + off = (tgt : Int)) (kt : y < x → AW μ kc ks tgt ls st σ Q) (kf : ¬ y < x → AW μ kc ks (pc + 3) ls st σ Q) : AW μ kc ks pc ls (.int y :: .int x :: st) σ Q :=
  AW.go2 (fun _ _ _ _ _ _ _ _ _ _ _ _ _ _ hX a b => lv_icmp_gt hX.1 hX.2.1 d ht a b) kt kf
theorem AW.icmp_le {off : Int} {tgt : Nat} {x y : Int32} (d : decode μ.2.1 pc = .ok (.if_icmp .le off, 3)) (ht : (pc : Int) + off = (tgt : Int)) (kt : x ≤ y → AW μ kc ks tgt ls st σ Q) (kf : ¬ x ≤ y → AW μ kc ks (pc + 3) ls st σ Q) : AW μ kc ks pc ls (.int y :: .int x :: st) σ Q :=
  AW.go2 (fun _ _ _ _ _ _ _ _ _ _ _ _ _ _ hX a b => lv_icmp_le hX.1 hX.2.1 d ht a b) kt kf
theorem AW.tableIn {df lo hi : Int} {offs : Array Int} {len : Nat} {x : Int32} {off : Int} {tgt : Nat} (d : decode μ.2.1 pc = .ok (.tableswitch df lo hi offs, len)) (h1 : ¬ x.toInt < lo) (h2 : ¬ hi < x.toInt) (ho : offs[(x.toInt - lo).toNat]? = some off) (ht : (pc : Int) + off = (tgt : Int)) (k : AW μ kc ks tgt ls st σ Q) : AW μ kc ks pc ls (.int x :: st) σ Q :=
  AW.go (fun _ _ _ _ _ _ _ _ _ _ _ _ _ _ hX hL k => lv_tableIn hX.1 hX.2.1 d h1 h2 ho ht (k _ hL)) k
theorem AW.tableOut {df lo hi : Int} {offs : Array Int} {len : Nat} {x : Int32} {tgt : Nat} (d : decode μ.2.1 pc = .ok (.tableswitch df lo hi offs, len)) (h : x.toInt < lo ∨ hi < x.toInt) (ht : (pc : Int) + df = (tgt : Int)) (k : AW μ kc ks tgt ls st σ Q) : AW μ kc ks pc ls (.int x :: st) σ Q :=
  AW.go (fun _ _ _ _ _ _ _ _ _ _ _ _ _ _ hX hL k => lv_tableOut hX.1 hX.2.1 d h ht (k _ hL)) k
/-- fewer locals are known -/
theorem AW.forget {ls' : List Value} (h : ∀ (i : Nat) (v : Value), ls'[i]? = some v → v ≠ .null → ls[i]? = some v) (k : AW μ kc ks pc ls' st σ Q) : AW μ kc ks pc ls st σ Q := by
  intro p l e s m args below meth c G Z hX hSc hZ H locs lsA hR hS hL
  exact k p l e s m args below meth c G Z hX hSc hZ H locs lsA hR hS ⟨hL.1, hL.2.1, fun i v h1 h2 => hL.2.2 i v (h i v h1 h2) h2⟩
theorem AW.conseq {Q' : Option Int32 → sd_S → Prop} (h : ∀ r σ', Q r σ' → Q' r σ') (k : AW μ kc ks pc ls st σ Q) : AW μ kc ks pc ls st σ Q' := by
  intro p l e s m args below meth c G Z hX hSc hZ
  exact k p l e s m args below meth c G Z hX hSc (fun r C I J H locs lsA pc hr hq => hZ r C I J H locs lsA pc hr (h _ _ hq))
/-- the ends -/
theorem AW.ret (d : decode μ.2.1 pc = .ok (.return_, 1)) (hr : μ.2.2.2.1 = none) (hc : kc ≤ μ.2.2.2.2.cells) (hs : ks ≤ μ.2.2.2.2.slots) (hq : Q none σ) : AW μ kc ks pc ls [] σ Q := by
  intro p l e s m args below meth c G Z hX hSc hZ H locs lsA hR hS hL
  exact W.widen hc hs (hZ none σ.1 σ.2.2.1 σ.2.2.2 H locs lsA pc ⟨hr, d⟩ hq hR hS)
theorem AW.iret {v : Int32} (d : decode μ.2.1 pc = .ok (.ireturn, 1)) (hr : ∃ ty, μ.2.2.2.1 = some ty ∧ narrow ty (.int v) = .int v) (hc : kc ≤ μ.2.2.2.2.cells) (hs : ks ≤ μ.2.2.2.2.slots) (hq : Q (some v) σ) : AW μ kc ks pc ls [.int v] σ Q := by
  intro p l e s m args below meth c G Z hX hSc hZ H locs lsA hR hS hL
  exact W.widen hc hs (hZ (some v) σ.1 σ.2.2.1 σ.2.2.2 H locs lsA pc ⟨hr, d⟩ hq hR hS)
end Rows
