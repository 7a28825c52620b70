-- a method's contract out of its walk; calls
def sd_Qc (G : sd_G) (X : Nat × (Nat → Int32)) (Q : Option Int32 → sd_S → Prop) : Array Value → State → Outcome → State → Prop := fun _ st oc t =>
  (∃ (r : Option Int32) (C : List sd_C) (I : sd_I) (J : sd_J), oc = .returned (r.map Value.int) ∧ Q r (C, X, I, J) ∧ sd_R G C I J t.heap) ∧ va_F (sd_A G) st t
def sd_Pc (G : sd_G) (C : List sd_C) (I : sd_I) (J : sd_J) (U : State) : Prop := sd_F G U ∧ sd_R G C I J U.heap
theorem sd_en_args (G : sd_G) : ∀ (vs : List Value) (k i : Nat) (v : Value), (sd_en vs)[i]? = some v → v ≠ .null → (k + i, sd_v G v) ∈ lv_args k (vs.map (sd_v G)) := by
  intro vs
  induction vs with
  | nil => intro k i v h; simp [sd_en] at h
  | cons a vs ih =>
    intro k i v h hv
    unfold sd_en at h
    simp only [List.map_cons, lv_args, sd_v_cat]
    by_cases hc : a.category = 2
    · rw [if_pos hc] at h
      rw [if_pos hc]
      match i, h with
      | 0, h => cases h; exact List.mem_cons_self
      | 1, h => cases h; exact absurd rfl hv
      | i + 2, h =>
        refine List.mem_cons_of_mem _ ?_
        have := ih (k + 2) i v h hv
        rwa [show k + 2 + i = k + (i + 2) by omega] at this
    · rw [if_neg hc] at h
      rw [if_neg hc]
      match i, h with
      | 0, h => cases h; exact List.mem_cons_self
      | i + 1, h =>
        refine List.mem_cons_of_mem _ ?_
        have := ih (k + 1) i v h hv
        rwa [show k + 1 + i = k + (i + 1) by omega] at this
theorem sd_en_len (G : sd_G) (vs : List Value) : (lg_sl (vs.map (sd_v G))).length = (sd_en vs).length := by
  induction vs with
  | nil => rfl
  | cons a vs ih =>
    have h1 : lg_sl ((a :: vs).map (sd_v G)) = (if (sd_v G a).category = 2 then [.val (sd_v G a), .second] else [.val (sd_v G a)]) ++ lg_sl (vs.map (sd_v G)) := by
      simp [lg_sl]
    rw [h1, List.length_append, ih, sd_v_cat]
    rw [show sd_en (a :: vs) = if a.category = 2 then a :: .null :: sd_en vs else a :: sd_en vs from rfl]
    by_cases hc : a.category = 2
    · rw [if_pos hc, if_pos hc]; simp; omega
    · rw [if_neg hc, if_neg hc]; simp; omega
theorem sd_met {μ : sd_M} {vs : List Value} {C : List sd_C} {X : Nat × (Nat → Int32)} {I : sd_I} {J : sd_J} {Q : Option Int32 → sd_S → Prop} (h : AWm μ vs (C, X, I, J) Q) (hpl : plainName μ.1.cls = true) (hx : μ.1 ≠ x) (hfit : (sd_en vs).length ≤ μ.2.2.1) (l : Launch) (G : sd_G) :
    Met l μ.1 (.code μ.1 μ.2.1 μ.2.2.1 μ.2.2.2.1 :: sd_gd) μ.2.2.2.2 (va_Pc (vs.map (sd_v G)) (sd_Pc G C I J)) (sd_Qc G X Q) μ.2.2.2.2.cells μ.2.2.2.2.slots (sd_A G) := by
  refine Met.ofW (cc := μ.2.1) (maxL := μ.2.2.1) (ret := μ.2.2.2.1) hpl rfl ?_
  intro p e s m args below meth c s₁ B hml hv
  obtain ⟨rfl, hF, hR⟩ := hv
  have hts := atoms_spec (ws := .code μ.1 μ.2.1 μ.2.2.1 μ.2.2.2.1 :: sd_gd) B.pre
  have hX : sd_X μ p s m (vs.map (sd_v G)).toArray meth c G := ⟨B.exec, B.bytes, B.returns, hml, findClass_of_methodNamed B.named, fun w hw => hts w (List.mem_cons_of_mem _ hw), B.notSynchronized, (name_of_methodNamed B.named B.method).1, hF, hR.2.2.1, by rw [hR.1]; exact Nat.le_add_right _ _⟩
  rw [lg_entry_eq]
  have hl := lv_entry (vs.map (sd_v G)) (n := μ.2.2.1) (by rw [sd_en_len]; exact hfit)
  generalize ((lg_sl (vs.map (sd_v G)) ++ List.replicate (μ.2.2.1 - (lg_sl (vs.map (sd_v G))).length) Slot.unset).toArray) = lsA at hl ⊢
  refine h p l e s m _ below meth c G _ hX (fun e => absurd e hx) ?_ s.heap [] lsA hR va_S.rf ⟨hl.1, hl.2.1, fun i v hi hv => ?_⟩
  · intro r C' I' J' H locs lsB pc hr hq hR' hS'
    have hF' : ∀ t : State, t.heap = H → va_F (sd_A G) s t := fun t ht => hS'.F ht
    cases r with
    | none =>
      exact W.vret hX.1 hX.2.1 (hX.2.2.1.trans hr.1) (fun t ht hW => ⟨⟨none, C', I', J', rfl, hq, by rw [ht]; exact hR'⟩, hF' t ht⟩) hS'.2.2 hr.2 hX.2.2.2.2.2.2.1
    | some v =>
      obtain ⟨⟨ty, h1, h2⟩, h3⟩ := hr
      exact W.zret hX.1 hX.2.1 (hX.2.2.1.trans h1) h2 (fun t ht hW => ⟨⟨some v, C', I', J', rfl, hq, by rw [ht]; exact hR'⟩, hF' t ht⟩) hS'.2.2 h3 hX.2.2.2.2.2.2.1
  · by_cases hi2 : i < (sd_en vs).length
    · rw [List.getElem?_append_left hi2] at hi
      have := sd_en_args G vs 0 i v hi hv
      rw [Nat.zero_add] at this
      exact hl.2.2 _ this
    · rw [List.getElem?_append_right (by omega), List.getElem?_replicate] at hi
      split at hi
      · cases hi; exact absurd rfl hv
      · cases hi
theorem sd_call {p : Program} {l : Launch} {e : Env} {R : Room} {s : State} {m : MethodId} {args : Array Value} {below : List Frame} {meth : Method} {c : Code} {H : Heap} {locs : List Loc} {cells slots mc ms pc : Nat} {Z : State → Prop} {ls : Array Slot} {st0 rest : List Value} {a : Array Value} {H0 : Heap} {G : sd_G} {X : Nat × (Nat → Int32)} {Q : Option Int32 → sd_S → Prop}
    (hr : va_Run p l e R s m args below meth c H locs cells slots mc ms (F0 m pc ls st0) rest (sd_Qc G X Q a) (sd_A G)) (hS : va_S (sd_A G) H0 H locs)
    (kk : ∀ (r : Option Int32) (C : List sd_C) (I : sd_I) (J : sd_J) (H1 : Heap) (locs1 : List Loc), Q r (C, X, I, J) → sd_R G C I J H1 → va_S (sd_A G) H0 H1 locs1 → W p l e R s m args below meth c H1 locs1 (cells + mc) (slots + ms) Z (F0 m (pc + 3) ls (r.toList.map Value.int ++ rest))) : W p l e R s m args below meth c H locs cells slots Z (F0 m pc ls st0) := by
  intro T hT Y
  obtain ⟨v, st₀, t, T', L, h0, Y', hL, e1, e2, ⟨⟨r, C, I, J, hv, hq, hR⟩, hz, hk⟩, st⟩ := hr T hT Y
  have hv : v = r.map Value.int := by injection hv
  subst hv
  rw [h0] at hz hk
  obtain ⟨t2, a1, b1⟩ := kk r C I J T'.heap (locs ++ L) hq (by rw [e1]; exact hR)
    ⟨Nat.le_trans hS.1 (by rw [e1]; exact hz), fun q h1 h2 => by rw [e1, hk q (Nat.lt_of_lt_of_le h1 hS.1) h2]; exact hS.2.1 q h1 h2, fun q hq => by
      rcases List.mem_append.mp hq with h | h
      · exact hS.2.2 q h
      · exact hL q h⟩ T' rfl Y'
  refine ⟨t2, st t2 ?_, b1⟩
  cases r <;> exact a1
section Calls2
variable {μ μ' : sd_M} {kc ks kc' ks' pc : Nat} {ls st vs : List Value} {C : List sd_C} {X : Nat × (Nat → Int32)} {I : sd_I} {J : sd_J} {Q Q' : Option Int32 → sd_S → Prop} {idx n : Nat}
theorem sd_blind (G : sd_G) (vs : List Value) : FrameBlind (va_Pc (vs.map (sd_v G)) (sd_Pc G C I J)) := fun a U g mk q => by
  obtain ⟨q0, q1, q2⟩ := q
  exact ⟨q0, sd_F.same (u := U) rfl q1, q2⟩
theorem sd_preS {G : sd_G} {s : State} {H : Heap} (hF : sd_F G s) (hR : sd_R G C I J H) : PreS s H (va_Pc (vs.map (sd_v G)) (sd_Pc G C I J)) (vs.map (sd_v G)) :=
  ⟨sd_blind G vs, fun U hU hW => ⟨rfl, hF.warm hW, by rw [hU]; exact hR⟩⟩
theorem sd_room8 (G : sd_G) (m : MethodId) (lsA : Array Slot) (st0 : List Value) (h : (st.map fun v => v.category).sum ≤ 8) : 2 * (F0 m pc lsA st0).monitorRoom + ((st.map (sd_v G)).map fun v => v.category).sum ≤ 8 := by
  have hcat : ((st.map (sd_v G)).map fun v => v.category).sum = (st.map fun v => v.category).sum := by
    rw [List.map_map]
    exact congrArg List.sum (List.map_congr_left (fun v _ => sd_v_cat G v))
  show 2 * 0 + _ ≤ 8
  omega
/-- what a call asks of the callee and the rooms -/
def sd_ok (μ μ' : sd_M) (n : Nat) : Prop := plainName μ'.1.cls = true ∧ μ'.1 ≠ x ∧ (μ'.1.cls ≠ "java/lang/invoke/MethodHandle" ∧ μ'.1.cls ≠ "java/lang/invoke/VarHandle" ∧ (parseMethodDescriptor μ'.1.desc).map (fun d => d.parameters.length) = some n) ∧ (μ'.2.2.2.2.frames + 1 ≤ μ.2.2.2.2.frames ∧ 8 + (μ'.2.2.1 + 11) + μ'.2.2.2.2.locals ≤ μ.2.2.2.2.locals)
theorem sd_wsG (wc : Cond.code μ'.1 μ'.2.1 μ'.2.2.1 μ'.2.2.2.1 ∈ sd_gd) : ∀ w ∈ (Cond.code μ'.1 μ'.2.1 μ'.2.2.1 μ'.2.2.2.1 :: sd_gd), w ∈ sd_gd := fun w hw => by
  rcases List.mem_cons.mp hw with rfl | h
  · exact wc
  · exact h
theorem sd_map_rev (G : sd_G) (vs st : List Value) : (vs.reverse ++ st).map (sd_v G) = (vs.map (sd_v G)).reverse ++ st.map (sd_v G) := by simp
theorem sd_back {G : sd_G} {m : MethodId} {pc : Nat} {lsA : Array Slot} {r : Option Int32} : (F0 m pc lsA (r.toList.map Value.int ++ st.map (sd_v G))) = F0 m pc lsA ((r.toList.map Value.int ++ st).map (sd_v G)) := by
  cases r <;> rfl
/-- invokestatic -/
theorem AW.callS (hok : sd_ok μ μ' n) (wm : Cond.methodLink μ.1.cls idx μ'.1 ∈ sd_gd) (ws : Cond.static μ'.1 ∈ sd_gd) (wi : Cond.initialized μ'.1.cls ∈ sd_gd) (wc : Cond.code μ'.1 μ'.2.1 μ'.2.2.1 μ'.2.2.2.1 ∈ sd_gd) (d : decode μ.2.1 pc = .ok (.invokestatic idx, 3)) (hn : vs.length = n) (hfit : (sd_en vs).length ≤ μ'.2.2.1) (hst : (st.map fun v => v.category).sum ≤ 8)
    (hkc : kc + μ'.2.2.2.2.cells = kc') (hks : ks + μ'.2.2.2.2.slots = ks') (hc1 : kc' ≤ μ.2.2.2.2.cells) (hs1 : ks' ≤ μ.2.2.2.2.slots) {st0 : List Value} (hst0 : vs.reverse ++ st = st0)
    (h : AWm μ' vs (C, X, I, J) Q') (kk : ∀ r C I J, Q' r (C, X, I, J) → AW μ kc' ks' (pc + 3) ls (r.toList.map Value.int ++ st) (C, X, I, J) Q) : AW μ kc ks pc ls st0 (C, X, I, J) Q := by
  subst hkc; subst hks; subst hst0
  intro p l e s m args below meth c G Z hX hSc hZ H locs lsA hR hS hL
  have hR : sd_R G C I J H := hR
  have hts := hX.2.2.2.2.2.1
  have hG : GoodIn sd_gd (va_wsS μ.1.cls idx μ'.1 (.code μ'.1 μ'.2.1 μ'.2.2.1 μ'.2.2.2.1 :: sd_gd)) := sd_goodIn (fun w hw => by
    rcases List.mem_append.mp hw with h1 | h1
    · simp only [List.mem_cons, List.not_mem_nil, or_false] at h1
      rcases h1 with rfl | rfl | rfl <;> assumption
    · exact sd_wsG wc w h1)
  rw [sd_map_rev]
  refine sd_call (va_runS (As := vs.map (sd_v G)) (rest := st.map (sd_v G)) (n := n) ⟨hX.1, hX.2.1, hX.2.2.2.1, hX.2.2.2.2.1, hts⟩ (sd_met h hok.1 hok.2.1 hfit l G) (va_cwS n hts hG rfl rfl rfl hok.2.2.1 hok.2.2.2) (sd_preS hX.2.2.2.2.2.2.2.2.1 hR) rfl (by simpa using hn) hL.1 rfl (sd_room8 G m lsA _ hst) d ⟨hc1, hs1⟩) hS (fun r C' I' J' H1 locs1 hq hR' hS' => ?_)
  rw [sd_back]
  exact kk r C' I' J' hq p l e s m args below meth c G Z hX hSc hZ H1 locs1 lsA hR' hS' hL
/-- invokestatic, a private one of a nest mate -/
theorem AW.callSN {host : String} (hok : sd_ok μ μ' n) (wq : ((μ.1.cls, idx, μ'.1, host) : String × Nat × MethodName × String) ∈ sd_nest) (ws : Cond.static μ'.1 ∈ sd_gd) (wi : Cond.initialized μ'.1.cls ∈ sd_gd) (wc : Cond.code μ'.1 μ'.2.1 μ'.2.2.1 μ'.2.2.2.1 ∈ sd_gd) (d : decode μ.2.1 pc = .ok (.invokestatic idx, 3)) (hn : vs.length = n) (hfit : (sd_en vs).length ≤ μ'.2.2.1) (hst : (st.map fun v => v.category).sum ≤ 8)
    (hkc : kc + μ'.2.2.2.2.cells = kc') (hks : ks + μ'.2.2.2.2.slots = ks') (hc1 : kc' ≤ μ.2.2.2.2.cells) (hs1 : ks' ≤ μ.2.2.2.2.slots) {st0 : List Value} (hst0 : vs.reverse ++ st = st0)
    (h : AWm μ' vs (C, X, I, J) Q') (kk : ∀ r C I J, Q' r (C, X, I, J) → AW μ kc' ks' (pc + 3) ls (r.toList.map Value.int ++ st) (C, X, I, J) Q) : AW μ kc ks pc ls st0 (C, X, I, J) Q := by
  subst hkc; subst hks; subst hst0
  intro p l e s m args below meth c G Z hX hSc hZ H locs lsA hR hS hL
  have hR : sd_R G C I J H := hR
  have hts := hX.2.2.2.2.2.1
  rw [sd_map_rev]
  refine sd_call (va_runSN (host := host) (As := vs.map (sd_v G)) (rest := st.map (sd_v G)) (n := n) ⟨hX.1, hX.2.1, hX.2.2.2.1, hX.2.2.2.2.1, hts⟩ (sd_met h hok.1 hok.2.1 hfit l G) ⟨va_cnB n hts (sd_goodIn (sd_wsG wc)) rfl rfl rfl (hX.2.2.2.2.2.2.2.2.1.2.1 _ wq) (hts _ wi) hok.2.2.1 hok.2.2.2, hts _ ws, trivial⟩ (sd_preS hX.2.2.2.2.2.2.2.2.1 hR) rfl (by simpa using hn) hL.1 rfl (sd_room8 G m lsA _ hst) d ⟨hc1, hs1⟩) hS (fun r C' I' J' H1 locs1 hq hR' hS' => ?_)
  rw [sd_back]
  exact kk r C' I' J' hq p l e s m args below meth c G Z hX hSc hZ H1 locs1 lsA hR' hS' hL
theorem sd_preV {G : sd_G} {s : State} {H : Heap} {a ci na N : Nat} {rs : List (Option Nat)} {Cn : String} {T : u_T} (hF : sd_F G s) (hR : sd_R G C I J H) (hC : C[a]? = some (ci, na, rs)) (hci : ci < 13) (hc : vwCl[ci]? = some (Cn, T, N)) : PreV s H Cn (G.2.2.1.size + a) (va_Pc ((.ref a :: vs).map (sd_v G)) (sd_Pc G C I J)) (vs.map (sd_v G)) := by
  refine ⟨sd_blind G (.ref a :: vs), ?_, fun U hU hW => ⟨?_, hF.warm hW, by rw [hU]; exact hR⟩⟩
  · exact va_recv hF.1 hR.2.2.2 hc (q0 := a) (ci := ci) (fs := sd_fs G I a (ci, na, rs)) (by rw [sd_at hC]; unfold sd_E; rw [if_pos hci])
  · show _ = (Value.ref (sd_ad G a) :: _).toArray
    rw [sd_ad_lt (hR.lt hC)]
/-- invokevirtual, of a method of the object's own class -/
theorem AW.callV {a ci na N : Nat} {rs : List (Option Nat)} {Cn : String} {T : u_T} (hok : sd_ok μ μ' n) (hcls : μ'.1.cls = Cn) (wm : Cond.methodLink μ.1.cls idx μ'.1 ∈ sd_gd) (wi : Cond.instanceMethod μ'.1 ∈ sd_gd) (wse : Cond.selects Cn μ'.1 μ'.1 ∈ sd_gd) (wz : Cond.initialized Cn ∈ sd_gd) (wc : Cond.code μ'.1 μ'.2.1 μ'.2.2.1 μ'.2.2.2.1 ∈ sd_gd) (hci : ci < 13) (hc : vwCl[ci]? = some (Cn, T, N)) (d : decode μ.2.1 pc = .ok (.invokevirtual idx, 3)) (hn : vs.length = n) (hfit : (sd_en (.ref a :: vs)).length ≤ μ'.2.2.1) (hst : (st.map fun v => v.category).sum ≤ 8)
    (hkc : kc + μ'.2.2.2.2.cells = kc') (hks : ks + μ'.2.2.2.2.slots = ks') (hc1 : kc' ≤ μ.2.2.2.2.cells) (hs1 : ks' ≤ μ.2.2.2.2.slots) (hC : C[a]? = some (ci, na, rs)) {st0 : List Value} (hst0 : vs.reverse ++ .ref a :: st = st0)
    (h : AWm μ' (.ref a :: vs) (C, X, I, J) Q') (kk : ∀ r C I J, Q' r (C, X, I, J) → AW μ kc' ks' (pc + 3) ls (r.toList.map Value.int ++ st) (C, X, I, J) Q) : AW μ kc ks pc ls st0 (C, X, I, J) Q := by
  subst hkc; subst hks; subst hst0
  intro p l e s m args below meth c G Z hX hSc hZ H locs lsA hR hS hL
  have hR : sd_R G C I J H := hR
  have hts := hX.2.2.2.2.2.1
  have hG : GoodIn sd_gd (wsV μ.1.cls idx Cn μ'.1 (.code μ'.1 μ'.2.1 μ'.2.2.1 μ'.2.2.2.1 :: sd_gd)) := sd_goodIn (fun w hw => by
    rcases List.mem_append.mp hw with h1 | h1
    · simp only [List.mem_cons, List.not_mem_nil, or_false] at h1
      rcases h1 with rfl | rfl | rfl | rfl <;> assumption
    · exact sd_wsG wc w h1)
  rw [sd_map_rev]
  have e0 : (Value.ref a :: st).map (sd_v G) = Value.ref (G.2.2.1.size + a) :: st.map (sd_v G) := by
    show Value.ref (sd_ad G a) :: _ = _
    rw [sd_ad_lt (hR.lt hC)]
  rw [e0]
  refine sd_call (va_runV (As := vs.map (sd_v G)) (rest := st.map (sd_v G)) (n := n) ⟨hX.1, hX.2.1, hX.2.2.2.1, hX.2.2.2.2.1, hts⟩ (sd_met h hok.1 hok.2.1 hfit l G) (cwV n hts hG rfl rfl rfl ⟨hcls, hok.2.2.1⟩ hok.2.2.2) (sd_preV hX.2.2.2.2.2.2.2.2.1 hR hC hci hc) rfl (by simpa using hn) hL.1 rfl (sd_room8 G m lsA _ hst) d ⟨hc1, hs1⟩) hS (fun r C' I' J' H1 locs1 hq hR' hS' => ?_)
  rw [sd_back]
  exact kk r C' I' J' hq p l e s m args below meth c G Z hX hSc hZ H1 locs1 lsA hR' hS' hL
/-- invokevirtual of a method that the object's class has its own of -/
theorem AW.callU {a ci na N : Nat} {rs : List (Option Nat)} {Cn owner : String} {T : u_T} {xm : MethodName} (hok : sd_ok μ μ' n) (hown : owner ≠ "java/lang/invoke/MethodHandle" ∧ owner ≠ "java/lang/invoke/VarHandle" ∧ (parseMethodDescriptor xm.desc).map (fun d => d.parameters.length) = some n) (ho : (⟨owner, xm.name, xm.desc⟩ : MethodName) = xm) (wx : Cond.instanceMethod xm ∈ sd_gd) {bx : ByteArray} {mx : Nat} {rx : Option FieldType} (wcx : Cond.code xm bx mx rx ∈ sd_gd) (wm : Cond.methodLink μ.1.cls idx xm ∈ sd_gd) (wsm : Cond.sameMethod xm.cls owner xm.name xm.desc ∈ sd_gd) (wi : Cond.instanceMethod μ'.1 ∈ sd_gd) (wse : Cond.selects Cn xm μ'.1 ∈ sd_gd) (wz : Cond.initialized μ'.1.cls ∈ sd_gd) (wc : Cond.code μ'.1 μ'.2.1 μ'.2.2.1 μ'.2.2.2.1 ∈ sd_gd) (hci : ci < 13) (hc : vwCl[ci]? = some (Cn, T, N)) (d : decode μ.2.1 pc = .ok (.invokevirtual idx, 3)) (hn : vs.length = n) (hfit : (sd_en (.ref a :: vs)).length ≤ μ'.2.2.1) (hst : (st.map fun v => v.category).sum ≤ 8)
    (hkc : kc + μ'.2.2.2.2.cells = kc') (hks : ks + μ'.2.2.2.2.slots = ks') (hc1 : kc' ≤ μ.2.2.2.2.cells) (hs1 : ks' ≤ μ.2.2.2.2.slots) (hC : C[a]? = some (ci, na, rs)) {st0 : List Value} (hst0 : vs.reverse ++ .ref a :: st = st0)
    (h : AWm μ' (.ref a :: vs) (C, X, I, J) Q') (kk : ∀ r C I J, Q' r (C, X, I, J) → AW μ kc' ks' (pc + 3) ls (r.toList.map Value.int ++ st) (C, X, I, J) Q) : AW μ kc ks pc ls st0 (C, X, I, J) Q := by
  subst hkc; subst hks; subst hst0
  intro p l e s m args below meth c G Z hX hSc hZ H locs lsA hR hS hL
  have hR : sd_R G C I J H := hR
  have hts := hX.2.2.2.2.2.1
  have hG : GoodIn sd_gd (va_wsO μ.1.cls idx Cn owner xm μ'.1 (.code μ'.1 μ'.2.1 μ'.2.2.1 μ'.2.2.2.1 :: sd_gd)) := sd_goodIn (fun w hw => by
    rcases List.mem_append.mp hw with h1 | h1
    · simp only [List.mem_cons, List.not_mem_nil, or_false] at h1
      rcases h1 with rfl | rfl | rfl | rfl | rfl | rfl <;> first | assumption | (rw [ho]; exact wx)
    · exact sd_wsG wc w h1)
  rw [sd_map_rev]
  have e0 : (Value.ref a :: st).map (sd_v G) = Value.ref (G.2.2.1.size + a) :: st.map (sd_v G) := by
    show Value.ref (sd_ad G a) :: _ = _
    rw [sd_ad_lt (hR.lt hC)]
  rw [e0]
  refine sd_call (va_runU (As := vs.map (sd_v G)) (rest := st.map (sd_v G)) (n := n) ⟨hX.1, hX.2.1, hX.2.2.2.1, hX.2.2.2.2.1, hts⟩ (sd_met h hok.1 hok.2.1 hfit l G) (va_cwO n hts hG rfl rfl rfl (by rw [ho]; exact wcx) hown hok.2.2.2) (sd_preV hX.2.2.2.2.2.2.2.2.1 hR hC hci hc) rfl (by simpa using hn) hL.1 rfl (sd_room8 G m lsA _ hst) d ⟨hc1, hs1⟩) hS (fun r C' I' J' H1 locs1 hq hR' hS' => ?_)
  rw [sd_back]
  exact kk r C' I' J' hq p l e s m args below meth c G Z hX hSc hZ H1 locs1 lsA hR' hS' hL
/-- invokespecial, of the super class's method -/
theorem AW.callSU {a ci na N : Nat} {rs : List (Option Nat)} {Cn : String} {T : u_T} (hok : sd_ok μ μ' n) (hname : μ'.1.name ≠ "<init>") (wm : Cond.methodLink μ.1.cls idx μ'.1 ∈ sd_gd) (wsm : Cond.sameMethod μ'.1.cls μ'.1.cls μ'.1.name μ'.1.desc ∈ sd_gd) (wsu : Cond.superclass μ.1.cls μ'.1.cls ∈ sd_gd) (wi : Cond.instanceMethod μ'.1 ∈ sd_gd) (wz : Cond.initialized μ'.1.cls ∈ sd_gd) (wc : Cond.code μ'.1 μ'.2.1 μ'.2.2.1 μ'.2.2.2.1 ∈ sd_gd) (hci : ci < 13) (hc : vwCl[ci]? = some (Cn, T, N)) (d : decode μ.2.1 pc = .ok (.invokespecial idx, 3)) (hn : vs.length = n) (hfit : (sd_en (.ref a :: vs)).length ≤ μ'.2.2.1) (hst : (st.map fun v => v.category).sum ≤ 8)
    (hkc : kc + μ'.2.2.2.2.cells = kc') (hks : ks + μ'.2.2.2.2.slots = ks') (hc1 : kc' ≤ μ.2.2.2.2.cells) (hs1 : ks' ≤ μ.2.2.2.2.slots) (hC : C[a]? = some (ci, na, rs)) {st0 : List Value} (hst0 : vs.reverse ++ .ref a :: st = st0)
    (h : AWm μ' (.ref a :: vs) (C, X, I, J) Q') (kk : ∀ r C I J, Q' r (C, X, I, J) → AW μ kc' ks' (pc + 3) ls (r.toList.map Value.int ++ st) (C, X, I, J) Q) : AW μ kc ks pc ls st0 (C, X, I, J) Q := by
  subst hkc; subst hks; subst hst0
  intro p l e s m args below meth c G Z hX hSc hZ H locs lsA hR hS hL
  have hR : sd_R G C I J H := hR
  have hts := hX.2.2.2.2.2.1
  have hG : GoodIn sd_gd (va_wsSU μ.1.cls idx μ'.1 (.code μ'.1 μ'.2.1 μ'.2.2.1 μ'.2.2.2.1 :: sd_gd)) := sd_goodIn (fun w hw => by
    rcases List.mem_append.mp hw with h1 | h1
    · simp only [List.mem_cons, List.not_mem_nil, or_false] at h1
      rcases h1 with rfl | rfl | rfl | rfl | rfl <;> assumption
    · exact sd_wsG wc w h1)
  rw [sd_map_rev]
  have e0 : (Value.ref a :: st).map (sd_v G) = Value.ref (G.2.2.1.size + a) :: st.map (sd_v G) := by
    show Value.ref (sd_ad G a) :: _ = _
    rw [sd_ad_lt (hR.lt hC)]
  rw [e0]
  refine sd_call (va_runSU (hX.2.2.2.2.2.2.2.2.1.1.1 ci _ hc).2 (As := vs.map (sd_v G)) (rest := st.map (sd_v G)) (n := n) ⟨hX.1, hX.2.1, hX.2.2.2.1, hX.2.2.2.2.1, hts⟩ (sd_met h hok.1 hok.2.1 hfit l G) (va_cwSU n hts hG rfl rfl rfl ⟨hname, hok.2.2.1.2.2⟩ hok.2.2.2) (sd_preV hX.2.2.2.2.2.2.2.2.1 hR hC hci hc) rfl (by simpa using hn) hL.1 rfl (sd_room8 G m lsA _ hst) d ⟨hc1, hs1⟩) hS (fun r C' I' J' H1 locs1 hq hR' hS' => ?_)
  rw [sd_back]
  exact kk r C' I' J' hq p l e s m args below meth c G Z hX hSc hZ H1 locs1 lsA hR' hS' hL
/-- a constructor -/
theorem AW.callI {a : Nat} (hok : sd_ok μ μ' n) (hname : μ'.1.name = "<init>") (hret : μ'.2.2.2.1 = none) (wm : Cond.methodLink μ.1.cls idx μ'.1 ∈ sd_gd) (wi : Cond.instanceMethod μ'.1 ∈ sd_gd) (wz : Cond.initialized μ'.1.cls ∈ sd_gd) (wc : Cond.code μ'.1 μ'.2.1 μ'.2.2.1 μ'.2.2.2.1 ∈ sd_gd) (d : decode μ.2.1 pc = .ok (.invokespecial idx, 3)) (hn : vs.length = n) (hfit : (sd_en (.ref a :: vs)).length ≤ μ'.2.2.1) (hst : (st.map fun v => v.category).sum ≤ 8)
    (hkc : kc + μ'.2.2.2.2.cells = kc') (hks : ks + μ'.2.2.2.2.slots = ks') (hc1 : kc' ≤ μ.2.2.2.2.cells) (hs1 : ks' ≤ μ.2.2.2.2.slots) (ha : a < 100000) {st0 : List Value} (hst0 : vs.reverse ++ .ref a :: st = st0)
    (h : AWm μ' (.ref a :: vs) (C, X, I, J) Q') (kk : ∀ r C I J, Q' r (C, X, I, J) → AW μ kc' ks' (pc + 3) ls (r.toList.map Value.int ++ st) (C, X, I, J) Q) : AW μ kc ks pc ls st0 (C, X, I, J) Q := by
  subst hkc; subst hks; subst hst0
  intro p l e s m args below meth c G Z hX hSc hZ H locs lsA hR hS hL
  have hR : sd_R G C I J H := hR
  have hts := hX.2.2.2.2.2.1
  rw [hret] at wc
  have hM := sd_met h hok.1 hok.2.1 hfit l G
  rw [hret] at hM
  rw [sd_map_rev]
  have e0 : (Value.ref a :: st).map (sd_v G) = Value.ref (G.2.2.1.size + a) :: st.map (sd_v G) := by
    show Value.ref (sd_ad G a) :: _ = _
    rw [sd_ad_lt ha]
  rw [e0]
  have e1 : (Value.ref a :: vs).map (sd_v G) = Value.ref (G.2.2.1.size + a) :: vs.map (sd_v G) := by
    show Value.ref (sd_ad G a) :: _ = _
    rw [sd_ad_lt ha]
  have hp : PreS s H (va_Pc ((.ref a :: vs).map (sd_v G)) (sd_Pc G C I J)) ((.ref a :: vs).map (sd_v G)) := sd_preS hX.2.2.2.2.2.2.2.2.1 hR
  rw [e1] at hp hM
  have hG : GoodIn sd_gd (.code μ'.1 μ'.2.1 μ'.2.2.1 none :: sd_gd) := sd_goodIn (fun w hw => by
    rcases List.mem_cons.mp hw with rfl | h
    · exact wc
    · exact h)
  refine sd_call (va_runI (As := vs.map (sd_v G)) (rest := st.map (sd_v G)) (n := n) ⟨hX.1, hX.2.1, hX.2.2.2.1, hX.2.2.2.2.1, hts⟩ hM (cwI n hts hG rfl rfl rfl (hts _ wz) (hts _ wm) (hts _ wi) hname hok.2.2.1 hok.2.2.2) hp rfl (by simpa using hn) hL.1 rfl (sd_room8 G m lsA _ hst) d ⟨hc1, hs1⟩) hS (fun r C' I' J' H1 locs1 hq hR' hS' => ?_)
  rw [sd_back]
  exact kk r C' I' J' hq p l e s m args below meth c G Z hX hSc hZ H1 locs1 lsA hR' hS' hL
/-- a private constructor of a nest mate -/
theorem AW.callIN {a : Nat} {host : String} (hok : sd_ok μ μ' n) (hname : μ'.1.name = "<init>") (hret : μ'.2.2.2.1 = none) (wq : ((μ.1.cls, idx, μ'.1, host) : String × Nat × MethodName × String) ∈ sd_nest) (wi : Cond.instanceMethod μ'.1 ∈ sd_gd) (wz : Cond.initialized μ'.1.cls ∈ sd_gd) (wc : Cond.code μ'.1 μ'.2.1 μ'.2.2.1 μ'.2.2.2.1 ∈ sd_gd) (d : decode μ.2.1 pc = .ok (.invokespecial idx, 3)) (hn : vs.length = n) (hfit : (sd_en (.ref a :: vs)).length ≤ μ'.2.2.1) (hst : (st.map fun v => v.category).sum ≤ 8)
    (hkc : kc + μ'.2.2.2.2.cells = kc') (hks : ks + μ'.2.2.2.2.slots = ks') (hc1 : kc' ≤ μ.2.2.2.2.cells) (hs1 : ks' ≤ μ.2.2.2.2.slots) (ha : a < 100000) {st0 : List Value} (hst0 : vs.reverse ++ .ref a :: st = st0)
    (h : AWm μ' (.ref a :: vs) (C, X, I, J) Q') (kk : ∀ r C I J, Q' r (C, X, I, J) → AW μ kc' ks' (pc + 3) ls (r.toList.map Value.int ++ st) (C, X, I, J) Q) : AW μ kc ks pc ls st0 (C, X, I, J) Q := by
  subst hkc; subst hks; subst hst0
  intro p l e s m args below meth c G Z hX hSc hZ H locs lsA hR hS hL
  have hR : sd_R G C I J H := hR
  have hts := hX.2.2.2.2.2.1
  rw [hret] at wc
  have hM := sd_met h hok.1 hok.2.1 hfit l G
  rw [hret] at hM
  rw [sd_map_rev]
  have e0 : (Value.ref a :: st).map (sd_v G) = Value.ref (G.2.2.1.size + a) :: st.map (sd_v G) := by
    show Value.ref (sd_ad G a) :: _ = _
    rw [sd_ad_lt ha]
  rw [e0]
  have e1 : (Value.ref a :: vs).map (sd_v G) = Value.ref (G.2.2.1.size + a) :: vs.map (sd_v G) := by
    show Value.ref (sd_ad G a) :: _ = _
    rw [sd_ad_lt ha]
  have hp : PreS s H (va_Pc ((.ref a :: vs).map (sd_v G)) (sd_Pc G C I J)) ((.ref a :: vs).map (sd_v G)) := sd_preS hX.2.2.2.2.2.2.2.2.1 hR
  rw [e1] at hp hM
  have hG : GoodIn sd_gd (.code μ'.1 μ'.2.1 μ'.2.2.1 none :: sd_gd) := sd_goodIn (fun w hw => by
    rcases List.mem_cons.mp hw with rfl | h
    · exact wc
    · exact h)
  refine sd_call (va_runIN (host := host) (As := vs.map (sd_v G)) (rest := st.map (sd_v G)) (n := n) ⟨hX.1, hX.2.1, hX.2.2.2.1, hX.2.2.2.2.1, hts⟩ hM ⟨va_cnB n hts hG rfl rfl rfl (hX.2.2.2.2.2.2.2.2.1.2.1 _ wq) (hts _ wz) hok.2.2.1 hok.2.2.2, hname, hts _ wi⟩ hp rfl (by simpa using hn) hL.1 rfl (sd_room8 G m lsA _ hst) d ⟨hc1, hs1⟩) hS (fun r C' I' J' H1 locs1 hq hR' hS' => ?_)
  rw [sd_back]
  exact kk r C' I' J' hq p l e s m args below meth c G Z hX hSc hZ H1 locs1 lsA hR' hS' hL
end Calls2
