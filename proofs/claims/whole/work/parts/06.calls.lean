-- new cells; calls
theorem sd_R.push {G : sd_G} {C : List sd_C} {I I' : sd_I} {J J' : sd_J} {H H' : Heap} {c : sd_C} (hR : sd_R G C I J H) (hl : C.length < 100000) (hI : ∀ k d, k < C.length → sd_E G I' J' k d = sd_E G I J k d) (hz : H'.size = H.size + 1) (oq : ∀ q, q < H.size → H'[q]? = H[q]?) (hat : va_at G.1 vwCl (G.2.2.1.size + C.length, sd_E G I' J' C.length c) H') : sd_R G (C ++ [c]) I' J' H' := by
  have hws : sd_ws G (C ++ [c]) I' J' = sd_ws G C I J ++ [(G.2.2.1.size + C.length, sd_E G I' J' C.length c)] := by
    apply List.ext_getElem?
    intro k
    have hlen : (sd_ws G C I J).length = C.length := by unfold sd_ws; simp
    rw [sd_ws_at]
    by_cases h1 : k < C.length
    · rw [List.getElem?_append_left h1, List.getElem?_append_left (by rw [hlen]; exact h1), sd_ws_at]
      cases C[k]? with
      | none => rfl
      | some d => simp only [Option.map_some, hI k d h1]
    · rw [List.getElem?_append_right (by omega), List.getElem?_append_right (by omega), hlen]
      by_cases h2 : k = C.length
      · subst h2; simp
      · rw [List.getElem?_eq_none (by simp; omega), List.getElem?_eq_none (by simp; omega)]; rfl
  refine ⟨by rw [hz, hR.1, List.length_append]; rfl, by rw [List.length_append]; exact hl, fun q hq => ?_, ?_⟩
  · rw [oq q (by rw [hR.1]; omega)]; exact hR.2.2.1 q hq
  · rw [hws]
    refine va_P.app (hR.2.2.2.kept (fun k q hq => oq _ ((hR.2.2.2 k q hq).lt))) (fun k q hq => ?_)
    have hz : k < 1 := (List.getElem?_eq_some_iff.mp hq).1
    rw [show k = 0 by omega] at hq
    cases hq
    exact hat
section New
variable {μ : sd_M} {kc ks pc : Nat} {ls st : List Value} {C : List sd_C} {X : Nat × (Nat → Int32)} {I : sd_I} {J : sd_J} {Q : Option Int32 → sd_S → Prop}
theorem AW.new {ci idx N q : Nat} {Cn : String} {T : u_T} (d : decode μ.2.1 pc = .ok (.new idx, 3)) (hc : vwCl[ci]? = some (Cn, T, N)) (hin : ∀ w ∈ u_ws Cn T N, w ∈ sd_gd) (ty : Nat → FieldType) (hty : ∀ k, k < N → parseFieldDescriptor (T k).2.2.1 = some (ty k)) (hN : sd_nF ci = N) (hci : ci < 13) (hdf : ∀ j, j < N → defaultValue (ty j) = sd_av (sd_isR ci j) none 0)
    (w1 : Cond.classLink μ.1.cls idx Cn ∈ sd_gd) (w2 : Cond.instantiable Cn N ∈ sd_gd) (w3 : Cond.initialized Cn ∈ sd_gd) (hq : C.length = q) (hl : q < 100000) (hkc : kc + 1 ≤ μ.2.2.2.2.cells) (hks : ks + N ≤ μ.2.2.2.2.slots)
    (kk : AW μ (kc + 1) (ks + N) (pc + 3) ls (.ref q :: st) (C ++ [(ci, 0, List.replicate N none)], X, sd_r I q (fun _ => 0), J) Q) : AW μ kc ks pc ls st (C, X, I, J) Q := by
  subst hq
  intro p l e s m args below meth c G Z hX hSc hZ H locs lsA hR hS hL
  have hR : sd_R G C I J H := hR
  have hK := hX.2.2.2.2.2.2.2.2.1.1
  have hts := hX.2.2.2.2.2.1
  have hKn := hK.1 ci _ hc
  refine W.newcK hX.1 hX.2.1 hX.2.2.2.2.1 (hts _ w1) (hts _ w2) (hts _ w3) rfl d hkc hks hKn.2.1 rfl fun H1 kC hkC e1 z1 o1 => ?_
  have hsz : H.size = G.2.2.1.size + C.length := hR.1
  have hR' : sd_R G (C ++ [(ci, 0, List.replicate N none)]) (sd_r I C.length (fun _ => 0)) J H1 := by
    refine hR.push hl (fun k d hk => sd_E_I (sd_r_ne (by omega)) d) z1 o1 ?_
    have hE : sd_E G (sd_r I C.length (fun _ => 0)) J C.length (ci, 0, List.replicate N none) = .inr (ci, sd_fs G (sd_r I C.length (fun _ => 0)) C.length (ci, 0, List.replicate N none)) := by
      unfold sd_E; rw [if_pos hci]
    rw [hE]
    refine ⟨_, hc, ?_⟩
    rw [hsz] at e1
    refine (u_born ty hts hin hKn hkC e1 hty).to (fun j hj => ?_)
    show defaultValue (ty j) = vp_V (sd_fs G _ _ _) j
    unfold vp_V
    rw [List.getD_eq_getElem?_getD, sd_fs_at (c := (ci, 0, List.replicate N none)) (by rw [hN]; exact hj), sd_r_eq, hdf j hj]
    have : (List.replicate N (none : Option Nat)).getD j none = none := by
      rw [List.getD_eq_getElem?_getD]
      by_cases h : j < N
      · rw [List.getElem?_replicate, if_pos h]; rfl
      · rw [List.getElem?_replicate, if_neg h]; rfl
    rw [this]
    cases sd_isR ci j <;> rfl
  have := kk p l e s m args below meth c G Z hX hSc hZ H1 locs lsA hR' ⟨Nat.le_trans hS.1 (by omega), fun x h1 h2 => (o1 x (Nat.lt_of_lt_of_le h1 hS.1)).trans (hS.2.1 x h1 h2), hS.2.2⟩ hL
  have e2 : (Value.ref C.length :: st).map (sd_v G) = Value.ref H.size :: st.map (sd_v G) := by
    show Value.ref (sd_ad G C.length) :: _ = _
    rw [sd_ad_lt hl, hsz]
  rw [e2] at this
  exact this
theorem AW.newa {at_ : ArrayType} {n : Int32} {N t q t0 : Nat} {ty : FieldType} (d : decode μ.2.1 pc = .ok (.newarray at_, 2)) (hty : newarray.typeOf at_ = ty) (ht : (t = 20 ∧ ty = .int ∧ t0 = 0) ∨ (t = 21 ∧ ty = .char ∧ t0 = 1) ∨ (t = 22 ∧ ty = .long ∧ t0 = 2)) (w : Cond.arrayClass ty ∈ sd_gd) (hn : ¬ n < 0) (hN : n.toNatClampNeg = N) (hb : N ≤ 1000) (hq : C.length = q) (hl : q < 100000) (hkc : kc + 1 ≤ μ.2.2.2.2.cells) (hks : ks + N ≤ μ.2.2.2.2.slots)
    (kk : AW μ (kc + 1) (ks + N) (pc + 2) ls (.ref q :: st) (C ++ [(t, N, [])], X, sd_r I q (fun _ => 0), sd_r J q (fun _ => 0)) Q) : AW μ kc ks pc ls (.int n :: st) (C, X, I, J) Q := by
  subst hq
  intro p l e s m args below meth c G Z hX hSc hZ H locs lsA hR hS hL
  have hR : sd_R G C I J H := hR
  have hK := hX.2.2.2.2.2.2.2.2.1.1
  have hts := hX.2.2.2.2.2.1
  have hsz : H.size = G.2.2.1.size + C.length := hR.1
  have hbytes : N * componentBytes (newarray.typeOf at_) ≤ 536870912 := by
    have : componentBytes (newarray.typeOf at_) ≤ 8 := by cases at_ <;> decide
    have := Nat.mul_le_mul hb this
    omega
  refine va_newaK hX.1 hX.2.1 (by rw [hty]; exact hts _ w) rfl d rfl hn hN hbytes hkc hks rfl fun H1 cA e1 z1 o1 hAr hNm => ?_
  rw [hty] at e1 hAr hNm
  have hcA : cA = G.2.1 t := by
    have h0 := (hK.2 t0 (G.2.1 t, ty) (by rcases ht with ⟨rfl, rfl, rfl⟩ | ⟨rfl, rfl, rfl⟩ | ⟨rfl, rfl, rfl⟩ <;> rfl)).2
    have h1 : s.vm.findClass ("[" ++ ty.toString) = some (G.2.1 t) := by rcases ht with ⟨rfl, rfl, rfl⟩ | ⟨rfl, rfl, rfl⟩ | ⟨rfl, rfl, rfl⟩ <;> exact h0
    exact Option.some.inj (hNm.symm.trans h1)
  have hR' : sd_R G (C ++ [(t, N, [])]) (sd_r I C.length (fun _ => 0)) (sd_r J C.length (fun _ => 0)) H1 := by
    refine hR.push hl (fun k d hk => by rw [sd_E_J (sd_r_ne (by omega)), sd_E_I (sd_r_ne (by omega))]) z1 o1 ?_
    rw [← hsz]
    subst hcA
    rcases ht with ⟨rfl, rfl, rfl⟩ | ⟨rfl, rfl, rfl⟩ | ⟨rfl, rfl, rfl⟩
    · show H1[H.size]? = some (vp_cell (G.2.1 20) (N, .inl (sd_r I C.length (fun _ => 0) C.length)))
      rw [e1, sd_r_eq]; rfl
    · show H1[H.size]? = some (vp_cell (G.2.1 21) (N, .inl (sd_r I C.length (fun _ => 0) C.length)))
      rw [e1, sd_r_eq]; rfl
    · show H1[H.size]? = some (vp_cell (G.2.1 22) (N, .inr (.inl (sd_r J C.length (fun _ => 0) C.length))))
      rw [e1, sd_r_eq]; rfl
  have := kk p l e s m args below meth c G Z hX hSc hZ H1 locs lsA hR' ⟨Nat.le_trans hS.1 (by omega), fun x h1 h2 => (o1 x (Nat.lt_of_lt_of_le h1 hS.1)).trans (hS.2.1 x h1 h2), hS.2.2⟩ hL
  have e2 : (Value.ref C.length :: st).map (sd_v G) = Value.ref H.size :: st.map (sd_v G) := by
    show Value.ref (sd_ad G C.length) :: _ = _
    rw [sd_ad_lt hl, hsz]
  rw [e2] at this
  exact this
theorem AW.anew {n : Int32} {N t q t0 idx : Nat} {Cn : String} (d : decode μ.2.1 pc = .ok (.anewarray idx, 3)) (ht : (t = 23 ∧ Cn = RX7 ∧ t0 = 3) ∨ (t = 24 ∧ Cn = RX4 ∧ t0 = 4) ∨ (t = 25 ∧ Cn = RX9 ∧ t0 = 5)) (w : Cond.classLink μ.1.cls idx Cn ∈ sd_gd) (wo : Cn ∈ sd_overs) (hn : ¬ n < 0) (hN : n.toNatClampNeg = N) (hb : N ≤ 1000) (hq : C.length = q) (hl : q < 100000) (hkc : kc + 1 ≤ μ.2.2.2.2.cells) (hks : ks + N ≤ μ.2.2.2.2.slots)
    (kk : AW μ (kc + 1) (ks + N) (pc + 3) ls (.ref q :: st) (C ++ [(t, N, List.replicate N none)], X, I, J) Q) : AW μ kc ks pc ls (.int n :: st) (C, X, I, J) Q := by
  subst hq; subst hN
  intro p l e s m args below meth c G Z hX hSc hZ H locs lsA hR hS hL
  have hR : sd_R G C I J H := hR
  have hK := hX.2.2.2.2.2.2.2.2.1.1
  have hts := hX.2.2.2.2.2.1
  have hsz : H.size = G.2.2.1.size + C.length := hR.1
  refine W.anew hX.1 hX.2.1 hX.2.2.2.2.1 (hts _ w) (va_AO.use (hX.2.2.2.2.2.2.2.2.1.2.2.2.1 _ wo)) rfl d rfl hn (by omega) hkc hks fun cA kA comp f1 f2 f3 f4 => ?_
  generalize hH1 : H.push ({ cls := cA, slots := Array.replicate n.toNatClampNeg .null, vm := .none } : Cell) = H1
  have z1 : H1.size = H.size + 1 := by rw [← hH1, Array.size_push]
  have e1 : H1[H.size]? = some (arrV cA n.toNatClampNeg (fun _ => .null)) := by rw [← hH1, Array.getElem?_push_size, ← arrV_new]
  have o1 : ∀ q : Nat, q < H.size → H1[q]? = H[q]? := fun q hq => by rw [← hH1, Array.getElem?_push, if_neg (Nat.ne_of_lt hq)]
  have hcA : cA = G.2.1 t := by
    have h0 : va_RA s (G.2.1 t) (.object Cn) := (hK.2 t0 (G.2.1 t, .object Cn) (by rcases ht with ⟨rfl, rfl, rfl⟩ | ⟨rfl, rfl, rfl⟩ | ⟨rfl, rfl, rfl⟩ <;> rfl)).2
    obtain ⟨_, _, _, _, _, h1⟩ := h0
    exact Option.some.inj (f1.symm.trans h1)
  have hR' : sd_R G (C ++ [(t, n.toNatClampNeg, List.replicate n.toNatClampNeg none)]) I J H1 := by
    refine hR.push hl (fun k d hk => rfl) z1 o1 ?_
    rw [← hsz]
    have hE : sd_E G I J C.length (t, n.toNatClampNeg, List.replicate n.toNatClampNeg none) = .inl (G.2.1 t, n.toNatClampNeg, .inr (.inr (.inr (.inr (fun j => ((List.replicate n.toNatClampNeg none).getD j none).map (G.2.2.1.size + ·)))))) := by
      unfold sd_E; rw [if_neg (by omega), if_neg (by omega), if_neg (by omega)]
    rw [hE]
    show H1[H.size]? = some (vp_cell _ _)
    rw [vp_cell_q, e1, hcA]
    congr 2
    funext j
    have : (List.replicate n.toNatClampNeg (none : Option Nat)).getD j none = none := by
      rw [List.getD_eq_getElem?_getD, List.getElem?_replicate]
      by_cases h : j < n.toNatClampNeg
      · rw [if_pos h]; rfl
      · rw [if_neg h]; rfl
    rw [this]; rfl
  have := kk p l e s m args below meth c G Z hX hSc hZ H1 locs lsA hR' ⟨Nat.le_trans hS.1 (by omega), fun x h1 h2 => (o1 x (Nat.lt_of_lt_of_le h1 hS.1)).trans (hS.2.1 x h1 h2), hS.2.2⟩ hL
  have e2 : (Value.ref C.length :: st).map (sd_v G) = Value.ref H.size :: st.map (sd_v G) := by
    show Value.ref (sd_ad G C.length) :: _ = _
    rw [sd_ad_lt hl, hsz]
  rw [e2] at this
  exact this
/-- a reference is put into an array of them -/
theorem AW.aast {a b n t t0 ci nb N : Nat} {rs rb : List (Option Nat)} {i : Int32} {Cn En : String} {T : u_T} (d : decode μ.2.1 pc = .ok (.aastore, 1)) (ht : (t = 23 ∧ En = RX7 ∧ t0 = 3) ∨ (t = 24 ∧ En = RX4 ∧ t0 = 4) ∨ (t = 25 ∧ En = RX9 ∧ t0 = 5)) (hC : C[a]? = some (t, n, rs)) (hB : C[b]? = some (ci, nb, rb)) (hci : ci < 13) (hc : vwCl[ci]? = some (Cn, T, N)) (hcast : Cn = En ∨ (Cn, En) ∈ sd_casts) (j : Nat) (hi : i = nI j) (hj : j < n) (hn : n < 2 ^ 31) (hrs : rs.length = n)
    (kk : AW μ kc ks (pc + 1) ls st (C.set a (t, n, rs.set j (some b)), X, I, J) Q) : AW μ kc ks pc ls (.ref b :: .int i :: .ref a :: st) (C, X, I, J) Q := by
  subst hi
  intro p l e s m args below meth c G Z hX hSc hZ H locs lsA hR hS hL
  have hR : sd_R G C I J H := hR
  show W p l e _ s m args below meth c H locs kc ks Z (F0 m pc lsA (Value.ref (sd_ad G b) :: Value.int (nI j) :: Value.ref (sd_ad G a) :: st.map (sd_v G)))
  rw [sd_ad_lt (hR.lt hC), sd_ad_lt (hR.lt hB)]
  have hK := hX.2.2.2.2.2.2.2.2.1.1
  have hcl : (nI j).toNatClampNeg = j := nI_clamp (by omega)
  have ht2 : 22 < t := by omega
  have heb : (sd_ws G C I J)[b]? = some (G.2.2.1.size + b, .inr (ci, sd_fs G I b (ci, nb, rb))) := by rw [sd_at hB]; unfold sd_E; rw [if_pos hci]
  obtain ⟨r', hr', cellV, g1, g2, g3, -⟩ := hR.2.2.2 b _ heb
  have hcls := (hK.1 ci _ hc).2
  have h0 : va_RA s (G.2.1 t) (.object En) := (hK.2 t0 (G.2.1 t, .object En) (by rcases ht with ⟨rfl, rfl, rfl⟩ | ⟨rfl, rfl, rfl⟩ | ⟨rfl, rfl, rfl⟩ <;> rfl)).2
  obtain ⟨kA, comp, k1, k2, k3, -⟩ := h0
  obtain ⟨kE, hkE, -⟩ := Vm.findClass_spec k3
  obtain ⟨kC, hkC, hkind⟩ := hcls.2
  have hass : s.vm.assignable (G.1.1 ci) comp = true := by
    rcases hcast with rfl | hm
    · have : comp = G.1.1 ci := Option.some.inj (k3.symm.trans hcls.1)
      rw [this]; exact va_assign hcls
    · obtain ⟨c0, t1, f1, f2, f3⟩ := Cond.castable_spec (va_Nw.use (A := args) rfl (hX.2.2.2.2.2.2.2.2.1.2.2.1 _ hm))
      cases hcls.1.symm.trans f1
      cases k3.symm.trans f2
      exact f3
  refine W.aast hX.1 hX.2.1 (hR.2.2.2 a _ (sd_eR ht2 hC)) (fun q h => by cases h) (fun h => by cases h) k1 k2 rfl hkE ⟨fun h => (vp_in_nI hj hn) (Or.inl h), by show _ < (arrV _ _ _).slots.size; rw [arrV_size, hcl]; exact hj⟩ g1 (fun q h => by rw [g3] at h; cases h) (by rw [g2]; exact hkC) (by rw [g2]; exact hass) rfl rfl d fun H1 ee z oq => ?_
  have hR' : sd_R G (C.set a (t, n, rs.set j (some b))) I J H1 := by
    refine hR.put hC (fun _ _ _ => rfl) z oq ?_
    have hE : sd_E G I J a (t, n, rs.set j (some b)) = .inl (G.2.1 t, n, .inr (.inr (.inr (.inr (fun k => ((rs.set j (some b)).getD k none).map (G.2.2.1.size + ·)))))) := by
      unfold sd_E; rw [if_neg (by omega), if_neg (by omega), if_neg (by omega)]
    rw [hE]
    show H1[G.2.2.1.size + a]? = some (vp_cell _ _)
    rw [ee, vp_cell_q, vp_cell_q, arrV_store, hcl]
    congr 2
    funext q
    by_cases hq : q = j
    · subst hq
      simp [updV, List.getD_eq_getElem?_getD, List.getElem?_set_self (show q < rs.length by omega), va_rf]
    · simp [updV, hq, List.getD_eq_getElem?_getD, List.getElem?_set_ne (fun e => hq e.symm)]
  exact kk p l e s m args below meth c G Z hX hSc hZ H1 _ lsA hR' (hS.put z oq (Nat.le_add_right _ _)) hL
/-- Object's constructor -/
theorem AW.obj {idx a : Nat} (d : decode μ.2.1 pc = .ok (.invokespecial idx, 3)) (w : Cond.methodLink μ.1.cls idx Lib.objectInit ∈ sd_gd) (hf : 1 ≤ μ.2.2.2.2.frames) (hlo : (st.map fun v => v.category).sum + 12 ≤ μ.2.2.2.2.locals) (kk : AW μ kc ks (pc + 3) ls st (C, X, I, J) Q) : AW μ kc ks pc ls (.ref a :: st) (C, X, I, J) Q := by
  intro p l e s m args below meth c G Z hX hSc hZ H locs lsA hR hS hL
  have hR : sd_R G C I J H := hR
  have hts := hX.2.2.2.2.2.1
  have hcat : ((st.map (sd_v G)).map fun v => v.category).sum = (st.map fun v => v.category).sum := by
    rw [List.map_map]
    exact congrArg List.sum (List.map_congr_left (fun v _ => sd_v_cat G v))
  exact W.objInit hX.1 hX.2.1 hX.2.2.2.2.1 (hts _ w) (hts _ wI_obj) (hts _ wC_obj) rfl (by rw [hX.2.2.2.1]; exact hL.1) rfl d hf (by show 2 * 0 + _ + 12 ≤ _; rw [hcat]; omega) (kk p l e s m args below meth c G Z hX hSc hZ H locs lsA hR hS hL)
end New
