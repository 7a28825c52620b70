-- rows over the heap
theorem sd_at {G : sd_G} {C : List sd_C} {I : sd_I} {J : sd_J} {a : Nat} {c : sd_C} (h : C[a]? = some c) : (sd_ws G C I J)[a]? = some (G.2.2.1.size + a, sd_E G I J a c) := by rw [sd_ws_at, h]; rfl
theorem sd_R.lt {G : sd_G} {C : List sd_C} {I : sd_I} {J : sd_J} {H : Heap} {a : Nat} {c : sd_C} (h : sd_R G C I J H) (hc : C[a]? = some c) : a < 100000 := Nat.lt_of_lt_of_le (List.getElem?_eq_some_iff.mp hc).1 h.2.1
theorem sd_R.put {G : sd_G} {C : List sd_C} {I I' : sd_I} {J J' : sd_J} {H H' : Heap} {a : Nat} {c c' : sd_C} (hR : sd_R G C I J H) (hC : C[a]? = some c) (h2 : ∀ k d, k ≠ a → sd_E G I' J' k d = sd_E G I J k d) (hz : H'.size = H.size) (oq : ∀ q, q ≠ G.2.2.1.size + a → H'[q]? = H[q]?) (hat : va_at G.1 vwCl (G.2.2.1.size + a, sd_E G I' J' a c') H') : sd_R G (C.set a c') I' J' H' := by
  refine ⟨by rw [hz, hR.1, List.length_set], by rw [List.length_set]; exact hR.2.1, fun q hq => ?_, ?_⟩
  · rw [oq q (by omega)]; exact hR.2.2.1 q hq
  · rw [sd_ws_upd hC h2]
    exact hR.2.2.2.set (sd_D G C I J) (sd_at hC) hat oq
theorem sd_u_ne {α : Type} {I : Nat → Nat → α} {a b j : Nat} {v : α} (h : b ≠ a) : sd_u I a j v b = I b := if_neg h
theorem sd_u_eq {α : Type} {I : Nat → Nat → α} {a j : Nat} {v : α} : sd_u I a j v a = fun k => if k = j then v else I a k := if_pos rfl
theorem sd_r_ne {α : Type} {I : Nat → Nat → α} {a b : Nat} {f : Nat → α} (h : b ≠ a) : sd_r I a f b = I b := if_neg h
theorem sd_r_eq {α : Type} {I : Nat → Nat → α} {a : Nat} {f : Nat → α} : sd_r I a f a = f := if_pos rfl
theorem sd_E_I {G : sd_G} {I I' : sd_I} {J : sd_J} {k : Nat} (h : I' k = I k) (d : sd_C) : sd_E G I' J k d = sd_E G I J k d := by
  unfold sd_E sd_fs; rw [h]
theorem sd_E_J {G : sd_G} {I : sd_I} {J J' : sd_J} {k : Nat} (h : J' k = J k) (d : sd_C) : sd_E G I J' k d = sd_E G I J k d := by
  unfold sd_E; rw [h]
section Mem
variable {μ : sd_M} {kc ks pc : Nat} {ls st : List Value} {C : List sd_C} {X : Nat × (Nat → Int32)} {I : sd_I} {J : sd_J} {Q : Option Int32 → sd_S → Prop}
theorem sd_fs_at {G : sd_G} {I : sd_I} {a k : Nat} {c : sd_C} (hk : k < sd_nF c.1) : (sd_fs G I a c)[k]? = some (sd_fv G (sd_isR c.1 k) (c.2.2.getD k none) (I a k)) := by
  unfold sd_fs
  rw [List.getElem?_map, List.getElem?_range hk]; rfl
/-- a field is read -/
theorem AW.get {a k idx n ci N : Nat} {rs : List (Option Nat)} {Cn : String} {T : u_T} {v : Value} (d : decode μ.2.1 pc = .ok (.getfield idx, 3)) (hc : vwCl[ci]? = some (Cn, T, N)) (hin : ∀ w ∈ u_ws Cn T N, w ∈ sd_gd) (hk : k < N) (hN : sd_nF ci = N) (hci : ci < 13)
    (hw : Cond.fieldLink μ.1.cls idx (T k).1 (T k).2.1 (T k).2.2.1 ∈ sd_gd) (hC : C[a]? = some (ci, n, rs)) (hv : sd_av (sd_isR ci k) (rs.getD k none) (I a k) = v) (hv2 : ∀ r, rs.getD k none = some r → r < 100000)
    (kk : AW μ kc ks (pc + 3) ls (v :: st) (C, X, I, J) Q) : AW μ kc ks pc ls (.ref a :: st) (C, X, I, J) Q := by
  intro p l e s m args below meth c G Z hX hSc hZ H locs lsA hR hS hL
  show W p l e _ s m args below meth c H locs kc ks Z (F0 m pc lsA (Value.ref (sd_ad G a) :: st.map (sd_v G)))
  rw [sd_ad_lt (hR.lt hC)]
  have he : (sd_ws G C I J)[a]? = some (G.2.2.1.size + a, .inr (ci, sd_fs G I a (ci, n, rs))) := by rw [sd_at hC]; unfold sd_E; rw [if_pos hci]
  refine va_get (D := G.1) (ci := ci) (v := sd_v G v) (C := Cn) (T := T) (N := N) hX.1 hX.2.1 hX.2.2.2.2.2.1 hin hX.2.2.2.2.1 hX.2.2.2.2.2.2.2.2.1.1 hR.2.2.2 a he hc k hk (hX.2.2.2.2.2.1 _ hw) (fun _ h9 => h9) ?_ d (kk p l e s m args below meth c G Z hX hSc hZ H locs lsA hR hS hL)
  rw [← hv, sd_av_v hv2]
  exact sd_fs_at (c := (ci, n, rs)) (by rw [hN]; exact hk)
theorem sd_fs_put {G : sd_G} {I : sd_I} {a k : Nat} {ci n : Nat} {rs : List (Option Nat)} {v : Int32} (hk : k < sd_nF ci) (hr : sd_isR ci k = false) : sd_fs G (sd_u I a k v) a (ci, n, rs) = (sd_fs G I a (ci, n, rs)).set k (.int v) := by
  apply List.ext_getElem?
  intro j
  by_cases hj : j = k
  · subst hj
    rw [sd_fs_at (c := (ci, n, rs)) hk, List.getElem?_set_self (by unfold sd_fs; simpa using hk), sd_u_eq]
    simp [sd_fv, hr]
  · rw [List.getElem?_set_ne (fun e => hj e.symm)]
    by_cases hl : j < sd_nF ci
    · rw [sd_fs_at (c := (ci, n, rs)) hl, sd_fs_at (c := (ci, n, rs)) hl, sd_u_eq]
      simp [hj]
    · rw [List.getElem?_eq_none, List.getElem?_eq_none] <;> (unfold sd_fs; simp; omega)
theorem sd_fs_putR {G : sd_G} {I : sd_I} {a k r : Nat} {ci n : Nat} {rs : List (Option Nat)} (hk : k < sd_nF ci) (hl : k < rs.length) (hr : sd_isR ci k = true) : sd_fs G I a (ci, n, rs.set k (some r)) = (sd_fs G I a (ci, n, rs)).set k (.ref (G.2.2.1.size + r)) := by
  apply List.ext_getElem?
  intro j
  by_cases hj : j = k
  · subst hj
    rw [sd_fs_at (c := (ci, n, _)) hk, List.getElem?_set_self (by unfold sd_fs; simpa using hk)]
    simp [sd_fv, hr, List.getD_eq_getElem?_getD, List.getElem?_set_self hl, va_rf]
  · rw [List.getElem?_set_ne (fun e => hj e.symm)]
    by_cases hl2 : j < sd_nF ci
    · rw [sd_fs_at (c := (ci, n, _)) hl2, sd_fs_at (c := (ci, n, _)) hl2]
      simp [List.getD_eq_getElem?_getD, List.getElem?_set_ne (fun e => hj e.symm)]
    · rw [List.getElem?_eq_none, List.getElem?_eq_none] <;> (unfold sd_fs; simp; omega)
/-- a number is put into a field that isn't final -/
theorem AW.put {a k idx n ci N : Nat} {rs : List (Option Nat)} {Cn : String} {T : u_T} {v : Int32} {ty : FieldType} (d : decode μ.2.1 pc = .ok (.putfield idx, 3)) (hc : vwCl[ci]? = some (Cn, T, N)) (hin : ∀ w ∈ u_ws Cn T N, w ∈ sd_gd) (ty0 : Nat → FieldType) (hty : ∀ k, k < N → parseFieldDescriptor (T k).2.2.1 = some (ty0 k)) (hnm : ∀ a, a < N → ∀ b, b < N → a ≠ b → (T a).2.1 ≠ (T b).2.1) (hk : k < N) (hN : sd_nF ci = N) (hci : ci < 13)
    (hw : Cond.fieldLink μ.1.cls idx (T k).1 (T k).2.1 (T k).2.2.1 ∈ sd_gd) (hfin : (T k).2.2.2 = false) (hd : parseFieldDescriptor (T k).2.2.1 = some ty) (hn : narrow ty (.int v) = .int v) (hfit : fits ty (.int v) = true) (hr : sd_isR ci k = false) (hC : C[a]? = some (ci, n, rs))
    (kk : AW μ kc ks (pc + 3) ls st (C, X, sd_u I a k v, J) Q) : AW μ kc ks pc ls (.int v :: .ref a :: st) (C, X, I, J) Q := by
  intro p l e s m args below meth c G Z hX hSc hZ H locs lsA hR hS hL
  show W p l e _ s m args below meth c H locs kc ks Z (F0 m pc lsA (Value.int v :: Value.ref (sd_ad G a) :: st.map (sd_v G)))
  rw [sd_ad_lt (hR.lt hC)]
  have hK := hX.2.2.2.2.2.2.2.2.1.1
  have hts := hX.2.2.2.2.2.1
  have he : (sd_ws G C I J)[a]? = some (G.2.2.1.size + a, .inr (ci, sd_fs G I a (ci, n, rs))) := by rw [sd_at hC]; unfold sd_E; rw [if_pos hci]
  have hap := va_apart (own := μ.1.cls) hts hin ty0 hty hnm hK hc
  obtain ⟨r, h1, cell, q1, q2, q3, q4⟩ := hR.2.2.2 a _ he
  have hr' : r = (Cn, T, N) := Option.some.inj (h1.symm.trans hc)
  subst hr'
  obtain ⟨hSl, hfc, kC, hkC, hkind⟩ := hK.1 ci _ hc
  obtain ⟨cf, kf, fi, f, hi, hsl⟩ := hSl k hk
  have hlay := hts _ (hin _ (u_in_lay hk))
  unfold u_lay at hlay
  rw [if_neg (by rw [hfin]; decide)] at hlay
  have hst := (u_facts hfc hkC (u_lays hts hin hk) hi).1
  have h6 := u_store hfc hkC hkind hlay hi hd hn hfit
  refine W.putK hX.1 hX.2.1 (f := f) ⟨hX.2.2.2.2.1, hts _ hw, ⟨_, _, _, hi⟩, hst⟩ (by rw [q2]; exact h6) q1 q3 (by rw [hsl]; exact k2_hasslot (q4 k hk)) rfl rfl d fun H' e1 e2 e3 => ?_
  rw [hsl] at e1 ⊢
  have hR' : sd_R G (C.set a (ci, n, rs)) (sd_u I a k v) J H' := by
    refine hR.put hC (fun k' d' hk' => sd_E_I (sd_u_ne hk') d') e2 e3 ?_
    have hE : sd_E G (sd_u I a k v) J a (ci, n, rs) = .inr (ci, (sd_fs G I a (ci, n, rs)).set k (.int v)) := by
      unfold sd_E; rw [if_pos hci, sd_fs_put (by rw [hN]; exact hk) hr]
    rw [hE]
    exact ⟨_, hc, t_OB.to (V := updV (vp_V (sd_fs G I a (ci, n, rs))) k (.int v)) ⟨_, e1, q2, q3, t_set q4 hap hk (.int v)⟩ (fun j _ => vp_updV_set (by unfold sd_fs; simpa [hN] using hk) _ j)⟩
  rw [sd_set_same hC] at hR'
  exact kk p l e s m args below meth c G Z hX hSc hZ H' _ lsA hR' (hS.put e2 e3 (Nat.le_add_right _ _)) hL
/-- a reference is put into a final field, in the constructor -/
theorem AW.putF {a b k idx n ci N : Nat} {rs : List (Option Nat)} {Cn : String} {T : u_T} {ty : FieldType} (d : decode μ.2.1 pc = .ok (.putfield idx, 3)) (hc : vwCl[ci]? = some (Cn, T, N)) (hin : ∀ w ∈ u_ws Cn T N, w ∈ sd_gd) (ty0 : Nat → FieldType) (hty : ∀ k, k < N → parseFieldDescriptor (T k).2.2.1 = some (ty0 k)) (hnm : ∀ a, a < N → ∀ b, b < N → a ≠ b → (T a).2.1 ≠ (T b).2.1) (hk : k < N) (hN : sd_nF ci = N) (hci : ci < 13)
    (hw : Cond.fieldLink μ.1.cls idx (T k).1 (T k).2.1 (T k).2.2.1 ∈ sd_gd) (hfin : (T k).2.2.2 = true) (hname : μ.1.name = "<init>") (hdecl : (T k).1 = μ.1.cls) (hd : parseFieldDescriptor (T k).2.2.1 = some ty) (hn : ∀ b, narrow ty (.ref b) = .ref b) (hfit : ∀ b, fits ty (.ref b) = true) (hr : sd_isR ci k = true) (hC : C[a]? = some (ci, n, rs)) (hl : k < rs.length) (hb : b < 100000)
    (kk : AW μ kc ks (pc + 3) ls st (C.set a (ci, n, rs.set k (some b)), X, I, J) Q) : AW μ kc ks pc ls (.ref b :: .ref a :: st) (C, X, I, J) Q := by
  intro p l e s m args below meth c G Z hX hSc hZ H locs lsA hR hS hL
  show W p l e _ s m args below meth c H locs kc ks Z (F0 m pc lsA (Value.ref (sd_ad G b) :: Value.ref (sd_ad G a) :: st.map (sd_v G)))
  rw [sd_ad_lt (hR.lt hC), sd_ad_lt hb]
  have hK := hX.2.2.2.2.2.2.2.2.1.1
  have hts := hX.2.2.2.2.2.1
  have hown := hX.2.2.2.2.1
  have he : (sd_ws G C I J)[a]? = some (G.2.2.1.size + a, .inr (ci, sd_fs G I a (ci, n, rs))) := by rw [sd_at hC]; unfold sd_E; rw [if_pos hci]
  have hap := va_apart (own := μ.1.cls) hts hin ty0 hty hnm hK hc
  obtain ⟨r, h1, cell, q1, q2, q3, q4⟩ := hR.2.2.2 a _ he
  have hr' : r = (Cn, T, N) := Option.some.inj (h1.symm.trans hc)
  subst hr'
  obtain ⟨hSl, hfc, kC, hkC, hkind⟩ := hK.1 ci _ hc
  obtain ⟨cf, kf, fi, f, hi, hsl⟩ := hSl k hk
  have hlay := hts _ (hin _ (u_in_lay hk))
  unfold u_lay at hlay
  rw [if_pos hfin] at hlay
  have hst := (u_facts hfc hkC (u_lays hts hin hk) hi).1
  have hcf : m.cls = cf := by
    obtain ⟨_, _, c', _, _, _, -, -, hf', -, -, -, hown2, -⟩ := Cond.laysFinal_spec hlay
    have e1 : c' = cf := by have := hi.symm.trans hf'; simp at this; exact this.1.symm
    rw [hdecl] at hown2
    rw [← e1]; exact Option.some.inj (hown.symm.trans hown2)
  have h6 := u_fits hfc hkC hkind (Or.inr hlay) hi hd (hn (G.2.2.1.size + b)) (hfit (G.2.2.1.size + b))
  refine W.putFinK hX.1 hX.2.1 hown (hts _ hw) hi hst hcf (hX.2.2.2.2.2.2.2.1.trans hname) (by rw [q2]; exact h6) q1 q3 (by rw [hsl]; exact k2_hasslot (q4 k hk)) rfl rfl d fun H' e1 e2 e3 => ?_
  rw [hsl] at e1 ⊢
  have hR' : sd_R G (C.set a (ci, n, rs.set k (some b))) I J H' := by
    refine hR.put hC (fun _ _ _ => rfl) e2 e3 ?_
    have hE : sd_E G I J a (ci, n, rs.set k (some b)) = .inr (ci, (sd_fs G I a (ci, n, rs)).set k (.ref (G.2.2.1.size + b))) := by
      unfold sd_E; rw [if_pos hci, sd_fs_putR (by rw [hN]; exact hk) hl hr]
    rw [hE]
    exact ⟨_, hc, t_OB.to (V := updV (vp_V (sd_fs G I a (ci, n, rs))) k (.ref (G.2.2.1.size + b))) ⟨_, e1, q2, q3, t_set q4 hap hk _⟩ (fun j _ => vp_updV_set (by unfold sd_fs; simpa [hN] using hk) _ j)⟩
  exact kk p l e s m args below meth c G Z hX hSc hZ H' _ lsA hR' (hS.put e2 e3 (Nat.le_add_right _ _)) hL
theorem sd_eI {G : sd_G} {C : List sd_C} {I : sd_I} {J : sd_J} {a n : Nat} {rs : List (Option Nat)} (hC : C[a]? = some (20, n, rs)) : (sd_ws G C I J)[a]? = some (G.2.2.1.size + a, .inl (G.2.1 20, n, .inl (I a))) := sd_at hC
theorem sd_eC {G : sd_G} {C : List sd_C} {I : sd_I} {J : sd_J} {a n : Nat} {rs : List (Option Nat)} (hC : C[a]? = some (21, n, rs)) : (sd_ws G C I J)[a]? = some (G.2.2.1.size + a, .inl (G.2.1 21, n, .inl (I a))) := sd_at hC
theorem sd_eJ {G : sd_G} {C : List sd_C} {I : sd_I} {J : sd_J} {a n : Nat} {rs : List (Option Nat)} (hC : C[a]? = some (22, n, rs)) : (sd_ws G C I J)[a]? = some (G.2.2.1.size + a, .inl (G.2.1 22, n, .inr (.inl (J a)))) := sd_at hC
theorem sd_eR {G : sd_G} {C : List sd_C} {I : sd_I} {J : sd_J} {a n t : Nat} {rs : List (Option Nat)} (ht : 22 < t) (hC : C[a]? = some (t, n, rs)) : (sd_ws G C I J)[a]? = some (G.2.2.1.size + a, .inl (G.2.1 t, n, .inr (.inr (.inr (.inr (fun j => (rs.getD j none).map (G.2.2.1.size + ·))))))) := by
  rw [sd_at hC]; unfold sd_E; rw [if_neg (by omega), if_neg (by omega), if_neg (by omega)]
/-- elements are read -/
theorem AW.iald {a n : Nat} {rs : List (Option Nat)} {i : Int32} (d : decode μ.2.1 pc = .ok (.iaload, 1)) (hC : C[a]? = some (20, n, rs)) (j : Nat) (hi : i = nI j) (hj : j < n) (hn : n < 2 ^ 31) (kk : AW μ kc ks (pc + 1) ls (.int (I a j) :: st) (C, X, I, J) Q) : AW μ kc ks pc ls (.int i :: .ref a :: st) (C, X, I, J) Q := by
  subst hi
  intro p l e s m args below meth c G Z hX hSc hZ H locs lsA hR hS hL
  show W p l e _ s m args below meth c H locs kc ks Z (F0 m pc lsA (Value.int (nI j) :: Value.ref (sd_ad G a) :: st.map (sd_v G)))
  rw [sd_ad_lt (hR.lt hC)]
  refine va_iald hX.1 hX.2.1 hX.2.2.2.2.2.2.2.2.1.1 hR.2.2.2 a 0 (sd_eI hC) rfl (vp_in_nI hj hn) d ?_
  rw [nI_clamp (by omega)]
  exact kk p l e s m args below meth c G Z hX hSc hZ H locs lsA hR hS hL
theorem AW.cald {a n : Nat} {rs : List (Option Nat)} {i : Int32} (d : decode μ.2.1 pc = .ok (.caload, 1)) (hC : C[a]? = some (21, n, rs)) (j : Nat) (hi : i = nI j) (hj : j < n) (hn : n < 2 ^ 31) (kk : AW μ kc ks (pc + 1) ls (.int (I a j) :: st) (C, X, I, J) Q) : AW μ kc ks pc ls (.int i :: .ref a :: st) (C, X, I, J) Q := by
  subst hi
  intro p l e s m args below meth c G Z hX hSc hZ H locs lsA hR hS hL
  show W p l e _ s m args below meth c H locs kc ks Z (F0 m pc lsA (Value.int (nI j) :: Value.ref (sd_ad G a) :: st.map (sd_v G)))
  rw [sd_ad_lt (hR.lt hC)]
  refine va_cald hX.1 hX.2.1 hX.2.2.2.2.2.2.2.2.1.1 hR.2.2.2 a 1 (sd_eC hC) rfl (vp_in_nI hj hn) d ?_
  rw [nI_clamp (by omega)]
  exact kk p l e s m args below meth c G Z hX hSc hZ H locs lsA hR hS hL
theorem AW.lald {a n : Nat} {rs : List (Option Nat)} {i : Int32} (d : decode μ.2.1 pc = .ok (.laload, 1)) (hC : C[a]? = some (22, n, rs)) (j : Nat) (hi : i = nI j) (hj : j < n) (hn : n < 2 ^ 31) (kk : AW μ kc ks (pc + 1) ls (.long (J a j) :: st) (C, X, I, J) Q) : AW μ kc ks pc ls (.int i :: .ref a :: st) (C, X, I, J) Q := by
  subst hi
  intro p l e s m args below meth c G Z hX hSc hZ H locs lsA hR hS hL
  show W p l e _ s m args below meth c H locs kc ks Z (F0 m pc lsA (Value.int (nI j) :: Value.ref (sd_ad G a) :: st.map (sd_v G)))
  rw [sd_ad_lt (hR.lt hC)]
  refine va_lald hX.1 hX.2.1 hX.2.2.2.2.2.2.2.2.1.1 hR.2.2.2 a 2 (sd_eJ hC) rfl (vp_in_nI hj hn) d ?_
  rw [nI_clamp (by omega)]
  exact kk p l e s m args below meth c G Z hX hSc hZ H locs lsA hR hS hL
theorem AW.aald {a n t b : Nat} {rs : List (Option Nat)} {i : Int32} (d : decode μ.2.1 pc = .ok (.aaload, 1)) (ht : t = 23 ∨ t = 24 ∨ t = 25) (hC : C[a]? = some (t, n, rs)) (j : Nat) (hi : i = nI j) (hj : j < n) (hn : n < 2 ^ 31) (hb : rs.getD j none = some b) (hb2 : b < 100000) (kk : AW μ kc ks (pc + 1) ls (.ref b :: st) (C, X, I, J) Q) : AW μ kc ks pc ls (.int i :: .ref a :: st) (C, X, I, J) Q := by
  subst hi
  intro p l e s m args below meth c G Z hX hSc hZ H locs lsA hR hS hL
  show W p l e _ s m args below meth c H locs kc ks Z (F0 m pc lsA (Value.int (nI j) :: Value.ref (sd_ad G a) :: st.map (sd_v G)))
  rw [sd_ad_lt (hR.lt hC)]
  have key : ∀ (t0 : Nat) (Cn : String), (sd_tys G)[t0]? = some (G.2.1 t, .object Cn) → W p l e μ.2.2.2.2 s m args below meth c H locs kc ks Z (F0 m pc lsA (Value.int (nI j) :: Value.ref (G.2.2.1.size + a) :: st.map (sd_v G))) := by
    intro t0 Cn h0
    refine va_aldq hX.1 hX.2.1 hX.2.2.2.2.2.2.2.2.1.1 hR.2.2.2 a t0 (sd_eR (by omega) hC) h0 (vp_in_nI hj hn) d ?_
    rw [nI_clamp (by omega), hb]
    have := kk p l e s m args below meth c G Z hX hSc hZ H locs lsA hR hS hL
    have e2 : (Value.ref b :: st).map (sd_v G) = Value.ref (G.2.2.1.size + b) :: st.map (sd_v G) := by
      show Value.ref (sd_ad G b) :: _ = _
      rw [sd_ad_lt hb2]
    rw [e2] at this
    exact this
  rcases ht with rfl | rfl | rfl
  · exact key 3 _ rfl
  · exact key 4 _ rfl
  · exact key 5 _ rfl
theorem AW.alen {a n t : Nat} {rs : List (Option Nat)} {v : Int32} (d : decode μ.2.1 pc = .ok (.arraylength, 1)) (hC : C[a]? = some (20, n, rs)) (hv : nI n = v) (kk : AW μ kc ks (pc + 1) ls (.int v :: st) (C, X, I, J) Q) : AW μ kc ks pc ls (.ref a :: st) (C, X, I, J) Q := by
  intro p l e s m args below meth c G Z hX hSc hZ H locs lsA hR hS hL
  show W p l e _ s m args below meth c H locs kc ks Z (F0 m pc lsA (Value.ref (sd_ad G a) :: st.map (sd_v G)))
  rw [sd_ad_lt (hR.lt hC)]
  exact va_alen hX.1 hX.2.1 hX.2.2.2.2.2.2.2.2.1.1 hR.2.2.2 a 0 (sd_eI hC) (ty := .int) rfl hv d (kk p l e s m args below meth c G Z hX hSc hZ H locs lsA hR hS hL)
/-- elements are put -/
theorem AW.iast {a n : Nat} {rs : List (Option Nat)} {i v : Int32} (d : decode μ.2.1 pc = .ok (.iastore, 1)) (hC : C[a]? = some (20, n, rs)) (j : Nat) (hi : i = nI j) (hj : j < n) (hn : n < 2 ^ 31) (kk : AW μ kc ks (pc + 1) ls st (C, X, sd_u I a j v, J) Q) : AW μ kc ks pc ls (.int v :: .int i :: .ref a :: st) (C, X, I, J) Q := by
  subst hi
  intro p l e s m args below meth c G Z hX hSc hZ H locs lsA hR hS hL
  show W p l e _ s m args below meth c H locs kc ks Z (F0 m pc lsA (Value.int v :: Value.int (nI j) :: Value.ref (sd_ad G a) :: st.map (sd_v G)))
  rw [sd_ad_lt (hR.lt hC)]
  have hK := hX.2.2.2.2.2.2.2.2.1.1
  have hcl : (nI j).toNatClampNeg = j := nI_clamp (by omega)
  refine W.iast hX.1 hX.2.1 (hR.2.2.2 a _ (sd_eI hC)) ((hK.2 0 _ rfl).1 n (fun j => .int (I a j))) (fun q => by cases q) (by show ¬ (nI j < 0 ∨ (arrV _ _ _).slots.size ≤ _); rw [arrV_size]; exact vp_in_nI hj hn) rfl rfl d fun H1 ee z oq => ?_
  have hR' : sd_R G (C.set a (20, n, rs)) (sd_u I a j v) J H1 := by
    refine hR.put hC (fun k' d' hk' => sd_E_I (sd_u_ne hk') d') z oq ?_
    show H1[G.2.2.1.size + a]? = some (vp_cell (G.2.1 20) (n, .inl (sd_u I a j v a)))
    rw [ee, vp_cell_i, vp_cell_i, arrV_store, hcl, sd_u_eq]
    congr 2
    funext q
    by_cases hq : q = j
    · subst hq; simp [updV]
    · simp [updV, hq]
  rw [sd_set_same hC] at hR'
  exact kk p l e s m args below meth c G Z hX hSc hZ H1 _ lsA hR' (hS.put z oq (Nat.le_add_right _ _)) hL
theorem AW.cast {a n : Nat} {rs : List (Option Nat)} {i v : Int32} (d : decode μ.2.1 pc = .ok (.castore, 1)) (hC : C[a]? = some (21, n, rs)) (j : Nat) (hi : i = nI j) (hj : j < n) (hn : n < 2 ^ 31) (hv : narrow .char (.int v) = .int v) (kk : AW μ kc ks (pc + 1) ls st (C, X, sd_u I a j v, J) Q) : AW μ kc ks pc ls (.int v :: .int i :: .ref a :: st) (C, X, I, J) Q := by
  subst hi
  intro p l e s m args below meth c G Z hX hSc hZ H locs lsA hR hS hL
  show W p l e _ s m args below meth c H locs kc ks Z (F0 m pc lsA (Value.int v :: Value.int (nI j) :: Value.ref (sd_ad G a) :: st.map (sd_v G)))
  rw [sd_ad_lt (hR.lt hC)]
  have hK := hX.2.2.2.2.2.2.2.2.1.1
  have hcl : (nI j).toNatClampNeg = j := nI_clamp (by omega)
  refine W.cast hX.1 hX.2.1 (hR.2.2.2 a _ (sd_eC hC)) ((hK.2 1 _ rfl).1 n (fun j => .int (I a j))) (fun q => by cases q) (by show ¬ (nI j < 0 ∨ (arrV _ _ _).slots.size ≤ _); rw [arrV_size]; exact vp_in_nI hj hn) rfl rfl d fun H1 ee z oq => ?_
  have hR' : sd_R G (C.set a (21, n, rs)) (sd_u I a j v) J H1 := by
    refine hR.put hC (fun k' d' hk' => sd_E_I (sd_u_ne hk') d') z oq ?_
    show H1[G.2.2.1.size + a]? = some (vp_cell (G.2.1 21) (n, .inl (sd_u I a j v a)))
    rw [ee, hv, vp_cell_i, vp_cell_i, arrV_store, hcl, sd_u_eq]
    congr 2
    funext q
    by_cases hq : q = j
    · subst hq; simp [updV]
    · simp [updV, hq]
  rw [sd_set_same hC] at hR'
  exact kk p l e s m args below meth c G Z hX hSc hZ H1 _ lsA hR' (hS.put z oq (Nat.le_add_right _ _)) hL
theorem AW.last {a n : Nat} {rs : List (Option Nat)} {i : Int32} {v : Int64} (d : decode μ.2.1 pc = .ok (.lastore, 1)) (hC : C[a]? = some (22, n, rs)) (j : Nat) (hi : i = nI j) (hj : j < n) (hn : n < 2 ^ 31) (kk : AW μ kc ks (pc + 1) ls st (C, X, I, sd_u J a j v) Q) : AW μ kc ks pc ls (.long v :: .int i :: .ref a :: st) (C, X, I, J) Q := by
  subst hi
  intro p l e s m args below meth c G Z hX hSc hZ H locs lsA hR hS hL
  show W p l e _ s m args below meth c H locs kc ks Z (F0 m pc lsA (Value.long v :: Value.int (nI j) :: Value.ref (sd_ad G a) :: st.map (sd_v G)))
  rw [sd_ad_lt (hR.lt hC)]
  have hK := hX.2.2.2.2.2.2.2.2.1.1
  have hcl : (nI j).toNatClampNeg = j := nI_clamp (by omega)
  refine W.last hX.1 hX.2.1 (hR.2.2.2 a _ (sd_eJ hC)) ((hK.2 2 _ rfl).1 n (fun j => .long (J a j))) (fun q => by cases q) (by show ¬ (nI j < 0 ∨ (arrV _ _ _).slots.size ≤ _); rw [arrV_size]; exact vp_in_nI hj hn) rfl rfl d fun H1 ee z oq => ?_
  have hR' : sd_R G (C.set a (22, n, rs)) I (sd_u J a j v) H1 := by
    refine hR.put hC (fun k' d' hk' => sd_E_J (sd_u_ne hk') d') z oq ?_
    show H1[G.2.2.1.size + a]? = some (vp_cell (G.2.1 22) (n, .inr (.inl (sd_u J a j v a))))
    rw [ee, vp_cell_l, vp_cell_l, arrV_store, hcl, sd_u_eq]
    congr 2
    funext q
    by_cases hq : q = j
    · subst hq; simp [updV]
    · simp [updV, hq]
  rw [sd_set_same hC] at hR'
  exact kk p l e s m args below meth c G Z hX hSc hZ H1 _ lsA hR' (hS.put z oq (Nat.le_add_right _ _)) hL
end Mem
