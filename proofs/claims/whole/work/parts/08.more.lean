-- arraycopy, the script, answers
section More
variable {μ : sd_M} {kc ks pc : Nat} {ls st : List Value} {C : List sd_C} {X : Nat × (Nat → Int32)} {I : sd_I} {J : sd_J} {Q : Option Int32 → sd_S → Prop}
theorem sd_below {G : sd_G} {p : Program} {s : State} {m : MethodId} {args : Array Value} {meth : Method} {c : Code} {H : Heap} {locs : List Loc} (hX : sd_X μ p s m args meth c G) (hS : va_S (sd_A G) s.heap H locs) : ∀ q, q < G.2.2.1.size → H[q]? = G.2.2.1[q]? := fun q hq => by
  have h10 := hX.2.2.2.2.2.2.2.2.2
  rw [hS.2.1 q (Nat.lt_of_lt_of_le hq h10.2) (Nat.not_le.mpr hq)]
  exact h10.1 q hq
theorem AW.copyI {a b n0 n1 p0 q0 k0 idx : Nat} {ra rb : List (Option Nat)} {sp dp nn : Int32} (d : decode μ.2.1 pc = .ok (.invokestatic idx, 3)) (w : Cond.methodLink μ.1.cls idx arraycopyName ∈ sd_gd) (hA : C[a]? = some (20, n0, ra)) (hB : C[b]? = some (20, n1, rb)) (h1 : sp = nI p0) (h2 : dp = nI q0) (h3 : nn = nI k0) (h4 : p0 + k0 ≤ n0) (h5 : q0 + k0 ≤ n1) (hn0 : n0 < 2 ^ 31) (hn1 : n1 < 2 ^ 31) (hf : 1 ≤ μ.2.2.2.2.frames) (hlo : (st.map fun v => v.category).sum + 18 ≤ μ.2.2.2.2.locals)
    (kk : AW μ 0 ks (pc + 3) ls st (C, X, sd_r I b (va_cpy (I a) (I b) p0 q0 k0), J) Q) : AW μ 0 ks pc ls (.int nn :: .int dp :: .ref b :: .int sp :: .ref a :: st) (C, X, I, J) Q := by
  subst h1; subst h2; subst h3
  intro p l e s m args below meth c G Z hX hSc hZ H locs lsA hR hS hL
  have hR : sd_R G C I J H := hR
  show W p l e _ s m args below meth c H locs 0 ks Z (F0 m pc lsA (Value.int (nI k0) :: Value.int (nI q0) :: Value.ref (sd_ad G b) :: Value.int (nI p0) :: Value.ref (sd_ad G a) :: st.map (sd_v G)))
  rw [sd_ad_lt (hR.lt hA), sd_ad_lt (hR.lt hB)]
  have hts := hX.2.2.2.2.2.1
  have c1 : (nI p0).toNatClampNeg = p0 := nI_clamp (by omega)
  have c2 : (nI q0).toNatClampNeg = q0 := nI_clamp (by omega)
  have c3 : (nI k0).toNatClampNeg = k0 := nI_clamp (by omega)
  have hcat : ((st.map (sd_v G)).map fun v => v.category).sum = (st.map fun v => v.category).sum := by
    rw [List.map_map]
    exact congrArg List.sum (List.map_congr_left (fun v _ => sd_v_cat G v))
  intro T hT Y
  have hz : H.size = s.heap.size := by have := Y.heapSize; rw [hT] at this; have := hS.1; omega
  refine va_copyi hX.1 hX.2.1 (by rw [hX.2.2.2.1, hL.1]) hX.2.2.2.2.1 (hts _ w) (hts _ wN_copy) (hts _ wT_copy) (hts _ wZ_J10) hX.2.2.2.2.2.2.2.2.1.1 hR.2.2.2 (sd_D G C I J) hS a b 0 0 (sd_eI hA) (sd_eI hB) (ty := .int) rfl rfl rfl (nI_pos (by omega)) (nI_pos (by omega)) (nI_pos (by omega)) (by rw [c1, c3]; exact h4) (by rw [c2, c3]; exact h5) (fun _ _ => rfl) hf (by rw [hcat]; exact hlo) d (fun H1 locs1 hP1 hD1 hS1 => ?_) T hT Y
  rw [c1, c2, c3] at hP1
  intro T1 hT1 Y1
  have hz1 : H1.size = s.heap.size := by have := Y1.heapSize; rw [hT1] at this; have := hS1.1; omega
  have hws : sd_ws G C (sd_r I b (va_cpy (I a) (I b) p0 q0 k0)) J = (sd_ws G C I J).set b (G.2.2.1.size + b, .inl (G.2.1 20, n1, .inl (va_cpy (I a) (I b) p0 q0 k0))) := by
    have h := sd_ws_upd (G := G) (I := I) (I' := sd_r I b (va_cpy (I a) (I b) p0 q0 k0)) (J := J) (J' := J) (c' := (20, n1, rb)) hB (fun k d hk => sd_E_I (sd_r_ne hk) d)
    rw [sd_set_same hB] at h
    rw [h]
    show (sd_ws G C I J).set b (_, .inl (G.2.1 20, n1, .inl (sd_r I b _ b))) = _
    rw [sd_r_eq]
  exact kk p l e s m args below meth c G Z hX hSc hZ H1 locs1 lsA ⟨by rw [hz1, ← hz]; exact hR.1, hR.2.1, sd_below hX hS1, by rw [hws]; exact hP1⟩ hS1 hL T1 hT1 Y1
theorem AW.copyJ {a b n0 n1 p0 q0 k0 idx : Nat} {ra rb : List (Option Nat)} {sp dp nn : Int32} (d : decode μ.2.1 pc = .ok (.invokestatic idx, 3)) (w : Cond.methodLink μ.1.cls idx arraycopyName ∈ sd_gd) (hA : C[a]? = some (22, n0, ra)) (hB : C[b]? = some (22, n1, rb)) (h1 : sp = nI p0) (h2 : dp = nI q0) (h3 : nn = nI k0) (h4 : p0 + k0 ≤ n0) (h5 : q0 + k0 ≤ n1) (hn0 : n0 < 2 ^ 31) (hn1 : n1 < 2 ^ 31) (hf : 1 ≤ μ.2.2.2.2.frames) (hlo : (st.map fun v => v.category).sum + 18 ≤ μ.2.2.2.2.locals)
    (kk : AW μ 0 ks (pc + 3) ls st (C, X, I, sd_r J b (va_cpy (J a) (J b) p0 q0 k0)) Q) : AW μ 0 ks pc ls (.int nn :: .int dp :: .ref b :: .int sp :: .ref a :: st) (C, X, I, J) Q := by
  subst h1; subst h2; subst h3
  intro p l e s m args below meth c G Z hX hSc hZ H locs lsA hR hS hL
  have hR : sd_R G C I J H := hR
  show W p l e _ s m args below meth c H locs 0 ks Z (F0 m pc lsA (Value.int (nI k0) :: Value.int (nI q0) :: Value.ref (sd_ad G b) :: Value.int (nI p0) :: Value.ref (sd_ad G a) :: st.map (sd_v G)))
  rw [sd_ad_lt (hR.lt hA), sd_ad_lt (hR.lt hB)]
  have hts := hX.2.2.2.2.2.1
  have c1 : (nI p0).toNatClampNeg = p0 := nI_clamp (by omega)
  have c2 : (nI q0).toNatClampNeg = q0 := nI_clamp (by omega)
  have c3 : (nI k0).toNatClampNeg = k0 := nI_clamp (by omega)
  have hcat : ((st.map (sd_v G)).map fun v => v.category).sum = (st.map fun v => v.category).sum := by
    rw [List.map_map]
    exact congrArg List.sum (List.map_congr_left (fun v _ => sd_v_cat G v))
  intro T hT Y
  have hz : H.size = s.heap.size := by have := Y.heapSize; rw [hT] at this; have := hS.1; omega
  refine va_copyl hX.1 hX.2.1 (by rw [hX.2.2.2.1, hL.1]) hX.2.2.2.2.1 (hts _ w) (hts _ wN_copy) (hts _ wT_copy) (hts _ wZ_J10) hX.2.2.2.2.2.2.2.2.1.1 hR.2.2.2 (sd_D G C I J) hS a b 2 2 (sd_eJ hA) (sd_eJ hB) (ty := .long) rfl rfl rfl (nI_pos (by omega)) (nI_pos (by omega)) (nI_pos (by omega)) (by rw [c1, c3]; exact h4) (by rw [c2, c3]; exact h5) (fun _ _ => rfl) hf (by rw [hcat]; exact hlo) d (fun H1 locs1 hP1 hD1 hS1 => ?_) T hT Y
  rw [c1, c2, c3] at hP1
  intro T1 hT1 Y1
  have hz1 : H1.size = s.heap.size := by have := Y1.heapSize; rw [hT1] at this; have := hS1.1; omega
  have hws : sd_ws G C I (sd_r J b (va_cpy (J a) (J b) p0 q0 k0)) = (sd_ws G C I J).set b (G.2.2.1.size + b, .inl (G.2.1 22, n1, .inr (.inl (va_cpy (J a) (J b) p0 q0 k0)))) := by
    have h := sd_ws_upd (G := G) (I := I) (I' := I) (J := J) (J' := sd_r J b (va_cpy (J a) (J b) p0 q0 k0)) (c' := (22, n1, rb)) hB (fun k d hk => sd_E_J (sd_r_ne hk) d)
    rw [sd_set_same hB] at h
    rw [h]
    show (sd_ws G C I J).set b (_, .inl (G.2.1 22, n1, .inr (.inl (sd_r J b _ b)))) = _
    rw [sd_r_eq]
  exact kk p l e s m args below meth c G Z hX hSc hZ H1 locs1 lsA ⟨by rw [hz1, ← hz]; exact hR.1, hR.2.1, sd_below hX hS1, by rw [hws]; exact hP1⟩ hS1 hL T1 hT1 Y1
/-- the law's script -/
theorem AW.sld {i : Int32} (hμ : μ.1 = x) (d : decode μ.2.1 pc = .ok (.iaload, 1)) (j : Nat) (hi : i = nI j) (hj : j < X.1) (hn : X.1 < 2 ^ 31) (kk : AW μ kc ks (pc + 1) ls (.int (X.2 j) :: st) (C, X, I, J) Q) : AW μ kc ks pc ls (.int i :: .ref 100000 :: st) (C, X, I, J) Q := by
  subst hi
  intro p l e s m args below meth c G Z hX hSc hZ H locs lsA hR hS hL
  have hR : sd_R G C I J H := hR
  obtain ⟨h1, h2, h3⟩ := hSc hμ
  show W p l e _ s m args below meth c H locs kc ks Z (F0 m pc lsA (Value.int (nI j) :: Value.ref G.2.2.2.1 :: st.map (sd_v G)))
  refine va_sld hX.1 hX.2.1 h1 h2 h3 hS (vp_in_nI hj hn) d ?_
  rw [nI_clamp (by omega)]
  exact kk p l e s m args below meth c G Z hX hSc hZ H locs lsA hR hS hL
theorem AW.slen (hμ : μ.1 = x) (d : decode μ.2.1 pc = .ok (.arraylength, 1)) (kk : AW μ kc ks (pc + 1) ls (.int (nI X.1) :: st) (C, X, I, J) Q) : AW μ kc ks pc ls (.ref 100000 :: st) (C, X, I, J) Q := by
  intro p l e s m args below meth c G Z hX hSc hZ H locs lsA hR hS hL
  have hR : sd_R G C I J H := hR
  obtain ⟨h1, h2, h3⟩ := hSc hμ
  exact va_slen hX.1 hX.2.1 h1 h2 h3 hS d (kk p l e s m args below meth c G Z hX hSc hZ H locs lsA hR hS hL)
/-- the text "pfcth" -/
theorem AW.ldcS (hμ : μ.1.cls = RX8) (d : decode μ.2.1 pc = .ok (.ldc 63, 2)) (kk : AW μ kc ks (pc + 2) ls (.ref 100001 :: st) (C, X, I, J) Q) : AW μ kc ks pc ls st (C, X, I, J) Q := by
  intro p l e s m args below meth c G Z hX hSc hZ H locs lsA hR hS hL
  have hR : sd_R G C I J H := hR
  have hs := hX.2.2.2.2.2.2.2.2.1.2.2.2.2
  exact va_ldcS hX.1 hX.2.1 hX.2.2.2.2.1 (by rw [hμ]; exact hs.1) d (kk p l e s m args below meth c G Z hX hSc hZ H locs lsA hR hS hL)
theorem sd_kept {G : sd_G} {p : Program} {s : State} {m : MethodId} {args : Array Value} {meth : Method} {c : Code} (hX : sd_X μ p s m args meth c G) : ∀ a : Nat, a < G.2.2.1.size → ¬ sd_A G a → s.heap[a]? = G.2.2.1[a]? := fun a ha _ => hX.2.2.2.2.2.2.2.2.2.1 a ha
theorem AW.strC {idx : Nat} (d : decode μ.2.1 pc = .ok (.getstatic idx, 3)) (w : Cond.fieldLink μ.1.cls idx "java/lang/String" "COMPACT_STRINGS" "Z" ∈ sd_gd) (kk : AW μ kc ks (pc + 3) ls (.int 1 :: st) (C, X, I, J) Q) : AW μ kc ks pc ls st (C, X, I, J) Q := by
  intro p l e s m args below meth c G Z hX hSc hZ H locs lsA hR hS hL
  have hR : sd_R G C I J H := hR
  have hs := hX.2.2.2.2.2.2.2.2.1.2.2.2.2
  exact va_gets hX.1 hX.2.1 (hs.2.2.2.2.2.kept (sd_kept hX)) hS hX.2.2.2.2.1 (hX.2.2.2.2.2.1 _ w) (fun _ h => h) d (kk p l e s m args below meth c G Z hX hSc hZ H locs lsA hR hS hL)
theorem AW.strK {idx : Nat} (d : decode μ.2.1 pc = .ok (.getfield idx, 3)) (w : Cond.fieldLink μ.1.cls idx "java/lang/String" "coder" "B" ∈ sd_gd) (kk : AW μ kc ks (pc + 3) ls (.int 0 :: st) (C, X, I, J) Q) : AW μ kc ks pc ls (.ref 100001 :: st) (C, X, I, J) Q := by
  intro p l e s m args below meth c G Z hX hSc hZ H locs lsA hR hS hL
  have hR : sd_R G C I J H := hR
  have hs := hX.2.2.2.2.2.2.2.2.1.2.2.2.2
  exact vk_getf hX.1 hX.2.1 (hs.2.2.1.kept (sd_kept hX)) hS hX.2.2.2.2.1 (hX.2.2.2.2.2.1 _ w) (fun _ h => h) d (kk p l e s m args below meth c G Z hX hSc hZ H locs lsA hR hS hL)
theorem AW.strV {idx : Nat} (d : decode μ.2.1 pc = .ok (.getfield idx, 3)) (w : Cond.fieldLink μ.1.cls idx "java/lang/String" "value" "[B" ∈ sd_gd) (kk : AW μ kc ks (pc + 3) ls (.ref 100002 :: st) (C, X, I, J) Q) : AW μ kc ks pc ls (.ref 100001 :: st) (C, X, I, J) Q := by
  intro p l e s m args below meth c G Z hX hSc hZ H locs lsA hR hS hL
  have hR : sd_R G C I J H := hR
  have hs := hX.2.2.2.2.2.2.2.2.1.2.2.2.2
  exact vk_getf hX.1 hX.2.1 (hs.2.2.2.1.kept (sd_kept hX)) hS hX.2.2.2.2.1 (hX.2.2.2.2.2.1 _ w) (fun _ h => h) d (kk p l e s m args below meth c G Z hX hSc hZ H locs lsA hR hS hL)
end More
