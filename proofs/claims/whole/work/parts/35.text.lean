-- the text "pfcth": its own methods
theorem dJ0_length_8abf5_0 : decode cJ0_length_8abf5 0 = .ok (.aload_n 0, 1) := by decide +kernel
theorem dJ0_length_8abf5_1 : decode cJ0_length_8abf5 1 = .ok (.getfield 9, 3) := by decide +kernel
theorem dJ0_length_8abf5_4 : decode cJ0_length_8abf5 4 = .ok (.arraylength, 1) := by decide +kernel
theorem dJ0_length_8abf5_5 : decode cJ0_length_8abf5 5 = .ok (.aload_n 0, 1) := by decide +kernel
theorem dJ0_length_8abf5_6 : decode cJ0_length_8abf5 6 = .ok (.invokevirtual 335, 3) := by decide +kernel
theorem dJ0_length_8abf5_9 : decode cJ0_length_8abf5 9 = .ok (.ishr, 1) := by decide +kernel
theorem dJ0_length_8abf5_10 : decode cJ0_length_8abf5 10 = .ok (.ireturn, 1) := by decide +kernel
theorem dJ0_coder_7d493_0 : decode cJ0_coder_7d493 0 = .ok (.getstatic 38, 3) := by decide +kernel
theorem dJ0_coder_7d493_3 : decode cJ0_coder_7d493 3 = .ok (.ifCond .eq 10, 3) := by decide +kernel
theorem dJ0_coder_7d493_6 : decode cJ0_coder_7d493 6 = .ok (.aload_n 0, 1) := by decide +kernel
theorem dJ0_coder_7d493_7 : decode cJ0_coder_7d493 7 = .ok (.getfield 15, 3) := by decide +kernel
theorem dJ0_coder_7d493_10 : decode cJ0_coder_7d493 10 = .ok (.goto 4, 3) := by decide +kernel
theorem dJ0_coder_7d493_13 : decode cJ0_coder_7d493 13 = .ok (.iconst 1, 1) := by decide +kernel
theorem dJ0_coder_7d493_14 : decode cJ0_coder_7d493 14 = .ok (.ireturn, 1) := by decide +kernel
section Text
variable {μ μ' : sd_M} {kc ks kc' ks' pc idx n : Nat} {ls st vs : List Value} {C : List sd_C} {X : Nat × (Nat → Int32)} {I : sd_I} {J : sd_J} {Q Q' : Option Int32 → sd_S → Prop}
theorem sd_preT {G : sd_G} {p : Program} {s : State} {m : MethodId} {args : Array Value} {meth : Method} {c : Code} {H : Heap} {locs : List Loc} (hX : sd_X μ p s m args meth c G) (hS : va_S (sd_A G) s.heap H locs) (hR : sd_R G C I J H) : PreV s H "java/lang/String" G.2.2.2.2.1 (va_Pc ((.ref 100001 :: vs).map (sd_v G)) (sd_Pc G C I J)) (vs.map (sd_v G)) := by
  have hF := hX.2.2.2.2.2.2.2.2.1
  refine ⟨sd_blind G (.ref 100001 :: vs), ?_, fun U hU hW => ⟨?_, hF.warm hW, by rw [hU]; exact hR⟩⟩
  · exact va_Orecv (hF.2.2.2.2.2.1.kept (sd_kept hX)) hS
  · rfl
theorem AW.callT (hok : sd_ok μ μ' n) (hcls : μ'.1.cls = "java/lang/String") (wm : Cond.methodLink μ.1.cls idx μ'.1 ∈ sd_gd) (wi : Cond.instanceMethod μ'.1 ∈ sd_gd) (wse : Cond.selects "java/lang/String" μ'.1 μ'.1 ∈ sd_gd) (wz : Cond.initialized "java/lang/String" ∈ sd_gd) (wc : Cond.code μ'.1 μ'.2.1 μ'.2.2.1 μ'.2.2.2.1 ∈ sd_gd) (d : decode μ.2.1 pc = .ok (.invokevirtual idx, 3)) (hn : vs.length = n) (hfit : (sd_en (.ref 100001 :: vs)).length ≤ μ'.2.2.1) (hst : (st.map fun v => v.category).sum ≤ 8)
    (hkc : kc + μ'.2.2.2.2.cells = kc') (hks : ks + μ'.2.2.2.2.slots = ks') (hc1 : kc' ≤ μ.2.2.2.2.cells) (hs1 : ks' ≤ μ.2.2.2.2.slots) {st0 : List Value} (hst0 : vs.reverse ++ .ref 100001 :: st = st0)
    (h : AWm μ' (.ref 100001 :: vs) (C, X, I, J) Q') (kk : ∀ r C I J, Q' r (C, X, I, J) → AW μ kc' ks' (pc + 3) ls (r.toList.map Value.int ++ st) (C, X, I, J) Q) : AW μ kc ks pc ls st0 (C, X, I, J) Q := by
  subst hkc; subst hks; subst hst0
  intro p l e s m args below meth c G Z hX hSc hZ H locs lsA hR hS hL
  have hR : sd_R G C I J H := hR
  have hts := hX.2.2.2.2.2.1
  have hG : GoodIn sd_gd (wsV μ.1.cls idx "java/lang/String" μ'.1 (.code μ'.1 μ'.2.1 μ'.2.2.1 μ'.2.2.2.1 :: sd_gd)) := sd_goodIn (fun w hw => by
    rcases List.mem_append.mp hw with h1 | h1
    · simp only [List.mem_cons, List.not_mem_nil, or_false] at h1
      rcases h1 with rfl | rfl | rfl | rfl <;> assumption
    · exact sd_wsG wc w h1)
  rw [sd_map_rev]
  have e0 : (Value.ref 100001 :: st).map (sd_v G) = Value.ref G.2.2.2.2.1 :: st.map (sd_v G) := rfl
  rw [e0]
  refine sd_call (va_runV (As := vs.map (sd_v G)) (rest := st.map (sd_v G)) (n := n) ⟨hX.1, hX.2.1, hX.2.2.2.1, hX.2.2.2.2.1, hts⟩ (sd_met h hok.1 hok.2.1 hfit l G) (cwV n hts hG rfl rfl rfl ⟨hcls, hok.2.2.1⟩ hok.2.2.2) (sd_preT hX hS hR) rfl (by simpa using hn) hL.1 rfl (sd_room8 G m lsA _ hst) d ⟨hc1, hs1⟩) hS (fun r C' I' J' H1 locs1 hq hR' hS' => ?_)
  rw [sd_back]
  exact kk r C' I' J' hq p l e s m args below meth c G Z hX hSc hZ H1 locs1 lsA hR' hS' hL
theorem AW.strLen (d : decode μ.2.1 pc = .ok (.arraylength, 1)) (kk : AW μ kc ks (pc + 1) ls (.int (nI 5) :: st) (C, X, I, J) Q) : AW μ kc ks pc ls (.ref 100002 :: st) (C, X, I, J) Q := by
  intro p l e s m args below meth c G Z hX hSc hZ H locs lsA hR hS hL
  have hR : sd_R G C I J H := hR
  have hs := hX.2.2.2.2.2.2.2.2.1.2.2.2.2
  exact va_tlen hX.1 hX.2.1 (hs.2.2.2.2.1.kept (sd_kept hX)) hS (v := nI 5) rfl d (kk p l e s m args below meth c G Z hX hSc hZ H locs lsA hR hS hL)
theorem AW.strB {i : Int32} {j v : Nat} (d : decode μ.2.1 pc = .ok (.baload, 1)) (hi : i = nI j) (hj : j < 5) (hv : ([112, 102, 99, 116, 104] : List Int32).getD j 0 = nI v) (kk : AW μ kc ks (pc + 1) ls (.int (nI v) :: st) (C, X, I, J) Q) : AW μ kc ks pc ls (.int i :: .ref 100002 :: st) (C, X, I, J) Q := by
  subst hi
  intro p l e s m args below meth c G Z hX hSc hZ H locs lsA hR hS hL
  have hR : sd_R G C I J H := hR
  have hs := hX.2.2.2.2.2.2.2.2.1.2.2.2.2
  refine va_tb hX.1 hX.2.1 (hs.2.2.2.2.1.kept (sd_kept hX)) hS (v := .int (nI v)) (vp_in_nI hj (by decide)) ?_ d (kk p l e s m args below meth c G Z hX hSc hZ H locs lsA hR hS hL)
  rw [nI_clamp (by omega)]
  exact congrArg Value.int hv
end Text
theorem ok_X8_readKind_J0_indexOf_0f7a4 : sd_ok muX8_readKind muJ0_indexOf_0f7a4 1 := ⟨by decide +kernel, by decide +kernel, ⟨by decide +kernel, by decide +kernel, by decide +kernel⟩, by decide, by decide⟩
theorem cs_X8_readKind_26 {x1 : Int32} {C : List sd_C} {X : Nat × (Nat → Int32)} {I : sd_I} {J : sd_J} {Q : Option Int32 → sd_S → Prop} {ls st : List Value} {ks kc : Nat} (hc : kc ≤ muX8_readKind.2.2.2.2.cells) (hs : ks ≤ muX8_readKind.2.2.2.2.slots) (hst : (st.map fun v => v.category).sum ≤ 8) (h : AWi muJ0_indexOf_0f7a4 [.ref 100001, .int x1] (C, X, I, J) (fun v σ' => AW muX8_readKind kc ks 29 ls (.int v :: st) σ' Q)) : AW muX8_readKind kc ks 26 ls (.int x1 :: .ref 100001 :: st) (C, X, I, J) Q :=
  AW.callT (μ' := muJ0_indexOf_0f7a4) ok_X8_readKind_J0_indexOf_0f7a4 rfl wM_X8_65 wI_J0_indexOf_0f7a4 wS_J0_J0_indexOf_0f7a4 wZ_J0 wC_J0_indexOf_0f7a4 dX8_readKind_26 rfl (Nat.le_of_ble_eq_true rfl) hst rfl rfl hc hs rfl h (fun r C I J hq => by obtain ⟨v, rfl, hv⟩ := hq; exact hv)
theorem ok_J0_indexOf_0f7a4_J0_indexOf_7cf53 : sd_ok muJ0_indexOf_0f7a4 muJ0_indexOf_7cf53 2 := ⟨by decide +kernel, by decide +kernel, ⟨by decide +kernel, by decide +kernel, by decide +kernel⟩, by decide, by decide⟩
theorem cs_J0_indexOf_0f7a4_3 {x1 : Int32} {x2 : Int32} {C : List sd_C} {X : Nat × (Nat → Int32)} {I : sd_I} {J : sd_J} {Q : Option Int32 → sd_S → Prop} {ls st : List Value} {ks kc : Nat} (hc : kc ≤ muJ0_indexOf_0f7a4.2.2.2.2.cells) (hs : ks ≤ muJ0_indexOf_0f7a4.2.2.2.2.slots) (hst : (st.map fun v => v.category).sum ≤ 8) (h : AWi muJ0_indexOf_7cf53 [.ref 100001, .int x1, .int x2] (C, X, I, J) (fun v σ' => AW muJ0_indexOf_0f7a4 kc ks 6 ls (.int v :: st) σ' Q)) : AW muJ0_indexOf_0f7a4 kc ks 3 ls (.int x2 :: .int x1 :: .ref 100001 :: st) (C, X, I, J) Q :=
  AW.callT (μ' := muJ0_indexOf_7cf53) ok_J0_indexOf_0f7a4_J0_indexOf_7cf53 rfl wM_J0_633 wI_J0_indexOf_7cf53 wS_J0_J0_indexOf_7cf53 wZ_J0 wC_J0_indexOf_7cf53 dJ0_indexOf_0f7a4_3 rfl (Nat.le_of_ble_eq_true rfl) hst rfl rfl hc hs rfl h (fun r C I J hq => by obtain ⟨v, rfl, hv⟩ := hq; exact hv)
theorem ok_J0_indexOf_7cf53_J0_isLatin1_aae02 : sd_ok muJ0_indexOf_7cf53 muJ0_isLatin1_aae02 0 := ⟨by decide +kernel, by decide +kernel, ⟨by decide +kernel, by decide +kernel, by decide +kernel⟩, by decide, by decide⟩
theorem cs_J0_indexOf_7cf53_1  {C : List sd_C} {X : Nat × (Nat → Int32)} {I : sd_I} {J : sd_J} {Q : Option Int32 → sd_S → Prop} {ls st : List Value} {ks kc : Nat} (hc : kc ≤ muJ0_indexOf_7cf53.2.2.2.2.cells) (hs : ks ≤ muJ0_indexOf_7cf53.2.2.2.2.slots) (hst : (st.map fun v => v.category).sum ≤ 8) (h : AWi muJ0_isLatin1_aae02 [.ref 100001] (C, X, I, J) (fun v σ' => AW muJ0_indexOf_7cf53 kc ks 4 ls (.int v :: st) σ' Q)) : AW muJ0_indexOf_7cf53 kc ks 1 ls (.ref 100001 :: st) (C, X, I, J) Q :=
  AW.callT (μ' := muJ0_isLatin1_aae02) ok_J0_indexOf_7cf53_J0_isLatin1_aae02 rfl wM_J0_492 wI_J0_isLatin1_aae02 wS_J0_J0_isLatin1_aae02 wZ_J0 wC_J0_isLatin1_aae02 dJ0_indexOf_7cf53_1 rfl (Nat.le_of_ble_eq_true rfl) hst rfl rfl hc hs rfl h (fun r C I J hq => by obtain ⟨v, rfl, hv⟩ := hq; exact hv)
theorem ok_J0_indexOf_7cf53_J0_length_8abf5 : sd_ok muJ0_indexOf_7cf53 muJ0_length_8abf5 0 := ⟨by decide +kernel, by decide +kernel, ⟨by decide +kernel, by decide +kernel, by decide +kernel⟩, by decide, by decide⟩
theorem cs_J0_indexOf_7cf53_14  {C : List sd_C} {X : Nat × (Nat → Int32)} {I : sd_I} {J : sd_J} {Q : Option Int32 → sd_S → Prop} {ls st : List Value} {ks kc : Nat} (hc : kc ≤ muJ0_indexOf_7cf53.2.2.2.2.cells) (hs : ks ≤ muJ0_indexOf_7cf53.2.2.2.2.slots) (hst : (st.map fun v => v.category).sum ≤ 8) (h : AWi muJ0_length_8abf5 [.ref 100001] (C, X, I, J) (fun v σ' => AW muJ0_indexOf_7cf53 kc ks 17 ls (.int v :: st) σ' Q)) : AW muJ0_indexOf_7cf53 kc ks 14 ls (.ref 100001 :: st) (C, X, I, J) Q :=
  AW.callT (μ' := muJ0_length_8abf5) ok_J0_indexOf_7cf53_J0_length_8abf5 rfl wM_J0_505 wI_J0_length_8abf5 wS_J0_J0_length_8abf5 wZ_J0 wC_J0_length_8abf5 dJ0_indexOf_7cf53_14 rfl (Nat.le_of_ble_eq_true rfl) hst rfl rfl hc hs rfl h (fun r C I J hq => by obtain ⟨v, rfl, hv⟩ := hq; exact hv)
theorem ok_J0_length_8abf5_J0_coder_7d493 : sd_ok muJ0_length_8abf5 muJ0_coder_7d493 0 := ⟨by decide +kernel, by decide +kernel, ⟨by decide +kernel, by decide +kernel, by decide +kernel⟩, by decide, by decide⟩
theorem cs_J0_length_8abf5_6  {C : List sd_C} {X : Nat × (Nat → Int32)} {I : sd_I} {J : sd_J} {Q : Option Int32 → sd_S → Prop} {ls st : List Value} {ks kc : Nat} (hc : kc ≤ muJ0_length_8abf5.2.2.2.2.cells) (hs : ks ≤ muJ0_length_8abf5.2.2.2.2.slots) (hst : (st.map fun v => v.category).sum ≤ 8) (h : AWi muJ0_coder_7d493 [.ref 100001] (C, X, I, J) (fun v σ' => AW muJ0_length_8abf5 kc ks 9 ls (.int v :: st) σ' Q)) : AW muJ0_length_8abf5 kc ks 6 ls (.ref 100001 :: st) (C, X, I, J) Q :=
  AW.callT (μ' := muJ0_coder_7d493) ok_J0_length_8abf5_J0_coder_7d493 rfl wM_J0_335 wI_J0_coder_7d493 wS_J0_J0_coder_7d493 wZ_J0 wC_J0_coder_7d493 dJ0_length_8abf5_6 rfl (Nat.le_of_ble_eq_true rfl) hst rfl rfl hc hs rfl h (fun r C I J hq => by obtain ⟨v, rfl, hv⟩ := hq; exact hv)
def kdN (c : Nat) : Option Nat := if c = 112 then some 0 else if c = 102 then some 1 else if c = 99 then some 2 else if c = 116 then some 3 else if c = 104 then some 4 else none
def kdA (j c : Nat) : Prop := (j ≤ 0 ∨ c ≠ 112) ∧ (j ≤ 1 ∨ c ≠ 102) ∧ (j ≤ 2 ∨ c ≠ 99) ∧ (j ≤ 3 ∨ c ≠ 116) ∧ (j ≤ 4 ∨ c ≠ 104)
section TextM
variable {C : List sd_C} {X : Nat × (Nat → Int32)} {I : sd_I} {J : sd_J}
theorem s_J0_isLatin1 {Q : Int32 → sd_S → Prop} (hQ : Q (nI 1) (C, X, I, J)) : AWi muJ0_isLatin1_aae02 [.ref 100001] (C, X, I, J) Q := by
  show AW muJ0_isLatin1_aae02 0 0 0 [.ref 100001] [] _ _
  refine AW.strC dJ0_isLatin1_aae02_0 wF_J0_38 ?_
  refine AW.if_eq (tgt := 17) dJ0_isLatin1_aae02_3 (by decide) (fun c => absurd c (by decide)) (fun _ => ?_)
  refine AW.aload_n dJ0_isLatin1_aae02_6 rfl rfl ?_
  refine AW.strK dJ0_isLatin1_aae02_7 wF_J0_15 ?_
  refine AW.if_ne (tgt := 17) dJ0_isLatin1_aae02_10 (by decide) (fun c => absurd rfl c) (fun _ => ?_)
  refine AW.iconst (v := nI 1) dJ0_isLatin1_aae02_13 (by decide) ?_
  refine AW.goto (tgt := 18) dJ0_isLatin1_aae02_14 (by decide) ?_
  refine AW.iret dJ0_isLatin1_aae02_18 ⟨_, rfl, by decide⟩ (Nat.zero_le _) (Nat.zero_le _) ⟨_, rfl, ?_⟩
  exact hQ
theorem s_J0_coder {Q : Int32 → sd_S → Prop} (hQ : Q 0 (C, X, I, J)) : AWi muJ0_coder_7d493 [.ref 100001] (C, X, I, J) Q := by
  show AW muJ0_coder_7d493 0 0 0 [.ref 100001] [] _ _
  refine AW.strC dJ0_coder_7d493_0 wF_J0_38 ?_
  refine AW.if_eq (tgt := 13) dJ0_coder_7d493_3 (by decide) (fun c => absurd c (by decide)) (fun _ => ?_)
  refine AW.aload_n dJ0_coder_7d493_6 rfl rfl ?_
  refine AW.strK dJ0_coder_7d493_7 wF_J0_15 ?_
  refine AW.goto (tgt := 14) dJ0_coder_7d493_10 (by decide) ?_
  refine AW.iret dJ0_coder_7d493_14 ⟨_, rfl, rfl⟩ (Nat.zero_le _) (Nat.zero_le _) ⟨_, rfl, ?_⟩
  exact hQ
theorem s_J0_length {Q : Int32 → sd_S → Prop} (hQ : Q (nI 5) (C, X, I, J)) : AWi muJ0_length_8abf5 [.ref 100001] (C, X, I, J) Q := by
  show AW muJ0_length_8abf5 0 0 0 [.ref 100001] [] _ _
  refine AW.aload_n dJ0_length_8abf5_0 rfl rfl ?_
  refine AW.strV dJ0_length_8abf5_1 wF_J0_9 ?_
  refine AW.strLen dJ0_length_8abf5_4 ?_
  refine AW.aload_n dJ0_length_8abf5_5 rfl rfl ?_
  refine cs_J0_length_8abf5_6 (by decide) (by decide) (Nat.le_of_ble_eq_true rfl) (s_J0_coder ?_)
  refine AW.ishr dJ0_length_8abf5_9 ?_
  refine AW.top (show nI 5 >>> (0 &&& 31 : Int32) = nI 5 by decide) ?_
  show AW muJ0_length_8abf5 _ _ 10 _ _ _ _
  refine AW.iret dJ0_length_8abf5_10 ⟨_, rfl, rfl⟩ (Nat.zero_le _) (Nat.zero_le _) ⟨_, rfl, ?_⟩
  exact hQ
theorem s_J1_canEncode {Q : Int32 → sd_S → Prop} {c : Nat} (hc : c ≤ 126) (hQ : Q (nI 1) (C, X, I, J)) : AWi muJ1_canEncode_9a6ad [.int (nI c)] (C, X, I, J) Q := by
  show AW muJ1_canEncode_9a6ad 0 0 0 [.int (nI c)] [] _ _
  refine AW.iload_n dJ1_canEncode_9a6ad_0 rfl rfl ?_
  refine AW.if_ltN (tgt := 15) dJ1_canEncode_9a6ad_1 (by decide) (by omega) ?_
  refine AW.iload_n dJ1_canEncode_9a6ad_4 rfl rfl ?_
  refine AW.sipush (v := nI 255) dJ1_canEncode_9a6ad_5 (by decide) ?_
  first | refine AW.icmp_gtN (tgt := 15) dJ1_canEncode_9a6ad_8 (by decide) (by omega) (by omega) (fun c8 => ?_) (fun c8 => ?_) | refine AW.icmp_gt (tgt := 15) dJ1_canEncode_9a6ad_8 (by decide) (fun c8 => ?_) (fun c8 => ?_)
  · refine AW.iconst (v := nI 0) dJ1_canEncode_9a6ad_15 (by decide) ?_
    refine AW.iret dJ1_canEncode_9a6ad_16 ⟨_, rfl, by decide⟩ (Nat.zero_le _) (Nat.zero_le _) ⟨_, rfl, ?_⟩
    omega
  · refine AW.iconst (v := nI 1) dJ1_canEncode_9a6ad_11 (by decide) ?_
    refine AW.goto (tgt := 16) dJ1_canEncode_9a6ad_12 (by decide) ?_
    refine AW.iret dJ1_canEncode_9a6ad_16 ⟨_, rfl, by decide⟩ (Nat.zero_le _) (Nat.zero_le _) ⟨_, rfl, ?_⟩
    exact hQ
theorem i2b_small {c : Nat} (hc : c ≤ 126) : (nI c).toInt8.toInt32 = nI c := by
  have key : ∀ v : Fin 127, (nI v.val).toInt8.toInt32 = nI v.val := by decide +kernel
  exact key ⟨c, by omega⟩
theorem lp_J1_indexOfChar {c : Nat} {v2 : Value} (hc : c ≤ 126) {Q : Int32 → sd_S → Prop} (q1 : ∀ k, kdN c = some k → Q (nI k) (C, X, I, J)) (q2 : kdN c = none → Q (-1) (C, X, I, J)) : ∀ (m j : Nat), 5 - j < m → j ≤ 5 → kdA j c → AW muJ1_indexOfChar_4cfef 0 0 7 [.ref 100002, .int (nI c), v2, .int (nI 5), .int (nI c), .int (nI j)] [] (C, X, I, J) (fun r σ' => ∃ v, r = some v ∧ Q v σ') := by
  intro m
  induction m with
  | zero => intros; omega
  | succ m ih =>
    intro j hm hj hA
    obtain ⟨v, hv1, hv2⟩ : ∃ v, (j < 5 → ([112, 102, 99, 116, 104] : List Int32).getD j 0 = nI v) ∧ (v = if j = 0 then 112 else if j = 1 then 102 else if j = 2 then 99 else if j = 3 then 116 else 104) := ⟨_, fun h => by rcases (show j = 0 ∨ j = 1 ∨ j = 2 ∨ j = 3 ∨ j = 4 by omega) with rfl | rfl | rfl | rfl | rfl <;> rfl, rfl⟩
    have hv3 : v ≤ 116 := by rw [hv2]; (repeat' split) <;> omega
    refine AW.iload dJ1_indexOfChar_4cfef_7 rfl ?_
    refine AW.iload_n dJ1_indexOfChar_4cfef_9 rfl rfl ?_
    first | refine AW.icmp_geN (tgt := 31) dJ1_indexOfChar_4cfef_10 (by decide) (by omega) (by omega) (fun c10 => ?_) (fun c10 => ?_) | refine AW.icmp_ge (tgt := 31) dJ1_indexOfChar_4cfef_10 (by decide) (fun c10 => ?_) (fun c10 => ?_)
    · refine AW.iconst (v := (-1)) dJ1_indexOfChar_4cfef_31 (by decide) ?_
      refine AW.iret dJ1_indexOfChar_4cfef_32 ⟨_, rfl, rfl⟩ (Nat.zero_le _) (Nat.zero_le _) ⟨_, rfl, ?_⟩
      refine q2 ?_
      obtain rfl : j = 5 := by omega
      unfold kdA at hA
      unfold kdN
      rw [if_neg (by omega), if_neg (by omega), if_neg (by omega), if_neg (by omega), if_neg (by omega)]
    · refine AW.aload_n dJ1_indexOfChar_4cfef_13 rfl rfl ?_
      refine AW.iload dJ1_indexOfChar_4cfef_14 rfl ?_
      refine AW.strB dJ1_indexOfChar_4cfef_16 rfl (by omega) (hv1 (by omega)) ?_
      show AW muJ1_indexOfChar_4cfef _ _ 17 _ _ _ _
      refine AW.iload dJ1_indexOfChar_4cfef_17 rfl ?_
      first | refine AW.icmp_neN (tgt := 25) dJ1_indexOfChar_4cfef_19 (by decide) (by omega) (by omega) (fun c19 => ?_) (fun c19 => ?_) | refine AW.icmp_ne (tgt := 25) dJ1_indexOfChar_4cfef_19 (by decide) (fun c19 => ?_) (fun c19 => ?_)
      · first | refine AW.iincN dJ1_indexOfChar_4cfef_25 rfl (by decide) rfl rfl ?_ | refine AW.iinc dJ1_indexOfChar_4cfef_25 rfl rfl (by decide) rfl rfl ?_
        refine AW.goto (tgt := 7) dJ1_indexOfChar_4cfef_28 (by decide) ?_
        refine ih (j + 1) (by omega) (by omega) ?_
        unfold kdA at hA ⊢
        rcases (show j = 0 ∨ j = 1 ∨ j = 2 ∨ j = 3 ∨ j = 4 by omega) with rfl | rfl | rfl | rfl | rfl <;> simp at hv2 <;> omega
      · refine AW.iload dJ1_indexOfChar_4cfef_22 rfl ?_
        refine AW.iret dJ1_indexOfChar_4cfef_24 ⟨_, rfl, rfl⟩ (Nat.zero_le _) (Nat.zero_le _) ⟨_, rfl, ?_⟩
        refine q1 j ?_
        subst c19
        rw [hv2]
        rcases (show j = 0 ∨ j = 1 ∨ j = 2 ∨ j = 3 ∨ j = 4 by omega) with rfl | rfl | rfl | rfl | rfl <;> rfl
theorem s_J1_indexOf {Q : Int32 → sd_S → Prop} {c : Nat} (hc : c ≤ 126) (q1 : ∀ k, kdN c = some k → Q (nI k) (C, X, I, J)) (q2 : kdN c = none → Q (-1) (C, X, I, J)) : AWi muJ1_indexOf_4cfef [.ref 100002, .int (nI c), .int (nI 0), .int (nI 5)] (C, X, I, J) Q := by
  show AW muJ1_indexOf_4cfef 0 0 0 [.ref 100002, .int (nI c), .int (nI 0), .int (nI 5)] [] _ _
  refine AW.iload_n dJ1_indexOf_4cfef_0 rfl rfl ?_
  refine cs_J1_indexOf_4cfef_1 (by decide) (by decide) (Nat.le_of_ble_eq_true rfl) (s_J1_canEncode hc ?_)
  refine AW.if_ne (tgt := 9) dJ1_indexOf_4cfef_4 (by decide) (fun _ => ?_) (fun c => absurd c (by decide))
  refine AW.iload_n dJ1_indexOf_4cfef_9 rfl rfl ?_
  refine AW.iconst (v := nI 0) dJ1_indexOf_4cfef_10 (by decide) ?_
  refine AW.mmax dJ1_indexOf_4cfef_11 wM_J1_92 (by decide) (Nat.le_of_ble_eq_true rfl) (by decide) (by decide) ?_
  refine AW.top (show _ = nI 0 by decide) ?_
  refine AW.istore_n dJ1_indexOf_4cfef_14 rfl (by decide) rfl rfl ?_
  refine AW.iload_n dJ1_indexOf_4cfef_15 rfl rfl ?_
  show AW muJ1_indexOf_4cfef _ _ 16 _ _ _ _
  refine AW.aload_n dJ1_indexOf_4cfef_16 rfl rfl ?_
  refine AW.strLen dJ1_indexOf_4cfef_17 ?_
  refine AW.mmin dJ1_indexOf_4cfef_18 wM_J1_38 (by decide) (Nat.le_of_ble_eq_true rfl) (by decide) (by decide) ?_
  refine AW.top (show _ = nI 5 by decide) ?_
  refine AW.istore_n dJ1_indexOf_4cfef_21 rfl (by decide) rfl rfl ?_
  refine AW.iload_n dJ1_indexOf_4cfef_22 rfl rfl ?_
  refine AW.iload_n dJ1_indexOf_4cfef_23 rfl rfl ?_
  refine AW.icmp_lt (tgt := 29) dJ1_indexOf_4cfef_24 (by decide) (fun _ => ?_) (fun c => absurd (show nI 0 < nI 5 by decide) c)
  refine AW.aload_n dJ1_indexOf_4cfef_29 rfl rfl ?_
  show AW muJ1_indexOf_4cfef _ _ 30 _ _ _ _
  refine AW.iload_n dJ1_indexOf_4cfef_30 rfl rfl ?_
  refine AW.iload_n dJ1_indexOf_4cfef_31 rfl rfl ?_
  refine AW.iload_n dJ1_indexOf_4cfef_32 rfl rfl ?_
  refine cs_J1_indexOf_4cfef_33 (by decide) (by decide) (Nat.le_of_ble_eq_true rfl) (?_)
  show AW muJ1_indexOfChar_4cfef 0 0 0 [.ref 100002, .int (nI c), .int (nI 0), .int (nI 5), .null, .null] [] _ _
  refine AW.iload_n dJ1_indexOfChar_4cfef_0 rfl rfl ?_
  refine AW.i2b dJ1_indexOfChar_4cfef_1 ?_
  rw [i2b_small hc]
  refine AW.istore dJ1_indexOfChar_4cfef_2 (by decide) rfl rfl ?_
  refine AW.iload_n dJ1_indexOfChar_4cfef_4 rfl rfl ?_
  refine AW.istore dJ1_indexOfChar_4cfef_5 (by decide) rfl rfl ?_
  refine lp_J1_indexOfChar (Q := fun v σ' => AW muJ1_indexOf_4cfef 0 0 36 _ (.int v :: _) σ' _) hc (fun k hk => AW.iret dJ1_indexOf_4cfef_36 ⟨_, rfl, rfl⟩ (Nat.zero_le _) (Nat.zero_le _) ⟨_, rfl, q1 k hk⟩) (fun hk => AW.iret dJ1_indexOf_4cfef_36 ⟨_, rfl, rfl⟩ (Nat.zero_le _) (Nat.zero_le _) ⟨_, rfl, q2 hk⟩) 6 0 (by decide) (by decide) ?_
  unfold kdA; omega
theorem s_J0_indexOf2 {Q : Int32 → sd_S → Prop} {c : Nat} (hc : c ≤ 126) (q1 : ∀ k, kdN c = some k → Q (nI k) (C, X, I, J)) (q2 : kdN c = none → Q (-1) (C, X, I, J)) : AWi muJ0_indexOf_7cf53 [.ref 100001, .int (nI c), .int (nI 0)] (C, X, I, J) Q := by
  show AW muJ0_indexOf_7cf53 0 0 0 [.ref 100001, .int (nI c), .int (nI 0)] [] _ _
  refine AW.aload_n dJ0_indexOf_7cf53_0 rfl rfl ?_
  refine cs_J0_indexOf_7cf53_1 (by decide) (by decide) (Nat.le_of_ble_eq_true rfl) (s_J0_isLatin1 ?_)
  refine AW.if_eq (tgt := 23) dJ0_indexOf_7cf53_4 (by decide) (fun c => absurd c (by decide)) (fun _ => ?_)
  refine AW.aload_n dJ0_indexOf_7cf53_7 rfl rfl ?_
  refine AW.strV dJ0_indexOf_7cf53_8 wF_J0_9 ?_
  refine AW.iload_n dJ0_indexOf_7cf53_11 rfl rfl ?_
  refine AW.iload_n dJ0_indexOf_7cf53_12 rfl rfl ?_
  show AW muJ0_indexOf_7cf53 _ _ 13 _ _ _ _
  refine AW.aload_n dJ0_indexOf_7cf53_13 rfl rfl ?_
  refine cs_J0_indexOf_7cf53_14 (by decide) (by decide) (Nat.le_of_ble_eq_true rfl) (s_J0_length ?_)
  refine cs_J0_indexOf_7cf53_17 (by decide) (by decide) (Nat.le_of_ble_eq_true rfl) (s_J1_indexOf hc (fun k hk => ?_) (fun hk => ?_))
  · first | exact AW.goto (tgt := 36) dJ0_indexOf_7cf53_20 (by decide) (AW.iret dJ0_indexOf_7cf53_36 ⟨_, rfl, rfl⟩ (Nat.zero_le _) (Nat.zero_le _) ⟨_, rfl, q1 k hk⟩) | exact AW.goto (tgt := 36) dJ0_indexOf_7cf53_20 (by decide) (AW.iret dJ0_indexOf_7cf53_36 ⟨_, rfl, rfl⟩ (Nat.zero_le _) (Nat.zero_le _) ⟨_, rfl, q2 hk⟩)
  · first | exact AW.goto (tgt := 36) dJ0_indexOf_7cf53_20 (by decide) (AW.iret dJ0_indexOf_7cf53_36 ⟨_, rfl, rfl⟩ (Nat.zero_le _) (Nat.zero_le _) ⟨_, rfl, q1 k hk⟩) | exact AW.goto (tgt := 36) dJ0_indexOf_7cf53_20 (by decide) (AW.iret dJ0_indexOf_7cf53_36 ⟨_, rfl, rfl⟩ (Nat.zero_le _) (Nat.zero_le _) ⟨_, rfl, q2 hk⟩)
theorem s_J0_indexOf {Q : Int32 → sd_S → Prop} {c : Nat} (hc : c ≤ 126) (q1 : ∀ k, kdN c = some k → Q (nI k) (C, X, I, J)) (q2 : kdN c = none → Q (-1) (C, X, I, J)) : AWi muJ0_indexOf_0f7a4 [.ref 100001, .int (nI c)] (C, X, I, J) Q := by
  show AW muJ0_indexOf_0f7a4 0 0 0 [.ref 100001, .int (nI c)] [] _ _
  refine AW.aload_n dJ0_indexOf_0f7a4_0 rfl rfl ?_
  refine AW.iload_n dJ0_indexOf_0f7a4_1 rfl rfl ?_
  refine AW.iconst (v := nI 0) dJ0_indexOf_0f7a4_2 (by decide) ?_
  refine cs_J0_indexOf_0f7a4_3 (by decide) (by decide) (Nat.le_of_ble_eq_true rfl) (s_J0_indexOf2 hc (fun k hk => ?_) (fun hk => ?_))
  · first | exact AW.iret dJ0_indexOf_0f7a4_6 ⟨_, rfl, rfl⟩ (Nat.zero_le _) (Nat.zero_le _) ⟨_, rfl, q1 k hk⟩ | exact AW.iret dJ0_indexOf_0f7a4_6 ⟨_, rfl, rfl⟩ (Nat.zero_le _) (Nat.zero_le _) ⟨_, rfl, q2 hk⟩
  · first | exact AW.iret dJ0_indexOf_0f7a4_6 ⟨_, rfl, rfl⟩ (Nat.zero_le _) (Nat.zero_le _) ⟨_, rfl, q1 k hk⟩ | exact AW.iret dJ0_indexOf_0f7a4_6 ⟨_, rfl, rfl⟩ (Nat.zero_le _) (Nat.zero_le _) ⟨_, rfl, q2 hk⟩
end TextM
