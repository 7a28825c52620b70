-- the model's own calls, third part: change, backs
def swK (N : Nat → Nat) (i j q : Nat) : Nat → Nat := fun k => if 2 ≤ k ∧ k < 2 + q then sw i j (N k) else N k
def siK (N : Nat → Nat) (w q : Nat) : Nat → Nat := fun k => if 18 ≤ k ∧ k < 18 + q ∧ w.testBit (k - 18) then 0 else N k
theorem siK_si {N : Nat → Nat} {w : Nat} (h8 : N 47 ≤ 8) (hw : w < 2 ^ N 47) (k : Nat) : siN N w k = siK N w (N 47) k := by
  unfold siN siK
  by_cases h : k < 18 + N 47
  · by_cases h2 : 18 ≤ k ∧ w.testBit (k - 18) = true
    · rw [if_pos ⟨h2.1, by omega, h2.2⟩, if_pos ⟨h2.1, h, h2.2⟩]
    · rw [if_neg (fun h3 => h2 ⟨h3.1, h3.2.2⟩), if_neg (fun h3 => h2 ⟨h3.1, h3.2.2⟩)]
  · rw [if_neg (fun h3 => absurd h3.2.2 ?_), if_neg (by omega)]
    rw [Nat.testBit_lt_two_pow (Nat.lt_of_lt_of_le hw (Nat.pow_le_pow_right (by decide) (by omega)))]
    decide
theorem popc_lt : ∀ (n u : Nat), n ≤ 8 → u < 2 ^ n → popc u ≤ n := by
  have key : ∀ (n : Fin 9) (u : Fin 256), u.val < 2 ^ n.val → popc u.val ≤ n.val := by decide +kernel
  intro n u hn hu
  have : 2 ^ n ≤ 2 ^ 8 := Nat.pow_le_pow_right (by decide) hn
  exact key ⟨n, by omega⟩ ⟨u, by omega⟩ hu
theorem pow_nt {n : Nat} (h : n ≤ 8) : 2 ^ n ≤ 256 := by have : 2 ^ n ≤ 2 ^ 8 := Nat.pow_le_pow_right (by decide) h; omega
section Mod3
variable {X : Nat × (Nat → Int32)} {I : sd_I} {J : sd_J} {N : Nat → Nat} {Q : Int32 → sd_S → Prop}
theorem lpT_X12_change {n w i j few : Nat} {b : Int32} {I0 : sd_I} (hV : NV N) (hi : i < 4) (hj : j < 4) (hM0 : MD I0 N) {Q : Option Int32 → sd_S → Prop} (K : ∀ I' v7 v8, v7.category = 1 → v8.category = 1 → AS I0 I' 176 64 (swK N i j (N 47)) → AW muX12_change 0 0 127 [.ref 170, .int (nI n), .int (nI w), .int (nI few), .int b, .int (nI i), .int (nI j), v7, v8] [] (sk0, X, I', J) Q) : ∀ (m q : Nat) (I : sd_I) (v8 : Value), v8.category = 1 → N 47 - q < m → q ≤ N 47 → AS I0 I 176 64 (swK N i j q) → AW muX12_change 0 0 63 [.ref 170, .int (nI n), .int (nI w), .int (nI few), .int b, .int (nI i), .int (nI j), .int (nI q), v8] [] (sk0, X, I, J) Q := by
  have h8 := hV.t8
  intro m
  induction m with
  | zero => intros; omega
  | succ m ih =>
    intro q I v8 hv8 hm hq hA
    have hM : MD I N := fun k hk => by rw [hA.f 175 (by omega)]; exact hM0 k hk
    refine AW.iload dX12_change_63 rfl ?_
    refine AW.aload_n dX12_change_65 rfl rfl ?_
    refine g12_7 dX12_change_66 wF_X12_23 (by first | assumption | rfl | (unfold is12; omega)) ?_
    refine AW.bipush (v := nI 47) dX12_change_69 (by decide) ?_
    refine AW.iald dX12_change_71 (by first | exact k0_175) _ (by first | rfl | assumption) (by omega) (by first | decide | omega) ?_
    refine AW.top (hM 47 (by decide)) ?_
    first | refine AW.icmp_geN (tgt := 127) dX12_change_72 (by decide) (by omega) (by omega) (fun c72 => ?_) (fun c72 => ?_) | refine AW.icmp_ge (tgt := 127) dX12_change_72 (by decide) (fun c72 => ?_) (fun c72 => ?_)
    · obtain rfl : q = N 47 := by omega
      exact K I _ _ rfl hv8 hA
    · have hp := hV.pl c72
      refine AW.aload_n dX12_change_75 rfl rfl ?_
      show AW muX12_change _ _ 76 _ _ _ _
      refine g12_7 dX12_change_76 wF_X12_23 (by first | assumption | rfl | (unfold is12; omega)) ?_
      refine AW.iconst (v := nI 2) dX12_change_79 (by decide) ?_
      refine AW.iload dX12_change_80 rfl ?_
      first | refine AW.iaddN dX12_change_82 ?_ | refine AW.iadd dX12_change_82 ?_
      refine AW.iald dX12_change_83 (by first | exact k0_175) _ (by first | rfl | assumption) (by omega) (by first | decide | omega) ?_
      refine AW.top (hM _ (by omega)) ?_
      refine AW.istore dX12_change_84 (by decide) rfl rfl ?_
      show AW muX12_change _ _ 86 _ _ _ _
      refine AW.aload_n dX12_change_86 rfl rfl ?_
      refine g12_8 dX12_change_87 wF_X12_26 (by first | assumption | rfl | (unfold is12; omega)) ?_
      refine AW.iconst (v := nI 2) dX12_change_90 (by decide) ?_
      refine AW.iload dX12_change_91 rfl ?_
      first | refine AW.iaddN dX12_change_93 ?_ | refine AW.iadd dX12_change_93 ?_
      refine AW.iload dX12_change_94 rfl ?_
      show AW muX12_change _ _ 96 _ _ _ _
      refine AW.iload dX12_change_96 rfl ?_
      first | refine AW.icmp_neN (tgt := 106) dX12_change_98 (by decide) (by omega) (by omega) (fun c98 => ?_) (fun c98 => ?_) | refine AW.icmp_ne (tgt := 106) dX12_change_98 (by decide) (fun c98 => ?_) (fun c98 => ?_)
      · refine AW.iload dX12_change_106 rfl ?_
        refine AW.iload dX12_change_108 rfl ?_
        first | refine AW.icmp_neN (tgt := 118) dX12_change_110 (by decide) (by omega) (by omega) (fun c110 => ?_) (fun c110 => ?_) | refine AW.icmp_ne (tgt := 118) dX12_change_110 (by decide) (fun c110 => ?_) (fun c110 => ?_)
        · refine AW.iload dX12_change_118 rfl ?_
          have hsw : ∀ v, v = sw i j (N (2 + q)) → AW muX12_change 0 0 120 [.ref 170, .int (nI n), .int (nI w), .int (nI few), .int b, .int (nI i), .int (nI j), .int (nI q), .int (nI (N (2 + q)))] [.int (nI v), .int (nI (2 + q)), .ref 176] (sk0, X, I, J) Q := fun v hv => by
            refine AW.ast dX12_change_120 isA_176 hA (by omega) (fun I1 h1 => ?_)
            refine AW.iincN dX12_change_121 rfl (by decide) rfl rfl ?_
            refine AW.goto (tgt := 63) dX12_change_124 (by decide) ?_
            refine ih (q + 1) I1 _ rfl (by omega) (by omega) (h1.to (fun k _ => ?_))
            subst hv
            by_cases e : k = 2 + q
            · subst e; rw [upN_eq]; unfold swK; rw [if_pos (by omega)]
            · rw [upN_ne e]; unfold swK
              by_cases e2 : 2 ≤ k ∧ k < 2 + q
              · rw [if_pos e2, if_pos (by omega)]
              · rw [if_neg e2, if_neg (by omega)]
          first
            | exact hsw j (by unfold sw; rw [if_pos c98])
            | exact hsw i (by unfold sw; rw [if_neg c98, if_pos c110])
            | exact hsw (N (2 + q)) (by unfold sw; rw [if_neg c98, if_neg c110])
        · refine AW.iload dX12_change_113 rfl ?_
          refine AW.goto (tgt := 120) dX12_change_115 (by decide) ?_
          have hsw : ∀ v, v = sw i j (N (2 + q)) → AW muX12_change 0 0 120 [.ref 170, .int (nI n), .int (nI w), .int (nI few), .int b, .int (nI i), .int (nI j), .int (nI q), .int (nI (N (2 + q)))] [.int (nI v), .int (nI (2 + q)), .ref 176] (sk0, X, I, J) Q := fun v hv => by
            refine AW.ast dX12_change_120 isA_176 hA (by omega) (fun I1 h1 => ?_)
            refine AW.iincN dX12_change_121 rfl (by decide) rfl rfl ?_
            refine AW.goto (tgt := 63) dX12_change_124 (by decide) ?_
            refine ih (q + 1) I1 _ rfl (by omega) (by omega) (h1.to (fun k _ => ?_))
            subst hv
            by_cases e : k = 2 + q
            · subst e; rw [upN_eq]; unfold swK; rw [if_pos (by omega)]
            · rw [upN_ne e]; unfold swK
              by_cases e2 : 2 ≤ k ∧ k < 2 + q
              · rw [if_pos e2, if_pos (by omega)]
              · rw [if_neg e2, if_neg (by omega)]
          first
            | exact hsw j (by unfold sw; rw [if_pos c98])
            | exact hsw i (by unfold sw; rw [if_neg c98, if_pos c110])
            | exact hsw (N (2 + q)) (by unfold sw; rw [if_neg c98, if_neg c110])
      · refine AW.iload dX12_change_101 rfl ?_
        show AW muX12_change _ _ 103 _ _ _ _
        refine AW.goto (tgt := 120) dX12_change_103 (by decide) ?_
        have hsw : ∀ v, v = sw i j (N (2 + q)) → AW muX12_change 0 0 120 [.ref 170, .int (nI n), .int (nI w), .int (nI few), .int b, .int (nI i), .int (nI j), .int (nI q), .int (nI (N (2 + q)))] [.int (nI v), .int (nI (2 + q)), .ref 176] (sk0, X, I, J) Q := fun v hv => by
          refine AW.ast dX12_change_120 isA_176 hA (by omega) (fun I1 h1 => ?_)
          refine AW.iincN dX12_change_121 rfl (by decide) rfl rfl ?_
          refine AW.goto (tgt := 63) dX12_change_124 (by decide) ?_
          refine ih (q + 1) I1 _ rfl (by omega) (by omega) (h1.to (fun k _ => ?_))
          subst hv
          by_cases e : k = 2 + q
          · subst e; rw [upN_eq]; unfold swK; rw [if_pos (by omega)]
          · rw [upN_ne e]; unfold swK
            by_cases e2 : 2 ≤ k ∧ k < 2 + q
            · rw [if_pos e2, if_pos (by omega)]
            · rw [if_neg e2, if_neg (by omega)]
        first
          | exact hsw j (by unfold sw; rw [if_pos c98])
          | exact hsw i (by unfold sw; rw [if_neg c98, if_pos c110])
          | exact hsw (N (2 + q)) (by unfold sw; rw [if_neg c98, if_neg c110])
theorem ch_wk {n i j : Nat} {I0 I : sd_I} (hV : NV N) (h9 : N 0 ≤ 9999) (hn : n ≤ 40) (hi : i < 4) (hj : j < 4) (hA : AS I0 I 176 64 (swK N i j (N 47))) (hQ : ∀ I', AS I0 I' 176 64 (goK (swK N i j (N 47)) n) → Q (nI (chW N n i j)) (sk0, X, I', J)) : AWi muX12_wokenOn [.ref 170, .int (nI n)] (sk0, X, I, J) Q := by
  have h5 := hV.s5
  have h8 := hV.t8
  have e : ∀ k, k < 2 ∨ 10 ≤ k → swK N i j (N 47) k = N k := fun k hk => by unfold swK; rw [if_neg (by omega)]
  have e2 : ∀ t, t < N 47 → swK N i j (N 47) (2 + t) = sw i j (N (2 + t)) := fun t ht => by unfold swK; rw [if_pos (by omega)]
  have hVr : NV (swK N i j (N 47)) := hV.rooms (fun k hk _ => e k hk) (fun t ht => by rw [e2 t ht]; exact sw_lt hi hj (hV.pl ht))
  have hd := goK_wks hVr n (by rw [e 0 (by omega)]; omega)
  rw [oWs_congr (N := N) (pl := fun q => sw i j (N (2 + q))) h5 h8 (fun k hk => e k (by omega)) (fun q hq => by unfold pl0; exact e2 q hq) n] at hd
  exact s_X12_wokenOn hVr (by rw [e 0 (by omega)]; omega) (by omega) hd hA hQ
theorem lpJ_X12_change {n w i : Nat} {I0 : sd_I} (hV : NV N) (h9 : N 0 ≤ 9999) (hn : n ≤ 40) (hi : i < 4) (hM0 : MD I0 N) {Q : Option Int32 → sd_S → Prop} : ∀ (m j : Nat) (I : sd_I) (st : Int32 × Nat) (v7 v8 : Value), v7.category = 1 → v8.category = 1 → 4 - j < m → j ≤ 4 → st.2 ≤ 200 → Fr I0 I 176 176 → (∀ I' v7 v8, v7.category = 1 → v8.category = 1 → (chJ (chW N n) i (4 - j) j st).2 ≤ 200 → Fr I0 I' 176 176 → AW muX12_change 0 0 174 [.ref 170, .int (nI n), .int (nI w), .int (nI (chJ (chW N n) i (4 - j) j st).2), .int (chJ (chW N n) i (4 - j) j st).1, .int (nI i), .int (nI 4), v7, v8] [] (sk0, X, I', J) Q) → AW muX12_change 0 0 50 [.ref 170, .int (nI n), .int (nI w), .int (nI st.2), .int st.1, .int (nI i), .int (nI j), v7, v8] [] (sk0, X, I, J) Q := by
  have h5 := hV.s5
  intro m
  induction m with
  | zero => intros; omega
  | succ m ih =>
    intro j I st v7 v8 hv7 hv8 hm hj hst hF K
    have hM : MD I N := fun k hk => by rw [hF 175 (by omega)]; exact hM0 k hk
    have hle : chW N n i j ≤ 200 := by have := oWs_le (N := N) (pl := fun q => sw i j (N (2 + q))) h5 n; unfold chW; omega
    refine AW.iload dX12_change_50 rfl ?_
    refine AW.iconst (v := nI 4) dX12_change_52 (by decide) ?_
    first | refine AW.icmp_geN (tgt := 174) dX12_change_53 (by decide) (by omega) (by omega) (fun c53 => ?_) (fun c53 => ?_) | refine AW.icmp_ge (tgt := 174) dX12_change_53 (by decide) (fun c53 => ?_) (fun c53 => ?_)
    · obtain rfl : j = 4 := by omega
      exact K I _ _ hv7 hv8 hst hF
    · rw [show 4 - j = (4 - (j + 1)) + 1 by omega, chJ_succ] at K
      refine AW.aload_n dX12_change_56 rfl rfl ?_
      refine cs_X12_change_57 (by first | exact k0_170) (by decide) (by decide) (Nat.le_of_ble_eq_true rfl) (s_X12_begin (N := N) (fun k hk => hM k (by omega)) (fun I1 h1 => ?_))
      refine AW.iconst (v := nI 0) dX12_change_60 (by decide) ?_
      refine AW.istore dX12_change_61 (by decide) rfl rfl ?_
      show AW muX12_change _ _ 63 _ _ _ _
      refine lpT_X12_change (I0 := I) hV hi c53 hM (fun I2 v7' v8' hv7' hv8' h2 => ?_) (N 47 + 1) 0 I1 v8 hv8 (by omega) (by omega) (h1.to (fun k _ => by unfold swK; rw [if_neg (by omega)]))
      refine AW.aload_n dX12_change_127 rfl rfl ?_
      refine AW.iload_n dX12_change_128 rfl rfl ?_
      refine cs_X12_change_129 (by first | exact k0_170) (by decide) (by decide) (Nat.le_of_ble_eq_true rfl) (ch_wk hV h9 hn hi c53 h2 (fun I3 h3 => ?_))
      refine AW.istore dX12_change_132 (by decide) rfl rfl ?_
      refine AW.iload dX12_change_134 rfl ?_
      refine AW.iload_n dX12_change_136 rfl rfl ?_
      show AW muX12_change _ _ 137 _ _ _ _
      first | refine AW.icmp_geN (tgt := 151) dX12_change_137 (by decide) (by omega) (by omega) (fun c137 => ?_) (fun c137 => ?_) | refine AW.icmp_ge (tgt := 151) dX12_change_137 (by decide) (fun c137 => ?_) (fun c137 => ?_)
      · refine AW.iload dX12_change_151 rfl ?_
        refine AW.istore dX12_change_153 (by decide) rfl rfl ?_
        refine AW.iload dX12_change_155 rfl ?_
        refine AW.iload_n dX12_change_157 rfl rfl ?_
        first | refine AW.icmp_geN (tgt := 166) dX12_change_158 (by decide) (by omega) (by omega) (fun c158 => ?_) (fun c158 => ?_) | refine AW.icmp_ge (tgt := 166) dX12_change_158 (by decide) (fun c158 => ?_) (fun c158 => ?_)
        · refine AW.iload_n dX12_change_166 rfl rfl ?_
          refine AW.istore_n dX12_change_167 rfl (by decide) rfl rfl ?_
          show AW muX12_change _ _ 168 _ _ _ _
          first | refine AW.iincN dX12_change_168 rfl (by decide) rfl rfl ?_ | refine AW.iinc dX12_change_168 rfl rfl (by decide) rfl rfl ?_
          refine AW.goto (tgt := 50) dX12_change_171 (by decide) ?_
          have hs : chS (chW N n) i j st = if chW N n i j < st.2 then (nI (10 * i + j), chW N n i j) else st := rfl
          first
            | (rw [if_pos c137] at hs
               exact ih (j + 1) I3 (nI (10 * i + j), chW N n i j) _ _ rfl hv8' (by omega) (by omega) hle (hF.tr h3.f) (by rw [hs] at K; exact K))
            | (rw [if_neg (by omega)] at hs
               exact ih (j + 1) I3 st _ _ rfl hv8' (by omega) (by omega) hst (hF.tr h3.f) (by rw [hs] at K; exact K))
            | omega
        · refine AW.iload dX12_change_161 rfl ?_
          refine AW.goto (tgt := 167) dX12_change_163 (by decide) ?_
          refine AW.istore_n dX12_change_167 rfl (by decide) rfl rfl ?_
          first | refine AW.iincN dX12_change_168 rfl (by decide) rfl rfl ?_ | refine AW.iinc dX12_change_168 rfl rfl (by decide) rfl rfl ?_
          refine AW.goto (tgt := 50) dX12_change_171 (by decide) ?_
          have hs : chS (chW N n) i j st = if chW N n i j < st.2 then (nI (10 * i + j), chW N n i j) else st := rfl
          first
            | (rw [if_pos c137] at hs
               exact ih (j + 1) I3 (nI (10 * i + j), chW N n i j) _ _ rfl hv8' (by omega) (by omega) hle (hF.tr h3.f) (by rw [hs] at K; exact K))
            | (rw [if_neg (by omega)] at hs
               exact ih (j + 1) I3 st _ _ rfl hv8' (by omega) (by omega) hst (hF.tr h3.f) (by rw [hs] at K; exact K))
            | omega
      · refine AW.bipush (v := nI 10) dX12_change_140 (by decide) ?_
        refine AW.iload dX12_change_142 rfl ?_
        show AW muX12_change _ _ 144 _ _ _ _
        first | refine AW.imulN dX12_change_144 ?_ | refine AW.imul dX12_change_144 ?_
        refine AW.iload dX12_change_145 rfl ?_
        first | refine AW.iaddN dX12_change_147 ?_ | refine AW.iadd dX12_change_147 ?_
        refine AW.goto (tgt := 153) dX12_change_148 (by decide) ?_
        refine AW.istore dX12_change_153 (by decide) rfl rfl ?_
        refine AW.iload dX12_change_155 rfl ?_
        refine AW.iload_n dX12_change_157 rfl rfl ?_
        show AW muX12_change _ _ 158 _ _ _ _
        first | refine AW.icmp_geN (tgt := 166) dX12_change_158 (by decide) (by omega) (by omega) (fun c158 => ?_) (fun c158 => ?_) | refine AW.icmp_ge (tgt := 166) dX12_change_158 (by decide) (fun c158 => ?_) (fun c158 => ?_)
        · refine AW.iload_n dX12_change_166 rfl rfl ?_
          refine AW.istore_n dX12_change_167 rfl (by decide) rfl rfl ?_
          first | refine AW.iincN dX12_change_168 rfl (by decide) rfl rfl ?_ | refine AW.iinc dX12_change_168 rfl rfl (by decide) rfl rfl ?_
          refine AW.goto (tgt := 50) dX12_change_171 (by decide) ?_
          have hs : chS (chW N n) i j st = if chW N n i j < st.2 then (nI (10 * i + j), chW N n i j) else st := rfl
          first
            | (rw [if_pos c137] at hs
               exact ih (j + 1) I3 (nI (10 * i + j), chW N n i j) _ _ rfl hv8' (by omega) (by omega) hle (hF.tr h3.f) (by rw [hs] at K; exact K))
            | (rw [if_neg (by omega)] at hs
               exact ih (j + 1) I3 st _ _ rfl hv8' (by omega) (by omega) hst (hF.tr h3.f) (by rw [hs] at K; exact K))
            | omega
        · refine AW.iload dX12_change_161 rfl ?_
          refine AW.goto (tgt := 167) dX12_change_163 (by decide) ?_
          refine AW.istore_n dX12_change_167 rfl (by decide) rfl rfl ?_
          first | refine AW.iincN dX12_change_168 rfl (by decide) rfl rfl ?_ | refine AW.iinc dX12_change_168 rfl rfl (by decide) rfl rfl ?_
          show AW muX12_change _ _ 171 _ _ _ _
          refine AW.goto (tgt := 50) dX12_change_171 (by decide) ?_
          have hs : chS (chW N n) i j st = if chW N n i j < st.2 then (nI (10 * i + j), chW N n i j) else st := rfl
          first
            | (rw [if_pos c137] at hs
               exact ih (j + 1) I3 (nI (10 * i + j), chW N n i j) _ _ rfl hv8' (by omega) (by omega) hle (hF.tr h3.f) (by rw [hs] at K; exact K))
            | (rw [if_neg (by omega)] at hs
               exact ih (j + 1) I3 st _ _ rfl hv8' (by omega) (by omega) hst (hF.tr h3.f) (by rw [hs] at K; exact K))
            | omega
theorem lpI_X12_change {n w : Nat} {I0 : sd_I} (hV : NV N) (h9 : N 0 ≤ 9999) (hn : n ≤ 40) (hM0 : MD I0 N) {Q : Option Int32 → sd_S → Prop} : ∀ (m i : Nat) (I : sd_I) (st : Int32 × Nat) (v6 v7 v8 : Value), v6.category = 1 → v7.category = 1 → v8.category = 1 → 4 - i < m → i ≤ 4 → st.2 ≤ 200 → Fr I0 I 176 176 → (∀ I' v6 v7 v8, v6.category = 1 → v7.category = 1 → v8.category = 1 → (chI (chW N n) (4 - i) i st).2 ≤ 200 → Fr I0 I' 176 176 → AW muX12_change 0 0 180 [.ref 170, .int (nI n), .int (nI w), .int (nI (chI (chW N n) (4 - i) i st).2), .int (chI (chW N n) (4 - i) i st).1, .int (nI 4), v6, v7, v8] [] (sk0, X, I', J) Q) → AW muX12_change 0 0 38 [.ref 170, .int (nI n), .int (nI w), .int (nI st.2), .int st.1, .int (nI i), v6, v7, v8] [] (sk0, X, I, J) Q := by
  intro m
  induction m with
  | zero => intros; omega
  | succ m ih =>
    intro i I st v6 v7 v8 hv6 hv7 hv8 hm hi hst hF K
    refine AW.iload dX12_change_38 rfl ?_
    refine AW.iconst (v := nI 4) dX12_change_40 (by decide) ?_
    first | refine AW.icmp_geN (tgt := 180) dX12_change_41 (by decide) (by omega) (by omega) (fun c41 => ?_) (fun c41 => ?_) | refine AW.icmp_ge (tgt := 180) dX12_change_41 (by decide) (fun c41 => ?_) (fun c41 => ?_)
    · obtain rfl : i = 4 := by omega
      exact K I _ _ _ hv6 hv7 hv8 hst hF
    · refine AW.iload dX12_change_44 rfl ?_
      refine AW.iconst (v := nI 1) dX12_change_46 (by decide) ?_
      first | refine AW.iaddN dX12_change_47 ?_ | refine AW.iadd dX12_change_47 ?_
      refine AW.istore dX12_change_48 (by decide) rfl rfl ?_
      show AW muX12_change _ _ 50 _ _ _ _
      rw [show 4 - i = (4 - (i + 1)) + 1 by omega, chI_succ] at K
      refine lpJ_X12_change hV h9 hn c41 hM0 5 (i + 1) I st v7 v8 hv7 hv8 (by omega) (by omega) hst hF (fun I1 v7' v8' hv7' hv8' hst' hF' => ?_)
      rw [show 4 - (i + 1) = 3 - i by omega] at hst' ⊢
      refine AW.iincN dX12_change_174 rfl (by decide) rfl rfl ?_
      refine AW.goto (tgt := 38) dX12_change_177 (by decide) ?_
      exact ih (i + 1) I1 _ _ _ _ rfl hv7' hv8' (by omega) (by omega) hst' hF' K
theorem m_change {x y : Int32} (hV : NV N) (h9 : N 0 ≤ 9999) (hM : MD I N) (q1 : ¬ (inR x 1 41 ∧ inR y 0 2) → Q (-1) (sk0, X, I, J)) (q2 : ∀ n w, 1 ≤ n → n < 41 → w < 2 → x = nI n → y = nI w → ∀ I', Fr I I' 176 176 → Q (if (chI (chW N n) 4 0 (-4, oWs N (pl0 N) n)).1 = -4 ∨ w = 0 then (chI (chW N n) 4 0 (-4, oWs N (pl0 N) n)).1 else nI (chI (chW N n) 4 0 (-4, oWs N (pl0 N) n)).2) (sk0, X, I', J)) : AWi muX12_change [.ref 170, .int x, .int y] (sk0, X, I, J) Q := by
  have h5 := hV.s5
  show AW muX12_change 0 0 0 [.ref 170, .int x, .int y, .null, .null, .null, .null, .null, .null] [] _ _
  refine AW.iload_n dX12_change_0 rfl rfl ?_
  refine AW.iconst (v := nI 1) dX12_change_1 (by decide) ?_
  refine AW.bipush (v := nI 40) dX12_change_2 (by decide) ?_
  refine cs_X12_change_4 (by decide) (by decide) (Nat.le_of_ble_eq_true rfl) (s_X12_in (lo := 1) (hi := 41) (by decide) (by decide) (by decide) (fun n hn1 hn2 ex => ?_) (fun hn => ?_))
  · refine AW.ifeq1 (tgt := 19) dX12_change_7 (by decide) ?_
    refine AW.iload_n dX12_change_10 rfl rfl ?_
    refine AW.iconst (v := nI 0) dX12_change_11 (by decide) ?_
    refine AW.iconst (v := nI 1) dX12_change_12 (by decide) ?_
    show AW muX12_change _ _ 13 _ _ _ _
    refine cs_X12_change_13 (by decide) (by decide) (Nat.le_of_ble_eq_true rfl) (s_X12_in (lo := 0) (hi := 2) (by decide) (by decide) (by decide) (fun w _ hw ey => ?_) (fun hn => ?_))
    · refine AW.ifne1 (tgt := 21) dX12_change_16 (by decide) ?_
      subst ex; subst ey
      have hle := oWs_le (N := N) (pl := pl0 N) h5 n
      refine AW.aload_n dX12_change_21 rfl rfl ?_
      refine cs_X12_change_22 (by first | exact k0_170) (by decide) (by decide) (Nat.le_of_ble_eq_true rfl) (s_X12_begin (N := N) (fun k hk => hM k (by omega)) (fun I1 h1 => ?_))
      refine AW.aload_n dX12_change_25 rfl rfl ?_
      refine AW.iload_n dX12_change_26 rfl rfl ?_
      refine cs_X12_change_27 (by first | exact k0_170) (by decide) (by decide) (Nat.le_of_ble_eq_true rfl) (s_X12_wokenOn hV (by omega) (by omega) (goK_wks hV n (by omega)) h1 (fun I2 h2 => ?_))
      refine AW.istore_n dX12_change_30 rfl (by decide) rfl rfl ?_
      show AW muX12_change _ _ 31 _ _ _ _
      refine AW.bipush (v := (-4)) dX12_change_31 (by decide) ?_
      refine AW.istore dX12_change_33 (by decide) rfl rfl ?_
      refine AW.iconst (v := nI 0) dX12_change_35 (by decide) ?_
      refine AW.istore dX12_change_36 (by decide) rfl rfl ?_
      refine lpI_X12_change hV h9 (by omega) hM 5 0 I2 (-4, oWs N (pl0 N) n) .null .null .null rfl rfl rfl (by decide) (by decide) (by dsimp only; omega) h2.f (fun I3 v6 v7 v8 _ _ _ hb f3 => ?_)
      have hq := q2 n w hn1 hn2 hw rfl rfl I3 f3
      rw [show 4 - 0 = 4 from rfl] at hb ⊢
      generalize chI (chW N n) 4 0 (-4, oWs N (pl0 N) n) = st at hq hb ⊢
      refine AW.iload dX12_change_180 rfl ?_
      refine AW.bipush (v := (-4)) dX12_change_182 (by decide) ?_
      show AW muX12_change _ _ 184 _ _ _ _
      refine AW.icmp_eq (tgt := 191) dX12_change_184 (by decide) (fun c184 => ?_) (fun c184 => ?_)
      · refine AW.iload dX12_change_191 rfl ?_
        refine AW.goto (tgt := 197) dX12_change_193 (by decide) ?_
        refine AW.iret dX12_change_197 ⟨_, rfl, rfl⟩ (Nat.zero_le _) (Nat.zero_le _) ⟨_, rfl, ?_⟩
        first | (rw [if_pos (Or.inl c184)] at hq; exact hq) | (rw [if_pos (Or.inr c188)] at hq; exact hq) | (rw [if_neg (fun h => h.elim c184 c188)] at hq; exact hq)
      · refine AW.iload_n dX12_change_187 rfl rfl ?_
        first | refine AW.if_neN (tgt := 196) dX12_change_188 (by decide) (by omega) (fun c188 => ?_) (fun c188 => ?_) | refine AW.if_ne (tgt := 196) dX12_change_188 (by decide) (fun c188 => ?_) (fun c188 => ?_)
        · refine AW.iload_n dX12_change_196 rfl rfl ?_
          refine AW.iret dX12_change_197 ⟨_, rfl, rfl⟩ (Nat.zero_le _) (Nat.zero_le _) ⟨_, rfl, ?_⟩
          first | (rw [if_pos (Or.inl c184)] at hq; exact hq) | (rw [if_pos (Or.inr c188)] at hq; exact hq) | (rw [if_neg (fun h => h.elim c184 c188)] at hq; exact hq)
        · refine AW.iload dX12_change_191 rfl ?_
          refine AW.goto (tgt := 197) dX12_change_193 (by decide) ?_
          refine AW.iret dX12_change_197 ⟨_, rfl, rfl⟩ (Nat.zero_le _) (Nat.zero_le _) ⟨_, rfl, ?_⟩
          first | (rw [if_pos (Or.inl c184)] at hq; exact hq) | (rw [if_pos (Or.inr c188)] at hq; exact hq) | (rw [if_neg (fun h => h.elim c184 c188)] at hq; exact hq)
    · refine AW.ifne0 (tgt := 21) dX12_change_16 (by decide) ?_
      refine AW.iconst (v := (-1)) dX12_change_19 (by decide) ?_
      refine AW.iret dX12_change_20 ⟨_, rfl, rfl⟩ (Nat.zero_le _) (Nat.zero_le _) ⟨_, rfl, ?_⟩
      first | exact q1 (fun h => hn h.1) | exact q1 (fun h => hn h.2)
  · refine AW.ifeq0 (tgt := 19) dX12_change_7 (by decide) ?_
    refine AW.iconst (v := (-1)) dX12_change_19 (by decide) ?_
    show AW muX12_change _ _ 20 _ _ _ _
    refine AW.iret dX12_change_20 ⟨_, rfl, rfl⟩ (Nat.zero_le _) (Nat.zero_le _) ⟨_, rfl, ?_⟩
    first | exact q1 (fun h => hn h.1) | exact q1 (fun h => hn h.2)
theorem lpT_X12_backs {n w u : Nat} {b : Int32} {I0 : sd_I} (hV : NV N) (hu : u < 256) (hM0 : MD I0 N) {Q : Option Int32 → sd_S → Prop} (K : ∀ I' v5, v5.category = 1 → AS I0 I' 176 64 (siK N u (N 47)) → AW muX12_backs 0 0 118 [.ref 170, .int (nI n), .int (nI w), .int b, .int (nI u), v5] [] (sk0, X, I', J) Q) : ∀ (m q : Nat) (I : sd_I), N 47 - q < m → q ≤ N 47 → AS I0 I 176 64 (siK N u q) → AW muX12_backs 0 0 66 [.ref 170, .int (nI n), .int (nI w), .int b, .int (nI u), .int (nI q)] [] (sk0, X, I, J) Q := by
  have h8 := hV.t8
  intro m
  induction m with
  | zero => intros; omega
  | succ m ih =>
    intro q I hm hq hA
    have hM : MD I N := fun k hk => by rw [hA.f 175 (by omega)]; exact hM0 k hk
    have e18 : siK N u q (18 + q) = N (18 + q) := by unfold siK; rw [if_neg (by omega)]
    refine AW.iload dX12_backs_66 rfl ?_
    refine AW.aload_n dX12_backs_68 rfl rfl ?_
    refine g12_7 dX12_backs_69 wF_X12_23 (by first | assumption | rfl | (unfold is12; omega)) ?_
    refine AW.bipush (v := nI 47) dX12_backs_72 (by decide) ?_
    refine AW.iald dX12_backs_74 (by first | exact k0_175) _ (by first | rfl | assumption) (by omega) (by first | decide | omega) ?_
    refine AW.top (hM 47 (by decide)) ?_
    first | refine AW.icmp_geN (tgt := 118) dX12_backs_75 (by decide) (by omega) (by omega) (fun c75 => ?_) (fun c75 => ?_) | refine AW.icmp_ge (tgt := 118) dX12_backs_75 (by decide) (fun c75 => ?_) (fun c75 => ?_)
    · obtain rfl : q = N 47 := by omega
      exact K I _ rfl hA
    · refine AW.aload_n dX12_backs_78 rfl rfl ?_
      show AW muX12_backs _ _ 79 _ _ _ _
      refine g12_8 dX12_backs_79 wF_X12_26 (by first | assumption | rfl | (unfold is12; omega)) ?_
      refine AW.bipush (v := nI 18) dX12_backs_82 (by decide) ?_
      refine AW.iload dX12_backs_84 rfl ?_
      first | refine AW.iaddN dX12_backs_86 ?_ | refine AW.iadd dX12_backs_86 ?_
      refine AW.iload dX12_backs_87 rfl ?_
      refine AW.iload dX12_backs_89 rfl ?_
      show AW muX12_backs _ _ 91 _ _ _ _
      refine cs_X12_backs_91 (by decide) (by decide) (Nat.le_of_ble_eq_true rfl) (s_X12_has (by omega) (by omega) (fun hb => ?_) (fun hb => ?_))
      · refine AW.ifeq1 (tgt := 101) dX12_backs_94 (by decide) ?_
        refine AW.iconst (v := nI 0) dX12_backs_97 (by decide) ?_
        refine AW.goto (tgt := 111) dX12_backs_98 (by decide) ?_
        refine AW.ast dX12_backs_111 (by first | exact isA_175 | exact isA_176 | exact isA_177 | assumption) (by assumption) (by omega) (fun I111 hA111 => ?_)
        first | refine AW.iincN dX12_backs_112 rfl (by decide) rfl rfl ?_ | refine AW.iinc dX12_backs_112 rfl rfl (by decide) rfl rfl ?_
        refine AW.goto (tgt := 66) dX12_backs_115 (by decide) ?_
        refine ih (q + 1) I111 (by omega) (by omega) (hA111.to (fun k _ => ?_))
        by_cases e : k = 18 + q
        · subst e; rw [upN_eq]; unfold siK; rw [show 18 + q - 18 = q by omega]
          first | exact if_pos ⟨by omega, by omega, hb⟩ | exact if_neg (fun h => by rw [hb] at h; exact absurd h.2.2 (by decide))
        · rw [upN_ne e]; unfold siK
          by_cases e2 : 18 ≤ k ∧ k < 18 + q ∧ u.testBit (k - 18) = true
          · rw [if_pos e2, if_pos ⟨e2.1, by omega, e2.2.2⟩]
          · rw [if_neg e2, if_neg (fun h => e2 ⟨h.1, by omega, h.2.2⟩)]
      · refine AW.ifeq0 (tgt := 101) dX12_backs_94 (by decide) ?_
        refine AW.aload_n dX12_backs_101 rfl rfl ?_
        refine g12_8 dX12_backs_102 wF_X12_26 (by first | assumption | rfl | (unfold is12; omega)) ?_
        refine AW.bipush (v := nI 18) dX12_backs_105 (by decide) ?_
        show AW muX12_backs _ _ 107 _ _ _ _
        refine AW.iload dX12_backs_107 rfl ?_
        first | refine AW.iaddN dX12_backs_109 ?_ | refine AW.iadd dX12_backs_109 ?_
        refine AW.iald dX12_backs_110 (by first | exact k0_176) _ (by first | rfl | assumption) (by omega) (by first | decide | omega) ?_
        refine AW.top ((hA.g (by omega)).trans (congrArg nI e18)) ?_
        refine AW.ast dX12_backs_111 (by first | exact isA_175 | exact isA_176 | exact isA_177 | assumption) (by assumption) (by omega) (fun I111 hA111 => ?_)
        first | refine AW.iincN dX12_backs_112 rfl (by decide) rfl rfl ?_ | refine AW.iinc dX12_backs_112 rfl rfl (by decide) rfl rfl ?_
        refine AW.goto (tgt := 66) dX12_backs_115 (by decide) ?_
        refine ih (q + 1) I111 (by omega) (by omega) (hA111.to (fun k _ => ?_))
        by_cases e : k = 18 + q
        · subst e; rw [upN_eq]; unfold siK; rw [show 18 + q - 18 = q by omega]
          first | exact if_pos ⟨by omega, by omega, hb⟩ | exact if_neg (fun h => by rw [hb] at h; exact absurd h.2.2 (by decide))
        · rw [upN_ne e]; unfold siK
          by_cases e2 : 18 ≤ k ∧ k < 18 + q ∧ u.testBit (k - 18) = true
          · rw [if_pos e2, if_pos ⟨e2.1, by omega, e2.2.2⟩]
          · rw [if_neg e2, if_neg (fun h => e2 ⟨h.1, by omega, h.2.2⟩)]
/-- what the model's best set is so far -/
def bsP (N : Nat → Nat) (n u : Nat) (b : Int32) : Prop := (b = -4 ∧ ∀ v, v < u → ¬ quietP N n v) ∨ ∃ k, b = nI k ∧ k < u ∧ quietP N n k ∧ ∀ v, v < u → quietP N n v → popc k < popc v ∨ (popc v = popc k ∧ k ≤ v)
theorem nI_ne4 {k : Nat} (h : k < 2 ^ 31) : nI k ≠ -4 := by
  intro e
  have := congrArg Int32.toInt e
  rw [nI_toInt h] at this
  have h4 : Int32.toInt (-4) = -4 := by decide
  omega
theorem lp_X12_backs {n w : Nat} {I0 : sd_I} (hV : NV N) (h9 : N 0 ≤ 9999) (hn : n ≤ 40) (hM0 : MD I0 N) {Q : Option Int32 → sd_S → Prop} (K : ∀ I' b v5, v5.category = 1 → Fr I0 I' 176 176 → bsP N n (2 ^ N 47) b → AW muX12_backs 0 0 139 [.ref 170, .int (nI n), .int (nI w), .int b, .int (nI (2 ^ N 47)), v5] [] (sk0, X, I', J) Q) : ∀ (m u : Nat) (I : sd_I) (b : Int32) (v5 : Value), v5.category = 1 → 2 ^ N 47 - u < m → u ≤ 2 ^ N 47 → Fr I0 I 176 176 → bsP N n u b → AW muX12_backs 0 0 27 [.ref 170, .int (nI n), .int (nI w), .int b, .int (nI u), v5] [] (sk0, X, I, J) Q := by
  have h5 := hV.s5
  have h8 := hV.t8
  have hp := pow_nt h8
  intro m
  induction m with
  | zero => intros; omega
  | succ m ih =>
    intro u I b v5 hv5 hm hu hF hb
    have hM : MD I N := fun k hk => by rw [hF 175 (by omega)]; exact hM0 k hk
    have try' : u < 2 ^ N 47 → (quietP N n u → bsP N n (u + 1) (nI u)) → (¬ quietP N n u → bsP N n (u + 1) b) → AW muX12_backs 0 0 59 [.ref 170, .int (nI n), .int (nI w), .int b, .int (nI u), v5] [] (sk0, X, I, J) Q := by
      intro c38 y1 y2
      have eK := siK_si (w := u) h8 c38
      have eo : ∀ k, k < 18 ∨ 26 ≤ k → siN N u k = N k := fun k hk => by unfold siN; rw [if_neg (by omega)]
      have hVr : NV (siN N u) := hV.lefts (fun k hk _ => eo k hk) (fun t ht => by have := hV.lf ht; unfold siN; split <;> omega)
      have hd := goK_wks hVr n (by rw [eo 0 (by omega)]; omega)
      have hle := oWs_le (N := siN N u) (pl := pl0 (siN N u)) (by rw [eo 36 (by omega)]; exact h5) n
      have hqi := quiet_iff (N := N) h5 h8 (w := u) (n := n)
      generalize oWs (siN N u) (pl0 (siN N u)) n = d at hd hle hqi
      refine AW.aload_n dX12_backs_59 rfl rfl ?_
      refine cs_X12_backs_60 (by first | exact k0_170) (by decide) (by decide) (Nat.le_of_ble_eq_true rfl) (s_X12_begin (N := N) (fun k hk => hM k (by omega)) (fun I1 h1 => ?_))
      refine AW.iconst (v := nI 0) dX12_backs_63 (by decide) ?_
      refine AW.istore dX12_backs_64 (by decide) rfl rfl ?_
      refine lpT_X12_backs (I0 := I) hV (by omega) hM (fun I2 v5' hv5' h2 => ?_) (N 47 + 1) 0 I1 (by omega) (by omega) (h1.to (fun k _ => by unfold siK; rw [if_neg (by omega)]))
      have h3 := h2.to (fun k _ => eK k)
      refine AW.aload_n dX12_backs_118 rfl rfl ?_
      refine AW.iload_n dX12_backs_119 rfl rfl ?_
      show AW muX12_backs _ _ 120 _ _ _ _
      refine cs_X12_backs_120 (by first | exact k0_170) (by decide) (by decide) (Nat.le_of_ble_eq_true rfl) (s_X12_wokenOn hVr (by rw [eo 0 (by omega)]; omega) (by omega) hd h3 (fun I3 h3 => ?_))
      first | refine AW.if_neN (tgt := 131) dX12_backs_123 (by decide) (by omega) (fun c123 => ?_) (fun c123 => ?_) | refine AW.if_ne (tgt := 131) dX12_backs_123 (by decide) (fun c123 => ?_) (fun c123 => ?_)
      · refine AW.iload_n dX12_backs_131 rfl rfl ?_
        refine AW.istore_n dX12_backs_132 rfl (by decide) rfl rfl ?_
        first | refine AW.iincN dX12_backs_133 rfl (by decide) rfl rfl ?_ | refine AW.iinc dX12_backs_133 rfl rfl (by decide) rfl rfl ?_
        refine AW.goto (tgt := 27) dX12_backs_136 (by decide) ?_
        first | exact ih (u + 1) I3 _ _ hv5' (by omega) (by omega) (hF.tr h3.f) (y1 (hqi.mp c123)) | exact ih (u + 1) I3 _ _ hv5' (by omega) (by omega) (hF.tr h3.f) (y2 (fun h => c123 (hqi.mpr h)))
      · refine AW.iload dX12_backs_126 rfl ?_
        refine AW.goto (tgt := 132) dX12_backs_128 (by decide) ?_
        refine AW.istore_n dX12_backs_132 rfl (by decide) rfl rfl ?_
        show AW muX12_backs _ _ 133 _ _ _ _
        first | refine AW.iincN dX12_backs_133 rfl (by decide) rfl rfl ?_ | refine AW.iinc dX12_backs_133 rfl rfl (by decide) rfl rfl ?_
        refine AW.goto (tgt := 27) dX12_backs_136 (by decide) ?_
        first | exact ih (u + 1) I3 _ _ hv5' (by omega) (by omega) (hF.tr h3.f) (y1 (hqi.mp c123)) | exact ih (u + 1) I3 _ _ hv5' (by omega) (by omega) (hF.tr h3.f) (y2 (fun h => c123 (hqi.mpr h)))
    refine AW.iload dX12_backs_27 rfl ?_
    refine AW.iconst (v := nI 1) dX12_backs_29 (by decide) ?_
    refine AW.aload_n dX12_backs_30 rfl rfl ?_
    refine g12_7 dX12_backs_31 wF_X12_23 rfl ?_
    refine AW.bipush (v := nI 47) dX12_backs_34 (by decide) ?_
    refine AW.iald dX12_backs_36 k0_175 47 rfl (by decide) (by decide) ?_
    refine AW.top (hM 47 (by decide)) ?_
    refine AW.ishl dX12_backs_37 ?_
    refine AW.top (nI_shl1 (by omega)) ?_
    refine AW.icmp_geN (tgt := 139) dX12_backs_38 (by decide) (by omega) (by omega) (fun c38 => ?_) (fun c38 => ?_)
    · obtain rfl : u = 2 ^ N 47 := by omega
      exact K I b v5 hv5 hF hb
    show AW muX12_backs 0 0 41 _ _ _ _
    refine AW.iload_n dX12_backs_41 rfl rfl ?_
    refine AW.bipush (v := (-4)) dX12_backs_42 (by decide) ?_
    rcases hb with ⟨rfl, hb⟩ | ⟨k, rfl, hk, hq, hl⟩
    · refine AW.icmp_eq (tgt := 59) dX12_backs_44 (by decide) (fun _ => ?_) (fun c => absurd rfl c)
      refine try' c38 (fun hqu => Or.inr ⟨u, rfl, by omega, hqu, fun v hv hqv => ?_⟩) (fun hqu => Or.inl ⟨rfl, fun v hv => ?_⟩)
      · by_cases e : v = u
        · subst e; exact Or.inr ⟨rfl, Nat.le_refl _⟩
        · exact absurd hqv (hb v (by omega))
      · by_cases e : v = u
        · subst e; exact hqu
        · exact hb v (by omega)
    · refine AW.icmp_eq (tgt := 59) dX12_backs_44 (by decide) (fun c => absurd c (nI_ne4 (by omega))) (fun _ => ?_)
      have hpu := popc_le u
      have hpk := popc_le k
      refine AW.iload dX12_backs_47 rfl ?_
      refine cs_X12_backs_49 (by decide) (by decide) (Nat.le_of_ble_eq_true rfl) (s_X12_bits (by omega) ?_)
      refine AW.iload_n dX12_backs_52 rfl rfl ?_
      refine cs_X12_backs_53 (by decide) (by decide) (Nat.le_of_ble_eq_true rfl) (s_X12_bits (by omega) ?_)
      first | refine AW.icmp_geN (tgt := 133) dX12_backs_56 (by decide) (by omega) (by omega) (fun c56 => ?_) (fun c56 => ?_) | refine AW.icmp_ge (tgt := 133) dX12_backs_56 (by decide) (fun c56 => ?_) (fun c56 => ?_)
      · first | refine AW.iincN dX12_backs_133 rfl (by decide) rfl rfl ?_ | refine AW.iinc dX12_backs_133 rfl rfl (by decide) rfl rfl ?_
        refine AW.goto (tgt := 27) dX12_backs_136 (by decide) ?_
        refine ih (u + 1) I _ _ hv5 (by omega) (by omega) hF (Or.inr ⟨k, rfl, by omega, hq, fun v hv hqv => ?_⟩)
        by_cases e : v = u
        · subst e
          by_cases e2 : popc k = popc v
          · exact Or.inr ⟨e2.symm, by omega⟩
          · exact Or.inl (by omega)
        · exact hl v (by omega) hqv
      · refine try' c38 (fun hqu => Or.inr ⟨u, rfl, by omega, hqu, fun v hv hqv => ?_⟩) (fun hqu => Or.inr ⟨k, rfl, by omega, hq, fun v hv hqv => ?_⟩)
        · by_cases e : v = u
          · subst e; exact Or.inr ⟨rfl, Nat.le_refl _⟩
          · rcases hl v (by omega) hqv with h | h
            · exact Or.inl (by omega)
            · exact Or.inl (by omega)
        · by_cases e : v = u
          · subst e; exact absurd hqv hqu
          · exact hl v (by omega) hqv
theorem m_backs {x y : Int32} (hV : NV N) (h9 : N 0 ≤ 9999) (hM : MD I N) (q1 : ¬ (inR x 1 41 ∧ inR y 0 2) → Q (-1) (sk0, X, I, J)) (q2 : ∀ n w, 1 ≤ n → n < 41 → w < 2 → x = nI n → y = nI w → (∀ v, v < 2 ^ N 47 → ¬ quietP N n v) → ∀ I', Fr I I' 176 176 → Q (-4) (sk0, X, I', J)) (q3 : ∀ n w u, 1 ≤ n → n < 41 → w < 2 → x = nI n → y = nI w → leastP N n u → ∀ I', Fr I I' 176 176 → Q (nI (if w = 0 then popc u else u)) (sk0, X, I', J)) : AWi muX12_backs [.ref 170, .int x, .int y] (sk0, X, I, J) Q := by
  have h8 := hV.t8
  have hp := pow_nt h8
  show AW muX12_backs 0 0 0 [.ref 170, .int x, .int y, .null, .null, .null] [] _ _
  refine AW.iload_n dX12_backs_0 rfl rfl ?_
  refine AW.iconst (v := nI 1) dX12_backs_1 (by decide) ?_
  refine AW.bipush (v := nI 40) dX12_backs_2 (by decide) ?_
  refine cs_X12_backs_4 (by decide) (by decide) (Nat.le_of_ble_eq_true rfl) (s_X12_in (lo := 1) (hi := 41) (by decide) (by decide) (by decide) (fun n hn1 hn2 ex => ?_) (fun hn => ?_))
  · refine AW.ifeq1 (tgt := 19) dX12_backs_7 (by decide) ?_
    refine AW.iload_n dX12_backs_10 rfl rfl ?_
    refine AW.iconst (v := nI 0) dX12_backs_11 (by decide) ?_
    refine AW.iconst (v := nI 1) dX12_backs_12 (by decide) ?_
    show AW muX12_backs _ _ 13 _ _ _ _
    refine cs_X12_backs_13 (by decide) (by decide) (Nat.le_of_ble_eq_true rfl) (s_X12_in (lo := 0) (hi := 2) (by decide) (by decide) (by decide) (fun w _ hw ey => ?_) (fun hn => ?_))
    · refine AW.ifne1 (tgt := 21) dX12_backs_16 (by decide) ?_
      refine AW.bipush (v := (-4)) dX12_backs_21 (by decide) ?_
      refine AW.istore_n dX12_backs_23 rfl (by decide) rfl rfl ?_
      refine AW.iconst (v := nI 0) dX12_backs_24 (by decide) ?_
      refine AW.istore dX12_backs_25 (by decide) rfl rfl ?_
      subst ex; subst ey
      refine lp_X12_backs hV h9 (by omega) hM (fun I1 b v5 hv5 f1 hb => ?_) (2 ^ N 47 + 1) 0 I (-4) .null rfl (Nat.lt_succ_of_le (Nat.sub_le _ _)) (Nat.zero_le _) Fr.rf (Or.inl ⟨rfl, fun v hv => absurd hv (by omega)⟩)
      refine AW.iload_n dX12_backs_139 rfl rfl ?_
      refine AW.bipush (v := (-4)) dX12_backs_140 (by decide) ?_
      rcases hb with ⟨rfl, hb⟩ | ⟨k, rfl, hk, hq, hl⟩
      · refine AW.icmp_eq (tgt := 150) dX12_backs_142 (by decide) (fun _ => ?_) (fun c => absurd rfl c)
        refine AW.iload_n dX12_backs_150 rfl rfl ?_
        refine AW.goto (tgt := 158) dX12_backs_151 (by decide) ?_
        exact AW.iret dX12_backs_158 ⟨_, rfl, rfl⟩ (Nat.zero_le _) (Nat.zero_le _) ⟨_, rfl, q2 n w hn1 hn2 hw rfl rfl hb I1 f1⟩
      · refine AW.icmp_eq (tgt := 150) dX12_backs_142 (by decide) (fun c => absurd c (nI_ne4 (by omega))) (fun _ => ?_)
        have hq3 := q3 n w k hn1 hn2 hw rfl rfl ⟨hk, hq, hl⟩ I1 f1
        refine AW.iload_n dX12_backs_145 rfl rfl ?_
        refine AW.iconst (v := nI 1) dX12_backs_146 (by decide) ?_
        show AW muX12_backs _ _ 147 _ _ _ _
        first | refine AW.icmp_neN (tgt := 154) dX12_backs_147 (by decide) (by omega) (by omega) (fun c147 => ?_) (fun c147 => ?_) | refine AW.icmp_ne (tgt := 154) dX12_backs_147 (by decide) (fun c147 => ?_) (fun c147 => ?_)
        · refine AW.iload_n dX12_backs_154 rfl rfl ?_
          refine cs_X12_backs_155 (by decide) (by decide) (Nat.le_of_ble_eq_true rfl) (s_X12_bits (by omega) ?_)
          refine AW.iret dX12_backs_158 ⟨_, rfl, rfl⟩ (Nat.zero_le _) (Nat.zero_le _) ⟨_, rfl, ?_⟩
          first | (rw [if_neg (by omega)] at hq3; exact hq3) | (rw [if_pos (by omega)] at hq3; exact hq3)
        · refine AW.iload_n dX12_backs_150 rfl rfl ?_
          refine AW.goto (tgt := 158) dX12_backs_151 (by decide) ?_
          refine AW.iret dX12_backs_158 ⟨_, rfl, rfl⟩ (Nat.zero_le _) (Nat.zero_le _) ⟨_, rfl, ?_⟩
          first | (rw [if_neg (by omega)] at hq3; exact hq3) | (rw [if_pos (by omega)] at hq3; exact hq3)
    · refine AW.ifne0 (tgt := 21) dX12_backs_16 (by decide) ?_
      refine AW.iconst (v := (-1)) dX12_backs_19 (by decide) ?_
      refine AW.iret dX12_backs_20 ⟨_, rfl, rfl⟩ (Nat.zero_le _) (Nat.zero_le _) ⟨_, rfl, ?_⟩
      first | exact q1 (fun h => hn h.1) | exact q1 (fun h => hn h.2)
  · refine AW.ifeq0 (tgt := 19) dX12_backs_7 (by decide) ?_
    refine AW.iconst (v := (-1)) dX12_backs_19 (by decide) ?_
    refine AW.iret dX12_backs_20 ⟨_, rfl, rfl⟩ (Nat.zero_le _) (Nat.zero_le _) ⟨_, rfl, ?_⟩
    first | exact q1 (fun h => hn h.1) | exact q1 (fun h => hn h.2)
end Mod3
