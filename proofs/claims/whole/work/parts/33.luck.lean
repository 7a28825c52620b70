-- the class's own calls: luck
section Luck
variable {X : Nat × (Nat → Int32)} {I : sd_I} {J : sd_J} {N : Nat → Nat} {Q : Int32 → sd_S → Prop}
theorem lp1_X11_luck {s c z w : Nat} {v8 : Value} (hV : NV N) (hR : HR I 1 N) (hw : w < 2 ^ 31) {Q : Option Int32 → sd_S → Prop} (K : AW muX11_luck 0 0 108 [.ref 0, .int (nI s), .int (nI c), .int (nI z), .int (nI w), .int (nI 0), .int (nI (bel (fun t => w.testBit t) (N 47))), .int (nI (N 47)), v8] [] (sk0, X, I, J) Q) : ∀ (m i : Nat), N 47 - i < m → i ≤ N 47 → AW muX11_luck 0 0 69 [.ref 0, .int (nI s), .int (nI c), .int (nI z), .int (nI w), .int (nI 0), .int (nI (bel (fun t => w.testBit t) i)), .int (nI i), v8] [] (sk0, X, I, J) Q := by
  have h8 := hV.t8
  intro m
  induction m with
  | zero => intros; omega
  | succ m ih =>
    intro i hm hi
    refine AW.iload dX11_luck_69 rfl ?_
    refine AW.aload_n dX11_luck_71 rfl rfl ?_
    refine g11_0 dX11_luck_72 wF_X11_10 (by first | assumption | rfl | (unfold is11; omega)) ?_
    refine g2_8 dX11_luck_75 wF_X11_75 (by first | assumption | rfl | (unfold is2; omega)) ?_
    refine AW.top (hR.th) ?_
    first | refine AW.icmp_geN (tgt := 108) dX11_luck_78 (by decide) (by omega) (by omega) (fun c78 => ?_) (fun c78 => ?_) | refine AW.icmp_ge (tgt := 108) dX11_luck_78 (by decide) (fun c78 => ?_) (fun c78 => ?_)
    · obtain rfl : i = N 47 := by omega
      exact K
    · refine AW.iload dX11_luck_81 rfl ?_
      refine AW.iload dX11_luck_83 rfl ?_
      show AW muX11_luck _ _ 85 _ _ _ _
      refine AW.iload dX11_luck_85 rfl ?_
      refine cs_X11_luck_87 (by decide) (by decide) (Nat.le_of_ble_eq_true rfl) (s_X11_isIn hw (by omega) (fun hb => ?_) (fun hb => ?_))
      · refine AW.ifeq1 (tgt := 98) dX11_luck_90 (by decide) ?_
        refine AW.bipush (v := nI 10) dX11_luck_93 (by decide) ?_
        refine AW.goto (tgt := 99) dX11_luck_95 (by decide) ?_
        first | refine AW.imulN dX11_luck_99 ?_ | refine AW.imul dX11_luck_99 ?_
        refine AW.istore dX11_luck_100 (by decide) rfl rfl ?_
        first | refine AW.iincN dX11_luck_102 rfl (by decide) rfl rfl ?_ | refine AW.iinc dX11_luck_102 rfl rfl (by decide) rfl rfl ?_
        refine AW.goto (tgt := 69) dX11_luck_105 (by decide) ?_
        have := ih (i + 1) (by omega) (by omega)
        rw [bel] at this
        simp only [hb] at this
        exact this
      · refine AW.ifeq0 (tgt := 98) dX11_luck_90 (by decide) ?_
        refine AW.iconst (v := nI 1) dX11_luck_98 (by decide) ?_
        show AW muX11_luck _ _ 99 _ _ _ _
        first | refine AW.imulN dX11_luck_99 ?_ | refine AW.imul dX11_luck_99 ?_
        refine AW.istore dX11_luck_100 (by decide) rfl rfl ?_
        first | refine AW.iincN dX11_luck_102 rfl (by decide) rfl rfl ?_ | refine AW.iinc dX11_luck_102 rfl rfl (by decide) rfl rfl ?_
        refine AW.goto (tgt := 69) dX11_luck_105 (by decide) ?_
        have := ih (i + 1) (by omega) (by omega)
        rw [bel] at this
        simp only [hb] at this
        exact this
def tmC (N : Nat → Nat) (w c b u : Nat) : Nat := if dn u w = 0 ∧ sumN (N 47) (fun t => if (dn w u).testBit t then loudT N t else 0) ≤ b then waysN w u c 8 else 0
theorem lp2_X11_luck {s c z w B : Nat} (hV : NV N) (hR : HR I 1 N) (hs : s < N 36) (hw : w < 2 ^ 8) (hc : c ≤ 10) {Q : Option Int32 → sd_S → Prop} (K : ∀ v8, AW muX11_luck 0 0 193 [.ref 0, .int (nI s), .int (nI c), .int (nI z), .int (nI w), .int (nI (sumN (2 ^ N 47) (tmC N w c (N (42 + s))))), .int (nI B), .int (nI (2 ^ N 47)), v8] [] (sk0, X, I, J) Q) : ∀ (m u : Nat) (v8 : Value), 2 ^ N 47 - u < m → u ≤ 2 ^ N 47 → AW muX11_luck 0 0 111 [.ref 0, .int (nI s), .int (nI c), .int (nI z), .int (nI w), .int (nI (sumN u (tmC N w c (N (42 + s))))), .int (nI B), .int (nI u), v8] [] (sk0, X, I, J) Q := by
  have h5 := hV.s5
  have h8 := hV.t8
  have hp : 2 ^ N 47 ≤ 2 ^ 8 := Nat.pow_le_pow_right (by decide) h8
  have hbr := hV.br hs
  intro m
  induction m with
  | zero => intros; omega
  | succ m ih =>
    intro u v8 hm hu
    have hd1 := dn_le u w
    have hd2 := dn_le w u
    have hle : sumN (N 47) (fun t => if (dn w u).testBit t then loudT N t else 0) ≤ 144 := by
      have h1 : sumN (N 47) (fun t => if (dn w u).testBit t then loudT N t else 0) ≤ N 47 * 18 := sumN_le (fun t ht => by split; exact loudT_le hV ht; omega)
      omega
    refine AW.iload dX11_luck_111 rfl ?_
    refine AW.iconst (v := nI 1) dX11_luck_113 (by decide) ?_
    refine AW.aload_n dX11_luck_114 rfl rfl ?_
    refine g11_0 dX11_luck_115 wF_X11_10 (by first | assumption | rfl | (unfold is11; omega)) ?_
    refine g2_8 dX11_luck_118 wF_X11_75 (by first | assumption | rfl | (unfold is2; omega)) ?_
    refine AW.top (hR.th) ?_
    refine AW.ishl dX11_luck_121 ?_
    refine AW.top (nI_shl1 (by omega)) ?_
    show AW muX11_luck _ _ 122 _ _ _ _
    first | refine AW.icmp_geN (tgt := 193) dX11_luck_122 (by decide) (by omega) (by omega) (fun c122 => ?_) (fun c122 => ?_) | refine AW.icmp_ge (tgt := 193) dX11_luck_122 (by decide) (fun c122 => ?_) (fun c122 => ?_)
    · obtain rfl : u = 2 ^ N 47 := by omega
      exact K _
    · refine AW.iload dX11_luck_125 rfl ?_
      refine AW.iload dX11_luck_127 rfl ?_
      refine AW.iconst (v := (-1)) dX11_luck_129 (by decide) ?_
      refine AW.ixor dX11_luck_130 ?_
      refine AW.iand dX11_luck_131 ?_
      refine AW.top (nI_dn _ _) ?_
      first | refine AW.if_neN (tgt := 139) dX11_luck_132 (by decide) (by omega) (fun c132 => ?_) (fun c132 => ?_) | refine AW.if_ne (tgt := 139) dX11_luck_132 (by decide) (fun c132 => ?_) (fun c132 => ?_)
      · refine AW.iconst (v := nI 0) dX11_luck_139 (by decide) ?_
        show AW muX11_luck _ _ 140 _ _ _ _
        refine AW.istore dX11_luck_140 (by decide) rfl rfl ?_
        refine AW.iload dX11_luck_142 rfl ?_
        refine AW.ifeq0 (tgt := 187) dX11_luck_144 (by decide) ?_
        first | refine AW.iincN dX11_luck_187 rfl (by decide) rfl rfl ?_ | refine AW.iinc dX11_luck_187 rfl rfl (by decide) rfl rfl ?_
        refine AW.goto (tgt := 111) dX11_luck_190 (by decide) ?_
        have e : sumN (u + 1) (tmC N w c (N (42 + s))) = sumN u (tmC N w c (N (42 + s))) + tmC N w c (N (42 + s)) u := by rw [sumN]
        have key : ∀ v8, _ := fun v8 => ih (u + 1) v8 (by omega) (by omega)
        rw [e] at key
        first | (have ht : tmC N w c (N (42 + s)) u = waysN w u c 8 := if_pos ⟨c132, c170⟩; rw [ht] at key; exact key _) | (have ht : tmC N w c (N (42 + s)) u = 0 := if_neg (fun q => absurd q.2 (by omega)); rw [ht, Nat.add_zero] at key; exact key _) | (have ht : tmC N w c (N (42 + s)) u = 0 := if_neg (fun q => c132 q.1); rw [ht, Nat.add_zero] at key; exact key _)
      · refine AW.iconst (v := nI 1) dX11_luck_135 (by decide) ?_
        refine AW.goto (tgt := 140) dX11_luck_136 (by decide) ?_
        refine AW.istore dX11_luck_140 (by decide) rfl rfl ?_
        refine AW.iload dX11_luck_142 rfl ?_
        refine AW.ifeq1 (tgt := 187) dX11_luck_144 (by decide) ?_
        refine AW.aload_n dX11_luck_147 rfl rfl ?_
        refine g11_0 dX11_luck_148 wF_X11_10 (by first | assumption | rfl | (unfold is11; omega)) ?_
        refine AW.iload dX11_luck_151 rfl ?_
        refine AW.iload dX11_luck_153 rfl ?_
        show AW muX11_luck _ _ 155 _ _ _ _
        refine AW.iconst (v := (-1)) dX11_luck_155 (by decide) ?_
        refine AW.ixor dX11_luck_156 ?_
        refine AW.iand dX11_luck_157 ?_
        refine AW.top (nI_dn _ _) ?_
        refine cs_X11_luck_158 (by first | exact k0_1 | exact k0_0 | exact is2.a8 i2_1) (by decide) (by decide) (Nat.le_of_ble_eq_true rfl) (s_X2_loudOfSet i2_1 hR hV (by omega) ?_)
        refine AW.aload_n dX11_luck_161 rfl rfl ?_
        refine g11_0 dX11_luck_162 wF_X11_10 (by first | assumption | rfl | (unfold is11; omega)) ?_
        show AW muX11_luck _ _ 165 _ _ _ _
        refine g2_2 dX11_luck_165 wF_X11_89 (by first | assumption | rfl | (unfold is2; omega)) ?_
        refine AW.iload_n dX11_luck_168 rfl rfl ?_
        refine AW.iald dX11_luck_169 (by first | exact k0_1 | exact k0_0 | exact is2.a8 i2_1) _ (by first | rfl | assumption) (by omega) (by first | decide | omega) ?_
        refine AW.top (hR.br hs) ?_
        first | refine AW.icmp_gtN (tgt := 187) dX11_luck_170 (by decide) (by omega) (by omega) (fun c170 => ?_) (fun c170 => ?_) | refine AW.icmp_gt (tgt := 187) dX11_luck_170 (by decide) (fun c170 => ?_) (fun c170 => ?_)
        · first | refine AW.iincN dX11_luck_187 rfl (by decide) rfl rfl ?_ | refine AW.iinc dX11_luck_187 rfl rfl (by decide) rfl rfl ?_
          refine AW.goto (tgt := 111) dX11_luck_190 (by decide) ?_
          have e : sumN (u + 1) (tmC N w c (N (42 + s))) = sumN u (tmC N w c (N (42 + s))) + tmC N w c (N (42 + s)) u := by rw [sumN]
          have key : ∀ v8, _ := fun v8 => ih (u + 1) v8 (by omega) (by omega)
          rw [e] at key
          first | (have ht : tmC N w c (N (42 + s)) u = waysN w u c 8 := if_pos ⟨c132, c170⟩; rw [ht] at key; exact key _) | (have ht : tmC N w c (N (42 + s)) u = 0 := if_neg (fun q => absurd q.2 (by omega)); rw [ht, Nat.add_zero] at key; exact key _) | (have ht : tmC N w c (N (42 + s)) u = 0 := if_neg (fun q => c132 q.1); rw [ht, Nat.add_zero] at key; exact key _)
        · refine AW.iload dX11_luck_173 rfl ?_
          refine AW.aload_n dX11_luck_175 rfl rfl ?_
          show AW muX11_luck _ _ 176 _ _ _ _
          refine AW.iload dX11_luck_176 rfl ?_
          refine AW.iload dX11_luck_178 rfl ?_
          refine AW.iload_n dX11_luck_180 rfl rfl ?_
          refine cs_X11_luck_181 (by first | exact k0_1 | exact k0_0 | exact is2.a8 i2_1) (by decide) (by decide) (Nat.le_of_ble_eq_true rfl) (s_X11_ways (by omega) (by omega) hc ?_)
          first | refine AW.iaddN dX11_luck_184 ?_ | refine AW.iadd dX11_luck_184 ?_
          refine AW.istore dX11_luck_185 (by decide) rfl rfl ?_
          show AW muX11_luck _ _ 187 _ _ _ _
          first | refine AW.iincN dX11_luck_187 rfl (by decide) rfl rfl ?_ | refine AW.iinc dX11_luck_187 rfl rfl (by decide) rfl rfl ?_
          refine AW.goto (tgt := 111) dX11_luck_190 (by decide) ?_
          have e : sumN (u + 1) (tmC N w c (N (42 + s))) = sumN u (tmC N w c (N (42 + s))) + tmC N w c (N (42 + s)) u := by rw [sumN]
          have key : ∀ v8, _ := fun v8 => ih (u + 1) v8 (by omega) (by omega)
          rw [e] at key
          first | (have ht : tmC N w c (N (42 + s)) u = waysN w u c 8 := if_pos ⟨c132, c170⟩; rw [ht] at key; exact key _) | (have ht : tmC N w c (N (42 + s)) u = 0 := if_neg (fun q => absurd q.2 (by omega)); rw [ht, Nat.add_zero] at key; exact key _) | (have ht : tmC N w c (N (42 + s)) u = 0 := if_neg (fun q => c132 q.1); rw [ht, Nat.add_zero] at key; exact key _)
theorem tmC_A {w c b u : Nat} (hV : NV N) (hw : ∀ t, N 47 ≤ t → t < 32 → w.testBit t = false) (hu : u < 2 ^ N 47) : tmC N w c b u = tmA (fun t => w.testBit t) (loudT N) c b (N 47) 0 u := by
  have h8 := hV.t8
  have e1 : sumN (N 47) (fun t => if (dn w u).testBit t then loudT N t else 0) = ldA (fun t => w.testBit t) (loudT N) u (N 47) := sumN_congr (fun t ht => by rw [dn_bit (by omega)])
  have e2 : waysN w u c 8 = pdA (fun t => w.testBit t) c u (N 47) := by
    rw [waysN_pd]
    have := pd_more (p := fun t => w.testBit t) (c := c) (u := u) (T := N 47) (8 - N 47) (fun t h1 h2 => hw t h1 (by omega))
    rw [show N 47 + (8 - N 47) = 8 by omega] at this
    exact this
  have e3 := dn0_iff (w := w) hu h8
  unfold tmC tmA
  rw [e1, e2, Nat.zero_add]
  by_cases h : okA (fun t => w.testBit t) u (N 47) = true ∧ ldA (fun t => w.testBit t) (loudT N) u (N 47) ≤ b
  · rw [if_pos h, if_pos ⟨e3.mpr h.1, h.2⟩]
  · rw [if_neg h, if_neg (fun q => h ⟨e3.mp q.1, q.2⟩)]
theorem c_luck {x y z : Int32} (hV : NV N) (hR : HR I 1 N) (q1 : ¬ (inR x 0 (N 36) ∧ inR y 0 11 ∧ inR z 0 2) → Q (-1) (sk0, X, I, J)) (q2 : ∀ s c w, s < N 36 → c < 11 → w < 2 → x = nI s → y = nI c → z = nI w → Q (nI ((if w = 0 then lu (fun t => (lkW N s).testBit t) (loudT N) c (N (42 + s)) (N 47) 0 else bel (fun t => (lkW N s).testBit t) (N 47)) / Nat.gcd (lu (fun t => (lkW N s).testBit t) (loudT N) c (N (42 + s)) (N 47) 0) (bel (fun t => (lkW N s).testBit t) (N 47)))) (sk0, X, I, J)) : AWi muX11_luck [.ref 0, .int x, .int y, .int z] (sk0, X, I, J) Q := by
  have h5 := hV.s5
  have h8 := hV.t8
  have hp : 2 ^ N 47 ≤ 2 ^ 8 := Nat.pow_le_pow_right (by decide) h8
  have hpos : 0 < 2 ^ N 47 := Nat.two_pow_pos _
  show AW muX11_luck 0 0 0 [.ref 0, .int x, .int y, .int z, .null, .null, .null, .null, .null] [] _ _
  refine AW.aload_n dX11_luck_0 rfl rfl ?_
  refine g11_0 dX11_luck_1 wF_X11_10 (by first | assumption | rfl | (unfold is11; omega)) ?_
  refine AW.iload_n dX11_luck_4 rfl rfl ?_
  refine cs_X11_luck_5 (by first | exact k0_1 | exact is2.a7 i2_1) (by decide) (by decide) (Nat.le_of_ble_eq_true rfl) (s_X2_hasSleeper i2_1 hR.sl (by omega) (fun s hs ex => ?_) (fun hn => ?_))
  · refine AW.ifeq1 (tgt := 30) dX11_luck_8 (by decide) ?_
    refine AW.iload_n dX11_luck_11 rfl rfl ?_
    refine AW.iconst (v := nI 0) dX11_luck_12 (by decide) ?_
    refine AW.bipush (v := nI 10) dX11_luck_13 (by decide) ?_
    show AW muX11_luck _ _ 15 _ _ _ _
    refine cs_X11_luck_15 (by decide) (by decide) (Nat.le_of_ble_eq_true rfl) (s_X11_within (lo := 0) (hi := 11) (by decide) (by decide) (by decide) (fun c hc1 hc ey => ?_) (fun hn => ?_))
    · refine AW.ifeq1 (tgt := 30) dX11_luck_18 (by decide) ?_
      refine AW.iload_n dX11_luck_21 rfl rfl ?_
      refine AW.iconst (v := nI 0) dX11_luck_22 (by decide) ?_
      refine AW.iconst (v := nI 1) dX11_luck_23 (by decide) ?_
      refine cs_X11_luck_24 (by decide) (by decide) (Nat.le_of_ble_eq_true rfl) (s_X11_within (lo := 0) (hi := 2) (by decide) (by decide) (by decide) (fun w hw1 hw ez => ?_) (fun hn => ?_))
      · refine AW.ifne1 (tgt := 32) dX11_luck_27 (by decide) ?_
        subst ex; subst ey; subst ez
        have hq := q2 s c w hs hc hw rfl rfl rfl
        have hbd := hV.bd hs
        refine AW.aload_n dX11_luck_32 rfl rfl ?_
        refine g11_0 dX11_luck_33 wF_X11_10 (by first | assumption | rfl | (unfold is11; omega)) ?_
        refine AW.aload_n dX11_luck_36 rfl rfl ?_
        show AW muX11_luck _ _ 37 _ _ _ _
        refine g11_0 dX11_luck_37 wF_X11_10 (by first | assumption | rfl | (unfold is11; omega)) ?_
        refine g2_1 dX11_luck_40 wF_X11_85 (by first | assumption | rfl | (unfold is2; omega)) ?_
        refine AW.iload_n dX11_luck_43 rfl rfl ?_
        refine AW.iald dX11_luck_44 (by first | exact k0_1 | exact is2.a7 i2_1) _ (by first | rfl | assumption) (by omega) (by first | decide | omega) ?_
        refine AW.top (hR.bd hs) ?_
        refine cs_X11_luck_45 (by first | exact k0_1 | exact is2.a7 i2_1) (by decide) (by decide) (Nat.le_of_ble_eq_true rfl) (s_X2_thingsIn i2_1 hR hV (by omega) ?_)
        refine AW.aload_n dX11_luck_48 rfl rfl ?_
        show AW muX11_luck _ _ 49 _ _ _ _
        refine g11_0 dX11_luck_49 wF_X11_10 (by first | assumption | rfl | (unfold is11; omega)) ?_
        refine cs_X11_luck_52 (by first | exact k0_1 | exact is2.a7 i2_1) (by decide) (by decide) (Nat.le_of_ble_eq_true rfl) (s_X2_silentThings i2_1 hR hV ?_)
        refine AW.iconst (v := (-1)) dX11_luck_55 (by decide) ?_
        refine AW.ixor dX11_luck_56 ?_
        refine AW.iand dX11_luck_57 ?_
        refine AW.top (show _ = nI (lkW N s) from nI_dn _ _) ?_
        refine AW.istore dX11_luck_58 (by decide) rfl rfl ?_
        show AW muX11_luck _ _ 60 _ _ _ _
        refine AW.iconst (v := nI 0) dX11_luck_60 (by decide) ?_
        refine AW.istore dX11_luck_61 (by decide) rfl rfl ?_
        refine AW.iconst (v := nI 1) dX11_luck_63 (by decide) ?_
        refine AW.istore dX11_luck_64 (by decide) rfl rfl ?_
        refine AW.iconst (v := nI 0) dX11_luck_66 (by decide) ?_
        refine AW.istore dX11_luck_67 (by decide) rfl rfl ?_
        show AW muX11_luck _ _ 69 _ _ _ _
        have hWlt : lkW N s < 2 ^ N 47 := Nat.lt_of_le_of_lt (dn_le _ _) (setN_lt _ _)
        have hWb : ∀ t, N 47 ≤ t → t < 32 → (lkW N s).testBit t = false := fun t h1 h2 => by rw [lkW_bit h2]; simp; omega
        generalize lkW N s = W at hq hWlt hWb
        have hA : sumN (2 ^ N 47) (tmC N W c (N (42 + s))) = lu (fun t => W.testBit t) (loudT N) c (N (42 + s)) (N 47) 0 := by
          rw [← sum_tmA]; exact sumN_congr (fun u hu => tmC_A hV hWb hu)
        have hAB := lu_le (p := fun t => W.testBit t) (l := loudT N) (c := c) (b := N (42 + s)) (by omega) (N 47) 0
        have hB0 := bel_pos (fun t => W.testBit t) (N 47)
        have hB1 := bel_le (fun t => W.testBit t) (N 47)
        have hB2 : 10 ^ N 47 ≤ 10 ^ 8 := Nat.pow_le_pow_right (by decide) h8
        refine lp1_X11_luck hV hR (by omega) ?_ (N 47 + 1) 0 (by omega) (by omega)
        refine AW.iconst (v := nI 0) dX11_luck_108 (by decide) ?_
        refine AW.istore dX11_luck_109 (by decide) rfl rfl ?_
        refine lp2_X11_luck hV hR hs (by omega) (by omega) (fun v8 => ?_) (2 ^ N 47 + 1) 0 _ (Nat.lt_succ_self _) (Nat.zero_le _)
        rw [hA]
        generalize lu (fun t => W.testBit t) (loudT N) c (N (42 + s)) (N 47) 0 = A at hq hAB
        generalize bel (fun t => W.testBit t) (N 47) = B at hq hAB hB0 hB1
        have hg0 : 0 < Nat.gcd A B := Nat.gcd_pos_of_pos_right _ hB0
        have hg1 : Nat.gcd A B ≤ B := Nat.gcd_le_right _ hB0
        refine AW.iload dX11_luck_193 rfl ?_
        refine AW.iload dX11_luck_195 rfl ?_
        refine cs_X11_luck_197 (by decide) (by decide) (Nat.le_of_ble_eq_true rfl) (s_X11_greatestCommon hB0 (by omega) (by omega) ?_)
        refine AW.istore dX11_luck_200 (by decide) rfl rfl ?_
        refine AW.iload_n dX11_luck_202 rfl rfl ?_
        first | refine AW.if_neN (tgt := 211) dX11_luck_203 (by decide) (by omega) (fun c203 => ?_) (fun c203 => ?_) | refine AW.if_ne (tgt := 211) dX11_luck_203 (by decide) (fun c203 => ?_) (fun c203 => ?_)
        · refine AW.iload dX11_luck_211 rfl ?_
          show AW muX11_luck _ _ 213 _ _ _ _
          refine AW.iload dX11_luck_213 rfl ?_
          first | refine AW.idivN dX11_luck_215 (by omega) (by omega) (by omega) ?_ | refine AW.idiv dX11_luck_215 (by first | assumption | decide) ?_
          refine AW.iret dX11_luck_216 ⟨_, rfl, rfl⟩ (Nat.zero_le _) (Nat.zero_le _) ⟨_, rfl, ?_⟩
          first | (rw [if_pos c203] at hq; exact hq) | (rw [if_neg c203] at hq; exact hq)
        · refine AW.iload dX11_luck_206 rfl ?_
          refine AW.goto (tgt := 213) dX11_luck_208 (by decide) ?_
          refine AW.iload dX11_luck_213 rfl ?_
          first | refine AW.idivN dX11_luck_215 (by omega) (by omega) (by omega) ?_ | refine AW.idiv dX11_luck_215 (by first | assumption | decide) ?_
          refine AW.iret dX11_luck_216 ⟨_, rfl, rfl⟩ (Nat.zero_le _) (Nat.zero_le _) ⟨_, rfl, ?_⟩
          first | (rw [if_pos c203] at hq; exact hq) | (rw [if_neg c203] at hq; exact hq)
      · refine AW.ifne0 (tgt := 32) dX11_luck_27 (by decide) ?_
        refine AW.iconst (v := (-1)) dX11_luck_30 (by decide) ?_
        show AW muX11_luck _ _ 31 _ _ _ _
        refine AW.iret dX11_luck_31 ⟨_, rfl, rfl⟩ (Nat.zero_le _) (Nat.zero_le _) ⟨_, rfl, ?_⟩
        first | exact q1 (fun h => hn h.1) | exact q1 (fun h => hn h.2.1) | exact q1 (fun h => hn h.2.2)
    · refine AW.ifeq0 (tgt := 30) dX11_luck_18 (by decide) ?_
      refine AW.iconst (v := (-1)) dX11_luck_30 (by decide) ?_
      refine AW.iret dX11_luck_31 ⟨_, rfl, rfl⟩ (Nat.zero_le _) (Nat.zero_le _) ⟨_, rfl, ?_⟩
      first | exact q1 (fun h => hn h.1) | exact q1 (fun h => hn h.2.1) | exact q1 (fun h => hn h.2.2)
  · refine AW.ifeq0 (tgt := 30) dX11_luck_8 (by decide) ?_
    refine AW.iconst (v := (-1)) dX11_luck_30 (by decide) ?_
    refine AW.iret dX11_luck_31 ⟨_, rfl, rfl⟩ (Nat.zero_le _) (Nat.zero_le _) ⟨_, rfl, ?_⟩
    first | exact q1 (fun h => hn h.1) | exact q1 (fun h => hn h.2.1) | exact q1 (fun h => hn h.2.2)
end Luck
