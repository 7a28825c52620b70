-- the model's own calls: luck
def lkM (N : Nat → Nat) (s t : Nat) : Nat := if N (2 + t) = N (37 + s) then loudT N t else 0
theorem lkM_p {N : Nat → Nat} (h8 : N 47 ≤ 8) {s t : Nat} (ht : t < N 47) : lkM N s t = if (lkW N s).testBit t then loudT N t else 0 := by
  rw [lkW_bit (by omega)]
  unfold lkM
  by_cases h1 : N (2 + t) = N (37 + s)
  · by_cases h2 : N (18 + t) = 0
    · have : loudT N t = 0 := by unfold loudT mL; rw [if_pos h2]
      simp [this]
    · simp [h1, h2, ht]
  · simp [h1]
section Mod4
variable {X : Nat × (Nat → Int32)} {I : sd_I} {J : sd_J} {N : Nat → Nat} {Q : Int32 → sd_S → Prop}
theorem s_X12_hasT {C : List sd_C} {w t : Nat} (hw : w < 2 ^ 31) (ht : t < 31) (hb : w.testBit t = true) (hQ : Q (nI 1) (C, X, I, J)) : AWi muX12_has [.int (nI w), .int (nI t)] (C, X, I, J) Q := s_X12_has hw ht (fun _ => hQ) (fun h => absurd (hb.symm.trans h) (by decide))
theorem s_X12_hasF {C : List sd_C} {w t : Nat} (hw : w < 2 ^ 31) (ht : t < 31) (hb : w.testBit t = false) (hQ : Q (nI 0) (C, X, I, J)) : AWi muX12_has [.int (nI w), .int (nI t)] (C, X, I, J) Q := s_X12_has hw ht (fun h => absurd (hb.symm.trans h) (by decide)) (fun _ => hQ)
theorem lp1_X12_luck {s c w up : Int32} (hV : NV N) (hM : MD I N) {Q : Option Int32 → sd_S → Prop} (K : AW muX12_luck 0 0 63 [.ref 170, .int s, .int c, .int w, .int up, .int (nI (10 ^ N 47)), .int (nI (N 47)), .null, .null, .null] [] (sk0, X, I, J) Q) : ∀ (m t : Nat), N 47 - t < m → t ≤ N 47 → AW muX12_luck 0 0 38 [.ref 170, .int s, .int c, .int w, .int up, .int (nI (10 ^ t)), .int (nI t), .null, .null, .null] [] (sk0, X, I, J) Q := by
  have h8 := hV.t8
  intro m
  induction m with
  | zero => intros; omega
  | succ m ih =>
    intro t hm ht
    refine AW.iload dX12_luck_38 rfl ?_
    refine AW.aload_n dX12_luck_40 rfl rfl ?_
    refine g12_7 dX12_luck_41 wF_X12_23 (by first | assumption | rfl | (unfold is12; omega)) ?_
    refine AW.bipush (v := nI 47) dX12_luck_44 (by decide) ?_
    refine AW.iald dX12_luck_46 (by first | exact k0_175) _ (by first | rfl | assumption) (by omega) (by first | decide | omega) ?_
    refine AW.top (hM 47 (by decide)) ?_
    first | refine AW.icmp_geN (tgt := 63) dX12_luck_47 (by decide) (by omega) (by omega) (fun c47 => ?_) (fun c47 => ?_) | refine AW.icmp_ge (tgt := 63) dX12_luck_47 (by decide) (fun c47 => ?_) (fun c47 => ?_)
    · obtain rfl : t = N 47 := by omega
      exact K
    · refine AW.iload dX12_luck_50 rfl ?_
      show AW muX12_luck _ _ 52 _ _ _ _
      refine AW.bipush (v := nI 10) dX12_luck_52 (by decide) ?_
      first | refine AW.imulN dX12_luck_54 ?_ | refine AW.imul dX12_luck_54 ?_
      refine AW.istore dX12_luck_55 (by decide) rfl rfl ?_
      first | refine AW.iincN dX12_luck_57 rfl (by decide) rfl rfl ?_ | refine AW.iinc dX12_luck_57 rfl rfl (by decide) rfl rfl ?_
      refine AW.goto (tgt := 38) dX12_luck_60 (by decide) ?_
      exact ih (t + 1) (by omega) (by omega)
theorem lp3_X12_luck {s c u : Nat} {w up dn : Int32} (hV : NV N) (hM : MD I N) (hs : s < N 36) (hc : c ≤ 10) (hu : u < 256) {Q : Option Int32 → sd_S → Prop} (K : ∀ v9, v9.category = 1 → AW muX12_luck 0 0 179 [.ref 170, .int (nI s), .int (nI c), .int w, .int up, .int dn, .int (nI u), .int (nI (pdM c u (N 47))), .int (nI (ldM (lkM N s) u (N 47))), v9] [] (sk0, X, I, J) Q) : ∀ (m t : Nat), N 47 - t < m → t ≤ N 47 → AW muX12_luck 0 0 89 [.ref 170, .int (nI s), .int (nI c), .int w, .int up, .int dn, .int (nI u), .int (nI (pdM c u t)), .int (nI (ldM (lkM N s) u t)), .int (nI t)] [] (sk0, X, I, J) Q := by
  have h5 := hV.s5
  have h8 := hV.t8
  have hbd := hV.bd hs
  have hA := AS.rf hM
  intro m
  induction m with
  | zero => intros; omega
  | succ m ih =>
    intro t hm ht
    by_cases hb : u.testBit t = true
    · have e1 : pdM c u (t + 1) = pdM c u t * c := by rw [pdM, if_pos hb]
      have e2 : ldM (lkM N s) u (t + 1) = ldM (lkM N s) u t + 0 := by unfold ldM; rw [sumN, if_pos hb]
      refine AW.iload dX12_luck_89 rfl ?_
      refine AW.aload_n dX12_luck_91 rfl rfl ?_
      refine g12_7 dX12_luck_92 wF_X12_23 (by first | assumption | rfl | (unfold is12; omega)) ?_
      refine AW.bipush (v := nI 47) dX12_luck_95 (by decide) ?_
      refine AW.iald dX12_luck_97 (by first | exact k0_175) _ (by first | rfl | assumption) (by omega) (by first | decide | omega) ?_
      refine AW.top (hM 47 (by decide)) ?_
      first | refine AW.icmp_geN (tgt := 179) dX12_luck_98 (by decide) (by omega) (by omega) (fun c98 => ?_) (fun c98 => ?_) | refine AW.icmp_ge (tgt := 179) dX12_luck_98 (by decide) (fun c98 => ?_) (fun c98 => ?_)
      · obtain rfl : t = N 47 := by omega
        exact K _ rfl
      · refine AW.iload dX12_luck_101 rfl ?_
        show AW muX12_luck _ _ 103 _ _ _ _
        refine AW.iload dX12_luck_103 rfl ?_
        refine AW.iload dX12_luck_105 rfl ?_
        refine cs_X12_luck_107 (by decide) (by decide) (Nat.le_of_ble_eq_true rfl) (s_X12_hasT (by omega) (by omega) hb ?_)
        refine AW.ifeq1 (tgt := 117) dX12_luck_110 (by decide) ?_
        refine AW.iload_n dX12_luck_113 rfl rfl ?_
        refine AW.goto (tgt := 121) dX12_luck_114 (by decide) ?_
        first | refine AW.imulN dX12_luck_121 ?_ | refine AW.imul dX12_luck_121 ?_
        refine AW.istore dX12_luck_122 (by decide) rfl rfl ?_
        show AW muX12_luck _ _ 124 _ _ _ _
        refine AW.iload dX12_luck_124 rfl ?_
        refine AW.iload dX12_luck_126 rfl ?_
        refine AW.iload dX12_luck_128 rfl ?_
        refine cs_X12_luck_130 (by decide) (by decide) (Nat.le_of_ble_eq_true rfl) (s_X12_hasT (by omega) (by omega) hb ?_)
        refine AW.ifne1 (tgt := 169) dX12_luck_133 (by decide) ?_
        refine AW.iconst (v := nI 0) dX12_luck_169 (by decide) ?_
        first | refine AW.iaddN dX12_luck_170 ?_ | refine AW.iadd dX12_luck_170 ?_
        show AW muX12_luck _ _ 171 _ _ _ _
        refine AW.istore dX12_luck_171 (by decide) rfl rfl ?_
        first | refine AW.iincN dX12_luck_173 rfl (by decide) rfl rfl ?_ | refine AW.iinc dX12_luck_173 rfl rfl (by decide) rfl rfl ?_
        refine AW.goto (tgt := 89) dX12_luck_176 (by decide) ?_
        have := ih (t + 1) (by omega) (by omega)
        rw [e1, e2] at this
        exact this
    · have hb : u.testBit t = false := by simpa using hb
      have e1 : pdM c u (t + 1) = pdM c u t * (10 - c) := by rw [pdM, hb]; rfl
      have e2 : ldM (lkM N s) u (t + 1) = ldM (lkM N s) u t + lkM N s t := by unfold ldM; rw [sumN, hb]; rfl
      refine AW.iload dX12_luck_89 rfl ?_
      refine AW.aload_n dX12_luck_91 rfl rfl ?_
      refine g12_7 dX12_luck_92 wF_X12_23 (by first | assumption | rfl | (unfold is12; omega)) ?_
      refine AW.bipush (v := nI 47) dX12_luck_95 (by decide) ?_
      refine AW.iald dX12_luck_97 (by first | exact k0_175) _ (by first | rfl | assumption) (by omega) (by first | decide | omega) ?_
      refine AW.top (hM 47 (by decide)) ?_
      first | refine AW.icmp_geN (tgt := 179) dX12_luck_98 (by decide) (by omega) (by omega) (fun c98 => ?_) (fun c98 => ?_) | refine AW.icmp_ge (tgt := 179) dX12_luck_98 (by decide) (fun c98 => ?_) (fun c98 => ?_)
      · obtain rfl : t = N 47 := by omega
        exact K _ rfl
      · refine AW.iload dX12_luck_101 rfl ?_
        show AW muX12_luck _ _ 103 _ _ _ _
        refine AW.iload dX12_luck_103 rfl ?_
        refine AW.iload dX12_luck_105 rfl ?_
        refine cs_X12_luck_107 (by decide) (by decide) (Nat.le_of_ble_eq_true rfl) (s_X12_hasF (by omega) (by omega) hb ?_)
        refine AW.ifeq0 (tgt := 117) dX12_luck_110 (by decide) ?_
        refine AW.bipush (v := nI 10) dX12_luck_117 (by decide) ?_
        refine AW.iload_n dX12_luck_119 rfl rfl ?_
        first | refine AW.isubN dX12_luck_120 (by omega) ?_ | refine AW.isub dX12_luck_120 ?_
        show AW muX12_luck _ _ 121 _ _ _ _
        first | refine AW.imulN dX12_luck_121 ?_ | refine AW.imul dX12_luck_121 ?_
        refine AW.istore dX12_luck_122 (by decide) rfl rfl ?_
        refine AW.iload dX12_luck_124 rfl ?_
        refine AW.iload dX12_luck_126 rfl ?_
        refine AW.iload dX12_luck_128 rfl ?_
        refine cs_X12_luck_130 (by decide) (by decide) (Nat.le_of_ble_eq_true rfl) (s_X12_hasF (by omega) (by omega) hb ?_)
        show AW muX12_luck _ _ 133 _ _ _ _
        refine AW.ifne0 (tgt := 169) dX12_luck_133 (by decide) ?_
        have := hV.pl c98
        refine AW.aload_n dX12_luck_136 rfl rfl ?_
        refine g12_7 dX12_luck_137 wF_X12_23 (by first | assumption | rfl | (unfold is12; omega)) ?_
        refine AW.iconst (v := nI 2) dX12_luck_140 (by decide) ?_
        refine AW.iload dX12_luck_141 rfl ?_
        first | refine AW.iaddN dX12_luck_143 ?_ | refine AW.iadd dX12_luck_143 ?_
        refine AW.iald dX12_luck_144 (by first | exact k0_175) _ (by first | rfl | assumption) (by omega) (by first | decide | omega) ?_
        refine AW.top (hM _ (by omega)) ?_
        show AW muX12_luck _ _ 145 _ _ _ _
        refine AW.aload_n dX12_luck_145 rfl rfl ?_
        refine g12_7 dX12_luck_146 wF_X12_23 (by first | assumption | rfl | (unfold is12; omega)) ?_
        refine AW.bipush (v := nI 37) dX12_luck_149 (by decide) ?_
        refine AW.iload_n dX12_luck_151 rfl rfl ?_
        first | refine AW.iaddN dX12_luck_152 ?_ | refine AW.iadd dX12_luck_152 ?_
        refine AW.iald dX12_luck_153 (by first | exact k0_175) _ (by first | rfl | assumption) (by omega) (by first | decide | omega) ?_
        refine AW.top (hM _ (by omega)) ?_
        show AW muX12_luck _ _ 154 _ _ _ _
        first | refine AW.icmp_neN (tgt := 169) dX12_luck_154 (by decide) (by omega) (by omega) (fun c154 => ?_) (fun c154 => ?_) | refine AW.icmp_ne (tgt := 169) dX12_luck_154 (by decide) (fun c154 => ?_) (fun c154 => ?_)
        · refine AW.iconst (v := nI 0) dX12_luck_169 (by decide) ?_
          first | refine AW.iaddN dX12_luck_170 ?_ | refine AW.iadd dX12_luck_170 ?_
          refine AW.istore dX12_luck_171 (by decide) rfl rfl ?_
          first | refine AW.iincN dX12_luck_173 rfl (by decide) rfl rfl ?_ | refine AW.iinc dX12_luck_173 rfl rfl (by decide) rfl rfl ?_
          refine AW.goto (tgt := 89) dX12_luck_176 (by decide) ?_
          have := ih (t + 1) (by omega) (by omega)
          rw [e1, e2] at this
          unfold lkM at this ⊢
          first | (rw [if_pos c154] at this; exact this) | (rw [if_neg c154] at this; exact this)
        · refine AW.aload_n dX12_luck_157 rfl rfl ?_
          refine g12_7 dX12_luck_158 wF_X12_23 (by first | assumption | rfl | (unfold is12; omega)) ?_
          show AW muX12_luck _ _ 161 _ _ _ _
          refine AW.iload dX12_luck_161 rfl ?_
          refine cs_X12_luck_163 (by decide) (by decide) (Nat.le_of_ble_eq_true rfl) (s_X12_loudOf isA_175 (by decide) hV hA c98 ?_)
          refine AW.goto (tgt := 170) dX12_luck_166 (by decide) ?_
          first | refine AW.iaddN dX12_luck_170 ?_ | refine AW.iadd dX12_luck_170 ?_
          refine AW.istore dX12_luck_171 (by decide) rfl rfl ?_
          first | refine AW.iincN dX12_luck_173 rfl (by decide) rfl rfl ?_ | refine AW.iinc dX12_luck_173 rfl rfl (by decide) rfl rfl ?_
          refine AW.goto (tgt := 89) dX12_luck_176 (by decide) ?_
          have := ih (t + 1) (by omega) (by omega)
          rw [e1, e2] at this
          unfold lkM at this ⊢
          first | (rw [if_pos c154] at this; exact this) | (rw [if_neg c154] at this; exact this)
theorem ldM_le {s u : Nat} (hV : NV N) : ldM (lkM N s) u (N 47) ≤ 144 := by
  have h8 := hV.t8
  have h : ldM (lkM N s) u (N 47) ≤ N 47 * 18 := sumN_le (fun t ht => by
    have := loudT_le hV ht
    unfold lkM
    split
    · omega
    · split <;> omega)
  omega
theorem lp2_X12_luck {s c : Nat} {w dn : Int32} (hV : NV N) (hM : MD I N) (hs : s < N 36) (hc : c ≤ 10) {Q : Option Int32 → sd_S → Prop} (K : ∀ v7 v8 v9, v7.category = 1 → v8.category = 1 → v9.category = 1 → AW muX12_luck 0 0 210 [.ref 170, .int (nI s), .int (nI c), .int w, .int (nI (sumN (2 ^ N 47) (tmM (lkM N s) c (N (42 + s)) (N 47) 0))), .int dn, .int (nI (2 ^ N 47)), v7, v8, v9] [] (sk0, X, I, J) Q) : ∀ (m u : Nat) (v7 v8 v9 : Value), v7.category = 1 → v8.category = 1 → v9.category = 1 → 2 ^ N 47 - u < m → u ≤ 2 ^ N 47 → AW muX12_luck 0 0 66 [.ref 170, .int (nI s), .int (nI c), .int w, .int (nI (sumN u (tmM (lkM N s) c (N (42 + s)) (N 47) 0))), .int dn, .int (nI u), v7, v8, v9] [] (sk0, X, I, J) Q := by
  have h5 := hV.s5
  have h8 := hV.t8
  have hbr := hV.br hs
  have hp := pow_nt h8
  intro m
  induction m with
  | zero => intros; omega
  | succ m ih =>
    intro u v7 v8 v9 h7 h8' h9 hm hu
    have hl := ldM_le (N := N) (s := s) (u := u) hV
    have e : sumN (u + 1) (tmM (lkM N s) c (N (42 + s)) (N 47) 0) = sumN u (tmM (lkM N s) c (N (42 + s)) (N 47) 0) + (if ldM (lkM N s) u (N 47) ≤ N (42 + s) then pdM c u (N 47) else 0) := by rw [sumN]; unfold tmM; rw [Nat.zero_add]
    refine AW.iload dX12_luck_66 rfl ?_
    refine AW.iconst (v := nI 1) dX12_luck_68 (by decide) ?_
    refine AW.aload_n dX12_luck_69 rfl rfl ?_
    refine g12_7 dX12_luck_70 wF_X12_23 (by first | assumption | rfl | (unfold is12; omega)) ?_
    refine AW.bipush (v := nI 47) dX12_luck_73 (by decide) ?_
    refine AW.iald dX12_luck_75 (by first | exact k0_175) _ (by first | rfl | assumption) (by omega) (by first | decide | omega) ?_
    refine AW.top (hM 47 (by decide)) ?_
    show AW muX12_luck _ _ 76 _ _ _ _
    refine AW.ishl dX12_luck_76 ?_
    refine AW.top (nI_shl1 (by omega)) ?_
    first | refine AW.icmp_geN (tgt := 210) dX12_luck_77 (by decide) (by omega) (by omega) (fun c77 => ?_) (fun c77 => ?_) | refine AW.icmp_ge (tgt := 210) dX12_luck_77 (by decide) (fun c77 => ?_) (fun c77 => ?_)
    · obtain rfl : u = 2 ^ N 47 := by omega
      exact K _ _ _ h7 h8' h9
    · refine AW.iconst (v := nI 1) dX12_luck_80 (by decide) ?_
      refine AW.istore dX12_luck_81 (by decide) rfl rfl ?_
      refine AW.iconst (v := nI 0) dX12_luck_83 (by decide) ?_
      refine AW.istore dX12_luck_84 (by decide) rfl rfl ?_
      refine AW.iconst (v := nI 0) dX12_luck_86 (by decide) ?_
      show AW muX12_luck _ _ 87 _ _ _ _
      refine AW.istore dX12_luck_87 (by decide) rfl rfl ?_
      refine lp3_X12_luck hV hM hs hc (by omega) (fun v9' h9' => ?_) (N 47 + 1) 0 (by omega) (by omega)
      refine AW.iload dX12_luck_179 rfl ?_
      refine AW.iload dX12_luck_181 rfl ?_
      refine AW.aload_n dX12_luck_183 rfl rfl ?_
      refine g12_7 dX12_luck_184 wF_X12_23 (by first | assumption | rfl | (unfold is12; omega)) ?_
      refine AW.bipush (v := nI 42) dX12_luck_187 (by decide) ?_
      show AW muX12_luck _ _ 189 _ _ _ _
      refine AW.iload_n dX12_luck_189 rfl rfl ?_
      first | refine AW.iaddN dX12_luck_190 ?_ | refine AW.iadd dX12_luck_190 ?_
      refine AW.iald dX12_luck_191 (by first | exact k0_175) _ (by first | rfl | assumption) (by omega) (by first | decide | omega) ?_
      refine AW.top (hM _ (by omega)) ?_
      first | refine AW.icmp_gtN (tgt := 200) dX12_luck_192 (by decide) (by omega) (by omega) (fun c192 => ?_) (fun c192 => ?_) | refine AW.icmp_gt (tgt := 200) dX12_luck_192 (by decide) (fun c192 => ?_) (fun c192 => ?_)
      · refine AW.iconst (v := nI 0) dX12_luck_200 (by decide) ?_
        first | refine AW.iaddN dX12_luck_201 ?_ | refine AW.iadd dX12_luck_201 ?_
        refine AW.istore dX12_luck_202 (by decide) rfl rfl ?_
        show AW muX12_luck _ _ 204 _ _ _ _
        first | refine AW.iincN dX12_luck_204 rfl (by decide) rfl rfl ?_ | refine AW.iinc dX12_luck_204 rfl rfl (by decide) rfl rfl ?_
        refine AW.goto (tgt := 66) dX12_luck_207 (by decide) ?_
        have := ih (u + 1) (.int (nI (pdM c u (N 47)))) (.int (nI (ldM (lkM N s) u (N 47)))) v9' rfl rfl h9' (by omega) (by omega)
        rw [e] at this
        first | (rw [if_pos (by omega)] at this; exact this) | (rw [if_neg (by omega)] at this; exact this)
      · refine AW.iload dX12_luck_195 rfl ?_
        refine AW.goto (tgt := 201) dX12_luck_197 (by decide) ?_
        first | refine AW.iaddN dX12_luck_201 ?_ | refine AW.iadd dX12_luck_201 ?_
        refine AW.istore dX12_luck_202 (by decide) rfl rfl ?_
        first | refine AW.iincN dX12_luck_204 rfl (by decide) rfl rfl ?_ | refine AW.iinc dX12_luck_204 rfl rfl (by decide) rfl rfl ?_
        refine AW.goto (tgt := 66) dX12_luck_207 (by decide) ?_
        have := ih (u + 1) (.int (nI (pdM c u (N 47)))) (.int (nI (ldM (lkM N s) u (N 47)))) v9' rfl rfl h9' (by omega) (by omega)
        rw [e] at this
        first | (rw [if_pos (by omega)] at this; exact this) | (rw [if_neg (by omega)] at this; exact this)
theorem lp4_X12_luck {s c w up dn : Int32} {v9 : Value} {Q : Option Int32 → sd_S → Prop} {g : Nat} (K : ∀ v7 v8, v7.category = 1 → v8.category = 1 → AW muX12_luck 0 0 241 [.ref 170, .int s, .int c, .int w, .int up, .int dn, .int (nI g), v7, v8, v9] [] (sk0, X, I, J) Q) : ∀ (m a b : Nat) (v8 : Value), v8.category = 1 → b < m → a < 2 ^ 31 → b < 2 ^ 31 → Nat.gcd a b = g → AW muX12_luck 0 0 218 [.ref 170, .int s, .int c, .int w, .int up, .int dn, .int (nI a), .int (nI b), v8, v9] [] (sk0, X, I, J) Q := by
  intro m
  induction m with
  | zero => intros; omega
  | succ m ih =>
    intro a b v8 h8 hm ha hb hg
    by_cases h0 : b = 0
    · subst h0
      refine AW.iload dX12_luck_218 rfl ?_
      refine AW.if_le (tgt := 241) dX12_luck_220 (by decide) (fun _ => ?_) (fun c => absurd (by decide) c)
      rw [Nat.gcd_zero_right] at hg
      subst hg
      exact K _ _ rfl h8
    · have hlt : a % b < b := Nat.mod_lt _ (by omega)
      refine AW.iload dX12_luck_218 rfl ?_
      refine AW.if_le (tgt := 241) dX12_luck_220 (by decide) (fun c => absurd ((nI_leI (a := b) (b := 0) (by omega) (by decide)).mp c) (by omega)) (fun _ => ?_)
      refine AW.iload dX12_luck_223 rfl ?_
      refine AW.iload dX12_luck_225 rfl ?_
      first | refine AW.iremN dX12_luck_227 (by omega) (by omega) (by omega) ?_ | refine AW.irem dX12_luck_227 (by first | assumption | decide) ?_
      refine AW.istore dX12_luck_228 (by decide) rfl rfl ?_
      refine AW.iload dX12_luck_230 rfl ?_
      refine AW.istore dX12_luck_232 (by decide) rfl rfl ?_
      show AW muX12_luck _ _ 234 _ _ _ _
      refine AW.iload dX12_luck_234 rfl ?_
      refine AW.istore dX12_luck_236 (by decide) rfl rfl ?_
      refine AW.goto (tgt := 218) dX12_luck_238 (by decide) ?_
      exact ih b (a % b) _ rfl (by omega) hb (by omega) (by rw [Nat.gcd_comm, ← Nat.gcd_rec, Nat.gcd_comm]; exact hg)
theorem m_luck {x y z : Int32} (hV : NV N) (hM : MD I N) (q1 : ¬ (inR x 0 (N 36) ∧ inR y 0 11 ∧ inR z 0 2) → Q (-1) (sk0, X, I, J)) (q2 : ∀ s c w, s < N 36 → c < 11 → w < 2 → x = nI s → y = nI c → z = nI w → Q (nI ((if w = 0 then lu (fun t => (lkW N s).testBit t) (loudT N) c (N (42 + s)) (N 47) 0 else bel (fun t => (lkW N s).testBit t) (N 47)) / Nat.gcd (lu (fun t => (lkW N s).testBit t) (loudT N) c (N (42 + s)) (N 47) 0) (bel (fun t => (lkW N s).testBit t) (N 47)))) (sk0, X, I, J)) : AWi muX12_luck [.ref 170, .int x, .int y, .int z] (sk0, X, I, J) Q := by
  have h5 := hV.s5
  have h8 := hV.t8
  show AW muX12_luck 0 0 0 [.ref 170, .int x, .int y, .int z, .null, .null, .null, .null, .null, .null] [] _ _
  refine AW.aload_n dX12_luck_0 rfl rfl ?_
  refine AW.iload_n dX12_luck_1 rfl rfl ?_
  refine cs_X12_luck_2 (by first | exact k0_170) (by decide) (by decide) (Nat.le_of_ble_eq_true rfl) (s_X12_isSleeper (hM 36 (by decide)) (by omega) (fun s hs ex => ?_) (fun hn => ?_))
  · refine AW.ifeq1 (tgt := 27) dX12_luck_5 (by decide) ?_
    refine AW.iload_n dX12_luck_8 rfl rfl ?_
    refine AW.iconst (v := nI 0) dX12_luck_9 (by decide) ?_
    refine AW.bipush (v := nI 10) dX12_luck_10 (by decide) ?_
    refine cs_X12_luck_12 (by decide) (by decide) (Nat.le_of_ble_eq_true rfl) (s_X12_in (lo := 0) (hi := 11) (by decide) (by decide) (by decide) (fun c _ hc ey => ?_) (fun hn => ?_))
    · refine AW.ifeq1 (tgt := 27) dX12_luck_15 (by decide) ?_
      refine AW.iload_n dX12_luck_18 rfl rfl ?_
      show AW muX12_luck _ _ 19 _ _ _ _
      refine AW.iconst (v := nI 0) dX12_luck_19 (by decide) ?_
      refine AW.iconst (v := nI 1) dX12_luck_20 (by decide) ?_
      refine cs_X12_luck_21 (by decide) (by decide) (Nat.le_of_ble_eq_true rfl) (s_X12_in (lo := 0) (hi := 2) (by decide) (by decide) (by decide) (fun w _ hw ez => ?_) (fun hn => ?_))
      · refine AW.ifne1 (tgt := 29) dX12_luck_24 (by decide) ?_
        refine AW.iconst (v := nI 0) dX12_luck_29 (by decide) ?_
        refine AW.istore dX12_luck_30 (by decide) rfl rfl ?_
        refine AW.iconst (v := nI 1) dX12_luck_32 (by decide) ?_
        refine AW.istore dX12_luck_33 (by decide) rfl rfl ?_
        show AW muX12_luck _ _ 35 _ _ _ _
        refine AW.iconst (v := nI 0) dX12_luck_35 (by decide) ?_
        refine AW.istore dX12_luck_36 (by decide) rfl rfl ?_
        subst ex; subst ey; subst ez
        have hq := q2 s c w hs hc hw rfl rfl rfl
        have hup : lm (lkM N s) c (N (42 + s)) (N 47) 0 = lu (fun t => (lkW N s).testBit t) (loudT N) c (N (42 + s)) (N 47) 0 * pwN (fun t => (lkW N s).testBit t) (N 47) := lm_lu (by omega) _ _ (fun t ht => lkM_p h8 ht)
        have hle := lu_le (p := fun t => (lkW N s).testBit t) (l := loudT N) (c := c) (b := N (42 + s)) (by omega) (N 47) 0
        have hdn := bel_pw (fun t => (lkW N s).testBit t) (N 47)
        have hp0 := pwN_pos (fun t => (lkW N s).testBit t) (N 47)
        have hb0 := bel_pos (fun t => (lkW N s).testBit t) (N 47)
        have h10 : 10 ^ N 47 ≤ 10 ^ 8 := Nat.pow_le_pow_right (by decide) h8
        have hul : lm (lkM N s) c (N (42 + s)) (N 47) 0 ≤ 10 ^ N 47 := by rw [hup, ← hdn]; exact Nat.mul_le_mul_right _ hle
        have hd0 : 0 < 10 ^ N 47 := Nat.pow_pos (by decide)
        generalize lu (fun t => (lkW N s).testBit t) (loudT N) c (N (42 + s)) (N 47) 0 = A at hq hup hle
        generalize bel (fun t => (lkW N s).testBit t) (N 47) = B at hq hle hdn hb0
        generalize pwN (fun t => (lkW N s).testBit t) (N 47) = P at hup hdn hp0
        have f1 := frac_eq (A := A) (B := B) hp0
        have f2 := frac_eq2 (A := A) (B := B) hp0
        rw [← hup, hdn] at f1 f2
        have hg0 : 0 < Nat.gcd (lm (lkM N s) c (N (42 + s)) (N 47) 0) (10 ^ N 47) := Nat.gcd_pos_of_pos_right _ hd0
        have hgl : Nat.gcd (lm (lkM N s) c (N (42 + s)) (N 47) 0) (10 ^ N 47) ≤ 10 ^ N 47 := Nat.le_of_dvd hd0 (Nat.gcd_dvd_right _ _)
        refine lp1_X12_luck hV hM ?_ (N 47 + 1) 0 (by omega) (by omega)
        refine AW.iconst (v := nI 0) dX12_luck_63 (by decide) ?_
        refine AW.istore dX12_luck_64 (by decide) rfl rfl ?_
        refine lp2_X12_luck hV hM hs (by omega) (fun v7 v8 v9 g7 g8 g9 => ?_) (2 ^ N 47 + 1) 0 .null .null .null rfl rfl rfl (Nat.lt_succ_of_le (Nat.sub_le _ _)) (Nat.zero_le _)
        rw [sum_tmM]
        refine AW.iload dX12_luck_210 rfl ?_
        refine AW.istore dX12_luck_212 (by decide) rfl rfl ?_
        show AW muX12_luck _ _ 214 _ _ _ _
        refine AW.iload dX12_luck_214 rfl ?_
        refine AW.istore dX12_luck_216 (by decide) rfl rfl ?_
        refine lp4_X12_luck (g := Nat.gcd (lm (lkM N s) c (N (42 + s)) (N 47) 0) (10 ^ N 47)) (fun v7' v8' g7' g8' => ?_) (10 ^ N 47 + 1) _ _ v8 g8 (Nat.lt_succ_self _) (by omega) (by omega) rfl
        refine AW.iload_n dX12_luck_241 rfl rfl ?_
        first | refine AW.if_neN (tgt := 250) dX12_luck_242 (by decide) (by omega) (fun c242 => ?_) (fun c242 => ?_) | refine AW.if_ne (tgt := 250) dX12_luck_242 (by decide) (fun c242 => ?_) (fun c242 => ?_)
        · refine AW.iload dX12_luck_250 rfl ?_
          refine AW.iload dX12_luck_252 rfl ?_
          first | refine AW.idivN dX12_luck_254 (by omega) (by omega) (by omega) ?_ | refine AW.idiv dX12_luck_254 (by first | assumption | decide) ?_
          show AW muX12_luck _ _ 255 _ _ _ _
          refine AW.iret dX12_luck_255 ⟨_, rfl, rfl⟩ (Nat.zero_le _) (Nat.zero_le _) ⟨_, rfl, ?_⟩
          first | (rw [if_pos c242, ← f1] at hq; exact hq) | (rw [if_neg c242, ← f2] at hq; exact hq)
        · refine AW.iload dX12_luck_245 rfl ?_
          refine AW.goto (tgt := 252) dX12_luck_247 (by decide) ?_
          refine AW.iload dX12_luck_252 rfl ?_
          first | refine AW.idivN dX12_luck_254 (by omega) (by omega) (by omega) ?_ | refine AW.idiv dX12_luck_254 (by first | assumption | decide) ?_
          refine AW.iret dX12_luck_255 ⟨_, rfl, rfl⟩ (Nat.zero_le _) (Nat.zero_le _) ⟨_, rfl, ?_⟩
          first | (rw [if_pos c242, ← f1] at hq; exact hq) | (rw [if_neg c242, ← f2] at hq; exact hq)
      · refine AW.ifne0 (tgt := 29) dX12_luck_24 (by decide) ?_
        refine AW.iconst (v := (-1)) dX12_luck_27 (by decide) ?_
        refine AW.iret dX12_luck_28 ⟨_, rfl, rfl⟩ (Nat.zero_le _) (Nat.zero_le _) ⟨_, rfl, ?_⟩
        first | exact q1 (fun h => hn h.1) | exact q1 (fun h => hn h.2.1) | exact q1 (fun h => hn h.2.2)
    · refine AW.ifeq0 (tgt := 27) dX12_luck_15 (by decide) ?_
      refine AW.iconst (v := (-1)) dX12_luck_27 (by decide) ?_
      refine AW.iret dX12_luck_28 ⟨_, rfl, rfl⟩ (Nat.zero_le _) (Nat.zero_le _) ⟨_, rfl, ?_⟩
      first | exact q1 (fun h => hn h.1) | exact q1 (fun h => hn h.2.1) | exact q1 (fun h => hn h.2.2)
  · refine AW.ifeq0 (tgt := 27) dX12_luck_5 (by decide) ?_
    refine AW.iconst (v := (-1)) dX12_luck_27 (by decide) ?_
    show AW muX12_luck _ _ 28 _ _ _ _
    refine AW.iret dX12_luck_28 ⟨_, rfl, rfl⟩ (Nat.zero_le _) (Nat.zero_le _) ⟨_, rfl, ?_⟩
    first | exact q1 (fun h => hn h.1) | exact q1 (fun h => hn h.2.1) | exact q1 (fun h => hn h.2.2)
end Mod4
