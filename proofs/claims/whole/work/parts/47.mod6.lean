-- the model's own calls: heard
section Mod6
variable {X : Nat × (Nat → Int32)} {I : sd_I} {J : sd_J} {N : Nat → Nat} {sh : Nat → Nat × Nat × Nat × (Nat → Int64)} {Q : Int32 → sd_S → Prop}
theorem lpK0_X12_heard {t s i n v set : Nat} {l v7 : Int32} {it : Nat → Int64} (hV : NV N) (hM : MD I N) (ht : t < N 47) (hs : s < 4) (hin : i + n ≤ 24) (hv : v < 5) (hit : ∀ q, q < 24 → J 173 (24 * s + q) = it q) {Q : Option Int32 → sd_S → Prop} (K : ∀ v10 v12, v10.category = 1 → v12.category = 1 → AW muX12_heard 0 0 209 [.ref 170, .int (nI t), .int (nI s), .int l, .int (nI i), .int (nI n), .int (nI 0), .int v7, .int (nI set), .int (nI v), v10, .int (nI (hdB it i v (N (56 + t)) (N (18 + t)) (N 0) n).toNat), v12] [] (sk0, X, I, J) Q) : ∀ (m k : Nat), n - k < m → k ≤ n → AW muX12_heard 0 0 107 [.ref 170, .int (nI t), .int (nI s), .int l, .int (nI i), .int (nI n), .int (nI 0), .int v7, .int (nI set), .int (nI v), .int (nI (lg v (N (56 + t)) (N (18 + t)) (N 0) k)), .int (nI (hdB it i v (N (56 + t)) (N (18 + t)) (N 0) k).toNat), .int (nI k)] [] (sk0, X, I, J) Q := by
  have h8 := hV.t8
  have := hV.kd ht
  have := hV.dr ht
  have := hV.lf ht
  have := hV.ni
  have hA := AS.rf hM
  intro m
  induction m with
  | zero => intros; omega
  | succ m ih =>
    intro k hm hk
    by_cases hkn : k < n
    · have hle := lg_le (kd := v) (d := (N (56 + t))) (l := N (18 + t)) (n := N 0) k
      have hle2 := lg_le (kd := v) (d := (N (56 + t))) (l := N (18 + t)) (n := N 0) (k + 1)
      have hst : hdB it i v (N (56 + t)) (N (18 + t)) (N 0) (k + 1) = (hdB it i v (N (56 + t)) (N (18 + t)) (N 0) k && decide (it (i + k) = lN (lg v (N (56 + t)) (N (18 + t)) (N 0) (k + 1)))) := rfl
      have hnx : ∀ b : Bool, hdB it i v (N (56 + t)) (N (18 + t)) (N 0) (k + 1) = b → AW muX12_heard 0 0 201 [.ref 170, .int (nI t), .int (nI s), .int l, .int (nI i), .int (nI n), .int (nI 0), .int v7, .int (nI set), .int (nI v), .int (nI (lg v (N (56 + t)) (N (18 + t)) (N 0) (k + 1))), .int (nI (hdB it i v (N (56 + t)) (N (18 + t)) (N 0) k).toNat), .int (nI k)] [.int (nI b.toNat)] (sk0, X, I, J) Q := fun b hb => by
        refine AW.istore dX12_heard_201 (by decide) rfl rfl ?_
        refine AW.iincN dX12_heard_203 rfl (by decide) rfl rfl ?_
        refine AW.goto (tgt := 107) dX12_heard_206 (by decide) ?_
        have := ih (k + 1) (by omega) (by omega)
        rw [hb] at this
        exact this
      generalize hdB it i v (N (56 + t)) (N (18 + t)) (N 0) k = c0 at hst hnx ⊢
      refine AW.iload dX12_heard_107 rfl ?_
      refine AW.iload dX12_heard_109 rfl ?_
      refine AW.icmp_geN (tgt := 209) dX12_heard_111 (by decide) (by omega) (by omega) (fun c => by omega) (fun _ => ?_)
      refine AW.iload dX12_heard_114 rfl ?_
      refine AW.if_neN (tgt := 124) dX12_heard_116 (by decide) (by decide) (fun c => absurd rfl c) (fun _ => ?_)
      refine AW.iload dX12_heard_119 rfl ?_
      refine AW.goto (tgt := 133) dX12_heard_121 (by decide) ?_
      refine AW.iload dX12_heard_133 rfl ?_
      refine AW.iconst (v := nI 1) dX12_heard_135 (by decide) ?_
      show AW muX12_heard _ _ 136 _ _ _ _
      refine AW.icmp_neN (tgt := 144) dX12_heard_136 (by decide) (by decide) (by decide) (fun _ => ?_) (fun c => absurd c (by decide))
      refine AW.aload_n dX12_heard_144 rfl rfl ?_
      refine g12_7 dX12_heard_145 wF_X12_23 (by first | assumption | rfl | (unfold is12; omega)) ?_
      refine AW.bipush (v := nI 56) dX12_heard_148 (by decide) ?_
      refine AW.iload_n dX12_heard_150 rfl rfl ?_
      first | refine AW.iaddN dX12_heard_151 ?_ | refine AW.iadd dX12_heard_151 ?_
      refine AW.iald dX12_heard_152 (by first | exact k0_175) _ (by first | rfl | assumption) (by omega) (by first | decide | omega) ?_
      first | refine AW.top (by first | exact AS.g hA (by omega)) ?_ | skip
      show AW muX12_heard _ _ 153 _ _ _ _
      refine AW.iload dX12_heard_153 rfl ?_
      refine AW.aload_n dX12_heard_155 rfl rfl ?_
      refine g12_7 dX12_heard_156 wF_X12_23 (by first | assumption | rfl | (unfold is12; omega)) ?_
      refine AW.iconst (v := nI 0) dX12_heard_159 (by decide) ?_
      refine AW.iald dX12_heard_160 (by first | exact k0_175) _ (by first | rfl | assumption) (by omega) (by first | decide | omega) ?_
      first | refine AW.top (by first | exact AS.g hA (by omega)) ?_ | skip
      refine AW.iload dX12_heard_161 rfl ?_
      show AW muX12_heard _ _ 163 _ _ _ _
      first | refine AW.iaddN dX12_heard_163 ?_ | refine AW.iadd dX12_heard_163 ?_
      refine cs_X12_heard_164 (by decide) (by decide) (Nat.le_of_ble_eq_true rfl) (s_X12_leftBy (by omega) (by omega) (by omega) (by omega) ?_)
      rw [← lg_succ]
      refine AW.istore dX12_heard_167 (by decide) rfl rfl ?_
      refine AW.iload dX12_heard_169 rfl ?_
      cases c0 with
      | false =>
        refine AW.ifeq0 (tgt := 200) dX12_heard_171 (by decide) ?_
        refine AW.iconst (v := nI 0) dX12_heard_200 (by decide) ?_
        exact hnx false (by rw [hst]; rfl)
      | true =>
        refine AW.ifeq1 (tgt := 200) dX12_heard_171 (by decide) ?_
        refine AW.aload_n dX12_heard_174 rfl rfl ?_
        refine g12_2 dX12_heard_175 wF_X12_16 (by first | assumption | rfl | (unfold is12; omega)) ?_
        show AW muX12_heard _ _ 178 _ _ _ _
        refine AW.bipush (v := nI 24) dX12_heard_178 (by decide) ?_
        refine AW.iload_n dX12_heard_180 rfl rfl ?_
        first | refine AW.imulN dX12_heard_181 ?_ | refine AW.imul dX12_heard_181 ?_
        refine AW.iload dX12_heard_182 rfl ?_
        first | refine AW.iaddN dX12_heard_184 ?_ | refine AW.iadd dX12_heard_184 ?_
        refine AW.iload dX12_heard_185 rfl ?_
        show AW muX12_heard _ _ 187 _ _ _ _
        first | refine AW.iaddN dX12_heard_187 ?_ | refine AW.iadd dX12_heard_187 ?_
        refine AW.lald dX12_heard_188 (by first | exact k0_173) _ (by first | rfl | assumption) (by omega) (by first | decide | omega) ?_
        refine AW.topL (show _ = it (i + k) by rw [show 24 * s + i + k = 24 * s + (i + k) by omega]; exact hit (i + k) (by omega)) ?_
        refine AW.iload dX12_heard_189 rfl ?_
        refine AW.i2l dX12_heard_191 ?_
        refine AW.topL (nI_l (by omega)) ?_
        refine AW.lcmp dX12_heard_192 ?_
        refine AW.if_ne (tgt := 200) dX12_heard_193 (by decide) (fun c193 => ?_) (fun c193 => ?_)
        · refine AW.iconst (v := nI 0) dX12_heard_200 (by decide) ?_
          show AW muX12_heard _ _ 201 _ _ _ _
          exact hnx false (by rw [hst, decide_eq_false (fun h => c193 ((lg_cmp_eq _ _).mpr h))]; rfl)
        · refine AW.iconst (v := nI 1) dX12_heard_196 (by decide) ?_
          refine AW.goto (tgt := 201) dX12_heard_197 (by decide) ?_
          exact hnx true (by rw [hst, decide_eq_true ((lg_cmp_eq _ _).mp c193)]; rfl)
    · obtain rfl : k = n := by omega
      refine AW.iload dX12_heard_107 rfl ?_
      refine AW.iload dX12_heard_109 rfl ?_
      refine AW.icmp_geN (tgt := 209) dX12_heard_111 (by decide) (by omega) (by omega) (fun _ => ?_) (fun c => by omega)
      exact K _ _ rfl rfl
theorem lpV0_X12_heard {t s i n : Nat} {l v7 : Int32} {it : Nat → Int64} (hV : NV N) (hM : MD I N) (ht : t < N 47) (hs : s < 4) (hin : i + n ≤ 24) (hit : ∀ q, q < 24 → J 173 (24 * s + q) = it q) {Q : Option Int32 → sd_S → Prop} (K : Q (some (nI (setN 5 (fun v => hdB it i v (N (56 + t)) (N (18 + t)) (N 0) n)))) (sk0, X, I, J)) : ∀ (m v : Nat) (v10 v11 v12 : Value), v10.category = 1 → v11.category = 1 → v12.category = 1 → 5 - v < m → 0 ≤ v → v ≤ 5 → AW muX12_heard 0 0 74 [.ref 170, .int (nI t), .int (nI s), .int l, .int (nI i), .int (nI n), .int (nI 0), .int v7, .int (nI (setN v (fun v => hdB it i v (N (56 + t)) (N (18 + t)) (N 0) n))), .int (nI v), v10, v11, v12] [] (sk0, X, I, J) Q := by
  have h8 := hV.t8
  have hA := AS.rf hM
  intro m
  induction m with
  | zero => intros; omega
  | succ m ih =>
    intro v v10 v11 v12 g10 g11 g12 hm hlo hv
    have hlt := setN_lt v (fun v => hdB it i v (N (56 + t)) (N (18 + t)) (N 0) n)
    refine AW.iload dX12_heard_74 rfl ?_
    refine AW.iload dX12_heard_76 rfl ?_
    refine AW.if_neN (tgt := 85) dX12_heard_78 (by decide) (by decide) (fun c => absurd rfl c) (fun _ => ?_)
    refine AW.iconst (v := nI 5) dX12_heard_81 (by decide) ?_
    refine AW.goto (tgt := 87) dX12_heard_82 (by decide) ?_
    first | refine AW.icmp_geN (tgt := 233) dX12_heard_87 (by decide) (by omega) (by omega) (fun c87 => ?_) (fun c87 => ?_) | refine AW.icmp_ge (tgt := 233) dX12_heard_87 (by decide) (fun c87 => ?_) (fun c87 => ?_)
    · refine AW.iload dX12_heard_233 rfl ?_
      refine AW.iret dX12_heard_235 ⟨_, rfl, rfl⟩ (Nat.zero_le _) (Nat.zero_le _) ?_
      obtain rfl : v = 5 := by omega
      exact K
    · refine AW.aload_n dX12_heard_90 rfl rfl ?_
      refine g12_7 dX12_heard_91 wF_X12_23 (by first | assumption | rfl | (unfold is12; omega)) ?_
      show AW muX12_heard _ _ 94 _ _ _ _
      refine AW.bipush (v := nI 18) dX12_heard_94 (by decide) ?_
      refine AW.iload_n dX12_heard_96 rfl rfl ?_
      first | refine AW.iaddN dX12_heard_97 ?_ | refine AW.iadd dX12_heard_97 ?_
      refine AW.iald dX12_heard_98 (by first | exact k0_175) _ (by first | rfl | assumption) (by omega) (by first | decide | omega) ?_
      first | refine AW.top (by first | exact AS.g hA (by omega)) ?_ | skip
      refine AW.istore dX12_heard_99 (by decide) rfl rfl ?_
      refine AW.iconst (v := nI 1) dX12_heard_101 (by decide) ?_
      show AW muX12_heard _ _ 102 _ _ _ _
      refine AW.istore dX12_heard_102 (by decide) rfl rfl ?_
      refine AW.iconst (v := nI 0) dX12_heard_104 (by decide) ?_
      refine AW.istore dX12_heard_105 (by decide) rfl rfl ?_
      refine lpK0_X12_heard hV hM ht hs hin (by omega) hit (fun v10' v12' g10' g12' => ?_) (n + 1) 0 (by omega) (by omega)
      have hs1 : setN (v + 1) (fun v => hdB it i v (N (56 + t)) (N (18 + t)) (N 0) n) = setN v (fun v => hdB it i v (N (56 + t)) (N (18 + t)) (N 0) n) + (if hdB it i v (N (56 + t)) (N (18 + t)) (N 0) n = true then 2 ^ v else 0) := by rw [setN]
      have hnx := fun b => ih (v + 1) v10' (.int (nI b)) v12' g10' rfl g12' (by omega) (by omega) (by omega)
      rw [hs1] at hnx
      generalize hdB it i v (N (56 + t)) (N (18 + t)) (N 0) n = c0 at hnx ⊢
      cases c0 with
      | false =>
        refine AW.iload dX12_heard_209 rfl ?_
        refine AW.iload dX12_heard_211 rfl ?_
        refine AW.ifeq0 (tgt := 223) dX12_heard_213 (by decide) ?_
        refine AW.iconst (v := nI 0) dX12_heard_223 (by decide) ?_
        refine AW.ior dX12_heard_224 ?_
        refine AW.top ((by first | exact nI_or hlt | exact nI_or0 _)) ?_
        refine AW.istore dX12_heard_225 (by decide) rfl rfl ?_
        show AW muX12_heard _ _ 227 _ _ _ _
        first | refine AW.iincN dX12_heard_227 rfl (by decide) rfl rfl ?_ | refine AW.iinc dX12_heard_227 rfl rfl (by decide) rfl rfl ?_
        refine AW.goto (tgt := 74) dX12_heard_230 (by decide) ?_
        exact hnx _
      | true =>
        refine AW.iload dX12_heard_209 rfl ?_
        refine AW.iload dX12_heard_211 rfl ?_
        refine AW.ifeq1 (tgt := 223) dX12_heard_213 (by decide) ?_
        refine AW.iconst (v := nI 1) dX12_heard_216 (by decide) ?_
        refine AW.iload dX12_heard_217 rfl ?_
        refine AW.ishl dX12_heard_219 ?_
        refine AW.top (nI_shl1 (by omega)) ?_
        refine AW.goto (tgt := 224) dX12_heard_220 (by decide) ?_
        refine AW.ior dX12_heard_224 ?_
        refine AW.top ((by first | exact nI_or hlt | exact nI_or0 _)) ?_
        refine AW.istore dX12_heard_225 (by decide) rfl rfl ?_
        show AW muX12_heard _ _ 227 _ _ _ _
        first | refine AW.iincN dX12_heard_227 rfl (by decide) rfl rfl ?_ | refine AW.iinc dX12_heard_227 rfl rfl (by decide) rfl rfl ?_
        refine AW.goto (tgt := 74) dX12_heard_230 (by decide) ?_
        exact hnx _
theorem lpK1_X12_heard {t s i n v set : Nat} {l v7 : Int32} {it : Nat → Int64} (hV : NV N) (hM : MD I N) (ht : t < N 47) (hs : s < 4) (hin : i + n ≤ 24) (hv : v < 10) (hit : ∀ q, q < 24 → J 173 (24 * s + q) = it q) {Q : Option Int32 → sd_S → Prop} (K : ∀ v10 v12, v10.category = 1 → v12.category = 1 → AW muX12_heard 0 0 209 [.ref 170, .int (nI t), .int (nI s), .int l, .int (nI i), .int (nI n), .int (nI 1), .int v7, .int (nI set), .int (nI v), v10, .int (nI (hdB it i (N (48 + t)) v (N (18 + t)) (N 0) n).toNat), v12] [] (sk0, X, I, J) Q) : ∀ (m k : Nat), n - k < m → k ≤ n → AW muX12_heard 0 0 107 [.ref 170, .int (nI t), .int (nI s), .int l, .int (nI i), .int (nI n), .int (nI 1), .int v7, .int (nI set), .int (nI v), .int (nI (lg (N (48 + t)) v (N (18 + t)) (N 0) k)), .int (nI (hdB it i (N (48 + t)) v (N (18 + t)) (N 0) k).toNat), .int (nI k)] [] (sk0, X, I, J) Q := by
  have h8 := hV.t8
  have := hV.kd ht
  have := hV.dr ht
  have := hV.lf ht
  have := hV.ni
  have hA := AS.rf hM
  intro m
  induction m with
  | zero => intros; omega
  | succ m ih =>
    intro k hm hk
    by_cases hkn : k < n
    · have hle := lg_le (kd := (N (48 + t))) (d := v) (l := N (18 + t)) (n := N 0) k
      have hle2 := lg_le (kd := (N (48 + t))) (d := v) (l := N (18 + t)) (n := N 0) (k + 1)
      have hst : hdB it i (N (48 + t)) v (N (18 + t)) (N 0) (k + 1) = (hdB it i (N (48 + t)) v (N (18 + t)) (N 0) k && decide (it (i + k) = lN (lg (N (48 + t)) v (N (18 + t)) (N 0) (k + 1)))) := rfl
      have hnx : ∀ b : Bool, hdB it i (N (48 + t)) v (N (18 + t)) (N 0) (k + 1) = b → AW muX12_heard 0 0 201 [.ref 170, .int (nI t), .int (nI s), .int l, .int (nI i), .int (nI n), .int (nI 1), .int v7, .int (nI set), .int (nI v), .int (nI (lg (N (48 + t)) v (N (18 + t)) (N 0) (k + 1))), .int (nI (hdB it i (N (48 + t)) v (N (18 + t)) (N 0) k).toNat), .int (nI k)] [.int (nI b.toNat)] (sk0, X, I, J) Q := fun b hb => by
        refine AW.istore dX12_heard_201 (by decide) rfl rfl ?_
        refine AW.iincN dX12_heard_203 rfl (by decide) rfl rfl ?_
        refine AW.goto (tgt := 107) dX12_heard_206 (by decide) ?_
        have := ih (k + 1) (by omega) (by omega)
        rw [hb] at this
        exact this
      generalize hdB it i (N (48 + t)) v (N (18 + t)) (N 0) k = c0 at hst hnx ⊢
      refine AW.iload dX12_heard_107 rfl ?_
      refine AW.iload dX12_heard_109 rfl ?_
      refine AW.icmp_geN (tgt := 209) dX12_heard_111 (by decide) (by omega) (by omega) (fun c => by omega) (fun _ => ?_)
      refine AW.iload dX12_heard_114 rfl ?_
      refine AW.if_neN (tgt := 124) dX12_heard_116 (by decide) (by decide) (fun _ => ?_) (fun c => absurd c (by decide))
      refine AW.aload_n dX12_heard_124 rfl rfl ?_
      refine g12_7 dX12_heard_125 wF_X12_23 (by first | assumption | rfl | (unfold is12; omega)) ?_
      refine AW.bipush (v := nI 48) dX12_heard_128 (by decide) ?_
      show AW muX12_heard _ _ 130 _ _ _ _
      refine AW.iload_n dX12_heard_130 rfl rfl ?_
      first | refine AW.iaddN dX12_heard_131 ?_ | refine AW.iadd dX12_heard_131 ?_
      refine AW.iald dX12_heard_132 (by first | exact k0_175) _ (by first | rfl | assumption) (by omega) (by first | decide | omega) ?_
      first | refine AW.top (by first | exact AS.g hA (by omega)) ?_ | skip
      refine AW.iload dX12_heard_133 rfl ?_
      refine AW.iconst (v := nI 1) dX12_heard_135 (by decide) ?_
      refine AW.icmp_neN (tgt := 144) dX12_heard_136 (by decide) (by decide) (by decide) (fun c => absurd rfl c) (fun _ => ?_)
      refine AW.iload dX12_heard_139 rfl ?_
      show AW muX12_heard _ _ 141 _ _ _ _
      refine AW.goto (tgt := 153) dX12_heard_141 (by decide) ?_
      refine AW.iload dX12_heard_153 rfl ?_
      refine AW.aload_n dX12_heard_155 rfl rfl ?_
      refine g12_7 dX12_heard_156 wF_X12_23 (by first | assumption | rfl | (unfold is12; omega)) ?_
      refine AW.iconst (v := nI 0) dX12_heard_159 (by decide) ?_
      refine AW.iald dX12_heard_160 (by first | exact k0_175) _ (by first | rfl | assumption) (by omega) (by first | decide | omega) ?_
      first | refine AW.top (by first | exact AS.g hA (by omega)) ?_ | skip
      refine AW.iload dX12_heard_161 rfl ?_
      show AW muX12_heard _ _ 163 _ _ _ _
      first | refine AW.iaddN dX12_heard_163 ?_ | refine AW.iadd dX12_heard_163 ?_
      refine cs_X12_heard_164 (by decide) (by decide) (Nat.le_of_ble_eq_true rfl) (s_X12_leftBy (by omega) (by omega) (by omega) (by omega) ?_)
      rw [← lg_succ]
      refine AW.istore dX12_heard_167 (by decide) rfl rfl ?_
      refine AW.iload dX12_heard_169 rfl ?_
      cases c0 with
      | false =>
        refine AW.ifeq0 (tgt := 200) dX12_heard_171 (by decide) ?_
        refine AW.iconst (v := nI 0) dX12_heard_200 (by decide) ?_
        exact hnx false (by rw [hst]; rfl)
      | true =>
        refine AW.ifeq1 (tgt := 200) dX12_heard_171 (by decide) ?_
        refine AW.aload_n dX12_heard_174 rfl rfl ?_
        refine g12_2 dX12_heard_175 wF_X12_16 (by first | assumption | rfl | (unfold is12; omega)) ?_
        show AW muX12_heard _ _ 178 _ _ _ _
        refine AW.bipush (v := nI 24) dX12_heard_178 (by decide) ?_
        refine AW.iload_n dX12_heard_180 rfl rfl ?_
        first | refine AW.imulN dX12_heard_181 ?_ | refine AW.imul dX12_heard_181 ?_
        refine AW.iload dX12_heard_182 rfl ?_
        first | refine AW.iaddN dX12_heard_184 ?_ | refine AW.iadd dX12_heard_184 ?_
        refine AW.iload dX12_heard_185 rfl ?_
        show AW muX12_heard _ _ 187 _ _ _ _
        first | refine AW.iaddN dX12_heard_187 ?_ | refine AW.iadd dX12_heard_187 ?_
        refine AW.lald dX12_heard_188 (by first | exact k0_173) _ (by first | rfl | assumption) (by omega) (by first | decide | omega) ?_
        refine AW.topL (show _ = it (i + k) by rw [show 24 * s + i + k = 24 * s + (i + k) by omega]; exact hit (i + k) (by omega)) ?_
        refine AW.iload dX12_heard_189 rfl ?_
        refine AW.i2l dX12_heard_191 ?_
        refine AW.topL (nI_l (by omega)) ?_
        refine AW.lcmp dX12_heard_192 ?_
        refine AW.if_ne (tgt := 200) dX12_heard_193 (by decide) (fun c193 => ?_) (fun c193 => ?_)
        · refine AW.iconst (v := nI 0) dX12_heard_200 (by decide) ?_
          show AW muX12_heard _ _ 201 _ _ _ _
          exact hnx false (by rw [hst, decide_eq_false (fun h => c193 ((lg_cmp_eq _ _).mpr h))]; rfl)
        · refine AW.iconst (v := nI 1) dX12_heard_196 (by decide) ?_
          refine AW.goto (tgt := 201) dX12_heard_197 (by decide) ?_
          exact hnx true (by rw [hst, decide_eq_true ((lg_cmp_eq _ _).mp c193)]; rfl)
    · obtain rfl : k = n := by omega
      refine AW.iload dX12_heard_107 rfl ?_
      refine AW.iload dX12_heard_109 rfl ?_
      refine AW.icmp_geN (tgt := 209) dX12_heard_111 (by decide) (by omega) (by omega) (fun _ => ?_) (fun c => by omega)
      exact K _ _ rfl rfl
theorem lpV1_X12_heard {t s i n : Nat} {l v7 : Int32} {it : Nat → Int64} (hV : NV N) (hM : MD I N) (ht : t < N 47) (hs : s < 4) (hin : i + n ≤ 24) (hit : ∀ q, q < 24 → J 173 (24 * s + q) = it q) {Q : Option Int32 → sd_S → Prop} (K : Q (some (nI (setN 10 (fun v => decide (1 ≤ v) && hdB it i (N (48 + t)) v (N (18 + t)) (N 0) n)))) (sk0, X, I, J)) : ∀ (m v : Nat) (v10 v11 v12 : Value), v10.category = 1 → v11.category = 1 → v12.category = 1 → 10 - v < m → 1 ≤ v → v ≤ 10 → AW muX12_heard 0 0 74 [.ref 170, .int (nI t), .int (nI s), .int l, .int (nI i), .int (nI n), .int (nI 1), .int v7, .int (nI (setN v (fun v => decide (1 ≤ v) && hdB it i (N (48 + t)) v (N (18 + t)) (N 0) n))), .int (nI v), v10, v11, v12] [] (sk0, X, I, J) Q := by
  have h8 := hV.t8
  have hA := AS.rf hM
  intro m
  induction m with
  | zero => intros; omega
  | succ m ih =>
    intro v v10 v11 v12 g10 g11 g12 hm hlo hv
    have hlt := setN_lt v (fun v => decide (1 ≤ v) && hdB it i (N (48 + t)) v (N (18 + t)) (N 0) n)
    refine AW.iload dX12_heard_74 rfl ?_
    refine AW.iload dX12_heard_76 rfl ?_
    refine AW.if_neN (tgt := 85) dX12_heard_78 (by decide) (by decide) (fun _ => ?_) (fun c => absurd c (by decide))
    refine AW.bipush (v := nI 10) dX12_heard_85 (by decide) ?_
    first | refine AW.icmp_geN (tgt := 233) dX12_heard_87 (by decide) (by omega) (by omega) (fun c87 => ?_) (fun c87 => ?_) | refine AW.icmp_ge (tgt := 233) dX12_heard_87 (by decide) (fun c87 => ?_) (fun c87 => ?_)
    · refine AW.iload dX12_heard_233 rfl ?_
      refine AW.iret dX12_heard_235 ⟨_, rfl, rfl⟩ (Nat.zero_le _) (Nat.zero_le _) ?_
      obtain rfl : v = 10 := by omega
      exact K
    · refine AW.aload_n dX12_heard_90 rfl rfl ?_
      refine g12_7 dX12_heard_91 wF_X12_23 (by first | assumption | rfl | (unfold is12; omega)) ?_
      show AW muX12_heard _ _ 94 _ _ _ _
      refine AW.bipush (v := nI 18) dX12_heard_94 (by decide) ?_
      refine AW.iload_n dX12_heard_96 rfl rfl ?_
      first | refine AW.iaddN dX12_heard_97 ?_ | refine AW.iadd dX12_heard_97 ?_
      refine AW.iald dX12_heard_98 (by first | exact k0_175) _ (by first | rfl | assumption) (by omega) (by first | decide | omega) ?_
      first | refine AW.top (by first | exact AS.g hA (by omega)) ?_ | skip
      refine AW.istore dX12_heard_99 (by decide) rfl rfl ?_
      refine AW.iconst (v := nI 1) dX12_heard_101 (by decide) ?_
      show AW muX12_heard _ _ 102 _ _ _ _
      refine AW.istore dX12_heard_102 (by decide) rfl rfl ?_
      refine AW.iconst (v := nI 0) dX12_heard_104 (by decide) ?_
      refine AW.istore dX12_heard_105 (by decide) rfl rfl ?_
      refine lpK1_X12_heard hV hM ht hs hin (by omega) hit (fun v10' v12' g10' g12' => ?_) (n + 1) 0 (by omega) (by omega)
      have hs1 : setN (v + 1) (fun v => decide (1 ≤ v) && hdB it i (N (48 + t)) v (N (18 + t)) (N 0) n) = setN v (fun v => decide (1 ≤ v) && hdB it i (N (48 + t)) v (N (18 + t)) (N 0) n) + (if hdB it i (N (48 + t)) v (N (18 + t)) (N 0) n = true then 2 ^ v else 0) := by rw [setN, decide_eq_true hlo, Bool.true_and]
      have hnx := fun b => ih (v + 1) v10' (.int (nI b)) v12' g10' rfl g12' (by omega) (by omega) (by omega)
      rw [hs1] at hnx
      generalize hdB it i (N (48 + t)) v (N (18 + t)) (N 0) n = c0 at hnx ⊢
      cases c0 with
      | false =>
        refine AW.iload dX12_heard_209 rfl ?_
        refine AW.iload dX12_heard_211 rfl ?_
        refine AW.ifeq0 (tgt := 223) dX12_heard_213 (by decide) ?_
        refine AW.iconst (v := nI 0) dX12_heard_223 (by decide) ?_
        refine AW.ior dX12_heard_224 ?_
        refine AW.top ((by first | exact nI_or hlt | exact nI_or0 _)) ?_
        refine AW.istore dX12_heard_225 (by decide) rfl rfl ?_
        show AW muX12_heard _ _ 227 _ _ _ _
        first | refine AW.iincN dX12_heard_227 rfl (by decide) rfl rfl ?_ | refine AW.iinc dX12_heard_227 rfl rfl (by decide) rfl rfl ?_
        refine AW.goto (tgt := 74) dX12_heard_230 (by decide) ?_
        exact hnx _
      | true =>
        refine AW.iload dX12_heard_209 rfl ?_
        refine AW.iload dX12_heard_211 rfl ?_
        refine AW.ifeq1 (tgt := 223) dX12_heard_213 (by decide) ?_
        refine AW.iconst (v := nI 1) dX12_heard_216 (by decide) ?_
        refine AW.iload dX12_heard_217 rfl ?_
        refine AW.ishl dX12_heard_219 ?_
        refine AW.top (nI_shl1 (by omega)) ?_
        refine AW.goto (tgt := 224) dX12_heard_220 (by decide) ?_
        refine AW.ior dX12_heard_224 ?_
        refine AW.top ((by first | exact nI_or hlt | exact nI_or0 _)) ?_
        refine AW.istore dX12_heard_225 (by decide) rfl rfl ?_
        show AW muX12_heard _ _ 227 _ _ _ _
        first | refine AW.iincN dX12_heard_227 rfl (by decide) rfl rfl ?_ | refine AW.iinc dX12_heard_227 rfl rfl (by decide) rfl rfl ?_
        refine AW.goto (tgt := 74) dX12_heard_230 (by decide) ?_
        exact hnx _
theorem m_heard {x y z u v w' : Int32} (hV : NV N) (hM : MD I N) (hS : SHM I J sh) (hSV : SHV sh) (q1 : ¬ (inR x 0 (N 47) ∧ inR y 0 4 ∧ inR z 0 4 ∧ inR v 1 9 ∧ inR w' 0 2) → Q (-1) (sk0, X, I, J)) (q2 : ∀ s l n, s < 4 → l < 4 → 1 ≤ n → n < 9 → inR x 0 (N 47) → y = nI s → z = nI l → v = nI n → inR w' 0 2 → (sh s).1 = 0 → Q (-11) (sk0, X, I, J)) (q3 : ∀ s l n, s < 4 → l < 4 → 1 ≤ n → n < 9 → inR x 0 (N 47) → y = nI s → z = nI l → v = nI n → inR w' 0 2 → (sh s).1 ≠ 0 → (sh s).2.1 ≠ l → Q (-12) (sk0, X, I, J)) (q4 : ∀ s l n, s < 4 → l < 4 → 1 ≤ n → n < 9 → inR x 0 (N 47) → y = nI s → z = nI l → v = nI n → inR w' 0 2 → (sh s).1 ≠ 0 → (sh s).2.1 = l → ¬ spanP u v (sh s).2.2.1 → Q (-13) (sk0, X, I, J)) (q5 : ∀ t s l i n w, t < N 47 → s < 4 → l < 4 → 1 ≤ n → n < 9 → w < 2 → x = nI t → y = nI s → z = nI l → u = nI i → v = nI n → w' = nI w → (sh s).1 ≠ 0 → (sh s).2.1 = l → i + n ≤ (sh s).2.2.1 → Q (nI (if w = 0 then setN 5 (fun kd => hdB (sh s).2.2.2 i kd (N (56 + t)) (N (18 + t)) (N 0) n) else setN 10 (fun d => decide (1 ≤ d) && hdB (sh s).2.2.2 i (N (48 + t)) d (N (18 + t)) (N 0) n))) (sk0, X, I, J)) : AWi muX12_heard [.ref 170, .int x, .int y, .int z, .int u, .int v, .int w'] (sk0, X, I, J) Q := by
  have h8 := hV.t8
  show AW muX12_heard 0 0 0 [.ref 170, .int x, .int y, .int z, .int u, .int v, .int w', .null, .null, .null, .null, .null, .null] [] _ _
  refine AW.aload_n dX12_heard_0 rfl rfl ?_
  refine AW.iload_n dX12_heard_1 rfl rfl ?_
  refine cs_X12_heard_2 (by first | exact k0_170) (by decide) (by decide) (Nat.le_of_ble_eq_true rfl) (s_X12_isThing (hM 47 (by decide)) (by omega) (fun t ht ex => ?_) (fun hn => ?_))
  · refine AW.ifeq1 (tgt := 45) dX12_heard_5 (by decide) ?_
    refine AW.iload_n dX12_heard_8 rfl rfl ?_
    refine cs_X12_heard_9 (by decide) (by decide) (Nat.le_of_ble_eq_true rfl) (s_X12_isSheet (fun s hs ey => ?_) (fun hn => ?_))
    · refine AW.ifeq1 (tgt := 45) dX12_heard_12 (by decide) ?_
      refine AW.iload_n dX12_heard_15 rfl rfl ?_
      refine AW.iconst (v := nI 0) dX12_heard_16 (by decide) ?_
      refine AW.iconst (v := nI 3) dX12_heard_17 (by decide) ?_
      show AW muX12_heard _ _ 18 _ _ _ _
      refine cs_X12_heard_18 (by decide) (by decide) (Nat.le_of_ble_eq_true rfl) (s_X12_in (lo := 0) (hi := 4) (by decide) (by decide) (by decide) (fun l _ hl ez => ?_) (fun hn => ?_))
      · refine AW.ifeq1 (tgt := 45) dX12_heard_21 (by decide) ?_
        refine AW.iload dX12_heard_24 rfl ?_
        refine AW.iconst (v := nI 1) dX12_heard_26 (by decide) ?_
        refine AW.bipush (v := nI 8) dX12_heard_27 (by decide) ?_
        refine cs_X12_heard_29 (by decide) (by decide) (Nat.le_of_ble_eq_true rfl) (s_X12_in (lo := 1) (hi := 9) (by decide) (by decide) (by decide) (fun n hn1 hn2 ev => ?_) (fun hn => ?_))
        · refine AW.ifeq1 (tgt := 45) dX12_heard_32 (by decide) ?_
          refine AW.iload dX12_heard_35 rfl ?_
          refine AW.iconst (v := nI 0) dX12_heard_37 (by decide) ?_
          refine AW.iconst (v := nI 1) dX12_heard_38 (by decide) ?_
          show AW muX12_heard _ _ 39 _ _ _ _
          refine cs_X12_heard_39 (by decide) (by decide) (Nat.le_of_ble_eq_true rfl) (s_X12_in (lo := 0) (hi := 2) (by decide) (by decide) (by decide) (fun w _ hw ew => ?_) (fun hn => ?_))
          · refine AW.ifne1 (tgt := 47) dX12_heard_42 (by decide) ?_
            subst ex; subst ey; subst ez; subst ev; subst ew
            obtain ⟨s1, s2, s3⟩ := hS s hs
            obtain ⟨v1, v2, v3⟩ := hSV s hs
            refine AW.aload_n dX12_heard_47 rfl rfl ?_
            refine AW.iload_n dX12_heard_48 rfl rfl ?_
            refine AW.iload_n dX12_heard_49 rfl rfl ?_
            refine AW.iload dX12_heard_50 rfl ?_
            refine AW.iload dX12_heard_52 rfl ?_
            refine cs_X12_heard_54 (by first | exact k0_170) (by decide) (by decide) (Nat.le_of_ble_eq_true rfl) (s_X12_wrong hS hSV hs hl (fun h1 => ?_) (fun h1 h2 => ?_) (fun h1 h2 h3 => ?_) (fun h1 h2 i k e1 e2 e3 => ?_))
            show AW muX12_heard _ _ 57 _ _ _ _
            · refine AW.istore dX12_heard_57 (by decide) rfl rfl ?_
              refine AW.iload dX12_heard_59 rfl ?_
              refine AW.if_eq (tgt := 67) dX12_heard_61 (by decide) (fun c => absurd c (by decide)) (fun _ => ?_)
              refine AW.iload dX12_heard_64 rfl ?_
              exact AW.iret dX12_heard_66 ⟨_, rfl, rfl⟩ (Nat.zero_le _) (Nat.zero_le _) ⟨_, rfl, q2 s l n hs hl hn1 hn2 ⟨t, by omega, ht, rfl⟩ rfl rfl rfl ⟨w, by omega, hw, rfl⟩ h1⟩
            · refine AW.istore dX12_heard_57 (by decide) rfl rfl ?_
              refine AW.iload dX12_heard_59 rfl ?_
              refine AW.if_eq (tgt := 67) dX12_heard_61 (by decide) (fun c => absurd c (by decide)) (fun _ => ?_)
              refine AW.iload dX12_heard_64 rfl ?_
              exact AW.iret dX12_heard_66 ⟨_, rfl, rfl⟩ (Nat.zero_le _) (Nat.zero_le _) ⟨_, rfl, q3 s l n hs hl hn1 hn2 ⟨t, by omega, ht, rfl⟩ rfl rfl rfl ⟨w, by omega, hw, rfl⟩ h1 h2⟩
            · refine AW.istore dX12_heard_57 (by decide) rfl rfl ?_
              refine AW.iload dX12_heard_59 rfl ?_
              refine AW.if_eq (tgt := 67) dX12_heard_61 (by decide) (fun c => absurd c (by decide)) (fun _ => ?_)
              refine AW.iload dX12_heard_64 rfl ?_
              exact AW.iret dX12_heard_66 ⟨_, rfl, rfl⟩ (Nat.zero_le _) (Nat.zero_le _) ⟨_, rfl, q4 s l n hs hl hn1 hn2 ⟨t, by omega, ht, rfl⟩ rfl rfl rfl ⟨w, by omega, hw, rfl⟩ h1 h2 h3⟩
            · refine AW.istore dX12_heard_57 (by decide) rfl rfl ?_
              refine AW.iload dX12_heard_59 rfl ?_
              refine AW.ifeq0 (tgt := 67) dX12_heard_61 (by decide) ?_
              obtain rfl : k = n := (nI_eq (by omega) (by omega)).mp e2.symm
              subst e1
              have hq := q5 t s l i k w ht hs hl hn1 hn2 hw rfl rfl rfl rfl rfl rfl h1 h2 e3
              refine AW.iconst (v := nI 0) dX12_heard_67 (by decide) ?_
              refine AW.istore dX12_heard_68 (by decide) rfl rfl ?_
              refine AW.iload dX12_heard_70 rfl ?_
              refine AW.istore dX12_heard_72 (by decide) rfl rfl ?_
              show AW muX12_heard _ _ 74 _ _ _ _
              rcases (show w = 0 ∨ w = 1 by omega) with rfl | rfl
              · exact lpV0_X12_heard hV hM ht hs (by omega) s3 ⟨_, rfl, hq⟩ 6 0 .null .null .null rfl rfl rfl (by decide) (by decide) (by decide)
              · exact lpV1_X12_heard hV hM ht hs (by omega) s3 ⟨_, rfl, hq⟩ 10 1 .null .null .null rfl rfl rfl (by decide) (by decide) (by decide)
          · refine AW.ifne0 (tgt := 47) dX12_heard_42 (by decide) ?_
            refine AW.iconst (v := (-1)) dX12_heard_45 (by decide) ?_
            refine AW.iret dX12_heard_46 ⟨_, rfl, rfl⟩ (Nat.zero_le _) (Nat.zero_le _) ⟨_, rfl, ?_⟩
            first | exact q1 (fun h => hn h.1) | exact q1 (fun h => hn h.2.1) | exact q1 (fun h => hn h.2.2.1) | exact q1 (fun h => hn h.2.2.2.1) | exact q1 (fun h => hn h.2.2.2.2)
        · refine AW.ifeq0 (tgt := 45) dX12_heard_32 (by decide) ?_
          refine AW.iconst (v := (-1)) dX12_heard_45 (by decide) ?_
          refine AW.iret dX12_heard_46 ⟨_, rfl, rfl⟩ (Nat.zero_le _) (Nat.zero_le _) ⟨_, rfl, ?_⟩
          first | exact q1 (fun h => hn h.1) | exact q1 (fun h => hn h.2.1) | exact q1 (fun h => hn h.2.2.1) | exact q1 (fun h => hn h.2.2.2.1) | exact q1 (fun h => hn h.2.2.2.2)
      · refine AW.ifeq0 (tgt := 45) dX12_heard_21 (by decide) ?_
        refine AW.iconst (v := (-1)) dX12_heard_45 (by decide) ?_
        refine AW.iret dX12_heard_46 ⟨_, rfl, rfl⟩ (Nat.zero_le _) (Nat.zero_le _) ⟨_, rfl, ?_⟩
        first | exact q1 (fun h => hn h.1) | exact q1 (fun h => hn h.2.1) | exact q1 (fun h => hn h.2.2.1) | exact q1 (fun h => hn h.2.2.2.1) | exact q1 (fun h => hn h.2.2.2.2)
    · refine AW.ifeq0 (tgt := 45) dX12_heard_12 (by decide) ?_
      refine AW.iconst (v := (-1)) dX12_heard_45 (by decide) ?_
      refine AW.iret dX12_heard_46 ⟨_, rfl, rfl⟩ (Nat.zero_le _) (Nat.zero_le _) ⟨_, rfl, ?_⟩
      first | exact q1 (fun h => hn h.1) | exact q1 (fun h => hn h.2.1) | exact q1 (fun h => hn h.2.2.1) | exact q1 (fun h => hn h.2.2.2.1) | exact q1 (fun h => hn h.2.2.2.2)
  · refine AW.ifeq0 (tgt := 45) dX12_heard_5 (by decide) ?_
    refine AW.iconst (v := (-1)) dX12_heard_45 (by decide) ?_
    refine AW.iret dX12_heard_46 ⟨_, rfl, rfl⟩ (Nat.zero_le _) (Nat.zero_le _) ⟨_, rfl, ?_⟩
    first | exact q1 (fun h => hn h.1) | exact q1 (fun h => hn h.2.1) | exact q1 (fun h => hn h.2.2.1) | exact q1 (fun h => hn h.2.2.2.1) | exact q1 (fun h => hn h.2.2.2.2)
end Mod6
