-- the model's own calls, first part
theorem nI_addeq {a d : Nat} (hd : d < 2 ^ 31) : nI (a + d) = nI a ↔ d = 0 := by
  constructor
  · intro h
    have h2 : nI (a + d) - nI a = nI a - nI a := by rw [h]
    rw [nI_sub (by omega), nI_sub (by omega)] at h2
    have := (nI_eq (a := a + d - a) (b := a - a) (by omega) (by omega)).mp h2
    omega
  · intro h; subst h; rfl
def MD (I : sd_I) (N : Nat → Nat) : Prop := ∀ k, k < 353 → I 175 k = nI (N k)
section Mod1
variable {X : Nat × (Nat → Int32)} {I : sd_I} {J : sd_J} {N : Nat → Nat} {Q : Int32 → sd_S → Prop}
theorem m_sleeper {x y : Int32} (hV : NV N) (hM : MD I N) (q1 : ¬ (inR x 0 4 ∧ inR y 0 61) → Q (-1) (sk0, X, I, J)) (q2 : inR x 0 4 → inR y 0 61 → N 36 = 5 → Q (-3) (sk0, X, I, J)) (q3 : ∀ r b, r < 4 → b < 61 → x = nI r → y = nI b → N 36 < 5 → ∀ I', AS I I' 175 353 (addS (upN N 64 0) r b) → Q (nI (N 36)) (sk0, X, I', J)) : AWi muX12_sleeper [.ref 170, .int x, .int y] (sk0, X, I, J) Q := by
  have h5 := hV.s5
  have hA := AS.rf hM
  show AW muX12_sleeper 0 0 0 [.ref 170, .int x, .int y] [] _ _
  refine AW.iload_n dX12_sleeper_0 rfl rfl ?_
  refine cs_X12_sleeper_1 (by decide) (by decide) (Nat.le_of_ble_eq_true rfl) (s_X12_isRoom (fun r hr ex => ?_) (fun hn => ?_))
  · refine AW.ifeq1 (tgt := 17) dX12_sleeper_4 (by decide) ?_
    refine AW.iload_n dX12_sleeper_7 rfl rfl ?_
    refine AW.iconst (v := nI 0) dX12_sleeper_8 (by decide) ?_
    refine AW.bipush (v := nI 60) dX12_sleeper_9 (by decide) ?_
    refine cs_X12_sleeper_11 (by decide) (by decide) (Nat.le_of_ble_eq_true rfl) (s_X12_in (lo := 0) (hi := 61) (by decide) (by decide) (by decide) (fun b _ hb ey => ?_) (fun hn => ?_))
    · refine AW.ifne1 (tgt := 19) dX12_sleeper_14 (by decide) ?_
      subst ex; subst ey
      refine AW.aload_n dX12_sleeper_19 rfl rfl ?_
      refine g12_7 dX12_sleeper_20 wF_X12_23 (by first | assumption | rfl | (unfold is12; omega)) ?_
      show AW muX12_sleeper _ _ 23 _ _ _ _
      refine AW.bipush (v := nI 36) dX12_sleeper_23 (by decide) ?_
      refine AW.iald dX12_sleeper_25 (by first | exact k0_175) _ (by first | rfl | assumption) (by omega) (by first | decide | omega) ?_
      refine AW.top (hA.g (by omega)) ?_
      refine AW.iconst (v := nI 5) dX12_sleeper_26 (by decide) ?_
      first | refine AW.icmp_neN (tgt := 33) dX12_sleeper_27 (by decide) (by omega) (by omega) (fun c27 => ?_) (fun c27 => ?_) | refine AW.icmp_ne (tgt := 33) dX12_sleeper_27 (by decide) (fun c27 => ?_) (fun c27 => ?_)
      · refine AW.aload_n dX12_sleeper_33 rfl rfl ?_
        refine g12_7 dX12_sleeper_34 wF_X12_23 (by first | assumption | rfl | (unfold is12; omega)) ?_
        refine AW.bipush (v := nI 64) dX12_sleeper_37 (by decide) ?_
        show AW muX12_sleeper _ _ 39 _ _ _ _
        refine AW.iconst (v := nI 0) dX12_sleeper_39 (by decide) ?_
        refine AW.ast dX12_sleeper_40 (by first | exact isA_175 | exact isA_176 | exact isA_177 | assumption) (by assumption) (by omega) (fun I40 hA40 => ?_)
        refine AW.aload_n dX12_sleeper_41 rfl rfl ?_
        refine g12_7 dX12_sleeper_42 wF_X12_23 (by first | assumption | rfl | (unfold is12; omega)) ?_
        refine AW.iload_n dX12_sleeper_45 rfl rfl ?_
        refine AW.iload_n dX12_sleeper_46 rfl rfl ?_
        show AW muX12_sleeper _ _ 47 _ _ _ _
        refine cs_X12_sleeper_47 (by decide) (by decide) (Nat.le_of_ble_eq_true rfl) (s_X12_addSleeper isA_175 (by decide) hA40 (by rw [upN_ne (by omega)]; omega) (fun I1 h1 => ?_))
        rw [upN_ne (by omega)]
        refine AW.iret dX12_sleeper_50 ⟨_, rfl, rfl⟩ (Nat.zero_le _) (Nat.zero_le _) ⟨_, rfl, ?_⟩
        exact q3 r b hr hb rfl rfl (by omega) I1 h1
      · refine AW.bipush (v := (-3)) dX12_sleeper_30 (by decide) ?_
        refine AW.iret dX12_sleeper_32 ⟨_, rfl, rfl⟩ (Nat.zero_le _) (Nat.zero_le _) ⟨_, rfl, ?_⟩
        exact q2 ⟨r, by omega, hr, rfl⟩ ⟨b, by omega, hb, rfl⟩ c27
    · refine AW.ifne0 (tgt := 19) dX12_sleeper_14 (by decide) ?_
      refine AW.iconst (v := (-1)) dX12_sleeper_17 (by decide) ?_
      refine AW.iret dX12_sleeper_18 ⟨_, rfl, rfl⟩ (Nat.zero_le _) (Nat.zero_le _) ⟨_, rfl, ?_⟩
      first | exact q1 (fun h => hn h.1) | exact q1 (fun h => hn h.2)
  · refine AW.ifeq0 (tgt := 17) dX12_sleeper_4 (by decide) ?_
    refine AW.iconst (v := (-1)) dX12_sleeper_17 (by decide) ?_
    refine AW.iret dX12_sleeper_18 ⟨_, rfl, rfl⟩ (Nat.zero_le _) (Nat.zero_le _) ⟨_, rfl, ?_⟩
    first | exact q1 (fun h => hn h.1) | exact q1 (fun h => hn h.2)
theorem m_thing {x y z u : Int32} (hV : NV N) (hM : MD I N) (q1 : ¬ (inR x 0 5 ∧ inR y 0 10 ∧ inR z 1 10 ∧ inR u 0 4) → Q (-1) (sk0, X, I, J)) (q2 : inR x 0 5 → inR y 0 10 → inR z 1 10 → inR u 0 4 → N 47 = 8 → Q (-3) (sk0, X, I, J)) (q3 : ∀ kd g d r, kd < 5 → g < 10 → 1 ≤ d → d < 10 → r < 4 → x = nI kd → y = nI g → z = nI d → u = nI r → N 47 < 8 → ∀ I', AS I I' 175 353 (addT (upN N 64 0) kd g d r) → Q (nI (N 47)) (sk0, X, I', J)) : AWi muX12_thing [.ref 170, .int x, .int y, .int z, .int u] (sk0, X, I, J) Q := by
  have h8 := hV.t8
  have hA := AS.rf hM
  show AW muX12_thing 0 0 0 [.ref 170, .int x, .int y, .int z, .int u] [] _ _
  refine AW.iload_n dX12_thing_0 rfl rfl ?_
  refine AW.iconst (v := nI 0) dX12_thing_1 (by decide) ?_
  refine AW.iconst (v := nI 4) dX12_thing_2 (by decide) ?_
  refine cs_X12_thing_3 (by decide) (by decide) (Nat.le_of_ble_eq_true rfl) (s_X12_in (lo := 0) (hi := 5) (by decide) (by decide) (by decide) (fun kd _ hk ex => ?_) (fun hn => ?_))
  · refine AW.ifeq1 (tgt := 37) dX12_thing_6 (by decide) ?_
    refine AW.iload_n dX12_thing_9 rfl rfl ?_
    refine AW.iconst (v := nI 0) dX12_thing_10 (by decide) ?_
    refine AW.bipush (v := nI 9) dX12_thing_11 (by decide) ?_
    show AW muX12_thing _ _ 13 _ _ _ _
    refine cs_X12_thing_13 (by decide) (by decide) (Nat.le_of_ble_eq_true rfl) (s_X12_in (lo := 0) (hi := 10) (by decide) (by decide) (by decide) (fun g _ hg ey => ?_) (fun hn => ?_))
    · refine AW.ifeq1 (tgt := 37) dX12_thing_16 (by decide) ?_
      refine AW.iload_n dX12_thing_19 rfl rfl ?_
      refine AW.iconst (v := nI 1) dX12_thing_20 (by decide) ?_
      refine AW.bipush (v := nI 9) dX12_thing_21 (by decide) ?_
      refine cs_X12_thing_23 (by decide) (by decide) (Nat.le_of_ble_eq_true rfl) (s_X12_in (lo := 1) (hi := 10) (by decide) (by decide) (by decide) (fun d hd1 hd ez => ?_) (fun hn => ?_))
      · refine AW.ifeq1 (tgt := 37) dX12_thing_26 (by decide) ?_
        refine AW.iload dX12_thing_29 rfl ?_
        refine cs_X12_thing_31 (by decide) (by decide) (Nat.le_of_ble_eq_true rfl) (s_X12_isRoom (fun r hr eu => ?_) (fun hn => ?_))
        · refine AW.ifne1 (tgt := 39) dX12_thing_34 (by decide) ?_
          subst ex; subst ey; subst ez; subst eu
          refine AW.aload_n dX12_thing_39 rfl rfl ?_
          refine g12_7 dX12_thing_40 wF_X12_23 (by first | assumption | rfl | (unfold is12; omega)) ?_
          show AW muX12_thing _ _ 43 _ _ _ _
          refine AW.bipush (v := nI 47) dX12_thing_43 (by decide) ?_
          refine AW.iald dX12_thing_45 (by first | exact k0_175) _ (by first | rfl | assumption) (by omega) (by first | decide | omega) ?_
          refine AW.top (hA.g (by omega)) ?_
          refine AW.bipush (v := nI 8) dX12_thing_46 (by decide) ?_
          first | refine AW.icmp_neN (tgt := 54) dX12_thing_48 (by decide) (by omega) (by omega) (fun c48 => ?_) (fun c48 => ?_) | refine AW.icmp_ne (tgt := 54) dX12_thing_48 (by decide) (fun c48 => ?_) (fun c48 => ?_)
          · refine AW.aload_n dX12_thing_54 rfl rfl ?_
            refine g12_7 dX12_thing_55 wF_X12_23 (by first | assumption | rfl | (unfold is12; omega)) ?_
            refine AW.bipush (v := nI 64) dX12_thing_58 (by decide) ?_
            show AW muX12_thing _ _ 60 _ _ _ _
            refine AW.iconst (v := nI 0) dX12_thing_60 (by decide) ?_
            refine AW.ast dX12_thing_61 (by first | exact isA_175 | exact isA_176 | exact isA_177 | assumption) (by assumption) (by omega) (fun I61 hA61 => ?_)
            refine AW.aload_n dX12_thing_62 rfl rfl ?_
            refine g12_7 dX12_thing_63 wF_X12_23 (by first | assumption | rfl | (unfold is12; omega)) ?_
            refine AW.iload_n dX12_thing_66 rfl rfl ?_
            refine AW.iload_n dX12_thing_67 rfl rfl ?_
            show AW muX12_thing _ _ 68 _ _ _ _
            refine AW.iload_n dX12_thing_68 rfl rfl ?_
            refine AW.iload dX12_thing_69 rfl ?_
            refine cs_X12_thing_71 (by decide) (by decide) (Nat.le_of_ble_eq_true rfl) (s_X12_addThing isA_175 (by decide) hA61 (by rw [upN_ne (by omega)]; omega) (by omega) (fun I1 h1 => ?_))
            rw [upN_ne (by omega)]
            refine AW.iret dX12_thing_74 ⟨_, rfl, rfl⟩ (Nat.zero_le _) (Nat.zero_le _) ⟨_, rfl, ?_⟩
            exact q3 kd g d r hk hg hd1 hd hr rfl rfl rfl rfl (by omega) I1 h1
          · refine AW.bipush (v := (-3)) dX12_thing_51 (by decide) ?_
            refine AW.iret dX12_thing_53 ⟨_, rfl, rfl⟩ (Nat.zero_le _) (Nat.zero_le _) ⟨_, rfl, ?_⟩
            exact q2 ⟨kd, by omega, hk, rfl⟩ ⟨g, by omega, hg, rfl⟩ ⟨d, by omega, hd, rfl⟩ ⟨r, by omega, hr, rfl⟩ c48
        · refine AW.ifne0 (tgt := 39) dX12_thing_34 (by decide) ?_
          refine AW.iconst (v := (-1)) dX12_thing_37 (by decide) ?_
          refine AW.iret dX12_thing_38 ⟨_, rfl, rfl⟩ (Nat.zero_le _) (Nat.zero_le _) ⟨_, rfl, ?_⟩
          first | exact q1 (fun h => hn h.1) | exact q1 (fun h => hn h.2.1) | exact q1 (fun h => hn h.2.2.1) | exact q1 (fun h => hn h.2.2.2)
      · refine AW.ifeq0 (tgt := 37) dX12_thing_26 (by decide) ?_
        refine AW.iconst (v := (-1)) dX12_thing_37 (by decide) ?_
        show AW muX12_thing _ _ 38 _ _ _ _
        refine AW.iret dX12_thing_38 ⟨_, rfl, rfl⟩ (Nat.zero_le _) (Nat.zero_le _) ⟨_, rfl, ?_⟩
        first | exact q1 (fun h => hn h.1) | exact q1 (fun h => hn h.2.1) | exact q1 (fun h => hn h.2.2.1) | exact q1 (fun h => hn h.2.2.2)
    · refine AW.ifeq0 (tgt := 37) dX12_thing_16 (by decide) ?_
      refine AW.iconst (v := (-1)) dX12_thing_37 (by decide) ?_
      refine AW.iret dX12_thing_38 ⟨_, rfl, rfl⟩ (Nat.zero_le _) (Nat.zero_le _) ⟨_, rfl, ?_⟩
      first | exact q1 (fun h => hn h.1) | exact q1 (fun h => hn h.2.1) | exact q1 (fun h => hn h.2.2.1) | exact q1 (fun h => hn h.2.2.2)
  · refine AW.ifeq0 (tgt := 37) dX12_thing_6 (by decide) ?_
    refine AW.iconst (v := (-1)) dX12_thing_37 (by decide) ?_
    refine AW.iret dX12_thing_38 ⟨_, rfl, rfl⟩ (Nat.zero_le _) (Nat.zero_le _) ⟨_, rfl, ?_⟩
    first | exact q1 (fun h => hn h.1) | exact q1 (fun h => hn h.2.1) | exact q1 (fun h => hn h.2.2.1) | exact q1 (fun h => hn h.2.2.2)
theorem m_of {x y : Int32} (hV : NV N) (hM : MD I N) (q1 : ¬ (inR x 0 (N 36) ∧ inR y 0 5) → Q (-1) (sk0, X, I, J)) (q2 : ∀ s w, s < N 36 → w < 5 → x = nI s → y = nI w → Q (nI (if w = 0 then N (37 + s) else if w = 1 then N (42 + s) else if w = 2 then N (26 + s) else if w = 3 then N (31 + s) else if asleepB N s then 1 else 0)) (sk0, X, I, J)) : AWi muX12_of [.ref 170, .int x, .int y] (sk0, X, I, J) Q := by
  have h5 := hV.s5
  have hA := AS.rf hM
  show AW muX12_of 0 0 0 [.ref 170, .int x, .int y] [] _ _
  refine AW.aload_n dX12_of_0 rfl rfl ?_
  refine AW.iload_n dX12_of_1 rfl rfl ?_
  refine cs_X12_of_2 (by first | exact k0_175 | exact k0_170) (by decide) (by decide) (Nat.le_of_ble_eq_true rfl) (s_X12_isSleeper (hM 36 (by decide)) (by omega) (fun s hs ex => ?_) (fun hn => ?_))
  · refine AW.ifne1 (tgt := 10) dX12_of_5 (by decide) ?_
    subst ex
    refine AW.iload_n dX12_of_10 rfl rfl ?_
    by_cases hw : inR y 0 5
    · obtain ⟨w, -, hw, rfl⟩ := hw
      rcases (show w = 0 ∨ w = 1 ∨ w = 2 ∨ w = 3 ∨ w = 4 by omega) with rfl | rfl | rfl | rfl | rfl
      · refine AW.tableIn (tgt := 44) dX12_of_11 (by decide) (by decide) rfl (by decide) ?_
        refine AW.aload_n dX12_of_44 rfl rfl ?_
        refine g12_7 dX12_of_45 wF_X12_23 (by first | assumption | rfl | (unfold is12; omega)) ?_
        refine AW.bipush (v := nI 37) dX12_of_48 (by decide) ?_
        show AW muX12_of _ _ 50 _ _ _ _
        refine AW.iload_n dX12_of_50 rfl rfl ?_
        first | refine AW.iaddN dX12_of_51 ?_ | refine AW.iadd dX12_of_51 ?_
        refine AW.iald dX12_of_52 (by first | exact k0_175 | exact k0_170) _ (by first | rfl | assumption) (by omega) (by first | decide | omega) ?_
        first | refine AW.top (by first | exact AS.g hA (by omega)) ?_ | skip
        refine AW.iret dX12_of_53 ⟨_, rfl, rfl⟩ (Nat.zero_le _) (Nat.zero_le _) ⟨_, rfl, ?_⟩
        exact q2 s _ hs hw rfl rfl
      · refine AW.tableIn (tgt := 54) dX12_of_11 (by decide) (by decide) rfl (by decide) ?_
        refine AW.aload_n dX12_of_54 rfl rfl ?_
        refine g12_7 dX12_of_55 wF_X12_23 (by first | assumption | rfl | (unfold is12; omega)) ?_
        refine AW.bipush (v := nI 42) dX12_of_58 (by decide) ?_
        show AW muX12_of _ _ 60 _ _ _ _
        refine AW.iload_n dX12_of_60 rfl rfl ?_
        first | refine AW.iaddN dX12_of_61 ?_ | refine AW.iadd dX12_of_61 ?_
        refine AW.iald dX12_of_62 (by first | exact k0_175 | exact k0_170) _ (by first | rfl | assumption) (by omega) (by first | decide | omega) ?_
        first | refine AW.top (by first | exact AS.g hA (by omega)) ?_ | skip
        refine AW.iret dX12_of_63 ⟨_, rfl, rfl⟩ (Nat.zero_le _) (Nat.zero_le _) ⟨_, rfl, ?_⟩
        exact q2 s _ hs hw rfl rfl
      · refine AW.tableIn (tgt := 64) dX12_of_11 (by decide) (by decide) rfl (by decide) ?_
        refine AW.aload_n dX12_of_64 rfl rfl ?_
        refine g12_7 dX12_of_65 wF_X12_23 (by first | assumption | rfl | (unfold is12; omega)) ?_
        refine AW.bipush (v := nI 26) dX12_of_68 (by decide) ?_
        show AW muX12_of _ _ 70 _ _ _ _
        refine AW.iload_n dX12_of_70 rfl rfl ?_
        first | refine AW.iaddN dX12_of_71 ?_ | refine AW.iadd dX12_of_71 ?_
        refine AW.iald dX12_of_72 (by first | exact k0_175 | exact k0_170) _ (by first | rfl | assumption) (by omega) (by first | decide | omega) ?_
        first | refine AW.top (by first | exact AS.g hA (by omega)) ?_ | skip
        refine AW.iret dX12_of_73 ⟨_, rfl, rfl⟩ (Nat.zero_le _) (Nat.zero_le _) ⟨_, rfl, ?_⟩
        exact q2 s _ hs hw rfl rfl
      · refine AW.tableIn (tgt := 74) dX12_of_11 (by decide) (by decide) rfl (by decide) ?_
        refine AW.aload_n dX12_of_74 rfl rfl ?_
        refine g12_7 dX12_of_75 wF_X12_23 (by first | assumption | rfl | (unfold is12; omega)) ?_
        refine AW.bipush (v := nI 31) dX12_of_78 (by decide) ?_
        show AW muX12_of _ _ 80 _ _ _ _
        refine AW.iload_n dX12_of_80 rfl rfl ?_
        first | refine AW.iaddN dX12_of_81 ?_ | refine AW.iadd dX12_of_81 ?_
        refine AW.iald dX12_of_82 (by first | exact k0_175 | exact k0_170) _ (by first | rfl | assumption) (by omega) (by first | decide | omega) ?_
        first | refine AW.top (by first | exact AS.g hA (by omega)) ?_ | skip
        refine AW.iret dX12_of_83 ⟨_, rfl, rfl⟩ (Nat.zero_le _) (Nat.zero_le _) ⟨_, rfl, ?_⟩
        exact q2 s _ hs hw rfl rfl
      · refine AW.tableIn (tgt := 84) dX12_of_11 (by decide) (by decide) rfl (by decide) ?_
        refine AW.aload_n dX12_of_84 rfl rfl ?_
        refine g12_7 dX12_of_85 wF_X12_23 (by first | assumption | rfl | (unfold is12; omega)) ?_
        refine AW.iload_n dX12_of_88 rfl rfl ?_
        show AW muX12_of _ _ 89 _ _ _ _
        refine cs_X12_of_89 (by decide) (by decide) (Nat.le_of_ble_eq_true rfl) (s_X12_isAsleep isA_175 (by decide) hV hA hs (fun e => ?_) (fun e => ?_))
        · refine AW.ifeq1 (tgt := 99) dX12_of_92 (by decide) ?_
          refine AW.iconst (v := nI 1) dX12_of_95 (by decide) ?_
          refine AW.goto (tgt := 100) dX12_of_96 (by decide) ?_
          refine AW.iret dX12_of_100 ⟨_, rfl, rfl⟩ (Nat.zero_le _) (Nat.zero_le _) ⟨_, rfl, ?_⟩
          have hq := q2 s 4 hs hw rfl rfl
          rw [if_neg (by decide), if_neg (by decide), if_neg (by decide), if_neg (by decide), e] at hq
          exact hq
        · refine AW.ifeq0 (tgt := 99) dX12_of_92 (by decide) ?_
          refine AW.iconst (v := nI 0) dX12_of_99 (by decide) ?_
          refine AW.iret dX12_of_100 ⟨_, rfl, rfl⟩ (Nat.zero_le _) (Nat.zero_le _) ⟨_, rfl, ?_⟩
          have hq := q2 s 4 hs hw rfl rfl
          rw [if_neg (by decide), if_neg (by decide), if_neg (by decide), if_neg (by decide), e] at hq
          exact hq
    · refine AW.tableOut (tgt := 101) dX12_of_11 (out_of hw (by decide)) (by decide) ?_
      refine AW.iconst (v := (-1)) dX12_of_101 (by decide) ?_
      refine AW.iret dX12_of_102 ⟨_, rfl, rfl⟩ (Nat.zero_le _) (Nat.zero_le _) ⟨_, rfl, ?_⟩
      exact q1 (fun h => hw h.2)
  · refine AW.ifne0 (tgt := 10) dX12_of_5 (by decide) ?_
    refine AW.iconst (v := (-1)) dX12_of_8 (by decide) ?_
    refine AW.iret dX12_of_9 ⟨_, rfl, rfl⟩ (Nat.zero_le _) (Nat.zero_le _) ⟨_, rfl, ?_⟩
    exact q1 (fun h => hn h.1)
theorem m_gift {x y : Int32} (hV : NV N) (hM : MD I N) (q1 : ¬ (inR x 0 (N 47) ∧ inR y 0 6) → Q (-1) (sk0, X, I, J)) (q2 : ∀ t w, t < N 47 → w < 6 → x = nI t → y = nI w → Q (nI (if w = 0 then N (48 + t) else if w = 1 then N (10 + t) else if w = 2 then N (56 + t) else if w = 3 then N (2 + t) else if w = 4 then N (18 + t) else loudT N t)) (sk0, X, I, J)) : AWi muX12_gift [.ref 170, .int x, .int y] (sk0, X, I, J) Q := by
  have h8 := hV.t8
  have hA := AS.rf hM
  show AW muX12_gift 0 0 0 [.ref 170, .int x, .int y] [] _ _
  refine AW.aload_n dX12_gift_0 rfl rfl ?_
  refine AW.iload_n dX12_gift_1 rfl rfl ?_
  refine cs_X12_gift_2 (by first | exact k0_175 | exact k0_170) (by decide) (by decide) (Nat.le_of_ble_eq_true rfl) (s_X12_isThing (hM 47 (by decide)) (by omega) (fun t ht ex => ?_) (fun hn => ?_))
  · refine AW.ifne1 (tgt := 10) dX12_gift_5 (by decide) ?_
    subst ex
    refine AW.iload_n dX12_gift_10 rfl rfl ?_
    by_cases hw : inR y 0 6
    · obtain ⟨w, -, hw, rfl⟩ := hw
      rcases (show w = 0 ∨ w = 1 ∨ w = 2 ∨ w = 3 ∨ w = 4 ∨ w = 5 by omega) with rfl | rfl | rfl | rfl | rfl | rfl
      · refine AW.tableIn (tgt := 48) dX12_gift_11 (by decide) (by decide) rfl (by decide) ?_
        refine AW.aload_n dX12_gift_48 rfl rfl ?_
        refine g12_7 dX12_gift_49 wF_X12_23 (by first | assumption | rfl | (unfold is12; omega)) ?_
        refine AW.bipush (v := nI 48) dX12_gift_52 (by decide) ?_
        show AW muX12_gift _ _ 54 _ _ _ _
        refine AW.iload_n dX12_gift_54 rfl rfl ?_
        first | refine AW.iaddN dX12_gift_55 ?_ | refine AW.iadd dX12_gift_55 ?_
        refine AW.iald dX12_gift_56 (by first | exact k0_175 | exact k0_170) _ (by first | rfl | assumption) (by omega) (by first | decide | omega) ?_
        first | refine AW.top (by first | exact AS.g hA (by omega)) ?_ | skip
        refine AW.iret dX12_gift_57 ⟨_, rfl, rfl⟩ (Nat.zero_le _) (Nat.zero_le _) ⟨_, rfl, ?_⟩
        exact q2 t _ ht hw rfl rfl
      · refine AW.tableIn (tgt := 58) dX12_gift_11 (by decide) (by decide) rfl (by decide) ?_
        refine AW.aload_n dX12_gift_58 rfl rfl ?_
        refine g12_7 dX12_gift_59 wF_X12_23 (by first | assumption | rfl | (unfold is12; omega)) ?_
        refine AW.bipush (v := nI 10) dX12_gift_62 (by decide) ?_
        show AW muX12_gift _ _ 64 _ _ _ _
        refine AW.iload_n dX12_gift_64 rfl rfl ?_
        first | refine AW.iaddN dX12_gift_65 ?_ | refine AW.iadd dX12_gift_65 ?_
        refine AW.iald dX12_gift_66 (by first | exact k0_175 | exact k0_170) _ (by first | rfl | assumption) (by omega) (by first | decide | omega) ?_
        first | refine AW.top (by first | exact AS.g hA (by omega)) ?_ | skip
        refine AW.iret dX12_gift_67 ⟨_, rfl, rfl⟩ (Nat.zero_le _) (Nat.zero_le _) ⟨_, rfl, ?_⟩
        exact q2 t _ ht hw rfl rfl
      · refine AW.tableIn (tgt := 68) dX12_gift_11 (by decide) (by decide) rfl (by decide) ?_
        refine AW.aload_n dX12_gift_68 rfl rfl ?_
        refine g12_7 dX12_gift_69 wF_X12_23 (by first | assumption | rfl | (unfold is12; omega)) ?_
        refine AW.bipush (v := nI 56) dX12_gift_72 (by decide) ?_
        show AW muX12_gift _ _ 74 _ _ _ _
        refine AW.iload_n dX12_gift_74 rfl rfl ?_
        first | refine AW.iaddN dX12_gift_75 ?_ | refine AW.iadd dX12_gift_75 ?_
        refine AW.iald dX12_gift_76 (by first | exact k0_175 | exact k0_170) _ (by first | rfl | assumption) (by omega) (by first | decide | omega) ?_
        first | refine AW.top (by first | exact AS.g hA (by omega)) ?_ | skip
        refine AW.iret dX12_gift_77 ⟨_, rfl, rfl⟩ (Nat.zero_le _) (Nat.zero_le _) ⟨_, rfl, ?_⟩
        exact q2 t _ ht hw rfl rfl
      · refine AW.tableIn (tgt := 78) dX12_gift_11 (by decide) (by decide) rfl (by decide) ?_
        refine AW.aload_n dX12_gift_78 rfl rfl ?_
        refine g12_7 dX12_gift_79 wF_X12_23 (by first | assumption | rfl | (unfold is12; omega)) ?_
        refine AW.iconst (v := nI 2) dX12_gift_82 (by decide) ?_
        show AW muX12_gift _ _ 83 _ _ _ _
        refine AW.iload_n dX12_gift_83 rfl rfl ?_
        first | refine AW.iaddN dX12_gift_84 ?_ | refine AW.iadd dX12_gift_84 ?_
        refine AW.iald dX12_gift_85 (by first | exact k0_175 | exact k0_170) _ (by first | rfl | assumption) (by omega) (by first | decide | omega) ?_
        first | refine AW.top (by first | exact AS.g hA (by omega)) ?_ | skip
        refine AW.iret dX12_gift_86 ⟨_, rfl, rfl⟩ (Nat.zero_le _) (Nat.zero_le _) ⟨_, rfl, ?_⟩
        exact q2 t _ ht hw rfl rfl
      · refine AW.tableIn (tgt := 87) dX12_gift_11 (by decide) (by decide) rfl (by decide) ?_
        refine AW.aload_n dX12_gift_87 rfl rfl ?_
        refine g12_7 dX12_gift_88 wF_X12_23 (by first | assumption | rfl | (unfold is12; omega)) ?_
        refine AW.bipush (v := nI 18) dX12_gift_91 (by decide) ?_
        show AW muX12_gift _ _ 93 _ _ _ _
        refine AW.iload_n dX12_gift_93 rfl rfl ?_
        first | refine AW.iaddN dX12_gift_94 ?_ | refine AW.iadd dX12_gift_94 ?_
        refine AW.iald dX12_gift_95 (by first | exact k0_175 | exact k0_170) _ (by first | rfl | assumption) (by omega) (by first | decide | omega) ?_
        first | refine AW.top (by first | exact AS.g hA (by omega)) ?_ | skip
        refine AW.iret dX12_gift_96 ⟨_, rfl, rfl⟩ (Nat.zero_le _) (Nat.zero_le _) ⟨_, rfl, ?_⟩
        exact q2 t _ ht hw rfl rfl
      · refine AW.tableIn (tgt := 97) dX12_gift_11 (by decide) (by decide) rfl (by decide) ?_
        refine AW.aload_n dX12_gift_97 rfl rfl ?_
        refine g12_7 dX12_gift_98 wF_X12_23 (by first | assumption | rfl | (unfold is12; omega)) ?_
        refine AW.iload_n dX12_gift_101 rfl rfl ?_
        show AW muX12_gift _ _ 102 _ _ _ _
        refine cs_X12_gift_102 (by decide) (by decide) (Nat.le_of_ble_eq_true rfl) (s_X12_loudOf isA_175 (by decide) hV hA ht ?_)
        refine AW.iret dX12_gift_105 ⟨_, rfl, rfl⟩ (Nat.zero_le _) (Nat.zero_le _) ⟨_, rfl, ?_⟩
        exact q2 t _ ht hw rfl rfl
    · refine AW.tableOut (tgt := 106) dX12_gift_11 (out_of hw (by decide)) (by decide) ?_
      refine AW.iconst (v := (-1)) dX12_gift_106 (by decide) ?_
      refine AW.iret dX12_gift_107 ⟨_, rfl, rfl⟩ (Nat.zero_le _) (Nat.zero_le _) ⟨_, rfl, ?_⟩
      exact q1 (fun h => hw h.2)
  · refine AW.ifne0 (tgt := 10) dX12_gift_5 (by decide) ?_
    refine AW.iconst (v := (-1)) dX12_gift_8 (by decide) ?_
    refine AW.iret dX12_gift_9 ⟨_, rfl, rfl⟩ (Nat.zero_le _) (Nat.zero_le _) ⟨_, rfl, ?_⟩
    exact q1 (fun h => hn h.1)
theorem lp1_X12_room {r : Nat} (hr : r < 4) (hV : NV N) (hM : MD I N) {Q : Option Int32 → sd_S → Prop} (K : Q (some (nI (setN (N 47) (fun t => decide (N (2 + t) = r))))) (sk0, X, I, J)) : ∀ (m k : Nat), N 47 - k < m → k ≤ N 47 → AW muX12_room 0 0 49 [.ref 170, .int (nI r), .int (nI 1), .int (nI (setN k (fun t => decide (N (2 + t) = r)))), .int (nI 2), .int (nI k)] [] (sk0, X, I, J) Q := by
  have hb := hV.t8
  have hA := AS.rf hM
  intro m
  induction m with
  | zero => intros; omega
  | succ m ih =>
    intro k hm hk
    have hlt := setN_lt k (fun t => decide (N (2 + t) = r))
    refine AW.iload dX12_room_49 rfl ?_
    refine AW.aload_n dX12_room_51 rfl rfl ?_
    refine g12_7 dX12_room_52 wF_X12_23 (by first | assumption | rfl | (unfold is12; omega)) ?_
    refine AW.iload_n dX12_room_55 rfl rfl ?_
    refine AW.iconst (v := nI 1) dX12_room_56 (by decide) ?_
    refine AW.icmp_neN (tgt := 65) dX12_room_57 (by decide) (by decide) (by decide) (fun c57 => absurd rfl c57) (fun _ => ?_)
    refine AW.bipush (v := nI 47) dX12_room_60 (by decide) ?_
    show AW muX12_room _ _ 62 _ _ _ _
    refine AW.goto (tgt := 67) dX12_room_62 (by decide) ?_
    refine AW.iald dX12_room_67 (by first | exact k0_175) _ (by first | rfl | assumption) (by omega) (by first | decide | omega) ?_
    first | refine AW.top (by first | exact AS.g hA (by omega)) ?_ | skip
    first | refine AW.icmp_geN (tgt := 102) dX12_room_68 (by decide) (by omega) (by omega) (fun c68 => ?_) (fun c68 => ?_) | refine AW.icmp_ge (tgt := 102) dX12_room_68 (by decide) (fun c68 => ?_) (fun c68 => ?_)
    · refine AW.iload_n dX12_room_102 rfl rfl ?_
      refine AW.iret dX12_room_103 ⟨_, rfl, rfl⟩ (Nat.zero_le _) (Nat.zero_le _) ?_
      obtain rfl : k = N 47 := by omega
      exact K
    · have := hV.pl c68
      refine AW.iload_n dX12_room_71 rfl rfl ?_
      refine AW.aload_n dX12_room_72 rfl rfl ?_
      refine g12_7 dX12_room_73 wF_X12_23 (by first | assumption | rfl | (unfold is12; omega)) ?_
      refine AW.iload dX12_room_76 rfl ?_
      show AW muX12_room _ _ 78 _ _ _ _
      refine AW.iload dX12_room_78 rfl ?_
      first | refine AW.iaddN dX12_room_80 ?_ | refine AW.iadd dX12_room_80 ?_
      refine AW.iald dX12_room_81 (by first | exact k0_175) _ (by first | rfl | assumption) (by omega) (by first | decide | omega) ?_
      first | refine AW.top (by first | exact AS.g hA (by omega)) ?_ | skip
      refine AW.iload_n dX12_room_82 rfl rfl ?_
      first | refine AW.icmp_neN (tgt := 93) dX12_room_83 (by decide) (by omega) (by omega) (fun c83 => ?_) (fun c83 => ?_) | refine AW.icmp_ne (tgt := 93) dX12_room_83 (by decide) (fun c83 => ?_) (fun c83 => ?_)
      · refine AW.iconst (v := nI 0) dX12_room_93 (by decide) ?_
        refine AW.ior dX12_room_94 ?_
        refine AW.top ((by first | exact nI_or hlt | exact nI_or0 _)) ?_
        show AW muX12_room _ _ 95 _ _ _ _
        refine AW.istore_n dX12_room_95 rfl (by decide) rfl rfl ?_
        first | refine AW.iincN dX12_room_96 rfl (by decide) rfl rfl ?_ | refine AW.iinc dX12_room_96 rfl rfl (by decide) rfl rfl ?_
        refine AW.goto (tgt := 49) dX12_room_99 (by decide) ?_
        have := ih (k + 1) (by omega) (by omega)
        first | (rw [show setN (k + 1) (fun t => decide (N (2 + t) = r)) = setN k (fun t => decide (N (2 + t) = r)) + 2 ^ k by simp [setN, c83]] at this; exact this) | (rw [show setN (k + 1) (fun t => decide (N (2 + t) = r)) = setN k (fun t => decide (N (2 + t) = r)) by simp [setN, c83]] at this; exact this)
      · refine AW.iconst (v := nI 1) dX12_room_86 (by decide) ?_
        refine AW.iload dX12_room_87 rfl ?_
        refine AW.ishl dX12_room_89 ?_
        refine AW.top (nI_shl1 (by omega)) ?_
        refine AW.goto (tgt := 94) dX12_room_90 (by decide) ?_
        refine AW.ior dX12_room_94 ?_
        refine AW.top ((by first | exact nI_or hlt | exact nI_or0 _)) ?_
        show AW muX12_room _ _ 95 _ _ _ _
        refine AW.istore_n dX12_room_95 rfl (by decide) rfl rfl ?_
        first | refine AW.iincN dX12_room_96 rfl (by decide) rfl rfl ?_ | refine AW.iinc dX12_room_96 rfl rfl (by decide) rfl rfl ?_
        refine AW.goto (tgt := 49) dX12_room_99 (by decide) ?_
        have := ih (k + 1) (by omega) (by omega)
        first | (rw [show setN (k + 1) (fun t => decide (N (2 + t) = r)) = setN k (fun t => decide (N (2 + t) = r)) + 2 ^ k by simp [setN, c83]] at this; exact this) | (rw [show setN (k + 1) (fun t => decide (N (2 + t) = r)) = setN k (fun t => decide (N (2 + t) = r)) by simp [setN, c83]] at this; exact this)
theorem lp2_X12_room {r : Nat} (hr : r < 4) (hV : NV N) (hM : MD I N) {Q : Option Int32 → sd_S → Prop} (K : Q (some (nI (setN (N 36) (fun t => decide (N (37 + t) = r))))) (sk0, X, I, J)) : ∀ (m k : Nat), N 36 - k < m → k ≤ N 36 → AW muX12_room 0 0 49 [.ref 170, .int (nI r), .int (nI 2), .int (nI (setN k (fun t => decide (N (37 + t) = r)))), .int (nI 37), .int (nI k)] [] (sk0, X, I, J) Q := by
  have hb := hV.s5
  have hA := AS.rf hM
  intro m
  induction m with
  | zero => intros; omega
  | succ m ih =>
    intro k hm hk
    have hlt := setN_lt k (fun t => decide (N (37 + t) = r))
    refine AW.iload dX12_room_49 rfl ?_
    refine AW.aload_n dX12_room_51 rfl rfl ?_
    refine g12_7 dX12_room_52 wF_X12_23 (by first | assumption | rfl | (unfold is12; omega)) ?_
    refine AW.iload_n dX12_room_55 rfl rfl ?_
    refine AW.iconst (v := nI 1) dX12_room_56 (by decide) ?_
    refine AW.icmp_neN (tgt := 65) dX12_room_57 (by decide) (by decide) (by decide) (fun _ => ?_) (fun c57 => absurd c57 (by decide))
    refine AW.bipush (v := nI 36) dX12_room_65 (by decide) ?_
    show AW muX12_room _ _ 67 _ _ _ _
    refine AW.iald dX12_room_67 (by first | exact k0_175) _ (by first | rfl | assumption) (by omega) (by first | decide | omega) ?_
    first | refine AW.top (by first | exact AS.g hA (by omega)) ?_ | skip
    first | refine AW.icmp_geN (tgt := 102) dX12_room_68 (by decide) (by omega) (by omega) (fun c68 => ?_) (fun c68 => ?_) | refine AW.icmp_ge (tgt := 102) dX12_room_68 (by decide) (fun c68 => ?_) (fun c68 => ?_)
    · refine AW.iload_n dX12_room_102 rfl rfl ?_
      refine AW.iret dX12_room_103 ⟨_, rfl, rfl⟩ (Nat.zero_le _) (Nat.zero_le _) ?_
      obtain rfl : k = N 36 := by omega
      exact K
    · have := hV.bd c68
      refine AW.iload_n dX12_room_71 rfl rfl ?_
      refine AW.aload_n dX12_room_72 rfl rfl ?_
      refine g12_7 dX12_room_73 wF_X12_23 (by first | assumption | rfl | (unfold is12; omega)) ?_
      refine AW.iload dX12_room_76 rfl ?_
      show AW muX12_room _ _ 78 _ _ _ _
      refine AW.iload dX12_room_78 rfl ?_
      first | refine AW.iaddN dX12_room_80 ?_ | refine AW.iadd dX12_room_80 ?_
      refine AW.iald dX12_room_81 (by first | exact k0_175) _ (by first | rfl | assumption) (by omega) (by first | decide | omega) ?_
      first | refine AW.top (by first | exact AS.g hA (by omega)) ?_ | skip
      refine AW.iload_n dX12_room_82 rfl rfl ?_
      first | refine AW.icmp_neN (tgt := 93) dX12_room_83 (by decide) (by omega) (by omega) (fun c83 => ?_) (fun c83 => ?_) | refine AW.icmp_ne (tgt := 93) dX12_room_83 (by decide) (fun c83 => ?_) (fun c83 => ?_)
      · refine AW.iconst (v := nI 0) dX12_room_93 (by decide) ?_
        refine AW.ior dX12_room_94 ?_
        refine AW.top ((by first | exact nI_or hlt | exact nI_or0 _)) ?_
        show AW muX12_room _ _ 95 _ _ _ _
        refine AW.istore_n dX12_room_95 rfl (by decide) rfl rfl ?_
        first | refine AW.iincN dX12_room_96 rfl (by decide) rfl rfl ?_ | refine AW.iinc dX12_room_96 rfl rfl (by decide) rfl rfl ?_
        refine AW.goto (tgt := 49) dX12_room_99 (by decide) ?_
        have := ih (k + 1) (by omega) (by omega)
        first | (rw [show setN (k + 1) (fun t => decide (N (37 + t) = r)) = setN k (fun t => decide (N (37 + t) = r)) + 2 ^ k by simp [setN, c83]] at this; exact this) | (rw [show setN (k + 1) (fun t => decide (N (37 + t) = r)) = setN k (fun t => decide (N (37 + t) = r)) by simp [setN, c83]] at this; exact this)
      · refine AW.iconst (v := nI 1) dX12_room_86 (by decide) ?_
        refine AW.iload dX12_room_87 rfl ?_
        refine AW.ishl dX12_room_89 ?_
        refine AW.top (nI_shl1 (by omega)) ?_
        refine AW.goto (tgt := 94) dX12_room_90 (by decide) ?_
        refine AW.ior dX12_room_94 ?_
        refine AW.top ((by first | exact nI_or hlt | exact nI_or0 _)) ?_
        show AW muX12_room _ _ 95 _ _ _ _
        refine AW.istore_n dX12_room_95 rfl (by decide) rfl rfl ?_
        first | refine AW.iincN dX12_room_96 rfl (by decide) rfl rfl ?_ | refine AW.iinc dX12_room_96 rfl rfl (by decide) rfl rfl ?_
        refine AW.goto (tgt := 49) dX12_room_99 (by decide) ?_
        have := ih (k + 1) (by omega) (by omega)
        first | (rw [show setN (k + 1) (fun t => decide (N (37 + t) = r)) = setN k (fun t => decide (N (37 + t) = r)) + 2 ^ k by simp [setN, c83]] at this; exact this) | (rw [show setN (k + 1) (fun t => decide (N (37 + t) = r)) = setN k (fun t => decide (N (37 + t) = r)) by simp [setN, c83]] at this; exact this)
theorem m_room {x y : Int32} (hV : NV N) (hM : MD I N) (q1 : ¬ (inR x 0 4 ∧ inR y 0 3) → Q (-1) (sk0, X, I, J)) (q2 : ∀ r w, r < 4 → w < 3 → x = nI r → y = nI w → Q (nI (if w = 0 then loudR N r else if w = 1 then setN (N 47) (fun t => decide (N (2 + t) = r)) else setN (N 36) (fun t => decide (N (37 + t) = r)))) (sk0, X, I, J)) : AWi muX12_room [.ref 170, .int x, .int y] (sk0, X, I, J) Q := by
  have hA := AS.rf hM
  show AW muX12_room 0 0 0 [.ref 170, .int x, .int y, .null, .null, .null] [] _ _
  refine AW.iload_n dX12_room_0 rfl rfl ?_
  refine cs_X12_room_1 (by decide) (by decide) (Nat.le_of_ble_eq_true rfl) (s_X12_isRoom (fun r hr ex => ?_) (fun hn => ?_))
  · refine AW.ifeq1 (tgt := 16) dX12_room_4 (by decide) ?_
    refine AW.iload_n dX12_room_7 rfl rfl ?_
    refine AW.iconst (v := nI 0) dX12_room_8 (by decide) ?_
    refine AW.iconst (v := nI 2) dX12_room_9 (by decide) ?_
    refine cs_X12_room_10 (by decide) (by decide) (Nat.le_of_ble_eq_true rfl) (s_X12_in (lo := 0) (hi := 3) (by decide) (by decide) (by decide) (fun w _ hw ey => ?_) (fun hn => ?_))
    · refine AW.ifne1 (tgt := 18) dX12_room_13 (by decide) ?_
      subst ex; subst ey
      have hq := q2 r w hr hw rfl rfl
      refine AW.iload_n dX12_room_18 rfl rfl ?_
      first | refine AW.if_neN (tgt := 31) dX12_room_19 (by decide) (by omega) (fun c19 => ?_) (fun c19 => ?_) | refine AW.if_ne (tgt := 31) dX12_room_19 (by decide) (fun c19 => ?_) (fun c19 => ?_)
      · rw [if_neg c19] at hq
        refine AW.iconst (v := nI 0) dX12_room_31 (by decide) ?_
        show AW muX12_room _ _ 32 _ _ _ _
        refine AW.istore_n dX12_room_32 rfl (by decide) rfl rfl ?_
        refine AW.iload_n dX12_room_33 rfl rfl ?_
        refine AW.iconst (v := nI 1) dX12_room_34 (by decide) ?_
        first | refine AW.icmp_neN (tgt := 42) dX12_room_35 (by decide) (by omega) (by omega) (fun c35 => ?_) (fun c35 => ?_) | refine AW.icmp_ne (tgt := 42) dX12_room_35 (by decide) (fun c35 => ?_) (fun c35 => ?_)
        · refine AW.bipush (v := nI 37) dX12_room_42 (by decide) ?_
          refine AW.istore dX12_room_44 (by decide) rfl rfl ?_
          refine AW.iconst (v := nI 0) dX12_room_46 (by decide) ?_
          show AW muX12_room _ _ 47 _ _ _ _
          refine AW.istore dX12_room_47 (by decide) rfl rfl ?_
          first
            | (obtain rfl : w = 1 := by omega
               rw [if_pos rfl] at hq
               exact lp1_X12_room hr hV hM ⟨_, rfl, hq⟩ (N 47 + 1) 0 (by omega) (by omega))
            | (have e2 : w = 2 := by omega
               subst e2
               rw [if_neg (by decide)] at hq
               exact lp2_X12_room hr hV hM ⟨_, rfl, hq⟩ (N 36 + 1) 0 (by omega) (by omega))
        · refine AW.iconst (v := nI 2) dX12_room_38 (by decide) ?_
          refine AW.goto (tgt := 44) dX12_room_39 (by decide) ?_
          refine AW.istore dX12_room_44 (by decide) rfl rfl ?_
          refine AW.iconst (v := nI 0) dX12_room_46 (by decide) ?_
          refine AW.istore dX12_room_47 (by decide) rfl rfl ?_
          first
            | (obtain rfl : w = 1 := by omega
               rw [if_pos rfl] at hq
               exact lp1_X12_room hr hV hM ⟨_, rfl, hq⟩ (N 47 + 1) 0 (by omega) (by omega))
            | (have e2 : w = 2 := by omega
               subst e2
               rw [if_neg (by decide)] at hq
               exact lp2_X12_room hr hV hM ⟨_, rfl, hq⟩ (N 36 + 1) 0 (by omega) (by omega))
      · refine AW.aload_n dX12_room_22 rfl rfl ?_
        show AW muX12_room _ _ 23 _ _ _ _
        refine g12_7 dX12_room_23 wF_X12_23 (by first | assumption | rfl | (unfold is12; omega)) ?_
        refine AW.iload_n dX12_room_26 rfl rfl ?_
        refine cs_X12_room_27 (by decide) (by decide) (Nat.le_of_ble_eq_true rfl) (s_X12_loudIn isA_175 (by decide) hV hA (by omega) ?_)
        refine AW.iret dX12_room_30 ⟨_, rfl, rfl⟩ (Nat.zero_le _) (Nat.zero_le _) ⟨_, rfl, ?_⟩
        rw [if_pos c19] at hq; exact hq
    · refine AW.ifne0 (tgt := 18) dX12_room_13 (by decide) ?_
      refine AW.iconst (v := (-1)) dX12_room_16 (by decide) ?_
      refine AW.iret dX12_room_17 ⟨_, rfl, rfl⟩ (Nat.zero_le _) (Nat.zero_le _) ⟨_, rfl, ?_⟩
      first | exact q1 (fun h => hn h.1) | exact q1 (fun h => hn h.2)
  · refine AW.ifeq0 (tgt := 16) dX12_room_4 (by decide) ?_
    refine AW.iconst (v := (-1)) dX12_room_16 (by decide) ?_
    refine AW.iret dX12_room_17 ⟨_, rfl, rfl⟩ (Nat.zero_le _) (Nat.zero_le _) ⟨_, rfl, ?_⟩
    first | exact q1 (fun h => hn h.1) | exact q1 (fun h => hn h.2)
theorem m_bed {x y : Int32} (hV : NV N) (hM : MD I N) (q1 : ¬ (inR x 0 (N 36) ∧ inR y 0 4) → Q (-1) (sk0, X, I, J)) (q2 : ∀ s r, s < N 36 → r < 4 → x = nI s → y = nI r → ∀ I', AS I I' 175 353 (upN N (37 + s) r) → Q (nI (N (37 + s))) (sk0, X, I', J)) : AWi muX12_bed [.ref 170, .int x, .int y] (sk0, X, I, J) Q := by
  have h5 := hV.s5
  have hA := AS.rf hM
  show AW muX12_bed 0 0 0 [.ref 170, .int x, .int y, .null] [] _ _
  refine AW.aload_n dX12_bed_0 rfl rfl ?_
  refine AW.iload_n dX12_bed_1 rfl rfl ?_
  refine cs_X12_bed_2 (by first | exact k0_175 | exact k0_170) (by decide) (by decide) (Nat.le_of_ble_eq_true rfl) (s_X12_isSleeper (hM 36 (by decide)) (by omega) (fun s hs ex => ?_) (fun hn => ?_))
  · refine AW.ifeq1 (tgt := 15) dX12_bed_5 (by decide) ?_
    refine AW.iload_n dX12_bed_8 rfl rfl ?_
    refine cs_X12_bed_9 (by decide) (by decide) (Nat.le_of_ble_eq_true rfl) (s_X12_isRoom (fun r hr ey => ?_) (fun hn => ?_))
    · refine AW.ifne1 (tgt := 17) dX12_bed_12 (by decide) ?_
      subst ex; subst ey
      refine AW.aload_n dX12_bed_17 rfl rfl ?_
      refine g12_7 dX12_bed_18 wF_X12_23 (by first | assumption | rfl | (unfold is12; omega)) ?_
      refine AW.bipush (v := nI 37) dX12_bed_21 (by decide) ?_
      show AW muX12_bed _ _ 23 _ _ _ _
      refine AW.iload_n dX12_bed_23 rfl rfl ?_
      first | refine AW.iaddN dX12_bed_24 ?_ | refine AW.iadd dX12_bed_24 ?_
      refine AW.iald dX12_bed_25 (by first | exact k0_175 | exact k0_170) _ (by first | rfl | assumption) (by omega) (by first | decide | omega) ?_
      refine AW.top (hA.g (by omega)) ?_
      refine AW.istore_n dX12_bed_26 rfl (by decide) rfl rfl ?_
      refine AW.aload_n dX12_bed_27 rfl rfl ?_
      refine g12_7 dX12_bed_28 wF_X12_23 (by first | assumption | rfl | (unfold is12; omega)) ?_
      show AW muX12_bed _ _ 31 _ _ _ _
      refine AW.bipush (v := nI 37) dX12_bed_31 (by decide) ?_
      refine AW.iload_n dX12_bed_33 rfl rfl ?_
      first | refine AW.iaddN dX12_bed_34 ?_ | refine AW.iadd dX12_bed_34 ?_
      refine AW.iload_n dX12_bed_35 rfl rfl ?_
      refine AW.ast dX12_bed_36 (by first | exact isA_175 | exact isA_176 | exact isA_177 | assumption) (by assumption) (by omega) (fun I36 hA36 => ?_)
      refine AW.iload_n dX12_bed_37 rfl rfl ?_
      show AW muX12_bed _ _ 38 _ _ _ _
      refine AW.iret dX12_bed_38 ⟨_, rfl, rfl⟩ (Nat.zero_le _) (Nat.zero_le _) ⟨_, rfl, ?_⟩
      exact q2 s r hs hr rfl rfl _ hA36
    · refine AW.ifne0 (tgt := 17) dX12_bed_12 (by decide) ?_
      refine AW.iconst (v := (-1)) dX12_bed_15 (by decide) ?_
      refine AW.iret dX12_bed_16 ⟨_, rfl, rfl⟩ (Nat.zero_le _) (Nat.zero_le _) ⟨_, rfl, ?_⟩
      first | exact q1 (fun h => hn h.1) | exact q1 (fun h => hn h.2)
  · refine AW.ifeq0 (tgt := 15) dX12_bed_5 (by decide) ?_
    refine AW.iconst (v := (-1)) dX12_bed_15 (by decide) ?_
    refine AW.iret dX12_bed_16 ⟨_, rfl, rfl⟩ (Nat.zero_le _) (Nat.zero_le _) ⟨_, rfl, ?_⟩
    first | exact q1 (fun h => hn h.1) | exact q1 (fun h => hn h.2)
theorem lp3_X12_count {x : Int32} (hV : NV N) (hM : MD I N) {Q : Option Int32 → sd_S → Prop} (K : Q (some (nI (sumN (N 47) (fun t => N (18 + t))))) (sk0, X, I, J)) : ∀ (m k : Nat), N 47 - k < m → k ≤ N 47 → AW muX12_count 0 0 77 [.ref 170, .int x, .int (nI (sumN k (fun t => N (18 + t)))), .int (nI k)] [] (sk0, X, I, J) Q := by
  have hb := hV.t8
  have hA := AS.rf hM
  intro m
  induction m with
  | zero => intros; omega
  | succ m ih =>
    intro k hm hk
    refine AW.iload_n dX12_count_77 rfl rfl ?_
    refine AW.aload_n dX12_count_78 rfl rfl ?_
    refine g12_7 dX12_count_79 wF_X12_23 (by first | assumption | rfl | (unfold is12; omega)) ?_
    refine AW.bipush (v := nI 47) dX12_count_82 (by decide) ?_
    refine AW.iald dX12_count_84 (by first | exact k0_175) _ (by first | rfl | assumption) (by omega) (by first | decide | omega) ?_
    first | refine AW.top (by first | exact AS.g hA (by omega)) ?_ | skip
    first | refine AW.icmp_geN (tgt := 106) dX12_count_85 (by decide) (by omega) (by omega) (fun c85 => ?_) (fun c85 => ?_) | refine AW.icmp_ge (tgt := 106) dX12_count_85 (by decide) (fun c85 => ?_) (fun c85 => ?_)
    · refine AW.iload_n dX12_count_106 rfl rfl ?_
      show AW muX12_count _ _ 107 _ _ _ _
      refine AW.iret dX12_count_107 ⟨_, rfl, rfl⟩ (Nat.zero_le _) (Nat.zero_le _) ?_
      obtain rfl : k = N 47 := by omega
      exact K
    · refine AW.iload_n dX12_count_88 rfl rfl ?_
      refine AW.aload_n dX12_count_89 rfl rfl ?_
      refine g12_7 dX12_count_90 wF_X12_23 (by first | assumption | rfl | (unfold is12; omega)) ?_
      refine AW.bipush (v := nI 18) dX12_count_93 (by decide) ?_
      refine AW.iload_n dX12_count_95 rfl rfl ?_
      first | refine AW.iaddN dX12_count_96 ?_ | refine AW.iadd dX12_count_96 ?_
      show AW muX12_count _ _ 97 _ _ _ _
      refine AW.iald dX12_count_97 (by first | exact k0_175) _ (by first | rfl | assumption) (by omega) (by first | decide | omega) ?_
      first | refine AW.top (by first | exact AS.g hA (by omega)) ?_ | skip
      first | refine AW.iaddN dX12_count_98 ?_ | refine AW.iadd dX12_count_98 ?_
      refine AW.istore_n dX12_count_99 rfl (by decide) rfl rfl ?_
      first | refine AW.iincN dX12_count_100 rfl (by decide) rfl rfl ?_ | refine AW.iinc dX12_count_100 rfl rfl (by decide) rfl rfl ?_
      refine AW.goto (tgt := 77) dX12_count_103 (by decide) ?_
      exact ih (k + 1) (by omega) (by omega)
theorem lp4_X12_count {x : Int32} (hV : NV N) (hM : MD I N) {Q : Option Int32 → sd_S → Prop} (K : Q (some (nI (sumN (N 47) (loudT N)))) (sk0, X, I, J)) : ∀ (m k : Nat), N 47 - k < m → k ≤ N 47 → AW muX12_count 0 0 110 [.ref 170, .int x, .int (nI (sumN k (loudT N))), .int (nI k)] [] (sk0, X, I, J) Q := by
  have hb := hV.t8
  have hA := AS.rf hM
  intro m
  induction m with
  | zero => intros; omega
  | succ m ih =>
    intro k hm hk
    refine AW.iload_n dX12_count_110 rfl rfl ?_
    refine AW.aload_n dX12_count_111 rfl rfl ?_
    refine g12_7 dX12_count_112 wF_X12_23 (by first | assumption | rfl | (unfold is12; omega)) ?_
    refine AW.bipush (v := nI 47) dX12_count_115 (by decide) ?_
    refine AW.iald dX12_count_117 (by first | exact k0_175) _ (by first | rfl | assumption) (by omega) (by first | decide | omega) ?_
    first | refine AW.top (by first | exact AS.g hA (by omega)) ?_ | skip
    first | refine AW.icmp_geN (tgt := 138) dX12_count_118 (by decide) (by omega) (by omega) (fun c118 => ?_) (fun c118 => ?_) | refine AW.icmp_ge (tgt := 138) dX12_count_118 (by decide) (fun c118 => ?_) (fun c118 => ?_)
    · refine AW.iload_n dX12_count_138 rfl rfl ?_
      show AW muX12_count _ _ 139 _ _ _ _
      refine AW.iret dX12_count_139 ⟨_, rfl, rfl⟩ (Nat.zero_le _) (Nat.zero_le _) ?_
      obtain rfl : k = N 47 := by omega
      exact K
    · refine AW.iload_n dX12_count_121 rfl rfl ?_
      refine AW.aload_n dX12_count_122 rfl rfl ?_
      refine g12_7 dX12_count_123 wF_X12_23 (by first | assumption | rfl | (unfold is12; omega)) ?_
      refine AW.iload_n dX12_count_126 rfl rfl ?_
      refine cs_X12_count_127 (by decide) (by decide) (Nat.le_of_ble_eq_true rfl) (s_X12_loudOf isA_175 (by decide) hV hA (by omega) ?_)
      first | refine AW.iaddN dX12_count_130 ?_ | refine AW.iadd dX12_count_130 ?_
      show AW muX12_count _ _ 131 _ _ _ _
      refine AW.istore_n dX12_count_131 rfl (by decide) rfl rfl ?_
      first | refine AW.iincN dX12_count_132 rfl (by decide) rfl rfl ?_ | refine AW.iinc dX12_count_132 rfl rfl (by decide) rfl rfl ?_
      refine AW.goto (tgt := 110) dX12_count_135 (by decide) ?_
      exact ih (k + 1) (by omega) (by omega)
theorem lp6_X12_count {x : Int32} (hV : NV N) (hM : MD I N) {Q : Option Int32 → sd_S → Prop} (K : Q (some (nI (sumN (N 36) (fun s => N (26 + s))))) (sk0, X, I, J)) : ∀ (m k : Nat), N 36 - k < m → k ≤ N 36 → AW muX12_count 0 0 185 [.ref 170, .int x, .int (nI (sumN k (fun s => N (26 + s)))), .int (nI k)] [] (sk0, X, I, J) Q := by
  have hb := hV.s5
  have hA := AS.rf hM
  intro m
  induction m with
  | zero => intros; omega
  | succ m ih =>
    intro k hm hk
    refine AW.iload_n dX12_count_185 rfl rfl ?_
    refine AW.aload_n dX12_count_186 rfl rfl ?_
    refine g12_7 dX12_count_187 wF_X12_23 (by first | assumption | rfl | (unfold is12; omega)) ?_
    refine AW.bipush (v := nI 36) dX12_count_190 (by decide) ?_
    refine AW.iald dX12_count_192 (by first | exact k0_175) _ (by first | rfl | assumption) (by omega) (by first | decide | omega) ?_
    first | refine AW.top (by first | exact AS.g hA (by omega)) ?_ | skip
    first | refine AW.icmp_geN (tgt := 214) dX12_count_193 (by decide) (by omega) (by omega) (fun c193 => ?_) (fun c193 => ?_) | refine AW.icmp_ge (tgt := 214) dX12_count_193 (by decide) (fun c193 => ?_) (fun c193 => ?_)
    · refine AW.iload_n dX12_count_214 rfl rfl ?_
      show AW muX12_count _ _ 215 _ _ _ _
      refine AW.iret dX12_count_215 ⟨_, rfl, rfl⟩ (Nat.zero_le _) (Nat.zero_le _) ?_
      obtain rfl : k = N 36 := by omega
      exact K
    · refine AW.iload_n dX12_count_196 rfl rfl ?_
      refine AW.aload_n dX12_count_197 rfl rfl ?_
      refine g12_7 dX12_count_198 wF_X12_23 (by first | assumption | rfl | (unfold is12; omega)) ?_
      refine AW.bipush (v := nI 26) dX12_count_201 (by decide) ?_
      refine AW.iload_n dX12_count_203 rfl rfl ?_
      first | refine AW.iaddN dX12_count_204 ?_ | refine AW.iadd dX12_count_204 ?_
      show AW muX12_count _ _ 205 _ _ _ _
      refine AW.iald dX12_count_205 (by first | exact k0_175) _ (by first | rfl | assumption) (by omega) (by first | decide | omega) ?_
      first | refine AW.top (by first | exact AS.g hA (by omega)) ?_ | skip
      first | refine AW.iaddN dX12_count_206 ?_ | refine AW.iadd dX12_count_206 ?_
      refine AW.istore_n dX12_count_207 rfl (by decide) rfl rfl ?_
      first | refine AW.iincN dX12_count_208 rfl (by decide) rfl rfl ?_ | refine AW.iinc dX12_count_208 rfl rfl (by decide) rfl rfl ?_
      refine AW.goto (tgt := 185) dX12_count_211 (by decide) ?_
      exact ih (k + 1) (by omega) (by omega)
theorem lp5_X12_count {x : Int32} (hV : NV N) (hM : MD I N) {Q : Option Int32 → sd_S → Prop} (K : Q (some (nI (setN (N 47) (fun t => decide (N (18 + t) = 0))))) (sk0, X, I, J)) : ∀ (m k : Nat), N 47 - k < m → k ≤ N 47 → AW muX12_count 0 0 142 [.ref 170, .int x, .int (nI (setN k (fun t => decide (N (18 + t) = 0)))), .int (nI k)] [] (sk0, X, I, J) Q := by
  have hb := hV.t8
  have hA := AS.rf hM
  intro m
  induction m with
  | zero => intros; omega
  | succ m ih =>
    intro k hm hk
    refine AW.iload_n dX12_count_142 rfl rfl ?_
    refine AW.aload_n dX12_count_143 rfl rfl ?_
    refine g12_7 dX12_count_144 wF_X12_23 (by first | assumption | rfl | (unfold is12; omega)) ?_
    refine AW.bipush (v := nI 47) dX12_count_147 (by decide) ?_
    refine AW.iald dX12_count_149 (by first | exact k0_175) _ (by first | rfl | assumption) (by omega) (by first | decide | omega) ?_
    first | refine AW.top (by first | exact AS.g hA (by omega)) ?_ | skip
    first | refine AW.icmp_geN (tgt := 181) dX12_count_150 (by decide) (by omega) (by omega) (fun c150 => ?_) (fun c150 => ?_) | refine AW.icmp_ge (tgt := 181) dX12_count_150 (by decide) (fun c150 => ?_) (fun c150 => ?_)
    · refine AW.iload_n dX12_count_181 rfl rfl ?_
      show AW muX12_count _ _ 182 _ _ _ _
      refine AW.iret dX12_count_182 ⟨_, rfl, rfl⟩ (Nat.zero_le _) (Nat.zero_le _) ?_
      obtain rfl : k = N 47 := by omega
      exact K
    · have := hV.lf c150
      refine AW.iload_n dX12_count_153 rfl rfl ?_
      refine AW.aload_n dX12_count_154 rfl rfl ?_
      refine g12_7 dX12_count_155 wF_X12_23 (by first | assumption | rfl | (unfold is12; omega)) ?_
      refine AW.bipush (v := nI 18) dX12_count_158 (by decide) ?_
      refine AW.iload_n dX12_count_160 rfl rfl ?_
      first | refine AW.iaddN dX12_count_161 ?_ | refine AW.iadd dX12_count_161 ?_
      show AW muX12_count _ _ 162 _ _ _ _
      refine AW.iald dX12_count_162 (by first | exact k0_175) _ (by first | rfl | assumption) (by omega) (by first | decide | omega) ?_
      first | refine AW.top (by first | exact AS.g hA (by omega)) ?_ | skip
      first | refine AW.if_neN (tgt := 172) dX12_count_163 (by decide) (by omega) (fun c163 => ?_) (fun c163 => ?_) | refine AW.if_ne (tgt := 172) dX12_count_163 (by decide) (fun c163 => ?_) (fun c163 => ?_)
      · refine AW.iconst (v := nI 0) dX12_count_172 (by decide) ?_
        first | refine AW.iaddN dX12_count_173 ?_ | refine AW.iadd dX12_count_173 ?_
        refine AW.istore_n dX12_count_174 rfl (by decide) rfl rfl ?_
        first | refine AW.iincN dX12_count_175 rfl (by decide) rfl rfl ?_ | refine AW.iinc dX12_count_175 rfl rfl (by decide) rfl rfl ?_
        refine AW.goto (tgt := 142) dX12_count_178 (by decide) ?_
        have := ih (k + 1) (by omega) (by omega)
        first | (rw [show setN (k + 1) (fun t => decide (N (18 + t) = 0)) = setN k (fun t => decide (N (18 + t) = 0)) + 2 ^ k by simp [setN, c163]] at this; exact this) | (rw [show setN (k + 1) (fun t => decide (N (18 + t) = 0)) = setN k (fun t => decide (N (18 + t) = 0)) + 0 by simp [setN, c163]] at this; exact this)
      · refine AW.iconst (v := nI 1) dX12_count_166 (by decide) ?_
        show AW muX12_count _ _ 167 _ _ _ _
        refine AW.iload_n dX12_count_167 rfl rfl ?_
        refine AW.ishl dX12_count_168 ?_
        refine AW.top (nI_shl1 (by omega)) ?_
        refine AW.goto (tgt := 173) dX12_count_169 (by decide) ?_
        first | refine AW.iaddN dX12_count_173 ?_ | refine AW.iadd dX12_count_173 ?_
        refine AW.istore_n dX12_count_174 rfl (by decide) rfl rfl ?_
        first | refine AW.iincN dX12_count_175 rfl (by decide) rfl rfl ?_ | refine AW.iinc dX12_count_175 rfl rfl (by decide) rfl rfl ?_
        refine AW.goto (tgt := 142) dX12_count_178 (by decide) ?_
        have := ih (k + 1) (by omega) (by omega)
        first | (rw [show setN (k + 1) (fun t => decide (N (18 + t) = 0)) = setN k (fun t => decide (N (18 + t) = 0)) + 2 ^ k by simp [setN, c163]] at this; exact this) | (rw [show setN (k + 1) (fun t => decide (N (18 + t) = 0)) = setN k (fun t => decide (N (18 + t) = 0)) + 0 by simp [setN, c163]] at this; exact this)
theorem m_count {x : Int32} (hV : NV N) (hM : MD I N) (q1 : ¬ inR x 0 9 → Q (-1) (sk0, X, I, J)) (q2 : ∀ w, w < 9 → x = nI w → Q (nI (if w = 0 then N 36 else if w = 1 then N 47 else if w = 2 then N 0 else if w = 3 then sumN (N 47) (fun t => N (18 + t)) else if w = 4 then sumN (N 47) (loudT N) else if w = 5 then setN (N 47) (fun t => decide (N (18 + t) = 0)) else if w = 6 then sumN (N 36) (fun s => N (26 + s)) else if w = 7 then sumN (N 36) (fun s => N (31 + s)) else N 64)) (sk0, X, I, J)) : AWi muX12_count [.ref 170, .int x] (sk0, X, I, J) Q := by
  have h5 := hV.s5
  have hA := AS.rf hM
  show AW muX12_count 0 0 0 [.ref 170, .int x, .null, .null] [] _ _
  refine AW.iconst (v := nI 0) dX12_count_0 (by decide) ?_
  refine AW.istore_n dX12_count_1 rfl (by decide) rfl rfl ?_
  refine AW.iload_n dX12_count_2 rfl rfl ?_
  by_cases hw : inR x 0 9
  · obtain ⟨w, -, hw, rfl⟩ := hw
    rcases (show w = 0 ∨ w = 1 ∨ w = 2 ∨ w = 3 ∨ w = 4 ∨ w = 5 ∨ w = 6 ∨ w = 7 ∨ w = 8 by omega) with rfl | rfl | rfl | rfl | rfl | rfl | rfl | rfl | rfl
    · refine AW.tableIn (tgt := 52) dX12_count_3 (by decide) (by decide) rfl (by decide) ?_
      refine AW.aload_n dX12_count_52 rfl rfl ?_
      refine g12_7 dX12_count_53 wF_X12_23 (by first | assumption | rfl | (unfold is12; omega)) ?_
      refine AW.bipush (v := nI 36) dX12_count_56 (by decide) ?_
      show AW muX12_count _ _ 58 _ _ _ _
      refine AW.iald dX12_count_58 (by first | exact k0_175) _ (by first | rfl | assumption) (by omega) (by first | decide | omega) ?_
      first | refine AW.top (by first | exact AS.g hA (by omega)) ?_ | skip
      refine AW.iret dX12_count_59 ⟨_, rfl, rfl⟩ (Nat.zero_le _) (Nat.zero_le _) ⟨_, rfl, ?_⟩
      exact q2 _ hw rfl
    · refine AW.tableIn (tgt := 60) dX12_count_3 (by decide) (by decide) rfl (by decide) ?_
      refine AW.aload_n dX12_count_60 rfl rfl ?_
      refine g12_7 dX12_count_61 wF_X12_23 (by first | assumption | rfl | (unfold is12; omega)) ?_
      refine AW.bipush (v := nI 47) dX12_count_64 (by decide) ?_
      refine AW.iald dX12_count_66 (by first | exact k0_175) _ (by first | rfl | assumption) (by omega) (by first | decide | omega) ?_
      first | refine AW.top (by first | exact AS.g hA (by omega)) ?_ | skip
      refine AW.iret dX12_count_67 ⟨_, rfl, rfl⟩ (Nat.zero_le _) (Nat.zero_le _) ⟨_, rfl, ?_⟩
      exact q2 _ hw rfl
    · refine AW.tableIn (tgt := 68) dX12_count_3 (by decide) (by decide) rfl (by decide) ?_
      refine AW.aload_n dX12_count_68 rfl rfl ?_
      show AW muX12_count _ _ 69 _ _ _ _
      refine g12_7 dX12_count_69 wF_X12_23 (by first | assumption | rfl | (unfold is12; omega)) ?_
      refine AW.iconst (v := nI 0) dX12_count_72 (by decide) ?_
      refine AW.iald dX12_count_73 (by first | exact k0_175) _ (by first | rfl | assumption) (by omega) (by first | decide | omega) ?_
      first | refine AW.top (by first | exact AS.g hA (by omega)) ?_ | skip
      refine AW.iret dX12_count_74 ⟨_, rfl, rfl⟩ (Nat.zero_le _) (Nat.zero_le _) ⟨_, rfl, ?_⟩
      exact q2 _ hw rfl
    · refine AW.tableIn (tgt := 75) dX12_count_3 (by decide) (by decide) rfl (by decide) ?_
      refine AW.iconst (v := nI 0) dX12_count_75 (by decide) ?_
      refine AW.istore_n dX12_count_76 rfl (by decide) rfl rfl ?_
      exact lp3_X12_count hV hM ⟨_, rfl, q2 3 hw rfl⟩ (N 47 + 1) 0 (by omega) (by omega)
    · refine AW.tableIn (tgt := 108) dX12_count_3 (by decide) (by decide) rfl (by decide) ?_
      refine AW.iconst (v := nI 0) dX12_count_108 (by decide) ?_
      show AW muX12_count _ _ 109 _ _ _ _
      refine AW.istore_n dX12_count_109 rfl (by decide) rfl rfl ?_
      exact lp4_X12_count hV hM ⟨_, rfl, q2 4 hw rfl⟩ (N 47 + 1) 0 (by omega) (by omega)
    · refine AW.tableIn (tgt := 140) dX12_count_3 (by decide) (by decide) rfl (by decide) ?_
      refine AW.iconst (v := nI 0) dX12_count_140 (by decide) ?_
      refine AW.istore_n dX12_count_141 rfl (by decide) rfl rfl ?_
      exact lp5_X12_count hV hM ⟨_, rfl, q2 5 hw rfl⟩ (N 47 + 1) 0 (by omega) (by omega)
    · refine AW.tableIn (tgt := 183) dX12_count_3 (by decide) (by decide) rfl (by decide) ?_
      refine AW.iconst (v := nI 0) dX12_count_183 (by decide) ?_
      refine AW.istore_n dX12_count_184 rfl (by decide) rfl rfl ?_
      exact lp6_X12_count hV hM ⟨_, rfl, q2 6 hw rfl⟩ (N 36 + 1) 0 (by omega) (by omega)
    · refine AW.tableIn (tgt := 216) dX12_count_3 (by decide) (by decide) rfl (by decide) ?_
      refine AW.aload_n dX12_count_216 rfl rfl ?_
      show AW muX12_count _ _ 217 _ _ _ _
      refine g12_7 dX12_count_217 wF_X12_23 (by first | assumption | rfl | (unfold is12; omega)) ?_
      refine cs_X12_count_220 (by decide) (by decide) (Nat.le_of_ble_eq_true rfl) (s_X12_wokenIn isA_175 (by decide) hA h5 ?_)
      refine AW.iret dX12_count_223 ⟨_, rfl, rfl⟩ (Nat.zero_le _) (Nat.zero_le _) ⟨_, rfl, ?_⟩
      exact q2 _ hw rfl
    · refine AW.tableIn (tgt := 224) dX12_count_3 (by decide) (by decide) rfl (by decide) ?_
      refine AW.aload_n dX12_count_224 rfl rfl ?_
      refine g12_7 dX12_count_225 wF_X12_23 (by first | assumption | rfl | (unfold is12; omega)) ?_
      refine AW.bipush (v := nI 64) dX12_count_228 (by decide) ?_
      refine AW.iald dX12_count_230 (by first | exact k0_175) _ (by first | rfl | assumption) (by omega) (by first | decide | omega) ?_
      first | refine AW.top (by first | exact AS.g hA (by omega)) ?_ | skip
      show AW muX12_count _ _ 231 _ _ _ _
      refine AW.iret dX12_count_231 ⟨_, rfl, rfl⟩ (Nat.zero_le _) (Nat.zero_le _) ⟨_, rfl, ?_⟩
      exact q2 _ hw rfl
  · refine AW.tableOut (tgt := 232) dX12_count_3 (out_of hw (by decide)) (by decide) ?_
    refine AW.iconst (v := (-1)) dX12_count_232 (by decide) ?_
    refine AW.iret dX12_count_233 ⟨_, rfl, rfl⟩ (Nat.zero_le _) (Nat.zero_le _) ⟨_, rfl, ?_⟩
    exact q1 hw
theorem m_move {x y : Int32} (hV : NV N) (h64 : N 64 ≤ 8) (hM : MD I N) (q1 : ¬ (inR x 0 (N 47) ∧ inR y 0 4) → Q (-1) (sk0, X, I, J)) (q2 : ∀ t r, t < N 47 → r < 4 → x = nI t → y = nI r → N (2 + t) = r → Q (-2) (sk0, X, I, J)) (q3 : ∀ t r, t < N 47 → r < 4 → x = nI t → y = nI r → N (2 + t) ≠ r → ∀ I', AS I I' 175 353 (upN (noteN N) (2 + t) r) → Q (nI (N (2 + t))) (sk0, X, I', J)) : AWi muX12_move [.ref 170, .int x, .int y] (sk0, X, I, J) Q := by
  have h8 := hV.t8
  have hA := AS.rf hM
  show AW muX12_move 0 0 0 [.ref 170, .int x, .int y, .null] [] _ _
  refine AW.aload_n dX12_move_0 rfl rfl ?_
  refine AW.iload_n dX12_move_1 rfl rfl ?_
  refine cs_X12_move_2 (by first | exact k0_175 | exact k0_170) (by decide) (by decide) (Nat.le_of_ble_eq_true rfl) (s_X12_isThing (hM 47 (by decide)) (by omega) (fun t ht ex => ?_) (fun hn => ?_))
  · refine AW.ifeq1 (tgt := 15) dX12_move_5 (by decide) ?_
    refine AW.iload_n dX12_move_8 rfl rfl ?_
    refine cs_X12_move_9 (by decide) (by decide) (Nat.le_of_ble_eq_true rfl) (s_X12_isRoom (fun r hr ey => ?_) (fun hn => ?_))
    · refine AW.ifne1 (tgt := 17) dX12_move_12 (by decide) ?_
      subst ex; subst ey
      have := hV.pl ht
      refine AW.aload_n dX12_move_17 rfl rfl ?_
      refine g12_7 dX12_move_18 wF_X12_23 (by first | assumption | rfl | (unfold is12; omega)) ?_
      refine AW.iconst (v := nI 2) dX12_move_21 (by decide) ?_
      show AW muX12_move _ _ 22 _ _ _ _
      refine AW.iload_n dX12_move_22 rfl rfl ?_
      first | refine AW.iaddN dX12_move_23 ?_ | refine AW.iadd dX12_move_23 ?_
      refine AW.iald dX12_move_24 (by first | exact k0_175 | exact k0_170) _ (by first | rfl | assumption) (by omega) (by first | decide | omega) ?_
      refine AW.top (hA.g (by omega)) ?_
      refine AW.iload_n dX12_move_25 rfl rfl ?_
      first | refine AW.icmp_neN (tgt := 32) dX12_move_26 (by decide) (by omega) (by omega) (fun c26 => ?_) (fun c26 => ?_) | refine AW.icmp_ne (tgt := 32) dX12_move_26 (by decide) (fun c26 => ?_) (fun c26 => ?_)
      · refine AW.aload_n dX12_move_32 rfl rfl ?_
        refine cs_X12_move_33 (by first | exact k0_175 | exact k0_170) (by decide) (by decide) (Nat.le_of_ble_eq_true rfl) (s_X12_note hA h64 (fun I1 h1 => ?_))
        show AW muX12_move _ _ 36 _ _ _ _
        refine AW.aload_n dX12_move_36 rfl rfl ?_
        refine g12_7 dX12_move_37 wF_X12_23 (by first | assumption | rfl | (unfold is12; omega)) ?_
        refine AW.iconst (v := nI 2) dX12_move_40 (by decide) ?_
        refine AW.iload_n dX12_move_41 rfl rfl ?_
        first | refine AW.iaddN dX12_move_42 ?_ | refine AW.iadd dX12_move_42 ?_
        refine AW.iald dX12_move_43 (by first | exact k0_175 | exact k0_170) _ (by first | rfl | assumption) (by omega) (by first | decide | omega) ?_
        refine AW.top ((h1.g (by omega)).trans (congrArg nI (noteN_low (by omega)))) ?_
        show AW muX12_move _ _ 44 _ _ _ _
        refine AW.istore_n dX12_move_44 rfl (by decide) rfl rfl ?_
        refine AW.aload_n dX12_move_45 rfl rfl ?_
        refine g12_7 dX12_move_46 wF_X12_23 (by first | assumption | rfl | (unfold is12; omega)) ?_
        refine AW.iconst (v := nI 2) dX12_move_49 (by decide) ?_
        refine AW.iload_n dX12_move_50 rfl rfl ?_
        first | refine AW.iaddN dX12_move_51 ?_ | refine AW.iadd dX12_move_51 ?_
        show AW muX12_move _ _ 52 _ _ _ _
        refine AW.iload_n dX12_move_52 rfl rfl ?_
        refine AW.ast dX12_move_53 (by first | exact isA_175 | exact isA_176 | exact isA_177 | assumption) (by assumption) (by omega) (fun I53 hA53 => ?_)
        refine AW.iload_n dX12_move_54 rfl rfl ?_
        refine AW.iret dX12_move_55 ⟨_, rfl, rfl⟩ (Nat.zero_le _) (Nat.zero_le _) ⟨_, rfl, ?_⟩
        exact q3 t r ht hr rfl rfl c26 _ hA53
      · refine AW.bipush (v := (-2)) dX12_move_29 (by decide) ?_
        refine AW.iret dX12_move_31 ⟨_, rfl, rfl⟩ (Nat.zero_le _) (Nat.zero_le _) ⟨_, rfl, ?_⟩
        exact q2 t r ht hr rfl rfl c26
    · refine AW.ifne0 (tgt := 17) dX12_move_12 (by decide) ?_
      refine AW.iconst (v := (-1)) dX12_move_15 (by decide) ?_
      refine AW.iret dX12_move_16 ⟨_, rfl, rfl⟩ (Nat.zero_le _) (Nat.zero_le _) ⟨_, rfl, ?_⟩
      first | exact q1 (fun h => hn h.1) | exact q1 (fun h => hn h.2)
  · refine AW.ifeq0 (tgt := 15) dX12_move_5 (by decide) ?_
    refine AW.iconst (v := (-1)) dX12_move_15 (by decide) ?_
    show AW muX12_move _ _ 16 _ _ _ _
    refine AW.iret dX12_move_16 ⟨_, rfl, rfl⟩ (Nat.zero_le _) (Nat.zero_le _) ⟨_, rfl, ?_⟩
    first | exact q1 (fun h => hn h.1) | exact q1 (fun h => hn h.2)
theorem m_pass {x y : Int32} (hV : NV N) (h64 : N 64 ≤ 8) (hM : MD I N) (q1 : ¬ (inR x 0 (N 47) ∧ inR y 0 10) → Q (-1) (sk0, X, I, J)) (q2 : ∀ t g, t < N 47 → g < 10 → x = nI t → y = nI g → N (10 + t) = g → Q (-2) (sk0, X, I, J)) (q3 : ∀ t g, t < N 47 → g < 10 → x = nI t → y = nI g → N (10 + t) ≠ g → ∀ I', AS I I' 175 353 (upN (upN (noteN N) (10 + t) g) (18 + t) (min (10 * N (56 + t)) 99)) → Q (nI (N (18 + t))) (sk0, X, I', J)) : AWi muX12_pass [.ref 170, .int x, .int y] (sk0, X, I, J) Q := by
  have h8 := hV.t8
  have hA := AS.rf hM
  show AW muX12_pass 0 0 0 [.ref 170, .int x, .int y, .null] [] _ _
  refine AW.aload_n dX12_pass_0 rfl rfl ?_
  refine AW.iload_n dX12_pass_1 rfl rfl ?_
  refine cs_X12_pass_2 (by first | exact k0_175 | exact k0_170) (by decide) (by decide) (Nat.le_of_ble_eq_true rfl) (s_X12_isThing (hM 47 (by decide)) (by omega) (fun t ht ex => ?_) (fun hn => ?_))
  · refine AW.ifeq1 (tgt := 18) dX12_pass_5 (by decide) ?_
    refine AW.iload_n dX12_pass_8 rfl rfl ?_
    refine AW.iconst (v := nI 0) dX12_pass_9 (by decide) ?_
    refine AW.bipush (v := nI 9) dX12_pass_10 (by decide) ?_
    refine cs_X12_pass_12 (by decide) (by decide) (Nat.le_of_ble_eq_true rfl) (s_X12_in (lo := 0) (hi := 10) (by decide) (by decide) (by decide) (fun g _ hg ey => ?_) (fun hn => ?_))
    · refine AW.ifne1 (tgt := 20) dX12_pass_15 (by decide) ?_
      subst ex; subst ey
      have := hV.gv ht
      have := hV.dr ht
      refine AW.aload_n dX12_pass_20 rfl rfl ?_
      show AW muX12_pass _ _ 21 _ _ _ _
      refine g12_7 dX12_pass_21 wF_X12_23 (by first | assumption | rfl | (unfold is12; omega)) ?_
      refine AW.bipush (v := nI 10) dX12_pass_24 (by decide) ?_
      refine AW.iload_n dX12_pass_26 rfl rfl ?_
      first | refine AW.iaddN dX12_pass_27 ?_ | refine AW.iadd dX12_pass_27 ?_
      refine AW.iald dX12_pass_28 (by first | exact k0_175 | exact k0_170) _ (by first | rfl | assumption) (by omega) (by first | decide | omega) ?_
      refine AW.top (hA.g (by omega)) ?_
      refine AW.iload_n dX12_pass_29 rfl rfl ?_
      show AW muX12_pass _ _ 30 _ _ _ _
      first | refine AW.icmp_neN (tgt := 36) dX12_pass_30 (by decide) (by omega) (by omega) (fun c30 => ?_) (fun c30 => ?_) | refine AW.icmp_ne (tgt := 36) dX12_pass_30 (by decide) (fun c30 => ?_) (fun c30 => ?_)
      · refine AW.aload_n dX12_pass_36 rfl rfl ?_
        refine cs_X12_pass_37 (by first | exact k0_175 | exact k0_170) (by decide) (by decide) (Nat.le_of_ble_eq_true rfl) (s_X12_note hA h64 (fun I1 h1 => ?_))
        refine AW.aload_n dX12_pass_40 rfl rfl ?_
        refine g12_7 dX12_pass_41 wF_X12_23 (by first | assumption | rfl | (unfold is12; omega)) ?_
        refine AW.bipush (v := nI 18) dX12_pass_44 (by decide) ?_
        refine AW.iload_n dX12_pass_46 rfl rfl ?_
        show AW muX12_pass _ _ 47 _ _ _ _
        first | refine AW.iaddN dX12_pass_47 ?_ | refine AW.iadd dX12_pass_47 ?_
        refine AW.iald dX12_pass_48 (by first | exact k0_175 | exact k0_170) _ (by first | rfl | assumption) (by omega) (by first | decide | omega) ?_
        refine AW.top ((h1.g (by omega)).trans (congrArg nI (noteN_low (by omega)))) ?_
        refine AW.istore_n dX12_pass_49 rfl (by decide) rfl rfl ?_
        refine AW.aload_n dX12_pass_50 rfl rfl ?_
        refine g12_7 dX12_pass_51 wF_X12_23 (by first | assumption | rfl | (unfold is12; omega)) ?_
        refine AW.bipush (v := nI 10) dX12_pass_54 (by decide) ?_
        show AW muX12_pass _ _ 56 _ _ _ _
        refine AW.iload_n dX12_pass_56 rfl rfl ?_
        first | refine AW.iaddN dX12_pass_57 ?_ | refine AW.iadd dX12_pass_57 ?_
        refine AW.iload_n dX12_pass_58 rfl rfl ?_
        refine AW.ast dX12_pass_59 (by first | exact isA_175 | exact isA_176 | exact isA_177 | assumption) (by assumption) (by omega) (fun I59 hA59 => ?_)
        refine AW.aload_n dX12_pass_60 rfl rfl ?_
        refine g12_7 dX12_pass_61 wF_X12_23 (by first | assumption | rfl | (unfold is12; omega)) ?_
        show AW muX12_pass _ _ 64 _ _ _ _
        refine AW.bipush (v := nI 18) dX12_pass_64 (by decide) ?_
        refine AW.iload_n dX12_pass_66 rfl rfl ?_
        first | refine AW.iaddN dX12_pass_67 ?_ | refine AW.iadd dX12_pass_67 ?_
        refine AW.aload_n dX12_pass_68 rfl rfl ?_
        refine g12_7 dX12_pass_69 wF_X12_23 (by first | assumption | rfl | (unfold is12; omega)) ?_
        refine AW.bipush (v := nI 56) dX12_pass_72 (by decide) ?_
        show AW muX12_pass _ _ 74 _ _ _ _
        refine AW.iload_n dX12_pass_74 rfl rfl ?_
        first | refine AW.iaddN dX12_pass_75 ?_ | refine AW.iadd dX12_pass_75 ?_
        refine AW.iald dX12_pass_76 (by first | exact k0_175 | exact k0_170) _ (by first | rfl | assumption) (by omega) (by first | decide | omega) ?_
        refine AW.top ((hA59.g (by omega)).trans (congrArg nI (show _ = N (56 + t) by rw [upN_ne (by omega)]; exact noteN_low (by omega)))) ?_
        refine cs_X12_pass_77 (by decide) (by decide) (Nat.le_of_ble_eq_true rfl) (s_X12_firstLeft (by omega) ?_)
        refine AW.ast dX12_pass_80 (by first | exact isA_175 | exact isA_176 | exact isA_177 | assumption) (by assumption) (by omega) (fun I80 hA80 => ?_)
        refine AW.iload_n dX12_pass_81 rfl rfl ?_
        show AW muX12_pass _ _ 82 _ _ _ _
        refine AW.iret dX12_pass_82 ⟨_, rfl, rfl⟩ (Nat.zero_le _) (Nat.zero_le _) ⟨_, rfl, ?_⟩
        exact q3 t g ht hg rfl rfl c30 _ hA80
      · refine AW.bipush (v := (-2)) dX12_pass_33 (by decide) ?_
        refine AW.iret dX12_pass_35 ⟨_, rfl, rfl⟩ (Nat.zero_le _) (Nat.zero_le _) ⟨_, rfl, ?_⟩
        exact q2 t g ht hg rfl rfl c30
    · refine AW.ifne0 (tgt := 20) dX12_pass_15 (by decide) ?_
      refine AW.iconst (v := (-1)) dX12_pass_18 (by decide) ?_
      refine AW.iret dX12_pass_19 ⟨_, rfl, rfl⟩ (Nat.zero_le _) (Nat.zero_le _) ⟨_, rfl, ?_⟩
      first | exact q1 (fun h => hn h.1) | exact q1 (fun h => hn h.2)
  · refine AW.ifeq0 (tgt := 18) dX12_pass_5 (by decide) ?_
    refine AW.iconst (v := (-1)) dX12_pass_18 (by decide) ?_
    refine AW.iret dX12_pass_19 ⟨_, rfl, rfl⟩ (Nat.zero_le _) (Nat.zero_le _) ⟨_, rfl, ?_⟩
    first | exact q1 (fun h => hn h.1) | exact q1 (fun h => hn h.2)
theorem m_back {x : Int32} (hV : NV N) (h64 : N 64 ≤ 8) (hM : MD I N) (q1 : ¬ inR x 0 (N 47) → Q (-1) (sk0, X, I, J)) (q2 : ∀ t, t < N 47 → x = nI t → N (18 + t) = 0 → Q (-2) (sk0, X, I, J)) (q3 : ∀ t, t < N 47 → x = nI t → N (18 + t) ≠ 0 → ∀ I', AS I I' 175 353 (upN (noteN N) (18 + t) 0) → Q (nI (N (18 + t))) (sk0, X, I', J)) : AWi muX12_back [.ref 170, .int x] (sk0, X, I, J) Q := by
  have h8 := hV.t8
  have hA := AS.rf hM
  show AW muX12_back 0 0 0 [.ref 170, .int x, .null] [] _ _
  refine AW.aload_n dX12_back_0 rfl rfl ?_
  refine AW.iload_n dX12_back_1 rfl rfl ?_
  refine cs_X12_back_2 (by first | exact k0_175 | exact k0_170) (by decide) (by decide) (Nat.le_of_ble_eq_true rfl) (s_X12_isThing (hM 47 (by decide)) (by omega) (fun t ht ex => ?_) (fun hn => ?_))
  · refine AW.ifne1 (tgt := 10) dX12_back_5 (by decide) ?_
    subst ex
    have := hV.lf ht
    refine AW.aload_n dX12_back_10 rfl rfl ?_
    refine g12_7 dX12_back_11 wF_X12_23 (by first | assumption | rfl | (unfold is12; omega)) ?_
    refine AW.bipush (v := nI 18) dX12_back_14 (by decide) ?_
    refine AW.iload_n dX12_back_16 rfl rfl ?_
    show AW muX12_back _ _ 17 _ _ _ _
    first | refine AW.iaddN dX12_back_17 ?_ | refine AW.iadd dX12_back_17 ?_
    refine AW.iald dX12_back_18 (by first | exact k0_175 | exact k0_170) _ (by first | rfl | assumption) (by omega) (by first | decide | omega) ?_
    refine AW.top (hA.g (by omega)) ?_
    first | refine AW.if_neN (tgt := 25) dX12_back_19 (by decide) (by omega) (fun c19 => ?_) (fun c19 => ?_) | refine AW.if_ne (tgt := 25) dX12_back_19 (by decide) (fun c19 => ?_) (fun c19 => ?_)
    · refine AW.aload_n dX12_back_25 rfl rfl ?_
      refine cs_X12_back_26 (by first | exact k0_175 | exact k0_170) (by decide) (by decide) (Nat.le_of_ble_eq_true rfl) (s_X12_note hA h64 (fun I1 h1 => ?_))
      refine AW.aload_n dX12_back_29 rfl rfl ?_
      refine g12_7 dX12_back_30 wF_X12_23 (by first | assumption | rfl | (unfold is12; omega)) ?_
      show AW muX12_back _ _ 33 _ _ _ _
      refine AW.bipush (v := nI 18) dX12_back_33 (by decide) ?_
      refine AW.iload_n dX12_back_35 rfl rfl ?_
      first | refine AW.iaddN dX12_back_36 ?_ | refine AW.iadd dX12_back_36 ?_
      refine AW.iald dX12_back_37 (by first | exact k0_175 | exact k0_170) _ (by first | rfl | assumption) (by omega) (by first | decide | omega) ?_
      refine AW.top ((h1.g (by omega)).trans (congrArg nI (noteN_low (by omega)))) ?_
      refine AW.istore_n dX12_back_38 rfl (by decide) rfl rfl ?_
      refine AW.aload_n dX12_back_39 rfl rfl ?_
      show AW muX12_back _ _ 40 _ _ _ _
      refine g12_7 dX12_back_40 wF_X12_23 (by first | assumption | rfl | (unfold is12; omega)) ?_
      refine AW.bipush (v := nI 18) dX12_back_43 (by decide) ?_
      refine AW.iload_n dX12_back_45 rfl rfl ?_
      first | refine AW.iaddN dX12_back_46 ?_ | refine AW.iadd dX12_back_46 ?_
      refine AW.iconst (v := nI 0) dX12_back_47 (by decide) ?_
      refine AW.ast dX12_back_48 (by first | exact isA_175 | exact isA_176 | exact isA_177 | assumption) (by assumption) (by omega) (fun I48 hA48 => ?_)
      show AW muX12_back _ _ 49 _ _ _ _
      refine AW.iload_n dX12_back_49 rfl rfl ?_
      refine AW.iret dX12_back_50 ⟨_, rfl, rfl⟩ (Nat.zero_le _) (Nat.zero_le _) ⟨_, rfl, ?_⟩
      exact q3 t ht rfl c19 _ hA48
    · refine AW.bipush (v := (-2)) dX12_back_22 (by decide) ?_
      refine AW.iret dX12_back_24 ⟨_, rfl, rfl⟩ (Nat.zero_le _) (Nat.zero_le _) ⟨_, rfl, ?_⟩
      exact q2 t ht rfl c19
  · refine AW.ifne0 (tgt := 10) dX12_back_5 (by decide) ?_
    refine AW.iconst (v := (-1)) dX12_back_8 (by decide) ?_
    refine AW.iret dX12_back_9 ⟨_, rfl, rfl⟩ (Nat.zero_le _) (Nat.zero_le _) ⟨_, rfl, ?_⟩
    exact q1 hn
theorem m_seed {x : Int32} (hM : MD I N) (q1 : x < 0 → Q (-1) (sk0, X, I, J)) (q2 : ∀ d, d < 2 ^ 31 → x = nI d → ∀ I', AS I I' 175 353 (upN N 1 d) → Q (nI (N 1)) (sk0, X, I', J)) : AWi muX12_seed [.ref 170, .int x] (sk0, X, I, J) Q := by
  have hA := AS.rf hM
  show AW muX12_seed 0 0 0 [.ref 170, .int x, .null] [] _ _
  refine AW.iload_n dX12_seed_0 rfl rfl ?_
  refine AW.if_ge (tgt := 6) dX12_seed_1 (by decide) (fun c1 => ?_) (fun c1 => ?_)
  · obtain ⟨d, hd, rfl⟩ := nI_of (x := x) (Int32.not_lt.mpr c1)
    refine AW.aload_n dX12_seed_6 rfl rfl ?_
    refine g12_7 dX12_seed_7 wF_X12_23 (by first | assumption | rfl | (unfold is12; omega)) ?_
    refine AW.iconst (v := nI 1) dX12_seed_10 (by decide) ?_
    refine AW.iald dX12_seed_11 (by first | exact k0_175) _ (by first | rfl | assumption) (by omega) (by first | decide | omega) ?_
    refine AW.top (hA.g (by omega)) ?_
    refine AW.istore_n dX12_seed_12 rfl (by decide) rfl rfl ?_
    show AW muX12_seed _ _ 13 _ _ _ _
    refine AW.aload_n dX12_seed_13 rfl rfl ?_
    refine g12_7 dX12_seed_14 wF_X12_23 (by first | assumption | rfl | (unfold is12; omega)) ?_
    refine AW.iconst (v := nI 1) dX12_seed_17 (by decide) ?_
    refine AW.iload_n dX12_seed_18 rfl rfl ?_
    refine AW.ast dX12_seed_19 (by first | exact isA_175 | exact isA_176 | exact isA_177 | assumption) (by assumption) (by omega) (fun I19 hA19 => ?_)
    refine AW.iload_n dX12_seed_20 rfl rfl ?_
    show AW muX12_seed _ _ 21 _ _ _ _
    refine AW.iret dX12_seed_21 ⟨_, rfl, rfl⟩ (Nat.zero_le _) (Nat.zero_le _) ⟨_, rfl, ?_⟩
    exact q2 d hd rfl _ hA19
  · refine AW.iconst (v := (-1)) dX12_seed_4 (by decide) ?_
    refine AW.iret dX12_seed_5 ⟨_, rfl, rfl⟩ (Nat.zero_le _) (Nat.zero_le _) ⟨_, rfl, ?_⟩
    exact q1 (Int32.not_le.mp c1)
theorem m_undo (hM : MD I N) (h64 : N 64 ≤ 8) (q1 : N 64 = 0 → Q (-4) (sk0, X, I, J)) (q2 : N 64 ≠ 0 → ∀ I', AS I I' 175 353 (undoN N) → Q (nI (N 64 - 1)) (sk0, X, I', J)) : AWi muX12_undo [.ref 170] (sk0, X, I, J) Q := by
  have hA := AS.rf hM
  show AW muX12_undo 0 0 0 [.ref 170] [] _ _
  refine AW.aload_n dX12_undo_0 rfl rfl ?_
  refine g12_7 dX12_undo_1 wF_X12_23 (by first | assumption | rfl | (unfold is12; omega)) ?_
  refine AW.bipush (v := nI 64) dX12_undo_4 (by decide) ?_
  refine AW.iald dX12_undo_6 (by first | exact k0_175) _ (by first | rfl | assumption) (by omega) (by first | decide | omega) ?_
  refine AW.top (hA.g (by omega)) ?_
  first | refine AW.if_neN (tgt := 13) dX12_undo_7 (by decide) (by omega) (fun c7 => ?_) (fun c7 => ?_) | refine AW.if_ne (tgt := 13) dX12_undo_7 (by decide) (fun c7 => ?_) (fun c7 => ?_)
  · refine AW.aload_n dX12_undo_13 rfl rfl ?_
    refine g12_7 dX12_undo_14 wF_X12_23 (by first | assumption | rfl | (unfold is12; omega)) ?_
    show AW muX12_undo _ _ 17 _ _ _ _
    refine AW.bipush (v := nI 64) dX12_undo_17 (by decide) ?_
    refine AW.dup2 dX12_undo_19 rfl rfl ?_
    refine AW.iald dX12_undo_20 (by first | exact k0_175) _ (by first | rfl | assumption) (by omega) (by first | decide | omega) ?_
    refine AW.top (hA.g (by omega)) ?_
    refine AW.iconst (v := nI 1) dX12_undo_21 (by decide) ?_
    first | refine AW.isubN dX12_undo_22 (by omega) ?_ | refine AW.isub dX12_undo_22 ?_
    refine AW.ast dX12_undo_23 (by first | exact isA_175 | exact isA_176 | exact isA_177 | assumption) (by assumption) (by omega) (fun I23 hA23 => ?_)
    show AW muX12_undo _ _ 24 _ _ _ _
    refine AW.aload_n dX12_undo_24 rfl rfl ?_
    refine g12_7 dX12_undo_25 wF_X12_23 (by first | assumption | rfl | (unfold is12; omega)) ?_
    refine AW.bipush (v := nI 65) dX12_undo_28 (by decide) ?_
    refine AW.bipush (v := nI 36) dX12_undo_30 (by decide) ?_
    refine AW.aload_n dX12_undo_32 rfl rfl ?_
    refine g12_7 dX12_undo_33 wF_X12_23 (by first | assumption | rfl | (unfold is12; omega)) ?_
    show AW muX12_undo _ _ 36 _ _ _ _
    refine AW.bipush (v := nI 64) dX12_undo_36 (by decide) ?_
    refine AW.iald dX12_undo_38 (by first | exact k0_175) _ (by first | rfl | assumption) (by omega) (by first | decide | omega) ?_
    refine AW.top ((hA23.g (by omega)).trans (congrArg nI upN_eq)) ?_
    first | refine AW.imulN dX12_undo_39 ?_ | refine AW.imul dX12_undo_39 ?_
    first | refine AW.iaddN dX12_undo_40 ?_ | refine AW.iadd dX12_undo_40 ?_
    refine AW.aload_n dX12_undo_41 rfl rfl ?_
    refine g12_7 dX12_undo_42 wF_X12_23 (by first | assumption | rfl | (unfold is12; omega)) ?_
    show AW muX12_undo _ _ 45 _ _ _ _
    refine AW.iconst (v := nI 0) dX12_undo_45 (by decide) ?_
    refine AW.bipush (v := nI 36) dX12_undo_46 (by decide) ?_
    refine cs_X12_undo_48 (by decide) (by decide) (Nat.le_of_ble_eq_true rfl) (s_X12_bringS (i := 65 + 36 * (N 64 - 1)) (j := 0) (n := 36) isA_175 (by omega) (by decide) (by omega) hA23 (fun I1 h1 => ?_))
    have h2 : AS I I1 175 353 (undoN N) := h1.to (fun k hk => by
      unfold undoN cpN
      by_cases e : k < 36
      · rw [if_pos e, if_pos (by omega), upN_ne (by omega), Nat.sub_zero]
      · rw [if_neg e, if_neg (show ¬ (0 ≤ k ∧ k < 0 + 36) by omega)]; rfl)
    refine AW.aload_n dX12_undo_51 rfl rfl ?_
    refine g12_7 dX12_undo_52 wF_X12_23 (by first | assumption | rfl | (unfold is12; omega)) ?_
    refine AW.bipush (v := nI 64) dX12_undo_55 (by decide) ?_
    show AW muX12_undo _ _ 57 _ _ _ _
    refine AW.iald dX12_undo_57 (by first | exact k0_175) _ (by first | rfl | assumption) (by omega) (by first | decide | omega) ?_
    refine AW.top ((h2.g (by omega)).trans (congrArg nI (show undoN N 64 = N 64 - 1 by unfold undoN; rw [if_neg (by omega), if_pos rfl]))) ?_
    refine AW.iret dX12_undo_58 ⟨_, rfl, rfl⟩ (Nat.zero_le _) (Nat.zero_le _) ⟨_, rfl, ?_⟩
    exact q2 c7 _ h2
  · refine AW.bipush (v := (-4)) dX12_undo_10 (by decide) ?_
    refine AW.iret dX12_undo_12 ⟨_, rfl, rfl⟩ (Nat.zero_le _) (Nat.zero_le _) ⟨_, rfl, ?_⟩
    exact q1 c7
theorem m_ahead {x y : Int32} (hV : NV N) (h9 : N 0 ≤ 9999) (hM : MD I N) (q1 : ¬ (inR x 0 (N 47) ∧ inR y 0 61) → Q (-1) (sk0, X, I, J)) (q2 : ∀ t n, t < N 47 → n < 61 → x = nI t → y = nI n → ∀ I', Fr I I' 176 176 → Q (nI (lk N t n)) (sk0, X, I', J)) : AWi muX12_ahead [.ref 170, .int x, .int y] (sk0, X, I, J) Q := by
  have h8 := hV.t8
  show AW muX12_ahead 0 0 0 [.ref 170, .int x, .int y] [] _ _
  refine AW.aload_n dX12_ahead_0 rfl rfl ?_
  refine AW.iload_n dX12_ahead_1 rfl rfl ?_
  refine cs_X12_ahead_2 (by first | exact k0_170 | exact k0_176) (by decide) (by decide) (Nat.le_of_ble_eq_true rfl) (s_X12_isThing (hM 47 (by decide)) (by omega) (fun t ht ex => ?_) (fun hn => ?_))
  · refine AW.ifeq1 (tgt := 18) dX12_ahead_5 (by decide) ?_
    refine AW.iload_n dX12_ahead_8 rfl rfl ?_
    refine AW.iconst (v := nI 0) dX12_ahead_9 (by decide) ?_
    refine AW.bipush (v := nI 60) dX12_ahead_10 (by decide) ?_
    refine cs_X12_ahead_12 (by decide) (by decide) (Nat.le_of_ble_eq_true rfl) (s_X12_in (lo := 0) (hi := 61) (by decide) (by decide) (by decide) (fun n _ hn2 ey => ?_) (fun hn => ?_))
    · refine AW.ifne1 (tgt := 20) dX12_ahead_15 (by decide) ?_
      subst ex; subst ey
      refine AW.aload_n dX12_ahead_20 rfl rfl ?_
      show AW muX12_ahead _ _ 21 _ _ _ _
      refine AW.iload_n dX12_ahead_21 rfl rfl ?_
      refine cs_X12_ahead_22 (by first | exact k0_170 | exact k0_176) (by decide) (by decide) (Nat.le_of_ble_eq_true rfl) (s_X12_goOn hV (by omega) (by omega) (fun k hk => hM k (by omega)) (fun I1 h1 => ?_))
      refine AW.aload_n dX12_ahead_25 rfl rfl ?_
      refine g12_8 dX12_ahead_26 wF_X12_26 (by first | assumption | rfl | (unfold is12; omega)) ?_
      refine AW.bipush (v := nI 18) dX12_ahead_29 (by decide) ?_
      refine AW.iload_n dX12_ahead_31 rfl rfl ?_
      show AW muX12_ahead _ _ 32 _ _ _ _
      first | refine AW.iaddN dX12_ahead_32 ?_ | refine AW.iadd dX12_ahead_32 ?_
      refine AW.iald dX12_ahead_33 (by first | exact k0_170 | exact k0_176) _ (by first | rfl | assumption) (by omega) (by first | decide | omega) ?_
      refine AW.top ((h1.g (by omega)).trans (congrArg nI (goK_lk hV ht n (by omega)))) ?_
      refine AW.iret dX12_ahead_34 ⟨_, rfl, rfl⟩ (Nat.zero_le _) (Nat.zero_le _) ⟨_, rfl, ?_⟩
      exact q2 t n ht hn2 rfl rfl I1 h1.f
    · refine AW.ifne0 (tgt := 20) dX12_ahead_15 (by decide) ?_
      refine AW.iconst (v := (-1)) dX12_ahead_18 (by decide) ?_
      refine AW.iret dX12_ahead_19 ⟨_, rfl, rfl⟩ (Nat.zero_le _) (Nat.zero_le _) ⟨_, rfl, ?_⟩
      first | exact q1 (fun h => hn h.1) | exact q1 (fun h => hn h.2)
  · refine AW.ifeq0 (tgt := 18) dX12_ahead_5 (by decide) ?_
    refine AW.iconst (v := (-1)) dX12_ahead_18 (by decide) ?_
    refine AW.iret dX12_ahead_19 ⟨_, rfl, rfl⟩ (Nat.zero_le _) (Nat.zero_le _) ⟨_, rfl, ?_⟩
    first | exact q1 (fun h => hn h.1) | exact q1 (fun h => hn h.2)
theorem m_loudAhead {x y : Int32} (hV : NV N) (h9 : N 0 ≤ 9999) (hM : MD I N) (q1 : ¬ (inR x 0 4 ∧ inR y 0 61) → Q (-1) (sk0, X, I, J)) (q2 : ∀ r n, r < 4 → n < 61 → x = nI r → y = nI n → ∀ I', Fr I I' 176 176 → Q (nI (oL N (pl0 N) 0 n (N 47) r)) (sk0, X, I', J)) : AWi muX12_loudAhead [.ref 170, .int x, .int y] (sk0, X, I, J) Q := by
  show AW muX12_loudAhead 0 0 0 [.ref 170, .int x, .int y] [] _ _
  refine AW.iload_n dX12_loudAhead_0 rfl rfl ?_
  refine cs_X12_loudAhead_1 (by decide) (by decide) (Nat.le_of_ble_eq_true rfl) (s_X12_isRoom (fun r hr ex => ?_) (fun hn => ?_))
  · refine AW.ifeq1 (tgt := 17) dX12_loudAhead_4 (by decide) ?_
    refine AW.iload_n dX12_loudAhead_7 rfl rfl ?_
    refine AW.iconst (v := nI 0) dX12_loudAhead_8 (by decide) ?_
    refine AW.bipush (v := nI 60) dX12_loudAhead_9 (by decide) ?_
    refine cs_X12_loudAhead_11 (by decide) (by decide) (Nat.le_of_ble_eq_true rfl) (s_X12_in (lo := 0) (hi := 61) (by decide) (by decide) (by decide) (fun n _ hn2 ey => ?_) (fun hn => ?_))
    · refine AW.ifne1 (tgt := 19) dX12_loudAhead_14 (by decide) ?_
      subst ex; subst ey
      refine AW.aload_n dX12_loudAhead_19 rfl rfl ?_
      refine AW.iload_n dX12_loudAhead_20 rfl rfl ?_
      show AW muX12_loudAhead _ _ 21 _ _ _ _
      refine cs_X12_loudAhead_21 (by first | exact k0_170 | exact k0_176) (by decide) (by decide) (Nat.le_of_ble_eq_true rfl) (s_X12_goOn hV (by omega) (by omega) (fun k hk => hM k (by omega)) (fun I1 h1 => ?_))
      refine AW.aload_n dX12_loudAhead_24 rfl rfl ?_
      refine g12_8 dX12_loudAhead_25 wF_X12_26 (by first | assumption | rfl | (unfold is12; omega)) ?_
      refine AW.iload_n dX12_loudAhead_28 rfl rfl ?_
      refine cs_X12_loudAhead_29 (by decide) (by decide) (Nat.le_of_ble_eq_true rfl) (s_X12_loudIn isA_176 (by decide) (goK_inv hV n (by omega)).1 h1 (by omega) ?_)
      rw [goK_room hV r n (by omega)]
      refine AW.iret dX12_loudAhead_32 ⟨_, rfl, rfl⟩ (Nat.zero_le _) (Nat.zero_le _) ⟨_, rfl, ?_⟩
      exact q2 r n hr hn2 rfl rfl I1 h1.f
    · refine AW.ifne0 (tgt := 19) dX12_loudAhead_14 (by decide) ?_
      refine AW.iconst (v := (-1)) dX12_loudAhead_17 (by decide) ?_
      show AW muX12_loudAhead _ _ 18 _ _ _ _
      refine AW.iret dX12_loudAhead_18 ⟨_, rfl, rfl⟩ (Nat.zero_le _) (Nat.zero_le _) ⟨_, rfl, ?_⟩
      first | exact q1 (fun h => hn h.1) | exact q1 (fun h => hn h.2)
  · refine AW.ifeq0 (tgt := 17) dX12_loudAhead_4 (by decide) ?_
    refine AW.iconst (v := (-1)) dX12_loudAhead_17 (by decide) ?_
    refine AW.iret dX12_loudAhead_18 ⟨_, rfl, rfl⟩ (Nat.zero_le _) (Nat.zero_le _) ⟨_, rfl, ?_⟩
    first | exact q1 (fun h => hn h.1) | exact q1 (fun h => hn h.2)
theorem m_sleeps {x y : Int32} (hV : NV N) (h9 : N 0 ≤ 9999) (hM : MD I N) (q1 : ¬ (inR x 0 (N 36) ∧ inR y 0 61) → Q (-1) (sk0, X, I, J)) (q2 : ∀ s n, s < N 36 → n < 61 → x = nI s → y = nI n → ∀ I', Fr I I' 176 176 → Q (nI (n - oI N (pl0 N) (N (37 + s)) (N (42 + s)) n)) (sk0, X, I', J)) : AWi muX12_sleeps [.ref 170, .int x, .int y] (sk0, X, I, J) Q := by
  have h5 := hV.s5
  show AW muX12_sleeps 0 0 0 [.ref 170, .int x, .int y] [] _ _
  refine AW.aload_n dX12_sleeps_0 rfl rfl ?_
  refine AW.iload_n dX12_sleeps_1 rfl rfl ?_
  refine cs_X12_sleeps_2 (by first | exact k0_170 | exact k0_176 | exact k0_175) (by decide) (by decide) (Nat.le_of_ble_eq_true rfl) (s_X12_isSleeper (hM 36 (by decide)) (by omega) (fun s hs ex => ?_) (fun hn => ?_))
  · refine AW.ifeq1 (tgt := 18) dX12_sleeps_5 (by decide) ?_
    refine AW.iload_n dX12_sleeps_8 rfl rfl ?_
    refine AW.iconst (v := nI 0) dX12_sleeps_9 (by decide) ?_
    refine AW.bipush (v := nI 60) dX12_sleeps_10 (by decide) ?_
    refine cs_X12_sleeps_12 (by decide) (by decide) (Nat.le_of_ble_eq_true rfl) (s_X12_in (lo := 0) (hi := 61) (by decide) (by decide) (by decide) (fun n _ hn2 ey => ?_) (fun hn => ?_))
    · refine AW.ifne1 (tgt := 20) dX12_sleeps_15 (by decide) ?_
      subst ex; subst ey
      refine AW.aload_n dX12_sleeps_20 rfl rfl ?_
      show AW muX12_sleeps _ _ 21 _ _ _ _
      refine AW.iload_n dX12_sleeps_21 rfl rfl ?_
      refine cs_X12_sleeps_22 (by first | exact k0_170 | exact k0_176 | exact k0_175) (by decide) (by decide) (Nat.le_of_ble_eq_true rfl) (s_X12_goOn hV (by omega) (by omega) (fun k hk => hM k (by omega)) (fun I1 h1 => ?_))
      refine AW.aload_n dX12_sleeps_25 rfl rfl ?_
      refine g12_8 dX12_sleeps_26 wF_X12_26 (by first | assumption | rfl | (unfold is12; omega)) ?_
      refine AW.bipush (v := nI 26) dX12_sleeps_29 (by decide) ?_
      refine AW.iload_n dX12_sleeps_31 rfl rfl ?_
      show AW muX12_sleeps _ _ 32 _ _ _ _
      first | refine AW.iaddN dX12_sleeps_32 ?_ | refine AW.iadd dX12_sleeps_32 ?_
      refine AW.iald dX12_sleeps_33 (by first | exact k0_170 | exact k0_176 | exact k0_175) _ (by first | rfl | assumption) (by omega) (by first | decide | omega) ?_
      refine AW.top ((h1.g (by omega)).trans (congrArg nI (goK_sp hV hs n (by omega)))) ?_
      refine AW.aload_n dX12_sleeps_34 rfl rfl ?_
      refine g12_7 dX12_sleeps_35 wF_X12_23 (by first | assumption | rfl | (unfold is12; omega)) ?_
      refine AW.bipush (v := nI 26) dX12_sleeps_38 (by decide) ?_
      refine AW.iload_n dX12_sleeps_40 rfl rfl ?_
      show AW muX12_sleeps _ _ 41 _ _ _ _
      first | refine AW.iaddN dX12_sleeps_41 ?_ | refine AW.iadd dX12_sleeps_41 ?_
      refine AW.iald dX12_sleeps_42 (by first | exact k0_170 | exact k0_176 | exact k0_175) _ (by first | rfl | assumption) (by omega) (by first | decide | omega) ?_
      refine AW.top (show _ = nI (N (26 + s)) by rw [h1.f 175 (by omega)]; exact hM _ (by omega)) ?_
      first | refine AW.isubN dX12_sleeps_43 (by omega) ?_ | refine AW.isub dX12_sleeps_43 ?_
      rw [Nat.add_sub_cancel_left]
      refine AW.iret dX12_sleeps_44 ⟨_, rfl, rfl⟩ (Nat.zero_le _) (Nat.zero_le _) ⟨_, rfl, ?_⟩
      exact q2 s n hs hn2 rfl rfl I1 h1.f
    · refine AW.ifne0 (tgt := 20) dX12_sleeps_15 (by decide) ?_
      refine AW.iconst (v := (-1)) dX12_sleeps_18 (by decide) ?_
      refine AW.iret dX12_sleeps_19 ⟨_, rfl, rfl⟩ (Nat.zero_le _) (Nat.zero_le _) ⟨_, rfl, ?_⟩
      first | exact q1 (fun h => hn h.1) | exact q1 (fun h => hn h.2)
  · refine AW.ifeq0 (tgt := 18) dX12_sleeps_5 (by decide) ?_
    refine AW.iconst (v := (-1)) dX12_sleeps_18 (by decide) ?_
    refine AW.iret dX12_sleeps_19 ⟨_, rfl, rfl⟩ (Nat.zero_le _) (Nat.zero_le _) ⟨_, rfl, ?_⟩
    first | exact q1 (fun h => hn h.1) | exact q1 (fun h => hn h.2)
theorem lp_X12_peace {v : Value} (hV : NV N) (h9 : N 0 ≤ 9999) {Q : Option Int32 → sd_S → Prop} {I0 : sd_I} (K1 : (∀ j, j < 61 → oW N (pl0 N) 0 j (N 36) ≠ 0) → ∀ I', Fr I0 I' 176 176 → Q (some (-4)) (sk0, X, I', J)) (K2 : ∀ k, k < 61 → oW N (pl0 N) 0 k (N 36) = 0 → (∀ j, j < k → oW N (pl0 N) 0 j (N 36) ≠ 0) → ∀ I', Fr I0 I' 176 176 → Q (some (nI k)) (sk0, X, I', J)) : ∀ (m k : Nat) (I : sd_I) (v : Value), v.category = 1 → 61 - k < m → k ≤ 61 → AS I0 I 176 64 (goK N k) → (∀ j, j < k → oW N (pl0 N) 0 j (N 36) ≠ 0) → AW muX12_peace 0 0 6 [.ref 170, .int (nI k), v] [] (sk0, X, I, J) Q := by
  have h5 := hV.s5
  intro m
  induction m with
  | zero => intros; omega
  | succ m ih =>
    intro k I v hv hm hk hA hz
    have hi := goK_inv hV k (by omega)
    have hi2 := goK_inv hV (k + 1) (by omega)
    have e36 := hi.2.2 36 (by omega) (by omega)
    have e36' := hi2.2.2 36 (by omega) (by omega)
    have w1 := goK_wks hV k (by omega)
    have w2 := goK_wks hV (k + 1) (by omega)
    have w3 : oWs N (pl0 N) (k + 1) = oWs N (pl0 N) k + oW N (pl0 N) 0 k (N 36) := rfl
    have hle := oW_le (N := N) (pl := pl0 N) (w := 0) (k := k) (N 36)
    refine AW.iload_n dX12_peace_6 rfl rfl ?_
    refine AW.bipush (v := nI 61) dX12_peace_7 (by decide) ?_
    first | refine AW.icmp_geN (tgt := 46) dX12_peace_9 (by decide) (by omega) (by omega) (fun c9 => ?_) (fun c9 => ?_) | refine AW.icmp_ge (tgt := 46) dX12_peace_9 (by decide) (fun c9 => ?_) (fun c9 => ?_)
    · refine AW.bipush (v := (-4)) dX12_peace_46 (by decide) ?_
      refine AW.iret dX12_peace_48 ⟨_, rfl, rfl⟩ (Nat.zero_le _) (Nat.zero_le _) ?_
      obtain rfl : k = 61 := by omega
      exact K1 hz I hA.f
    · refine AW.aload_n dX12_peace_12 rfl rfl ?_
      refine g12_8 dX12_peace_13 wF_X12_26 (by first | assumption | rfl | (unfold is12; omega)) ?_
      refine cs_X12_peace_16 (by decide) (by decide) (Nat.le_of_ble_eq_true rfl) (s_X12_wokenIn isA_176 (by decide) hA (by omega) ?_)
      show AW muX12_peace _ _ 19 _ _ _ _
      refine AW.istore_n dX12_peace_19 rfl (by decide) rfl rfl ?_
      refine AW.aload_n dX12_peace_20 rfl rfl ?_
      refine g12_8 dX12_peace_21 wF_X12_26 (by first | assumption | rfl | (unfold is12; omega)) ?_
      refine cs_X12_peace_24 (by decide) (by decide) (Nat.le_of_ble_eq_true rfl) (s_X12_goBy isA_176 (by decide) hi.1 hA (fun I1 h1 => ?_))
      rw [← goK_succ] at h1
      refine AW.aload_n dX12_peace_27 rfl rfl ?_
      refine g12_8 dX12_peace_28 wF_X12_26 (by first | assumption | rfl | (unfold is12; omega)) ?_
      show AW muX12_peace _ _ 31 _ _ _ _
      refine cs_X12_peace_31 (by decide) (by decide) (Nat.le_of_ble_eq_true rfl) (s_X12_wokenIn isA_176 (by decide) h1 (by omega) ?_)
      rw [e36, w1, e36', w2, w3, ← Nat.add_assoc]
      refine AW.iload_n dX12_peace_34 rfl rfl ?_
      refine AW.icmp_ne (tgt := 40) dX12_peace_35 (by decide) (fun c35 => ?_) (fun c35 => ?_)
      · have c36 : oW N (pl0 N) 0 k (N 36) ≠ 0 := fun h => c35 ((nI_addeq (by omega)).mpr h)
        first | refine AW.iincN dX12_peace_40 rfl (by decide) rfl rfl ?_ | refine AW.iinc dX12_peace_40 rfl rfl (by decide) rfl rfl ?_
        refine AW.goto (tgt := 6) dX12_peace_43 (by decide) ?_
        refine ih (k + 1) I1 _ rfl (by omega) (by omega) h1 (fun j hj => ?_)
        by_cases e : j = k
        · subst e; exact c36
        · exact hz j (by omega)
      · have c36 := (nI_addeq (by omega)).mp c35
        refine AW.iload_n dX12_peace_38 rfl rfl ?_
        refine AW.iret dX12_peace_39 ⟨_, rfl, rfl⟩ (Nat.zero_le _) (Nat.zero_le _) ?_
        exact K2 k (by omega) c36 hz I1 h1.f
theorem m_peace (hV : NV N) (h9 : N 0 ≤ 9999) (hM : MD I N) (q1 : (∀ j, j < 61 → oW N (pl0 N) 0 j (N 36) ≠ 0) → ∀ I', Fr I I' 176 176 → Q (-4) (sk0, X, I', J)) (q2 : ∀ k, k < 61 → oW N (pl0 N) 0 k (N 36) = 0 → (∀ j, j < k → oW N (pl0 N) 0 j (N 36) ≠ 0) → ∀ I', Fr I I' 176 176 → Q (nI k) (sk0, X, I', J)) : AWi muX12_peace [.ref 170] (sk0, X, I, J) Q := by
  show AW muX12_peace 0 0 0 [.ref 170, .null, .null] [] _ _
  refine AW.aload_n dX12_peace_0 rfl rfl ?_
  refine cs_X12_peace_1 (by first | exact k0_170) (by decide) (by decide) (Nat.le_of_ble_eq_true rfl) (s_X12_begin (N := N) (fun k hk => hM k (by omega)) (fun I1 h1 => ?_))
  refine AW.iconst (v := nI 0) dX12_peace_4 (by decide) ?_
  refine AW.istore_n dX12_peace_5 rfl (by decide) rfl rfl ?_
  exact lp_X12_peace (v := .null) hV h9 (fun h I' f => ⟨_, rfl, q1 h I' f⟩) (fun k a b c I' f => ⟨_, rfl, q2 k a b c I' f⟩) 62 0 I1 .null rfl (by decide) (by decide) (by rw [goK_zero]; exact h1) (fun j hj => absurd hj (by omega))
theorem lp_X12_thanked {g : Nat} (hg : g < 10) (hV : NV N) (hM : MD I N) {Q : Option Int32 → sd_S → Prop} (K : Q (some (nI (sumN (N 47) (fun t => if N (10 + t) = g then loudT N t else 0)))) (sk0, X, I, J)) : ∀ (m k : Nat), N 47 - k < m → k ≤ N 47 → AW muX12_thanked 0 0 16 [.ref 170, .int (nI g), .int (nI (sumN k (fun t => if N (10 + t) = g then loudT N t else 0))), .int (nI k)] [] (sk0, X, I, J) Q := by
  have h8 := hV.t8
  have hA := AS.rf hM
  intro m
  induction m with
  | zero => intros; omega
  | succ m ih =>
    intro k hm hk
    refine AW.iload_n dX12_thanked_16 rfl rfl ?_
    refine AW.aload_n dX12_thanked_17 rfl rfl ?_
    refine g12_7 dX12_thanked_18 wF_X12_23 (by first | assumption | rfl | (unfold is12; omega)) ?_
    refine AW.bipush (v := nI 47) dX12_thanked_21 (by decide) ?_
    refine AW.iald dX12_thanked_23 (by first | exact k0_175) _ (by first | rfl | assumption) (by omega) (by first | decide | omega) ?_
    first | refine AW.top (by first | exact AS.g hA (by omega)) ?_ | skip
    first | refine AW.icmp_geN (tgt := 61) dX12_thanked_24 (by decide) (by omega) (by omega) (fun c24 => ?_) (fun c24 => ?_) | refine AW.icmp_ge (tgt := 61) dX12_thanked_24 (by decide) (fun c24 => ?_) (fun c24 => ?_)
    · refine AW.iload_n dX12_thanked_61 rfl rfl ?_
      show AW muX12_thanked _ _ 62 _ _ _ _
      refine AW.iret dX12_thanked_62 ⟨_, rfl, rfl⟩ (Nat.zero_le _) (Nat.zero_le _) ?_
      obtain rfl : k = N 47 := by omega
      exact K
    · have := hV.gv c24
      have hs : sumN (k + 1) (fun t => if N (10 + t) = g then loudT N t else 0) = sumN k (fun t => if N (10 + t) = g then loudT N t else 0) + (if N (10 + k) = g then loudT N k else 0) := rfl
      refine AW.iload_n dX12_thanked_27 rfl rfl ?_
      refine AW.aload_n dX12_thanked_28 rfl rfl ?_
      refine g12_7 dX12_thanked_29 wF_X12_23 (by first | assumption | rfl | (unfold is12; omega)) ?_
      refine AW.bipush (v := nI 10) dX12_thanked_32 (by decide) ?_
      refine AW.iload_n dX12_thanked_34 rfl rfl ?_
      first | refine AW.iaddN dX12_thanked_35 ?_ | refine AW.iadd dX12_thanked_35 ?_
      show AW muX12_thanked _ _ 36 _ _ _ _
      refine AW.iald dX12_thanked_36 (by first | exact k0_175) _ (by first | rfl | assumption) (by omega) (by first | decide | omega) ?_
      first | refine AW.top (by first | exact AS.g hA (by omega)) ?_ | skip
      refine AW.iload_n dX12_thanked_37 rfl rfl ?_
      first | refine AW.icmp_neN (tgt := 52) dX12_thanked_38 (by decide) (by omega) (by omega) (fun c38 => ?_) (fun c38 => ?_) | refine AW.icmp_ne (tgt := 52) dX12_thanked_38 (by decide) (fun c38 => ?_) (fun c38 => ?_)
      · refine AW.iconst (v := nI 0) dX12_thanked_52 (by decide) ?_
        first | refine AW.iaddN dX12_thanked_53 ?_ | refine AW.iadd dX12_thanked_53 ?_
        refine AW.istore_n dX12_thanked_54 rfl (by decide) rfl rfl ?_
        first | refine AW.iincN dX12_thanked_55 rfl (by decide) rfl rfl ?_ | refine AW.iinc dX12_thanked_55 rfl rfl (by decide) rfl rfl ?_
        show AW muX12_thanked _ _ 58 _ _ _ _
        refine AW.goto (tgt := 16) dX12_thanked_58 (by decide) ?_
        have := ih (k + 1) (by omega) (by omega)
        rw [hs] at this
        first | (rw [if_pos c38] at this; exact this) | (rw [if_neg c38] at this; exact this)
      · refine AW.aload_n dX12_thanked_41 rfl rfl ?_
        refine g12_7 dX12_thanked_42 wF_X12_23 (by first | assumption | rfl | (unfold is12; omega)) ?_
        refine AW.iload_n dX12_thanked_45 rfl rfl ?_
        refine cs_X12_thanked_46 (by decide) (by decide) (Nat.le_of_ble_eq_true rfl) (s_X12_loudOf isA_175 (by decide) hV hA (by omega) ?_)
        refine AW.goto (tgt := 53) dX12_thanked_49 (by decide) ?_
        first | refine AW.iaddN dX12_thanked_53 ?_ | refine AW.iadd dX12_thanked_53 ?_
        refine AW.istore_n dX12_thanked_54 rfl (by decide) rfl rfl ?_
        show AW muX12_thanked _ _ 55 _ _ _ _
        first | refine AW.iincN dX12_thanked_55 rfl (by decide) rfl rfl ?_ | refine AW.iinc dX12_thanked_55 rfl rfl (by decide) rfl rfl ?_
        refine AW.goto (tgt := 16) dX12_thanked_58 (by decide) ?_
        have := ih (k + 1) (by omega) (by omega)
        rw [hs] at this
        first | (rw [if_pos c38] at this; exact this) | (rw [if_neg c38] at this; exact this)
theorem m_thanked {x : Int32} (hV : NV N) (hM : MD I N) (q1 : ¬ inR x 0 10 → Q (-1) (sk0, X, I, J)) (q2 : ∀ g, g < 10 → x = nI g → Q (nI (sumN (N 47) (fun t => if N (10 + t) = g then loudT N t else 0))) (sk0, X, I, J)) : AWi muX12_thanked [.ref 170, .int x] (sk0, X, I, J) Q := by
  show AW muX12_thanked 0 0 0 [.ref 170, .int x, .null, .null] [] _ _
  refine AW.iload_n dX12_thanked_0 rfl rfl ?_
  refine AW.iconst (v := nI 0) dX12_thanked_1 (by decide) ?_
  refine AW.bipush (v := nI 9) dX12_thanked_2 (by decide) ?_
  refine cs_X12_thanked_4 (by decide) (by decide) (Nat.le_of_ble_eq_true rfl) (s_X12_in (lo := 0) (hi := 10) (by decide) (by decide) (by decide) (fun g _ hg ex => ?_) (fun hn => ?_))
  · refine AW.ifne1 (tgt := 12) dX12_thanked_7 (by decide) ?_
    subst ex
    refine AW.iconst (v := nI 0) dX12_thanked_12 (by decide) ?_
    refine AW.istore_n dX12_thanked_13 rfl (by decide) rfl rfl ?_
    refine AW.iconst (v := nI 0) dX12_thanked_14 (by decide) ?_
    show AW muX12_thanked _ _ 15 _ _ _ _
    refine AW.istore_n dX12_thanked_15 rfl (by decide) rfl rfl ?_
    exact lp_X12_thanked hg hV hM ⟨_, rfl, q2 g hg rfl⟩ (N 47 + 1) 0 (by omega) (by omega)
  · refine AW.ifne0 (tgt := 12) dX12_thanked_7 (by decide) ?_
    refine AW.iconst (v := (-1)) dX12_thanked_10 (by decide) ?_
    refine AW.iret dX12_thanked_11 ⟨_, rfl, rfl⟩ (Nat.zero_le _) (Nat.zero_le _) ⟨_, rfl, ?_⟩
    exact q1 hn
theorem m_image (hM : MD I N) (q : ∀ I', (∀ c, c ≠ 170 → c ≠ 178 → I' c = I c) → (∀ k, k ≠ 11 → I' 170 k = I 170 k) → I' 170 11 = nI 1 → (∀ k, k < 353 → I' 178 k = nI (N k)) → Q (nI 1) (sk0, X, I', J)) : AWi muX12_image [.ref 170] (sk0, X, I, J) Q := by
  show AW muX12_image 0 0 0 [.ref 170] [] _ _
  refine AW.aload_n dX12_image_0 rfl rfl ?_
  refine g12_7 dX12_image_1 wF_X12_23 (by first | assumption | rfl | (unfold is12; omega)) ?_
  refine AW.iconst (v := nI 0) dX12_image_4 (by decide) ?_
  refine AW.aload_n dX12_image_5 rfl rfl ?_
  refine g12_10 dX12_image_6 wF_X12_32 (by first | assumption | rfl | (unfold is12; omega)) ?_
  refine AW.iconst (v := nI 0) dX12_image_9 (by decide) ?_
  show AW muX12_image _ _ 10 _ _ _ _
  refine AW.sipush (v := nI 353) dX12_image_10 (by decide) ?_
  refine cs_X12_image_13 (by decide) (by decide) (Nat.le_of_ble_eq_true rfl) (s_X12_bringD (i := 0) (j := 0) (n := 353) (A := N) isA_175 isA_178 (by decide) (by decide) (by decide) (fun q hq => by rw [Nat.zero_add]; exact hM q hq) (fun I1 f1 f2 f3 => ?_))
  refine AW.aload_n dX12_image_16 rfl rfl ?_
  refine AW.iconst (v := nI 1) dX12_image_17 (by decide) ?_
  refine p12_11 dX12_image_18 wF_X12_154 (by first | assumption | rfl | (unfold is12; omega)) (by decide) (by decide) ?_
  refine AW.iconst (v := nI 1) dX12_image_21 (by decide) ?_
  show AW muX12_image _ _ 22 _ _ _ _
  refine AW.iret dX12_image_22 ⟨_, rfl, rfl⟩ (Nat.zero_le _) (Nat.zero_le _) ⟨_, rfl, ?_⟩
  refine q _ (fun c h1 h2 => ?_) (fun k hk => ?_) (by (repeat first | rw [ru_ne (by omega)] | rw [ru_j] | rw [ru_ij (by omega)] | rw [upN_ne (by omega)] | rw [upN_eq] | rw [rr_ne (by omega)] | rw [rr_eq] | rw [sb_cpy0 (by omega)])) (fun k hk => ?_)
  · rw [sd_u_ne h1]; exact f1 c (by omega)
  · rw [sd_u_eq]; dsimp only; rw [if_neg hk, f1 170 (by omega)]
  · rw [sd_u_ne (by decide)]; have := f2 k hk; rw [Nat.zero_add] at this; exact this
theorem m_restore {b : Nat} {K : Nat → Nat} (hb : b < 2) (hk : I 170 11 = nI b) (hK : b = 1 → ∀ k, k < 353 → I 178 k = nI (K k)) (q1 : b = 0 → Q (-4) (sk0, X, I, J)) (q2 : b = 1 → ∀ I', AS I I' 175 353 K → Q (nI 1) (sk0, X, I', J)) : AWi muX12_restore [.ref 170] (sk0, X, I, J) Q := by
  show AW muX12_restore 0 0 0 [.ref 170] [] _ _
  refine AW.aload_n dX12_restore_0 rfl rfl ?_
  refine g12_11 dX12_restore_1 wF_X12_154 (by first | assumption | rfl | (unfold is12; omega)) ?_
  refine AW.top (hk) ?_
  first | refine AW.if_neN (tgt := 10) dX12_restore_4 (by decide) (by omega) (fun c4 => ?_) (fun c4 => ?_) | refine AW.if_ne (tgt := 10) dX12_restore_4 (by decide) (fun c4 => ?_) (fun c4 => ?_)
  · refine AW.aload_n dX12_restore_10 rfl rfl ?_
    refine g12_10 dX12_restore_11 wF_X12_32 (by first | assumption | rfl | (unfold is12; omega)) ?_
    refine AW.iconst (v := nI 0) dX12_restore_14 (by decide) ?_
    refine AW.aload_n dX12_restore_15 rfl rfl ?_
    show AW muX12_restore _ _ 16 _ _ _ _
    refine g12_7 dX12_restore_16 wF_X12_23 (by first | assumption | rfl | (unfold is12; omega)) ?_
    refine AW.iconst (v := nI 0) dX12_restore_19 (by decide) ?_
    refine AW.sipush (v := nI 353) dX12_restore_20 (by decide) ?_
    refine cs_X12_restore_23 (by decide) (by decide) (Nat.le_of_ble_eq_true rfl) (s_X12_bringD (i := 0) (j := 0) (n := 353) (A := K) isA_178 isA_175 (by decide) (by decide) (by decide) (fun q hq => by rw [Nat.zero_add]; exact hK (by omega) q hq) (fun I1 f1 f2 f3 => ?_))
    refine AW.iconst (v := nI 1) dX12_restore_26 (by decide) ?_
    refine AW.iret dX12_restore_27 ⟨_, rfl, rfl⟩ (Nat.zero_le _) (Nat.zero_le _) ⟨_, rfl, ?_⟩
    exact q2 (by omega) I1 ⟨f1, fun k hk => by have := f2 k hk; rw [Nat.zero_add] at this; exact this⟩
  · refine AW.bipush (v := (-4)) dX12_restore_7 (by decide) ?_
    show AW muX12_restore _ _ 9 _ _ _ _
    refine AW.iret dX12_restore_9 ⟨_, rfl, rfl⟩ (Nat.zero_le _) (Nat.zero_le _) ⟨_, rfl, ?_⟩
    exact q1 c4
end Mod1
