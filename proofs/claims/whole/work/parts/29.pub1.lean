-- the class's own calls: sleepers, things, what is done
theorem PR.zero {I : sd_I} {p : Nat} {N N' : Nat → Nat} (H : PR I p N) (h : N 64 = 0) (h' : N' 64 = 0) : PR I p N' := by
  obtain ⟨h1, h2, x, hx, h3, h4⟩ := H
  exact ⟨by rw [h', ← h]; exact h1, by omega, x, hx, h3, fun j hj => absurd hj (by omega)⟩
section Pub1
variable {X : Nat × (Nat → Int32)} {I : sd_I} {J : sd_J} {N : Nat → Nat} {Q : Int32 → sd_S → Prop}
theorem c_sleeper {x y : Int32} (hV : NV N) (hR : HR I 1 N) (hP : PR I 19 N) (q1 : ¬ (inR x 0 4 ∧ inR y 0 61) → Q (-1) (sk0, X, I, J)) (q2 : inR x 0 4 → inR y 0 61 → N 36 = 5 → Q (-3) (sk0, X, I, J)) (q3 : ∀ r b, r < 4 → b < 61 → x = nI r → y = nI b → N 36 < 5 → ∀ I', Fr I I' 1 68 → HR I' 1 (addS (upN N 64 0) r b) → PR I' 19 (addS (upN N 64 0) r b) → Q (nI (N 36)) (sk0, X, I', J)) : AWi muX11_sleeper [.ref 0, .int x, .int y] (sk0, X, I, J) Q := by
  have h5 := hV.s5
  have h8 := hV.t8
  show AW muX11_sleeper 0 0 0 [.ref 0, .int x, .int y] [] _ _
  refine AW.iload_n dX11_sleeper_0 rfl rfl ?_
  refine cs_X11_sleeper_1 (by decide) (by decide) (Nat.le_of_ble_eq_true rfl) (s_X11_isRoom (fun r hr ex => ?_) (fun hn => ?_))
  · refine AW.ifeq1 (tgt := 17) dX11_sleeper_4 (by decide) ?_
    refine AW.iload_n dX11_sleeper_7 rfl rfl ?_
    refine AW.iconst (v := nI 0) dX11_sleeper_8 (by decide) ?_
    refine AW.bipush (v := nI 60) dX11_sleeper_9 (by decide) ?_
    refine cs_X11_sleeper_11 (by decide) (by decide) (Nat.le_of_ble_eq_true rfl) (s_X11_within (lo := 0) (hi := 61) (by decide) (by decide) (by decide) (fun b hb1 hb ey => ?_) (fun hn => ?_))
    · refine AW.ifne1 (tgt := 19) dX11_sleeper_14 (by decide) ?_
      refine AW.aload_n dX11_sleeper_19 rfl rfl ?_
      refine g11_0 dX11_sleeper_20 wF_X11_10 (by first | assumption | rfl | (unfold is11; omega)) ?_
      show AW muX11_sleeper _ _ 23 _ _ _ _
      refine g2_7 dX11_sleeper_23 wF_X11_61 (by first | assumption | rfl | (unfold is2; omega)) ?_
      refine AW.top (hR.sl) ?_
      refine AW.iconst (v := nI 5) dX11_sleeper_26 (by decide) ?_
      first | refine AW.icmp_ltN (tgt := 33) dX11_sleeper_27 (by decide) (by omega) (by omega) (fun c27 => ?_) (fun c27 => ?_) | refine AW.icmp_lt (tgt := 33) dX11_sleeper_27 (by decide) (fun c27 => ?_) (fun c27 => ?_)
      · subst ex; subst ey
        refine AW.aload_n dX11_sleeper_33 rfl rfl ?_
        refine g11_1 dX11_sleeper_34 wF_X11_19 (by first | assumption | rfl | (unfold is11; omega)) ?_
        refine cs_X11_sleeper_37 (by first | exact k0_19 | exact k0_1) (by decide) (by decide) (Nat.le_of_ble_eq_true rfl) (s_X6_forget i6_19 hP (fun I1 f1 P1 => ?_))
        refine AW.aload_n dX11_sleeper_40 rfl rfl ?_
        show AW muX11_sleeper _ _ 41 _ _ _ _
        refine g11_0 dX11_sleeper_41 wF_X11_10 (by first | assumption | rfl | (unfold is11; omega)) ?_
        refine AW.iload_n dX11_sleeper_44 rfl rfl ?_
        refine AW.iload_n dX11_sleeper_45 rfl rfl ?_
        refine cs_X11_sleeper_46 (by first | exact k0_19 | exact k0_1) (by decide) (by decide) (Nat.le_of_ble_eq_true rfl) (s_X2_addSleeper (N := upN N 64 0) i2_1 ((hR.of (fun b b1 b2 b3 => f1 b (by omega))).eqN (fun k hk => upN_ne (by omega)) h5 h8) (by rw [upN_ne (by omega)]; exact c27) (by rw [upN_ne (by omega)]; exact h8) (fun I2 f2 H2 => ?_))
        refine AW.aload_n dX11_sleeper_49 rfl rfl ?_
        refine g11_0 dX11_sleeper_50 wF_X11_10 (by first | assumption | rfl | (unfold is11; omega)) ?_
        show AW muX11_sleeper _ _ 53 _ _ _ _
        refine g2_7 dX11_sleeper_53 wF_X11_61 (by first | assumption | rfl | (unfold is2; omega)) ?_
        refine AW.top (show _ = nI (N 36 + 1) by rw [H2.sl]; unfold addS; (repeat first | rw [ru_ne (by omega)] | rw [ru_j] | rw [ru_ij (by omega)] | rw [upN_ne (by omega)] | rw [upN_eq] | rw [rr_ne (by omega)] | rw [rr_eq] | rw [sb_cpy0 (by omega)])) ?_
        refine AW.iconst (v := nI 1) dX11_sleeper_56 (by decide) ?_
        first | refine AW.isubN dX11_sleeper_57 (by omega) ?_ | refine AW.isub dX11_sleeper_57 ?_
        refine AW.iret dX11_sleeper_58 ⟨_, rfl, rfl⟩ (Nat.zero_le _) (Nat.zero_le _) ⟨_, rfl, ?_⟩
        refine q3 r b hr hb rfl rfl c27 I2 ((f1.w (by omega) (by omega)).tr (f2.w (by omega) (by omega))) H2 ?_
        exact (P1.of (fun b b1 b2 => f2 b (by omega))).zero upN_eq (by unfold addS; rw [show upN N 64 0 36 = N 36 from upN_ne (by omega)]; (repeat first | rw [ru_ne (by omega)] | rw [ru_j] | rw [ru_ij (by omega)] | rw [upN_ne (by omega)] | rw [upN_eq] | rw [rr_ne (by omega)] | rw [rr_eq] | rw [sb_cpy0 (by omega)]))
      · refine AW.bipush (v := (-3)) dX11_sleeper_30 (by decide) ?_
        refine AW.iret dX11_sleeper_32 ⟨_, rfl, rfl⟩ (Nat.zero_le _) (Nat.zero_le _) ⟨_, rfl, ?_⟩
        exact q2 ⟨r, by omega, hr, ex⟩ ⟨b, by omega, hb, ey⟩ (by omega)
    · refine AW.ifne0 (tgt := 19) dX11_sleeper_14 (by decide) ?_
      refine AW.iconst (v := (-1)) dX11_sleeper_17 (by decide) ?_
      refine AW.iret dX11_sleeper_18 ⟨_, rfl, rfl⟩ (Nat.zero_le _) (Nat.zero_le _) ⟨_, rfl, ?_⟩
      first | exact q1 (fun h => hn h.1) | exact q1 (fun h => hn h.2)
  · refine AW.ifeq0 (tgt := 17) dX11_sleeper_4 (by decide) ?_
    refine AW.iconst (v := (-1)) dX11_sleeper_17 (by decide) ?_
    show AW muX11_sleeper _ _ 18 _ _ _ _
    refine AW.iret dX11_sleeper_18 ⟨_, rfl, rfl⟩ (Nat.zero_le _) (Nat.zero_le _) ⟨_, rfl, ?_⟩
    first | exact q1 (fun h => hn h.1) | exact q1 (fun h => hn h.2)
theorem c_thing {x y z u : Int32} (hV : NV N) (hR : HR I 1 N) (hP : PR I 19 N) (q1 : ¬ (inR x 0 5 ∧ inR y 0 10 ∧ inR z 1 10 ∧ inR u 0 4) → Q (-1) (sk0, X, I, J)) (q2 : inR x 0 5 → inR y 0 10 → inR z 1 10 → inR u 0 4 → N 47 = 8 → Q (-3) (sk0, X, I, J)) (q3 : ∀ kd g d r, kd < 5 → g < 10 → 1 ≤ d → d < 10 → r < 4 → x = nI kd → y = nI g → z = nI d → u = nI r → N 47 < 8 → ∀ I', Fr I I' 1 68 → HR I' 1 (addT (upN N 64 0) kd g d r) → PR I' 19 (addT (upN N 64 0) kd g d r) → Q (nI (N 47)) (sk0, X, I', J)) : AWi muX11_thing [.ref 0, .int x, .int y, .int z, .int u] (sk0, X, I, J) Q := by
  have h5 := hV.s5
  have h8 := hV.t8
  show AW muX11_thing 0 0 0 [.ref 0, .int x, .int y, .int z, .int u] [] _ _
  refine AW.iload_n dX11_thing_0 rfl rfl ?_
  refine AW.iconst (v := nI 0) dX11_thing_1 (by decide) ?_
  refine AW.iconst (v := nI 4) dX11_thing_2 (by decide) ?_
  refine cs_X11_thing_3 (by decide) (by decide) (Nat.le_of_ble_eq_true rfl) (s_X11_within (lo := 0) (hi := 5) (by decide) (by decide) (by decide) (fun kd hk1 hk ex => ?_) (fun hn => ?_))
  · refine AW.ifeq1 (tgt := 34) dX11_thing_6 (by decide) ?_
    refine AW.iload_n dX11_thing_9 rfl rfl ?_
    refine cs_X11_thing_10 (by decide) (by decide) (Nat.le_of_ble_eq_true rfl) (s_X11_isGiver (fun g hg ey => ?_) (fun hn => ?_))
    · refine AW.ifeq1 (tgt := 34) dX11_thing_13 (by decide) ?_
      refine AW.iload_n dX11_thing_16 rfl rfl ?_
      refine AW.iconst (v := nI 1) dX11_thing_17 (by decide) ?_
      show AW muX11_thing _ _ 18 _ _ _ _
      refine AW.bipush (v := nI 9) dX11_thing_18 (by decide) ?_
      refine cs_X11_thing_20 (by decide) (by decide) (Nat.le_of_ble_eq_true rfl) (s_X11_within (lo := 1) (hi := 10) (by decide) (by decide) (by decide) (fun d hd1 hd ez => ?_) (fun hn => ?_))
      · refine AW.ifeq1 (tgt := 34) dX11_thing_23 (by decide) ?_
        refine AW.iload dX11_thing_26 rfl ?_
        refine cs_X11_thing_28 (by decide) (by decide) (Nat.le_of_ble_eq_true rfl) (s_X11_isRoom (fun r hr eu => ?_) (fun hn => ?_))
        · refine AW.ifne1 (tgt := 36) dX11_thing_31 (by decide) ?_
          refine AW.aload_n dX11_thing_36 rfl rfl ?_
          refine g11_0 dX11_thing_37 wF_X11_10 (by first | assumption | rfl | (unfold is11; omega)) ?_
          refine g2_8 dX11_thing_40 wF_X11_75 (by first | assumption | rfl | (unfold is2; omega)) ?_
          refine AW.top (hR.th) ?_
          refine AW.bipush (v := nI 8) dX11_thing_43 (by decide) ?_
          show AW muX11_thing _ _ 45 _ _ _ _
          first | refine AW.icmp_ltN (tgt := 51) dX11_thing_45 (by decide) (by omega) (by omega) (fun c45 => ?_) (fun c45 => ?_) | refine AW.icmp_lt (tgt := 51) dX11_thing_45 (by decide) (fun c45 => ?_) (fun c45 => ?_)
          · subst ex; subst ey; subst ez; subst eu
            refine AW.aload_n dX11_thing_51 rfl rfl ?_
            refine g11_1 dX11_thing_52 wF_X11_19 (by first | assumption | rfl | (unfold is11; omega)) ?_
            refine cs_X11_thing_55 (by first | exact k0_19 | exact k0_1) (by decide) (by decide) (Nat.le_of_ble_eq_true rfl) (s_X6_forget i6_19 hP (fun I1 f1 P1 => ?_))
            refine AW.aload_n dX11_thing_58 rfl rfl ?_
            refine g11_0 dX11_thing_59 wF_X11_10 (by first | assumption | rfl | (unfold is11; omega)) ?_
            refine AW.iload_n dX11_thing_62 rfl rfl ?_
            show AW muX11_thing _ _ 63 _ _ _ _
            refine AW.iload_n dX11_thing_63 rfl rfl ?_
            refine AW.iload_n dX11_thing_64 rfl rfl ?_
            refine AW.iload dX11_thing_65 rfl ?_
            refine cs_X11_thing_67 (by first | exact k0_19 | exact k0_1) (by decide) (by decide) (Nat.le_of_ble_eq_true rfl) (s_X2_addThing (N := upN N 64 0) i2_1 ((hR.of (fun b b1 b2 b3 => f1 b (by omega))).eqN (fun k hk => upN_ne (by omega)) h5 h8) (by rw [upN_ne (by omega)]; exact h5) (by rw [upN_ne (by omega)]; exact c45) (by omega) (fun I2 f2 H2 => ?_))
            refine AW.aload_n dX11_thing_70 rfl rfl ?_
            refine g11_0 dX11_thing_71 wF_X11_10 (by first | assumption | rfl | (unfold is11; omega)) ?_
            show AW muX11_thing _ _ 74 _ _ _ _
            refine g2_8 dX11_thing_74 wF_X11_75 (by first | assumption | rfl | (unfold is2; omega)) ?_
            refine AW.top (show _ = nI (N 47 + 1) by rw [H2.th]; unfold addT; (repeat first | rw [ru_ne (by omega)] | rw [ru_j] | rw [ru_ij (by omega)] | rw [upN_ne (by omega)] | rw [upN_eq] | rw [rr_ne (by omega)] | rw [rr_eq] | rw [sb_cpy0 (by omega)])) ?_
            refine AW.iconst (v := nI 1) dX11_thing_77 (by decide) ?_
            first | refine AW.isubN dX11_thing_78 (by omega) ?_ | refine AW.isub dX11_thing_78 ?_
            refine AW.iret dX11_thing_79 ⟨_, rfl, rfl⟩ (Nat.zero_le _) (Nat.zero_le _) ⟨_, rfl, ?_⟩
            refine q3 kd g d r hk hg hd1 hd hr rfl rfl rfl rfl c45 I2 ((f1.w (by omega) (by omega)).tr (f2.w (by omega) (by omega))) H2 ?_
            exact (P1.of (fun b b1 b2 => f2 b (by omega))).zero upN_eq (by unfold addT; rw [show upN N 64 0 47 = N 47 from upN_ne (by omega)]; (repeat first | rw [ru_ne (by omega)] | rw [ru_j] | rw [ru_ij (by omega)] | rw [upN_ne (by omega)] | rw [upN_eq] | rw [rr_ne (by omega)] | rw [rr_eq] | rw [sb_cpy0 (by omega)]))
          · refine AW.bipush (v := (-3)) dX11_thing_48 (by decide) ?_
            refine AW.iret dX11_thing_50 ⟨_, rfl, rfl⟩ (Nat.zero_le _) (Nat.zero_le _) ⟨_, rfl, ?_⟩
            exact q2 ⟨kd, by omega, hk, ex⟩ ⟨g, by omega, hg, ey⟩ ⟨d, hd1, hd, ez⟩ ⟨r, by omega, hr, eu⟩ (by omega)
        · refine AW.ifne0 (tgt := 36) dX11_thing_31 (by decide) ?_
          refine AW.iconst (v := (-1)) dX11_thing_34 (by decide) ?_
          refine AW.iret dX11_thing_35 ⟨_, rfl, rfl⟩ (Nat.zero_le _) (Nat.zero_le _) ⟨_, rfl, ?_⟩
          first | exact q1 (fun h => hn h.1) | exact q1 (fun h => hn h.2.1) | exact q1 (fun h => hn h.2.2.1) | exact q1 (fun h => hn h.2.2.2)
      · refine AW.ifeq0 (tgt := 34) dX11_thing_23 (by decide) ?_
        refine AW.iconst (v := (-1)) dX11_thing_34 (by decide) ?_
        show AW muX11_thing _ _ 35 _ _ _ _
        refine AW.iret dX11_thing_35 ⟨_, rfl, rfl⟩ (Nat.zero_le _) (Nat.zero_le _) ⟨_, rfl, ?_⟩
        first | exact q1 (fun h => hn h.1) | exact q1 (fun h => hn h.2.1) | exact q1 (fun h => hn h.2.2.1) | exact q1 (fun h => hn h.2.2.2)
    · refine AW.ifeq0 (tgt := 34) dX11_thing_13 (by decide) ?_
      refine AW.iconst (v := (-1)) dX11_thing_34 (by decide) ?_
      refine AW.iret dX11_thing_35 ⟨_, rfl, rfl⟩ (Nat.zero_le _) (Nat.zero_le _) ⟨_, rfl, ?_⟩
      first | exact q1 (fun h => hn h.1) | exact q1 (fun h => hn h.2.1) | exact q1 (fun h => hn h.2.2.1) | exact q1 (fun h => hn h.2.2.2)
  · refine AW.ifeq0 (tgt := 34) dX11_thing_6 (by decide) ?_
    refine AW.iconst (v := (-1)) dX11_thing_34 (by decide) ?_
    refine AW.iret dX11_thing_35 ⟨_, rfl, rfl⟩ (Nat.zero_le _) (Nat.zero_le _) ⟨_, rfl, ?_⟩
    first | exact q1 (fun h => hn h.1) | exact q1 (fun h => hn h.2.1) | exact q1 (fun h => hn h.2.2.1) | exact q1 (fun h => hn h.2.2.2)
theorem out_of {x : Int32} {hi : Nat} (h : ¬ inR x 0 hi) (hhi : hi < 2 ^ 31) : x.toInt < 0 ∨ ((hi : Int) - 1) < x.toInt := by
  rcases Int.lt_or_le x.toInt 0 with h1 | h1
  · exact Or.inl h1
  · right
    obtain ⟨j, hj, rfl⟩ := nI_of (x := x) (by rw [i_lt]; show ¬ x.toInt < 0; omega)
    rw [nI_toInt hj]
    have : ¬ j < hi := fun h2 => h ⟨j, by omega, h2, rfl⟩
    omega
theorem c_of {x y : Int32} (hV : NV N) (hR : HR I 1 N) (q1 : ¬ (inR x 0 (N 36) ∧ inR y 0 5) → Q (-1) (sk0, X, I, J)) (q2 : ∀ s w, s < N 36 → w < 5 → x = nI s → y = nI w → ∀ I', Fr I I' 12 12 → Q (nI (if w = 0 then N (37 + s) else if w = 1 then N (42 + s) else if w = 2 then N (26 + s) else if w = 3 then N (31 + s) else if asleepB N s then 1 else 0)) (sk0, X, I', J)) : AWi muX11_of [.ref 0, .int x, .int y] (sk0, X, I, J) Q := by
  have h5 := hV.s5
  show AW muX11_of 0 0 0 [.ref 0, .int x, .int y] [] _ _
  refine AW.aload_n dX11_of_0 rfl rfl ?_
  refine g11_0 dX11_of_1 wF_X11_10 (by first | assumption | rfl | (unfold is11; omega)) ?_
  refine AW.iload_n dX11_of_4 rfl rfl ?_
  refine cs_X11_of_5 (by first | exact k0_1 | exact is2.a7 i2_1 | exact is2.a8 i2_1 | exact is4.a4 (is2.m i2_1) | exact is4.a5 (is2.m i2_1)) (by decide) (by decide) (Nat.le_of_ble_eq_true rfl) (s_X2_hasSleeper i2_1 hR.sl (by omega) (fun s hs ex => ?_) (fun hn => ?_))
  · refine AW.ifne1 (tgt := 13) dX11_of_8 (by decide) ?_
    refine AW.iload_n dX11_of_13 rfl rfl ?_
    subst ex
    by_cases hw : inR y 0 5
    · obtain ⟨w, -, hw, rfl⟩ := hw
      rcases (show w = 0 ∨ w = 1 ∨ w = 2 ∨ w = 3 ∨ w = 4 by omega) with rfl | rfl | rfl | rfl | rfl
      · refine AW.tableIn (tgt := 48) dX11_of_14 (by decide) (by decide) rfl (by decide) ?_
        refine AW.aload_n dX11_of_48 rfl rfl ?_
        refine g11_0 dX11_of_49 wF_X11_10 (by first | assumption | rfl | (unfold is11; omega)) ?_
        show AW muX11_of _ _ 52 _ _ _ _
        refine g2_1 dX11_of_52 wF_X11_85 (by first | assumption | rfl | (unfold is2; omega)) ?_
        refine AW.iload_n dX11_of_55 rfl rfl ?_
        refine AW.iald dX11_of_56 (by first | exact k0_1 | exact is2.a7 i2_1 | exact is2.a8 i2_1 | exact is4.a4 (is2.m i2_1) | exact is4.a5 (is2.m i2_1)) _ (by first | rfl | assumption) (by omega) (by first | decide | omega) ?_
        refine AW.top (hR.bd hs) ?_
        refine AW.iret dX11_of_57 ⟨_, rfl, rfl⟩ (Nat.zero_le _) (Nat.zero_le _) ⟨_, rfl, ?_⟩
        exact q2 s _ hs (by decide) rfl rfl I Fr.rf
      · refine AW.tableIn (tgt := 58) dX11_of_14 (by decide) (by decide) rfl (by decide) ?_
        refine AW.aload_n dX11_of_58 rfl rfl ?_
        refine g11_0 dX11_of_59 wF_X11_10 (by first | assumption | rfl | (unfold is11; omega)) ?_
        refine g2_2 dX11_of_62 wF_X11_89 (by first | assumption | rfl | (unfold is2; omega)) ?_
        show AW muX11_of _ _ 65 _ _ _ _
        refine AW.iload_n dX11_of_65 rfl rfl ?_
        refine AW.iald dX11_of_66 (by first | exact k0_1 | exact is2.a7 i2_1 | exact is2.a8 i2_1 | exact is4.a4 (is2.m i2_1) | exact is4.a5 (is2.m i2_1)) _ (by first | rfl | assumption) (by omega) (by first | decide | omega) ?_
        refine AW.top (hR.br hs) ?_
        refine AW.iret dX11_of_67 ⟨_, rfl, rfl⟩ (Nat.zero_le _) (Nat.zero_le _) ⟨_, rfl, ?_⟩
        exact q2 s _ hs (by decide) rfl rfl I Fr.rf
      · refine AW.tableIn (tgt := 68) dX11_of_14 (by decide) (by decide) rfl (by decide) ?_
        refine AW.aload_n dX11_of_68 rfl rfl ?_
        refine g11_0 dX11_of_69 wF_X11_10 (by first | assumption | rfl | (unfold is11; omega)) ?_
        refine g2_6 dX11_of_72 wF_X11_92 (by first | assumption | rfl | (unfold is2; omega)) ?_
        refine g4_3 dX11_of_75 wF_X11_96 (by first | assumption | exact is2.m (by assumption) | rfl | (unfold is4; omega) | exact is6.m (by assumption) (by omega)) ?_
        show AW muX11_of _ _ 78 _ _ _ _
        refine AW.iload_n dX11_of_78 rfl rfl ?_
        refine AW.iald dX11_of_79 (by first | exact k0_1 | exact is2.a7 i2_1 | exact is2.a8 i2_1 | exact is4.a4 (is2.m i2_1) | exact is4.a5 (is2.m i2_1)) _ (by first | rfl | assumption) (by omega) (by first | decide | omega) ?_
        refine AW.top (hR.m.sp hs) ?_
        refine AW.iret dX11_of_80 ⟨_, rfl, rfl⟩ (Nat.zero_le _) (Nat.zero_le _) ⟨_, rfl, ?_⟩
        exact q2 s _ hs (by decide) rfl rfl I Fr.rf
      · refine AW.tableIn (tgt := 81) dX11_of_14 (by decide) (by decide) rfl (by decide) ?_
        refine AW.aload_n dX11_of_81 rfl rfl ?_
        refine g11_0 dX11_of_82 wF_X11_10 (by first | assumption | rfl | (unfold is11; omega)) ?_
        refine g2_6 dX11_of_85 wF_X11_92 (by first | assumption | rfl | (unfold is2; omega)) ?_
        refine g4_4 dX11_of_88 wF_X11_101 (by first | assumption | exact is2.m (by assumption) | rfl | (unfold is4; omega) | exact is6.m (by assumption) (by omega)) ?_
        show AW muX11_of _ _ 91 _ _ _ _
        refine AW.iload_n dX11_of_91 rfl rfl ?_
        refine AW.iald dX11_of_92 (by first | exact k0_1 | exact is2.a7 i2_1 | exact is2.a8 i2_1 | exact is4.a4 (is2.m i2_1) | exact is4.a5 (is2.m i2_1)) _ (by first | rfl | assumption) (by omega) (by first | decide | omega) ?_
        refine AW.top (hR.m.wk hs) ?_
        refine AW.iret dX11_of_93 ⟨_, rfl, rfl⟩ (Nat.zero_le _) (Nat.zero_le _) ⟨_, rfl, ?_⟩
        exact q2 s _ hs (by decide) rfl rfl I Fr.rf
      · refine AW.tableIn (tgt := 94) dX11_of_14 (by decide) (by decide) rfl (by decide) ?_
        refine AW.aload_n dX11_of_94 rfl rfl ?_
        refine g11_0 dX11_of_95 wF_X11_10 (by first | assumption | rfl | (unfold is11; omega)) ?_
        refine cs_X11_of_98 (by first | exact k0_1 | exact is2.a7 i2_1 | exact is2.a8 i2_1 | exact is4.a4 (is2.m i2_1) | exact is4.a5 (is2.m i2_1)) (by decide) (by decide) (Nat.le_of_ble_eq_true rfl) (s_X2_listen i2_1 hR hV (fun I1 f1 e1 => ?_))
        refine AW.aload_n dX11_of_101 rfl rfl ?_
        show AW muX11_of _ _ 102 _ _ _ _
        refine g11_0 dX11_of_102 wF_X11_10 (by first | assumption | rfl | (unfold is11; omega)) ?_
        refine AW.iload_n dX11_of_105 rfl rfl ?_
        refine cs_X11_of_106 (by first | exact k0_1 | exact is2.a7 i2_1 | exact is2.a8 i2_1 | exact is4.a4 (is2.m i2_1) | exact is4.a5 (is2.m i2_1)) (by decide) (by decide) (Nat.le_of_ble_eq_true rfl) (s_X2_isAsleep i2_1 (hR.of (fun b b1 b2 b3 => f1 b (by omega))) hV e1 hs (fun hb => ?_) (fun hb => ?_))
        · refine AW.ifeq1 (tgt := 116) dX11_of_109 (by decide) ?_
          refine AW.iconst (v := nI 1) dX11_of_112 (by decide) ?_
          refine AW.goto (tgt := 117) dX11_of_113 (by decide) ?_
          refine AW.iret dX11_of_117 ⟨_, rfl, rfl⟩ (Nat.zero_le _) (Nat.zero_le _) ⟨_, rfl, ?_⟩
          have := q2 s 4 hs (by decide) rfl rfl I1 f1
          simpa [hb] using this
        · refine AW.ifeq0 (tgt := 116) dX11_of_109 (by decide) ?_
          refine AW.iconst (v := nI 0) dX11_of_116 (by decide) ?_
          refine AW.iret dX11_of_117 ⟨_, rfl, rfl⟩ (Nat.zero_le _) (Nat.zero_le _) ⟨_, rfl, ?_⟩
          have := q2 s 4 hs (by decide) rfl rfl I1 f1
          simpa [hb] using this
    · refine AW.tableOut (tgt := 118) dX11_of_14 (out_of hw (by decide)) (by decide) ?_
      refine AW.iconst (v := (-1)) dX11_of_118 (by decide) ?_
      refine AW.iret dX11_of_119 ⟨_, rfl, rfl⟩ (Nat.zero_le _) (Nat.zero_le _) ⟨_, rfl, ?_⟩
      exact q1 (fun h => hw h.2)
  · refine AW.ifne0 (tgt := 13) dX11_of_8 (by decide) ?_
    refine AW.iconst (v := (-1)) dX11_of_11 (by decide) ?_
    show AW muX11_of _ _ 12 _ _ _ _
    refine AW.iret dX11_of_12 ⟨_, rfl, rfl⟩ (Nat.zero_le _) (Nat.zero_le _) ⟨_, rfl, ?_⟩
    exact q1 (fun h => hn h.1)
theorem c_gift {x y : Int32} (hV : NV N) (hR : HR I 1 N) (q1 : ¬ (inR x 0 (N 47) ∧ inR y 0 6) → Q (-1) (sk0, X, I, J)) (q2 : ∀ t w, t < N 47 → w < 6 → x = nI t → y = nI w → Q (nI (if w = 0 then N (48 + t) else if w = 1 then N (10 + t) else if w = 2 then N (56 + t) else if w = 3 then N (2 + t) else if w = 4 then N (18 + t) else loudT N t)) (sk0, X, I, J)) : AWi muX11_gift [.ref 0, .int x, .int y] (sk0, X, I, J) Q := by
  have h8 := hV.t8
  show AW muX11_gift 0 0 0 [.ref 0, .int x, .int y] [] _ _
  refine AW.aload_n dX11_gift_0 rfl rfl ?_
  refine g11_0 dX11_gift_1 wF_X11_10 (by first | assumption | rfl | (unfold is11; omega)) ?_
  refine AW.iload_n dX11_gift_4 rfl rfl ?_
  refine cs_X11_gift_5 (by first | exact k0_1 | exact is2.a9 i2_1 | exact is2.a10 i2_1 | exact is4.a1 (is2.m i2_1) | exact is4.a2 (is2.m i2_1) | exact is4.a3 (is2.m i2_1)) (by decide) (by decide) (Nat.le_of_ble_eq_true rfl) (s_X2_hasThing i2_1 hR.th (by omega) (fun t ht ex => ?_) (fun hn => ?_))
  · refine AW.ifne1 (tgt := 13) dX11_gift_8 (by decide) ?_
    refine AW.iload_n dX11_gift_13 rfl rfl ?_
    subst ex
    by_cases hw : inR y 0 6
    · obtain ⟨w, -, hw, rfl⟩ := hw
      rcases (show w = 0 ∨ w = 1 ∨ w = 2 ∨ w = 3 ∨ w = 4 ∨ w = 5 by omega) with rfl | rfl | rfl | rfl | rfl | rfl
      · refine AW.tableIn (tgt := 52) dX11_gift_14 (by decide) (by decide) rfl (by decide) ?_
        refine AW.aload_n dX11_gift_52 rfl rfl ?_
        refine g11_0 dX11_gift_53 wF_X11_10 (by first | assumption | rfl | (unfold is11; omega)) ?_
        show AW muX11_gift _ _ 56 _ _ _ _
        refine g2_3 dX11_gift_56 wF_X11_113 (by first | assumption | rfl | (unfold is2; omega)) ?_
        refine AW.iload_n dX11_gift_59 rfl rfl ?_
        refine AW.iald dX11_gift_60 (by first | exact k0_1 | exact is2.a9 i2_1 | exact is2.a10 i2_1 | exact is4.a1 (is2.m i2_1) | exact is4.a2 (is2.m i2_1) | exact is4.a3 (is2.m i2_1)) _ (by first | rfl | assumption) (by omega) (by first | decide | omega) ?_
        refine AW.top (hR.kd ht) ?_
        refine AW.iret dX11_gift_61 ⟨_, rfl, rfl⟩ (Nat.zero_le _) (Nat.zero_le _) ⟨_, rfl, ?_⟩
        exact q2 t _ ht (by decide) rfl rfl
      · refine AW.tableIn (tgt := 62) dX11_gift_14 (by decide) (by decide) rfl (by decide) ?_
        refine AW.aload_n dX11_gift_62 rfl rfl ?_
        refine g11_0 dX11_gift_63 wF_X11_10 (by first | assumption | rfl | (unfold is11; omega)) ?_
        refine g2_6 dX11_gift_66 wF_X11_92 (by first | assumption | rfl | (unfold is2; omega)) ?_
        show AW muX11_gift _ _ 69 _ _ _ _
        refine g4_1 dX11_gift_69 wF_X11_116 (by first | assumption | exact is2.m (by assumption) | rfl | (unfold is4; omega) | exact is6.m (by assumption) (by omega)) ?_
        refine AW.iload_n dX11_gift_72 rfl rfl ?_
        refine AW.iald dX11_gift_73 (by first | exact k0_1 | exact is2.a9 i2_1 | exact is2.a10 i2_1 | exact is4.a1 (is2.m i2_1) | exact is4.a2 (is2.m i2_1) | exact is4.a3 (is2.m i2_1)) _ (by first | rfl | assumption) (by omega) (by first | decide | omega) ?_
        refine AW.top (hR.m.gv ht) ?_
        refine AW.iret dX11_gift_74 ⟨_, rfl, rfl⟩ (Nat.zero_le _) (Nat.zero_le _) ⟨_, rfl, ?_⟩
        exact q2 t _ ht (by decide) rfl rfl
      · refine AW.tableIn (tgt := 75) dX11_gift_14 (by decide) (by decide) rfl (by decide) ?_
        refine AW.aload_n dX11_gift_75 rfl rfl ?_
        refine g11_0 dX11_gift_76 wF_X11_10 (by first | assumption | rfl | (unfold is11; omega)) ?_
        refine g2_4 dX11_gift_79 wF_X11_119 (by first | assumption | rfl | (unfold is2; omega)) ?_
        show AW muX11_gift _ _ 82 _ _ _ _
        refine AW.iload_n dX11_gift_82 rfl rfl ?_
        refine AW.iald dX11_gift_83 (by first | exact k0_1 | exact is2.a9 i2_1 | exact is2.a10 i2_1 | exact is4.a1 (is2.m i2_1) | exact is4.a2 (is2.m i2_1) | exact is4.a3 (is2.m i2_1)) _ (by first | rfl | assumption) (by omega) (by first | decide | omega) ?_
        refine AW.top (hR.dr ht) ?_
        refine AW.iret dX11_gift_84 ⟨_, rfl, rfl⟩ (Nat.zero_le _) (Nat.zero_le _) ⟨_, rfl, ?_⟩
        exact q2 t _ ht (by decide) rfl rfl
      · refine AW.tableIn (tgt := 85) dX11_gift_14 (by decide) (by decide) rfl (by decide) ?_
        refine AW.aload_n dX11_gift_85 rfl rfl ?_
        refine g11_0 dX11_gift_86 wF_X11_10 (by first | assumption | rfl | (unfold is11; omega)) ?_
        refine g2_6 dX11_gift_89 wF_X11_92 (by first | assumption | rfl | (unfold is2; omega)) ?_
        refine g4_0 dX11_gift_92 wF_X11_122 (by first | assumption | exact is2.m (by assumption) | rfl | (unfold is4; omega) | exact is6.m (by assumption) (by omega)) ?_
        show AW muX11_gift _ _ 95 _ _ _ _
        refine AW.iload_n dX11_gift_95 rfl rfl ?_
        refine AW.iald dX11_gift_96 (by first | exact k0_1 | exact is2.a9 i2_1 | exact is2.a10 i2_1 | exact is4.a1 (is2.m i2_1) | exact is4.a2 (is2.m i2_1) | exact is4.a3 (is2.m i2_1)) _ (by first | rfl | assumption) (by omega) (by first | decide | omega) ?_
        refine AW.top (hR.m.pl ht) ?_
        refine AW.iret dX11_gift_97 ⟨_, rfl, rfl⟩ (Nat.zero_le _) (Nat.zero_le _) ⟨_, rfl, ?_⟩
        exact q2 t _ ht (by decide) rfl rfl
      · refine AW.tableIn (tgt := 98) dX11_gift_14 (by decide) (by decide) rfl (by decide) ?_
        refine AW.aload_n dX11_gift_98 rfl rfl ?_
        refine g11_0 dX11_gift_99 wF_X11_10 (by first | assumption | rfl | (unfold is11; omega)) ?_
        refine g2_6 dX11_gift_102 wF_X11_92 (by first | assumption | rfl | (unfold is2; omega)) ?_
        refine g4_2 dX11_gift_105 wF_X11_125 (by first | assumption | exact is2.m (by assumption) | rfl | (unfold is4; omega) | exact is6.m (by assumption) (by omega)) ?_
        show AW muX11_gift _ _ 108 _ _ _ _
        refine AW.iload_n dX11_gift_108 rfl rfl ?_
        refine AW.iald dX11_gift_109 (by first | exact k0_1 | exact is2.a9 i2_1 | exact is2.a10 i2_1 | exact is4.a1 (is2.m i2_1) | exact is4.a2 (is2.m i2_1) | exact is4.a3 (is2.m i2_1)) _ (by first | rfl | assumption) (by omega) (by first | decide | omega) ?_
        refine AW.top (hR.m.lf ht) ?_
        refine AW.iret dX11_gift_110 ⟨_, rfl, rfl⟩ (Nat.zero_le _) (Nat.zero_le _) ⟨_, rfl, ?_⟩
        exact q2 t _ ht (by decide) rfl rfl
      · refine AW.tableIn (tgt := 111) dX11_gift_14 (by decide) (by decide) rfl (by decide) ?_
        refine AW.aload_n dX11_gift_111 rfl rfl ?_
        refine g11_0 dX11_gift_112 wF_X11_10 (by first | assumption | rfl | (unfold is11; omega)) ?_
        refine AW.iload_n dX11_gift_115 rfl rfl ?_
        refine AW.aload_n dX11_gift_116 rfl rfl ?_
        show AW muX11_gift _ _ 117 _ _ _ _
        refine g11_0 dX11_gift_117 wF_X11_10 (by first | assumption | rfl | (unfold is11; omega)) ?_
        refine g2_6 dX11_gift_120 wF_X11_92 (by first | assumption | rfl | (unfold is2; omega)) ?_
        refine g4_2 dX11_gift_123 wF_X11_125 (by first | assumption | exact is2.m (by assumption) | rfl | (unfold is4; omega) | exact is6.m (by assumption) (by omega)) ?_
        refine AW.iload_n dX11_gift_126 rfl rfl ?_
        refine AW.iald dX11_gift_127 (by first | exact k0_1 | exact is2.a9 i2_1 | exact is2.a10 i2_1 | exact is4.a1 (is2.m i2_1) | exact is4.a2 (is2.m i2_1) | exact is4.a3 (is2.m i2_1)) _ (by first | rfl | assumption) (by omega) (by first | decide | omega) ?_
        refine AW.top (hR.m.lf ht) ?_
        refine AW.iconst (v := nI 0) dX11_gift_128 (by decide) ?_
        show AW muX11_gift _ _ 129 _ _ _ _
        refine cs_X11_gift_129 (by first | exact k0_1 | exact is2.a9 i2_1 | exact is2.a10 i2_1 | exact is4.a1 (is2.m i2_1) | exact is4.a2 (is2.m i2_1) | exact is4.a3 (is2.m i2_1)) (by decide) (by decide) (Nat.le_of_ble_eq_true rfl) (s_X2_loudWith i2_1 hR hV ht (by have := hV.lf ht; omega) (by decide) ?_)
        refine AW.iret dX11_gift_132 ⟨_, rfl, rfl⟩ (Nat.zero_le _) (Nat.zero_le _) ⟨_, rfl, ?_⟩
        exact q2 t _ ht (by decide) rfl rfl
    · refine AW.tableOut (tgt := 133) dX11_gift_14 (out_of hw (by decide)) (by decide) ?_
      refine AW.iconst (v := (-1)) dX11_gift_133 (by decide) ?_
      refine AW.iret dX11_gift_134 ⟨_, rfl, rfl⟩ (Nat.zero_le _) (Nat.zero_le _) ⟨_, rfl, ?_⟩
      exact q1 (fun h => hw h.2)
  · refine AW.ifne0 (tgt := 13) dX11_gift_8 (by decide) ?_
    refine AW.iconst (v := (-1)) dX11_gift_11 (by decide) ?_
    refine AW.iret dX11_gift_12 ⟨_, rfl, rfl⟩ (Nat.zero_le _) (Nat.zero_le _) ⟨_, rfl, ?_⟩
    exact q1 (fun h => hn h.1)
theorem c_room {x y : Int32} (hV : NV N) (hR : HR I 1 N) (q1 : ¬ (inR x 0 4 ∧ inR y 0 3) → Q (-1) (sk0, X, I, J)) (q2 : ∀ r w, r < 4 → w < 3 → x = nI r → y = nI w → ∀ I', Fr I I' 12 12 → Q (nI (if w = 0 then loudR N r else if w = 1 then setN (N 47) (fun t => decide (N (2 + t) = r)) else setN (N 36) (fun t => decide (N (37 + t) = r)))) (sk0, X, I', J)) : AWi muX11_room [.ref 0, .int x, .int y] (sk0, X, I, J) Q := by
  show AW muX11_room 0 0 0 [.ref 0, .int x, .int y] [] _ _
  refine AW.iload_n dX11_room_0 rfl rfl ?_
  refine cs_X11_room_1 (by decide) (by decide) (Nat.le_of_ble_eq_true rfl) (s_X11_isRoom (fun r hr ex => ?_) (fun hn => ?_))
  · refine AW.ifne1 (tgt := 9) dX11_room_4 (by decide) ?_
    refine AW.iload_n dX11_room_9 rfl rfl ?_
    subst ex
    by_cases hw : inR y 0 3
    · obtain ⟨w, -, hw, rfl⟩ := hw
      rcases (show w = 0 ∨ w = 1 ∨ w = 2 by omega) with rfl | rfl | rfl
      · refine AW.tableIn (tgt := 36) dX11_room_10 (by decide) (by decide) rfl (by decide) ?_
        refine AW.aload_n dX11_room_36 rfl rfl ?_
        refine g11_0 dX11_room_37 wF_X11_10 (by first | assumption | rfl | (unfold is11; omega)) ?_
        refine cs_X11_room_40 (by first | exact k0_1 | exact is2.a11 i2_1) (by decide) (by decide) (Nat.le_of_ble_eq_true rfl) (s_X2_listen i2_1 hR hV (fun I1 f1 e1 => ?_))
        refine AW.aload_n dX11_room_43 rfl rfl ?_
        show AW muX11_room _ _ 44 _ _ _ _
        refine g11_0 dX11_room_44 wF_X11_10 (by first | assumption | rfl | (unfold is11; omega)) ?_
        refine g2_5 dX11_room_47 wF_X11_132 (by first | assumption | rfl | (unfold is2; omega)) ?_
        refine AW.iload_n dX11_room_50 rfl rfl ?_
        refine AW.iald dX11_room_51 (by first | exact k0_1 | exact is2.a11 i2_1) _ (by first | rfl | assumption) (by omega) (by first | decide | omega) ?_
        refine AW.top (e1 _ hr) ?_
        refine AW.iret dX11_room_52 ⟨_, rfl, rfl⟩ (Nat.zero_le _) (Nat.zero_le _) ⟨_, rfl, ?_⟩
        exact q2 r 0 hr (by decide) rfl rfl I1 f1
      · refine AW.tableIn (tgt := 53) dX11_room_10 (by decide) (by decide) rfl (by decide) ?_
        refine AW.aload_n dX11_room_53 rfl rfl ?_
        refine g11_0 dX11_room_54 wF_X11_10 (by first | assumption | rfl | (unfold is11; omega)) ?_
        show AW muX11_room _ _ 57 _ _ _ _
        refine AW.iload_n dX11_room_57 rfl rfl ?_
        refine cs_X11_room_58 (by first | exact k0_1 | exact is2.a11 i2_1) (by decide) (by decide) (Nat.le_of_ble_eq_true rfl) (s_X2_thingsIn i2_1 hR hV (by omega) ?_)
        refine AW.iret dX11_room_61 ⟨_, rfl, rfl⟩ (Nat.zero_le _) (Nat.zero_le _) ⟨_, rfl, ?_⟩
        exact q2 r 1 hr (by decide) rfl rfl I Fr.rf
      · refine AW.tableIn (tgt := 62) dX11_room_10 (by decide) (by decide) rfl (by decide) ?_
        refine AW.aload_n dX11_room_62 rfl rfl ?_
        refine g11_0 dX11_room_63 wF_X11_10 (by first | assumption | rfl | (unfold is11; omega)) ?_
        refine AW.iload_n dX11_room_66 rfl rfl ?_
        refine cs_X11_room_67 (by first | exact k0_1 | exact is2.a11 i2_1) (by decide) (by decide) (Nat.le_of_ble_eq_true rfl) (s_X2_sleepersIn i2_1 hR hV (by omega) ?_)
        show AW muX11_room _ _ 70 _ _ _ _
        refine AW.iret dX11_room_70 ⟨_, rfl, rfl⟩ (Nat.zero_le _) (Nat.zero_le _) ⟨_, rfl, ?_⟩
        exact q2 r 2 hr (by decide) rfl rfl I Fr.rf
    · refine AW.tableOut (tgt := 71) dX11_room_10 (out_of hw (by decide)) (by decide) ?_
      refine AW.iconst (v := (-1)) dX11_room_71 (by decide) ?_
      refine AW.iret dX11_room_72 ⟨_, rfl, rfl⟩ (Nat.zero_le _) (Nat.zero_le _) ⟨_, rfl, ?_⟩
      exact q1 (fun h => hw h.2)
  · refine AW.ifne0 (tgt := 9) dX11_room_4 (by decide) ?_
    refine AW.iconst (v := (-1)) dX11_room_7 (by decide) ?_
    refine AW.iret dX11_room_8 ⟨_, rfl, rfl⟩ (Nat.zero_le _) (Nat.zero_le _) ⟨_, rfl, ?_⟩
    exact q1 (fun h => hn h.1)
theorem c_bed {x y : Int32} (hV : NV N) (hR : HR I 1 N) (q1 : ¬ (inR x 0 (N 36) ∧ inR y 0 4) → Q (-1) (sk0, X, I, J)) (q2 : ∀ s r, s < N 36 → r < 4 → x = nI s → y = nI r → ∀ I', Fr I I' 1 18 → HR I' 1 (upN N (37 + s) r) → Q (nI (N (37 + s))) (sk0, X, I', J)) : AWi muX11_bed [.ref 0, .int x, .int y] (sk0, X, I, J) Q := by
  have h5 := hV.s5
  have h8 := hV.t8
  show AW muX11_bed 0 0 0 [.ref 0, .int x, .int y, .null] [] _ _
  refine AW.aload_n dX11_bed_0 rfl rfl ?_
  refine g11_0 dX11_bed_1 wF_X11_10 (by first | assumption | rfl | (unfold is11; omega)) ?_
  refine AW.iload_n dX11_bed_4 rfl rfl ?_
  refine cs_X11_bed_5 (by first | exact k0_1 | exact is2.a7 i2_1) (by decide) (by decide) (Nat.le_of_ble_eq_true rfl) (s_X2_hasSleeper i2_1 hR.sl (by omega) (fun s hs ex => ?_) (fun hn => ?_))
  · refine AW.ifeq1 (tgt := 18) dX11_bed_8 (by decide) ?_
    refine AW.iload_n dX11_bed_11 rfl rfl ?_
    refine cs_X11_bed_12 (by decide) (by decide) (Nat.le_of_ble_eq_true rfl) (s_X11_isRoom (fun r hr ey => ?_) (fun hn => ?_))
    · refine AW.ifne1 (tgt := 20) dX11_bed_15 (by decide) ?_
      subst ex; subst ey
      refine AW.aload_n dX11_bed_20 rfl rfl ?_
      refine g11_0 dX11_bed_21 wF_X11_10 (by first | assumption | rfl | (unfold is11; omega)) ?_
      show AW muX11_bed _ _ 24 _ _ _ _
      refine g2_1 dX11_bed_24 wF_X11_85 (by first | assumption | rfl | (unfold is2; omega)) ?_
      refine AW.iload_n dX11_bed_27 rfl rfl ?_
      refine AW.iald dX11_bed_28 (by first | exact k0_1 | exact is2.a7 i2_1) _ (by first | rfl | assumption) (by omega) (by first | decide | omega) ?_
      refine AW.top (hR.bd hs) ?_
      refine AW.istore_n dX11_bed_29 rfl (by decide) rfl rfl ?_
      refine AW.aload_n dX11_bed_30 rfl rfl ?_
      refine g11_0 dX11_bed_31 wF_X11_10 (by first | assumption | rfl | (unfold is11; omega)) ?_
      show AW muX11_bed _ _ 34 _ _ _ _
      refine g2_1 dX11_bed_34 wF_X11_85 (by first | assumption | rfl | (unfold is2; omega)) ?_
      refine AW.iload_n dX11_bed_37 rfl rfl ?_
      refine AW.iload_n dX11_bed_38 rfl rfl ?_
      refine AW.iast dX11_bed_39 (by first | exact k0_1 | exact is2.a7 i2_1) _ (by first | rfl | assumption) (by omega) (by first | decide | omega) ?_
      refine AW.iload_n dX11_bed_40 rfl rfl ?_
      refine AW.iret dX11_bed_41 ⟨_, rfl, rfl⟩ (Nat.zero_le _) (Nat.zero_le _) ⟨_, rfl, ?_⟩
      exact q2 s r hs hr rfl rfl _ (Fr.u (by omega) (by omega)) (HR.up hR h5 h8 (HT.bd hs) (by omega) (by omega))
    · refine AW.ifne0 (tgt := 20) dX11_bed_15 (by decide) ?_
      refine AW.iconst (v := (-1)) dX11_bed_18 (by decide) ?_
      show AW muX11_bed _ _ 19 _ _ _ _
      refine AW.iret dX11_bed_19 ⟨_, rfl, rfl⟩ (Nat.zero_le _) (Nat.zero_le _) ⟨_, rfl, ?_⟩
      first | exact q1 (fun h => hn h.1) | exact q1 (fun h => hn h.2)
  · refine AW.ifeq0 (tgt := 18) dX11_bed_8 (by decide) ?_
    refine AW.iconst (v := (-1)) dX11_bed_18 (by decide) ?_
    refine AW.iret dX11_bed_19 ⟨_, rfl, rfl⟩ (Nat.zero_le _) (Nat.zero_le _) ⟨_, rfl, ?_⟩
    first | exact q1 (fun h => hn h.1) | exact q1 (fun h => hn h.2)
theorem c_count {x : Int32} (hV : NV N) (hR : HR I 1 N) (hP : PR I 19 N) (q1 : ¬ inR x 0 9 → Q (-1) (sk0, X, I, J)) (q2 : ∀ w, w < 9 → x = nI w → Q (nI (if w = 0 then N 36 else if w = 1 then N 47 else if w = 2 then N 0 else if w = 3 then sumN (N 47) (fun t => N (18 + t)) else if w = 4 then sumN (N 47) (loudT N) else if w = 5 then setN (N 47) (fun t => decide (N (18 + t) = 0)) else if w = 6 then sumN (N 36) (fun s => N (26 + s)) else if w = 7 then sumN (N 36) (fun s => N (31 + s)) else N 64)) (sk0, X, I, J)) : AWi muX11_count [.ref 0, .int x] (sk0, X, I, J) Q := by
  have h5 := hV.s5
  have h8 := hV.t8
  show AW muX11_count 0 0 0 [.ref 0, .int x] [] _ _
  refine AW.iload_n dX11_count_0 rfl rfl ?_
  by_cases hw : inR x 0 9
  · obtain ⟨w, -, hw, rfl⟩ := hw
    rcases (show w = 0 ∨ w = 1 ∨ w = 2 ∨ w = 3 ∨ w = 4 ∨ w = 5 ∨ w = 6 ∨ w = 7 ∨ w = 8 by omega) with rfl | rfl | rfl | rfl | rfl | rfl | rfl | rfl | rfl
    · refine AW.tableIn (tgt := 52) dX11_count_1 (by decide) (by decide) rfl (by decide) ?_
      refine AW.aload_n dX11_count_52 rfl rfl ?_
      refine g11_0 dX11_count_53 wF_X11_10 (by first | assumption | rfl | (unfold is11; omega)) ?_
      refine g2_7 dX11_count_56 wF_X11_61 (by first | assumption | rfl | (unfold is2; omega)) ?_
      refine AW.top (hR.sl) ?_
      refine AW.iret dX11_count_59 ⟨_, rfl, rfl⟩ (Nat.zero_le _) (Nat.zero_le _) ⟨_, rfl, ?_⟩
      exact q2 _ (by decide) rfl
    · refine AW.tableIn (tgt := 60) dX11_count_1 (by decide) (by decide) rfl (by decide) ?_
      refine AW.aload_n dX11_count_60 rfl rfl ?_
      refine g11_0 dX11_count_61 wF_X11_10 (by first | assumption | rfl | (unfold is11; omega)) ?_
      show AW muX11_count _ _ 64 _ _ _ _
      refine g2_8 dX11_count_64 wF_X11_75 (by first | assumption | rfl | (unfold is2; omega)) ?_
      refine AW.top (hR.th) ?_
      refine AW.iret dX11_count_67 ⟨_, rfl, rfl⟩ (Nat.zero_le _) (Nat.zero_le _) ⟨_, rfl, ?_⟩
      exact q2 _ (by decide) rfl
    · refine AW.tableIn (tgt := 68) dX11_count_1 (by decide) (by decide) rfl (by decide) ?_
      refine AW.aload_n dX11_count_68 rfl rfl ?_
      refine g11_0 dX11_count_69 wF_X11_10 (by first | assumption | rfl | (unfold is11; omega)) ?_
      refine g2_6 dX11_count_72 wF_X11_92 (by first | assumption | rfl | (unfold is2; omega)) ?_
      refine g4_5 dX11_count_75 wF_X11_168 (by first | assumption | exact is2.m (by assumption) | rfl | (unfold is4; omega) | exact is6.m (by assumption) (by omega)) ?_
      refine AW.top (hR.m.ni) ?_
      refine AW.iret dX11_count_78 ⟨_, rfl, rfl⟩ (Nat.zero_le _) (Nat.zero_le _) ⟨_, rfl, ?_⟩
      exact q2 _ (by decide) rfl
    · refine AW.tableIn (tgt := 79) dX11_count_1 (by decide) (by decide) rfl (by decide) ?_
      refine AW.aload_n dX11_count_79 rfl rfl ?_
      show AW muX11_count _ _ 80 _ _ _ _
      refine g11_0 dX11_count_80 wF_X11_10 (by first | assumption | rfl | (unfold is11; omega)) ?_
      refine g2_6 dX11_count_83 wF_X11_92 (by first | assumption | rfl | (unfold is2; omega)) ?_
      refine g4_2 dX11_count_86 wF_X11_125 (by first | assumption | exact is2.m (by assumption) | rfl | (unfold is4; omega) | exact is6.m (by assumption) (by omega)) ?_
      refine AW.aload_n dX11_count_89 rfl rfl ?_
      refine g11_0 dX11_count_90 wF_X11_10 (by first | assumption | rfl | (unfold is11; omega)) ?_
      refine g2_8 dX11_count_93 wF_X11_75 (by first | assumption | rfl | (unfold is2; omega)) ?_
      refine AW.top (hR.th) ?_
      show AW muX11_count _ _ 96 _ _ _ _
      refine cs_X11_count_96 (by decide) (by decide) (Nat.le_of_ble_eq_true rfl) (s_X11_sum (is4.a3 (is2.m i2_1)) h8 (by decide) (fun i hi => hR.m.lf hi) ?_)
      refine AW.iret dX11_count_99 ⟨_, rfl, rfl⟩ (Nat.zero_le _) (Nat.zero_le _) ⟨_, rfl, ?_⟩
      exact q2 _ (by decide) rfl
    · refine AW.tableIn (tgt := 100) dX11_count_1 (by decide) (by decide) rfl (by decide) ?_
      refine AW.aload_n dX11_count_100 rfl rfl ?_
      refine g11_0 dX11_count_101 wF_X11_10 (by first | assumption | rfl | (unfold is11; omega)) ?_
      refine cs_X11_count_104 (by first | exact k0_1) (by decide) (by decide) (Nat.le_of_ble_eq_true rfl) (s_X2_loudOfAll i2_1 hR hV ?_)
      refine AW.iret dX11_count_107 ⟨_, rfl, rfl⟩ (Nat.zero_le _) (Nat.zero_le _) ⟨_, rfl, ?_⟩
      exact q2 _ (by decide) rfl
    · refine AW.tableIn (tgt := 108) dX11_count_1 (by decide) (by decide) rfl (by decide) ?_
      refine AW.aload_n dX11_count_108 rfl rfl ?_
      refine g11_0 dX11_count_109 wF_X11_10 (by first | assumption | rfl | (unfold is11; omega)) ?_
      show AW muX11_count _ _ 112 _ _ _ _
      refine cs_X11_count_112 (by first | exact k0_1) (by decide) (by decide) (Nat.le_of_ble_eq_true rfl) (s_X2_silentThings i2_1 hR hV ?_)
      refine AW.iret dX11_count_115 ⟨_, rfl, rfl⟩ (Nat.zero_le _) (Nat.zero_le _) ⟨_, rfl, ?_⟩
      exact q2 _ (by decide) rfl
    · refine AW.tableIn (tgt := 116) dX11_count_1 (by decide) (by decide) rfl (by decide) ?_
      refine AW.aload_n dX11_count_116 rfl rfl ?_
      refine g11_0 dX11_count_117 wF_X11_10 (by first | assumption | rfl | (unfold is11; omega)) ?_
      refine g2_6 dX11_count_120 wF_X11_92 (by first | assumption | rfl | (unfold is2; omega)) ?_
      refine g4_3 dX11_count_123 wF_X11_96 (by first | assumption | exact is2.m (by assumption) | rfl | (unfold is4; omega) | exact is6.m (by assumption) (by omega)) ?_
      refine AW.aload_n dX11_count_126 rfl rfl ?_
      show AW muX11_count _ _ 127 _ _ _ _
      refine g11_0 dX11_count_127 wF_X11_10 (by first | assumption | rfl | (unfold is11; omega)) ?_
      refine g2_7 dX11_count_130 wF_X11_61 (by first | assumption | rfl | (unfold is2; omega)) ?_
      refine AW.top (hR.sl) ?_
      refine cs_X11_count_133 (by decide) (by decide) (Nat.le_of_ble_eq_true rfl) (s_X11_sum (is4.a4 (is2.m i2_1)) h5 (by decide) (fun i hi => hR.m.sp hi) ?_)
      refine AW.iret dX11_count_136 ⟨_, rfl, rfl⟩ (Nat.zero_le _) (Nat.zero_le _) ⟨_, rfl, ?_⟩
      exact q2 _ (by decide) rfl
    · refine AW.tableIn (tgt := 137) dX11_count_1 (by decide) (by decide) rfl (by decide) ?_
      refine AW.aload_n dX11_count_137 rfl rfl ?_
      refine g11_0 dX11_count_138 wF_X11_10 (by first | assumption | rfl | (unfold is11; omega)) ?_
      refine g2_6 dX11_count_141 wF_X11_92 (by first | assumption | rfl | (unfold is2; omega)) ?_
      show AW muX11_count _ _ 144 _ _ _ _
      refine g4_4 dX11_count_144 wF_X11_101 (by first | assumption | exact is2.m (by assumption) | rfl | (unfold is4; omega) | exact is6.m (by assumption) (by omega)) ?_
      refine AW.aload_n dX11_count_147 rfl rfl ?_
      refine g11_0 dX11_count_148 wF_X11_10 (by first | assumption | rfl | (unfold is11; omega)) ?_
      refine g2_7 dX11_count_151 wF_X11_61 (by first | assumption | rfl | (unfold is2; omega)) ?_
      refine AW.top (hR.sl) ?_
      refine cs_X11_count_154 (by decide) (by decide) (Nat.le_of_ble_eq_true rfl) (s_X11_sum (is4.a5 (is2.m i2_1)) h5 (by decide) (fun i hi => hR.m.wk hi) ?_)
      refine AW.iret dX11_count_157 ⟨_, rfl, rfl⟩ (Nat.zero_le _) (Nat.zero_le _) ⟨_, rfl, ?_⟩
      exact q2 _ (by decide) rfl
    · refine AW.tableIn (tgt := 158) dX11_count_1 (by decide) (by decide) rfl (by decide) ?_
      refine AW.aload_n dX11_count_158 rfl rfl ?_
      show AW muX11_count _ _ 159 _ _ _ _
      refine g11_1 dX11_count_159 wF_X11_19 (by first | assumption | rfl | (unfold is11; omega)) ?_
      refine g6_2 dX11_count_162 wF_X11_182 (by first | assumption | rfl | (unfold is6; omega)) ?_
      refine AW.top (hP.1) ?_
      refine AW.iret dX11_count_165 ⟨_, rfl, rfl⟩ (Nat.zero_le _) (Nat.zero_le _) ⟨_, rfl, ?_⟩
      exact q2 _ (by decide) rfl
  · refine AW.tableOut (tgt := 166) dX11_count_1 (out_of hw (by decide)) (by decide) ?_
    refine AW.iconst (v := (-1)) dX11_count_166 (by decide) ?_
    refine AW.iret dX11_count_167 ⟨_, rfl, rfl⟩ (Nat.zero_le _) (Nat.zero_le _) ⟨_, rfl, ?_⟩
    exact q1 hw
theorem c_nights {x : Int32} (hV : NV N) (h9 : N 0 ≤ 9999) (hR : HR I 1 N) (hP : PR I 19 N) (q1 : ¬ inR x 1 41 → Q (-1) (sk0, X, I, J)) (q2 : ∀ n, 1 ≤ n → n < 41 → x = nI n → 9999 < N 0 + n → Q (-3) (sk0, X, I, J)) (q3 : ∀ n, 1 ≤ n → n < 41 → x = nI n → N 0 + n ≤ 9999 → ∀ I', Fr I I' 1 68 → HR I' 1 (itN false N n) → PR I' 19 (itN false N n) → Q (nI (wkN false N n)) (sk0, X, I', J)) : AWi muX11_nights [.ref 0, .int x] (sk0, X, I, J) Q := by
  show AW muX11_nights 0 0 0 [.ref 0, .int x] [] _ _
  refine AW.aload_n dX11_nights_0 rfl rfl ?_
  refine AW.iload_n dX11_nights_1 rfl rfl ?_
  refine AW.iconst (v := nI 0) dX11_nights_2 (by decide) ?_
  refine cs_X11_nights_3 (by first | exact k0_0) (by decide) (by decide) (Nat.le_of_ble_eq_true rfl) (s_X11_spendNights false hV h9 hR hP (fun hn => ?_) (fun n h1 h2 h3 h4 => ?_) (fun n h1 h2 h3 h4 I1 f1 H1 P1 => ?_))
  refine AW.iret dX11_nights_6 ⟨_, rfl, rfl⟩ (Nat.zero_le _) (Nat.zero_le _) ⟨_, rfl, q1 hn⟩
  · exact AW.iret dX11_nights_6 ⟨_, rfl, rfl⟩ (Nat.zero_le _) (Nat.zero_le _) ⟨_, rfl, q2 n h1 h2 h3 h4⟩
  · exact AW.iret dX11_nights_6 ⟨_, rfl, rfl⟩ (Nat.zero_le _) (Nat.zero_le _) ⟨_, rfl, q3 n h1 h2 h3 h4 I1 f1 H1 P1⟩
theorem c_drift {x : Int32} (hV : NV N) (h9 : N 0 ≤ 9999) (hR : HR I 1 N) (hP : PR I 19 N) (q1 : ¬ inR x 1 41 → Q (-1) (sk0, X, I, J)) (q2 : ∀ n, 1 ≤ n → n < 41 → x = nI n → 9999 < N 0 + n → Q (-3) (sk0, X, I, J)) (q3 : ∀ n, 1 ≤ n → n < 41 → x = nI n → N 0 + n ≤ 9999 → ∀ I', Fr I I' 1 68 → HR I' 1 (itN true N n) → PR I' 19 (itN true N n) → Q (nI (wkN true N n)) (sk0, X, I', J)) : AWi muX11_drift [.ref 0, .int x] (sk0, X, I, J) Q := by
  show AW muX11_drift 0 0 0 [.ref 0, .int x] [] _ _
  refine AW.aload_n dX11_drift_0 rfl rfl ?_
  refine AW.iload_n dX11_drift_1 rfl rfl ?_
  refine AW.iconst (v := nI 1) dX11_drift_2 (by decide) ?_
  refine cs_X11_drift_3 (by first | exact k0_0) (by decide) (by decide) (Nat.le_of_ble_eq_true rfl) (s_X11_spendNights true hV h9 hR hP (fun hn => ?_) (fun n h1 h2 h3 h4 => ?_) (fun n h1 h2 h3 h4 I1 f1 H1 P1 => ?_))
  refine AW.iret dX11_drift_6 ⟨_, rfl, rfl⟩ (Nat.zero_le _) (Nat.zero_le _) ⟨_, rfl, q1 hn⟩
  · exact AW.iret dX11_drift_6 ⟨_, rfl, rfl⟩ (Nat.zero_le _) (Nat.zero_le _) ⟨_, rfl, q2 n h1 h2 h3 h4⟩
  · exact AW.iret dX11_drift_6 ⟨_, rfl, rfl⟩ (Nat.zero_le _) (Nat.zero_le _) ⟨_, rfl, q3 n h1 h2 h3 h4 I1 f1 H1 P1⟩
theorem c_move {x y : Int32} (hV : NV N) (hR : HR I 1 N) (hP : PR I 19 N) (q1 : ¬ (inR x 0 (N 47) ∧ inR y 0 4) → Q (-1) (sk0, X, I, J)) (q2 : ∀ t r, t < N 47 → r < 4 → x = nI t → y = nI r → N (2 + t) = r → Q (-2) (sk0, X, I, J)) (q3 : ∀ t r, t < N 47 → r < 4 → x = nI t → y = nI r → N (2 + t) ≠ r → ∀ I', Fr I I' 1 68 → HR I' 1 (upN (noteN N) (2 + t) r) → PR I' 19 (upN (noteN N) (2 + t) r) → Q (nI (N (2 + t))) (sk0, X, I', J)) : AWi muX11_move [.ref 0, .int x, .int y] (sk0, X, I, J) Q := by
  have h5 := hV.s5
  have h8 := hV.t8
  have n36 : noteN N 36 = N 36 := noteN_low (by omega)
  have n47 : noteN N 47 = N 47 := noteN_low (by omega)
  show AW muX11_move 0 0 0 [.ref 0, .int x, .int y, .null] [] _ _
  refine AW.aload_n dX11_move_0 rfl rfl ?_
  refine g11_0 dX11_move_1 wF_X11_10 (by first | assumption | rfl | (unfold is11; omega)) ?_
  refine AW.iload_n dX11_move_4 rfl rfl ?_
  refine cs_X11_move_5 (by first | exact k0_1 | exact k0_19 | exact is4.a1 (is2.m i2_1)) (by decide) (by decide) (Nat.le_of_ble_eq_true rfl) (s_X2_hasThing i2_1 hR.th (by omega) (fun t ht ex => ?_) (fun hn => ?_))
  · refine AW.ifeq1 (tgt := 18) dX11_move_8 (by decide) ?_
    refine AW.iload_n dX11_move_11 rfl rfl ?_
    refine cs_X11_move_12 (by decide) (by decide) (Nat.le_of_ble_eq_true rfl) (s_X11_isRoom (fun r hr ey => ?_) (fun hn => ?_))
    · refine AW.ifne1 (tgt := 20) dX11_move_15 (by decide) ?_
      subst ex; subst ey
      have hpl := hV.pl ht
      refine AW.aload_n dX11_move_20 rfl rfl ?_
      refine g11_0 dX11_move_21 wF_X11_10 (by first | assumption | rfl | (unfold is11; omega)) ?_
      show AW muX11_move _ _ 24 _ _ _ _
      refine g2_6 dX11_move_24 wF_X11_92 (by first | assumption | rfl | (unfold is2; omega)) ?_
      refine g4_0 dX11_move_27 wF_X11_122 (by first | assumption | exact is2.m (by assumption) | rfl | (unfold is4; omega) | exact is6.m (by assumption) (by omega)) ?_
      refine AW.iload_n dX11_move_30 rfl rfl ?_
      refine AW.iald dX11_move_31 (by first | exact k0_1 | exact k0_19 | exact is4.a1 (is2.m i2_1)) _ (by first | rfl | assumption) (by omega) (by first | decide | omega) ?_
      refine AW.top (hR.m.pl ht) ?_
      refine AW.istore_n dX11_move_32 rfl (by decide) rfl rfl ?_
      refine AW.iload_n dX11_move_33 rfl rfl ?_
      show AW muX11_move _ _ 34 _ _ _ _
      refine AW.iload_n dX11_move_34 rfl rfl ?_
      first | refine AW.icmp_neN (tgt := 41) dX11_move_35 (by decide) (by omega) (by omega) (fun c35 => ?_) (fun c35 => ?_) | refine AW.icmp_ne (tgt := 41) dX11_move_35 (by decide) (fun c35 => ?_) (fun c35 => ?_)
      · refine AW.aload_n dX11_move_41 rfl rfl ?_
        refine g11_1 dX11_move_42 wF_X11_19 (by first | assumption | rfl | (unfold is11; omega)) ?_
        refine AW.aload_n dX11_move_45 rfl rfl ?_
        refine g11_0 dX11_move_46 wF_X11_10 (by first | assumption | rfl | (unfold is11; omega)) ?_
        refine g2_6 dX11_move_49 wF_X11_92 (by first | assumption | rfl | (unfold is2; omega)) ?_
        show AW muX11_move _ _ 52 _ _ _ _
        refine cs_X11_move_52 (by first | exact k0_1 | exact k0_19 | exact is4.a1 (is2.m i2_1)) (by decide) (by decide) (Nat.le_of_ble_eq_true rfl) (s_X6_keep i6_19 (is2.m i2_1) (by omega) hP hR.m h5 h8 (fun I1 f1 P1 => ?_))
        refine AW.aload_n dX11_move_55 rfl rfl ?_
        refine g11_0 dX11_move_56 wF_X11_10 (by first | assumption | rfl | (unfold is11; omega)) ?_
        refine g2_6 dX11_move_59 wF_X11_92 (by first | assumption | rfl | (unfold is2; omega)) ?_
        refine g4_0 dX11_move_62 wF_X11_122 (by first | assumption | exact is2.m (by assumption) | rfl | (unfold is4; omega) | exact is6.m (by assumption) (by omega)) ?_
        refine AW.iload_n dX11_move_65 rfl rfl ?_
        show AW muX11_move _ _ 66 _ _ _ _
        refine AW.iload_n dX11_move_66 rfl rfl ?_
        refine AW.iast dX11_move_67 (by first | exact k0_1 | exact k0_19 | exact is4.a1 (is2.m i2_1)) _ (by first | rfl | assumption) (by omega) (by first | decide | omega) ?_
        refine AW.iload_n dX11_move_68 rfl rfl ?_
        refine AW.iret dX11_move_69 ⟨_, rfl, rfl⟩ (Nat.zero_le _) (Nat.zero_le _) ⟨_, rfl, ?_⟩
        refine q3 t r ht hr rfl rfl c35 _ ((f1.w (by omega) (by omega)).up (by omega) (by omega)) ?_ ?_
        · exact HR.up ((hR.of (fun b b1 b2 b3 => f1 b (by omega))).eqN (fun k hk => noteN_low hk) h5 h8) (by rw [n36]; exact h5) (by rw [n47]; exact h8) (HT.pl (by rw [n47]; exact ht)) (by omega) (by omega)
        · exact (P1.of (fun b b1 b2 => sd_u_ne (by omega))).eqN (fun k hk => upN_ne (by omega)) (by rw [n36]; exact h5) (by rw [n47]; exact h8)
      · refine AW.bipush (v := (-2)) dX11_move_38 (by decide) ?_
        refine AW.iret dX11_move_40 ⟨_, rfl, rfl⟩ (Nat.zero_le _) (Nat.zero_le _) ⟨_, rfl, ?_⟩
        exact q2 t r ht hr rfl rfl c35
    · refine AW.ifne0 (tgt := 20) dX11_move_15 (by decide) ?_
      refine AW.iconst (v := (-1)) dX11_move_18 (by decide) ?_
      refine AW.iret dX11_move_19 ⟨_, rfl, rfl⟩ (Nat.zero_le _) (Nat.zero_le _) ⟨_, rfl, ?_⟩
      first | exact q1 (fun h => hn h.1) | exact q1 (fun h => hn h.2)
  · refine AW.ifeq0 (tgt := 18) dX11_move_8 (by decide) ?_
    refine AW.iconst (v := (-1)) dX11_move_18 (by decide) ?_
    show AW muX11_move _ _ 19 _ _ _ _
    refine AW.iret dX11_move_19 ⟨_, rfl, rfl⟩ (Nat.zero_le _) (Nat.zero_le _) ⟨_, rfl, ?_⟩
    first | exact q1 (fun h => hn h.1) | exact q1 (fun h => hn h.2)
theorem c_pass {x y : Int32} (hV : NV N) (hR : HR I 1 N) (hP : PR I 19 N) (q1 : ¬ (inR x 0 (N 47) ∧ inR y 0 10) → Q (-1) (sk0, X, I, J)) (q2 : ∀ t g, t < N 47 → g < 10 → x = nI t → y = nI g → N (10 + t) = g → Q (-2) (sk0, X, I, J)) (q3 : ∀ t g, t < N 47 → g < 10 → x = nI t → y = nI g → N (10 + t) ≠ g → ∀ I', Fr I I' 1 68 → HR I' 1 (upN (upN (noteN N) (10 + t) g) (18 + t) (min (10 * N (56 + t)) 99)) → PR I' 19 (upN (upN (noteN N) (10 + t) g) (18 + t) (min (10 * N (56 + t)) 99)) → Q (nI (N (18 + t))) (sk0, X, I', J)) : AWi muX11_pass [.ref 0, .int x, .int y] (sk0, X, I, J) Q := by
  have h5 := hV.s5
  have h8 := hV.t8
  have n36 : noteN N 36 = N 36 := noteN_low (by omega)
  have n47 : noteN N 47 = N 47 := noteN_low (by omega)
  show AW muX11_pass 0 0 0 [.ref 0, .int x, .int y, .null] [] _ _
  refine AW.aload_n dX11_pass_0 rfl rfl ?_
  refine g11_0 dX11_pass_1 wF_X11_10 (by first | assumption | rfl | (unfold is11; omega)) ?_
  refine AW.iload_n dX11_pass_4 rfl rfl ?_
  refine cs_X11_pass_5 (by first | exact k0_1 | exact k0_19 | exact is4.a2 (is2.m i2_1) | exact is4.a3 (is2.m i2_1) | exact is2.a10 i2_1) (by decide) (by decide) (Nat.le_of_ble_eq_true rfl) (s_X2_hasThing i2_1 hR.th (by omega) (fun t ht ex => ?_) (fun hn => ?_))
  · refine AW.ifeq1 (tgt := 18) dX11_pass_8 (by decide) ?_
    refine AW.iload_n dX11_pass_11 rfl rfl ?_
    refine cs_X11_pass_12 (by decide) (by decide) (Nat.le_of_ble_eq_true rfl) (s_X11_isGiver (fun g hg ey => ?_) (fun hn => ?_))
    · refine AW.ifne1 (tgt := 20) dX11_pass_15 (by decide) ?_
      subst ex; subst ey
      have hgv := hV.gv ht
      refine AW.aload_n dX11_pass_20 rfl rfl ?_
      refine g11_0 dX11_pass_21 wF_X11_10 (by first | assumption | rfl | (unfold is11; omega)) ?_
      show AW muX11_pass _ _ 24 _ _ _ _
      refine g2_6 dX11_pass_24 wF_X11_92 (by first | assumption | rfl | (unfold is2; omega)) ?_
      refine g4_1 dX11_pass_27 wF_X11_116 (by first | assumption | exact is2.m (by assumption) | rfl | (unfold is4; omega) | exact is6.m (by assumption) (by omega)) ?_
      refine AW.iload_n dX11_pass_30 rfl rfl ?_
      refine AW.iald dX11_pass_31 (by first | exact k0_1 | exact k0_19 | exact is4.a2 (is2.m i2_1) | exact is4.a3 (is2.m i2_1) | exact is2.a10 i2_1) _ (by first | rfl | assumption) (by omega) (by first | decide | omega) ?_
      refine AW.top (hR.m.gv ht) ?_
      refine AW.iload_n dX11_pass_32 rfl rfl ?_
      first | refine AW.icmp_neN (tgt := 39) dX11_pass_33 (by decide) (by omega) (by omega) (fun c33 => ?_) (fun c33 => ?_) | refine AW.icmp_ne (tgt := 39) dX11_pass_33 (by decide) (fun c33 => ?_) (fun c33 => ?_)
      · refine AW.aload_n dX11_pass_39 rfl rfl ?_
        show AW muX11_pass _ _ 40 _ _ _ _
        refine g11_1 dX11_pass_40 wF_X11_19 (by first | assumption | rfl | (unfold is11; omega)) ?_
        refine AW.aload_n dX11_pass_43 rfl rfl ?_
        refine g11_0 dX11_pass_44 wF_X11_10 (by first | assumption | rfl | (unfold is11; omega)) ?_
        refine g2_6 dX11_pass_47 wF_X11_92 (by first | assumption | rfl | (unfold is2; omega)) ?_
        refine cs_X11_pass_50 (by first | exact k0_1 | exact k0_19 | exact is4.a2 (is2.m i2_1) | exact is4.a3 (is2.m i2_1) | exact is2.a10 i2_1) (by decide) (by decide) (Nat.le_of_ble_eq_true rfl) (s_X6_keep i6_19 (is2.m i2_1) (by omega) hP hR.m h5 h8 (fun I1 f1 P1 => ?_))
        have hR1 := (hR.of (I' := I1) (fun b b1 b2 b3 => f1 b (by omega))).eqN (fun k hk => noteN_low hk) h5 h8
        refine AW.aload_n dX11_pass_53 rfl rfl ?_
        show AW muX11_pass _ _ 54 _ _ _ _
        refine g11_0 dX11_pass_54 wF_X11_10 (by first | assumption | rfl | (unfold is11; omega)) ?_
        refine g2_6 dX11_pass_57 wF_X11_92 (by first | assumption | rfl | (unfold is2; omega)) ?_
        refine g4_2 dX11_pass_60 wF_X11_125 (by first | assumption | exact is2.m (by assumption) | rfl | (unfold is4; omega) | exact is6.m (by assumption) (by omega)) ?_
        refine AW.iload_n dX11_pass_63 rfl rfl ?_
        refine AW.iald dX11_pass_64 (by first | exact k0_1 | exact k0_19 | exact is4.a2 (is2.m i2_1) | exact is4.a3 (is2.m i2_1) | exact is2.a10 i2_1) _ (by first | rfl | assumption) (by omega) (by first | decide | omega) ?_
        refine AW.top (show _ = nI (N (18 + t)) by rw [hR1.m.lf (by rw [n47]; exact ht), noteN_low (by omega)]) ?_
        refine AW.istore_n dX11_pass_65 rfl (by decide) rfl rfl ?_
        show AW muX11_pass _ _ 66 _ _ _ _
        refine AW.aload_n dX11_pass_66 rfl rfl ?_
        refine g11_0 dX11_pass_67 wF_X11_10 (by first | assumption | rfl | (unfold is11; omega)) ?_
        refine g2_6 dX11_pass_70 wF_X11_92 (by first | assumption | rfl | (unfold is2; omega)) ?_
        refine g4_1 dX11_pass_73 wF_X11_116 (by first | assumption | exact is2.m (by assumption) | rfl | (unfold is4; omega) | exact is6.m (by assumption) (by omega)) ?_
        refine AW.iload_n dX11_pass_76 rfl rfl ?_
        refine AW.iload_n dX11_pass_77 rfl rfl ?_
        show AW muX11_pass _ _ 78 _ _ _ _
        refine AW.iast dX11_pass_78 (by first | exact k0_1 | exact k0_19 | exact is4.a2 (is2.m i2_1) | exact is4.a3 (is2.m i2_1) | exact is2.a10 i2_1) _ (by first | rfl | assumption) (by omega) (by first | decide | omega) ?_
        refine AW.aload_n dX11_pass_79 rfl rfl ?_
        refine g11_0 dX11_pass_80 wF_X11_10 (by first | assumption | rfl | (unfold is11; omega)) ?_
        refine g2_6 dX11_pass_83 wF_X11_92 (by first | assumption | rfl | (unfold is2; omega)) ?_
        refine g4_2 dX11_pass_86 wF_X11_125 (by first | assumption | exact is2.m (by assumption) | rfl | (unfold is4; omega) | exact is6.m (by assumption) (by omega)) ?_
        refine AW.iload_n dX11_pass_89 rfl rfl ?_
        show AW muX11_pass _ _ 90 _ _ _ _
        refine AW.aload_n dX11_pass_90 rfl rfl ?_
        refine g11_0 dX11_pass_91 wF_X11_10 (by first | assumption | rfl | (unfold is11; omega)) ?_
        refine g2_4 dX11_pass_94 wF_X11_119 (by first | assumption | rfl | (unfold is2; omega)) ?_
        refine AW.iload_n dX11_pass_97 rfl rfl ?_
        refine AW.iald dX11_pass_98 (by first | exact k0_1 | exact k0_19 | exact is4.a2 (is2.m i2_1) | exact is4.a3 (is2.m i2_1) | exact is2.a10 i2_1) _ (by first | rfl | assumption) (by omega) (by first | decide | omega) ?_
        refine AW.top (show _ = nI (N (56 + t)) by (repeat first | rw [ru_ne (by omega)] | rw [ru_j] | rw [ru_ij (by omega)] | rw [upN_ne (by omega)] | rw [upN_eq] | rw [rr_ne (by omega)] | rw [rr_eq] | rw [sb_cpy0 (by omega)]); rw [hR1.dr (by rw [n47]; exact ht), noteN_low (by omega)]) ?_
        refine cs_X11_pass_99 (by decide) (by decide) (Nat.le_of_ble_eq_true rfl) (s_X11_leftAtFirst (by have := hV.dr ht; omega) ?_)
        show AW muX11_pass _ _ 102 _ _ _ _
        refine AW.iast dX11_pass_102 (by first | exact k0_1 | exact k0_19 | exact is4.a2 (is2.m i2_1) | exact is4.a3 (is2.m i2_1) | exact is2.a10 i2_1) _ (by first | rfl | assumption) (by omega) (by first | decide | omega) ?_
        refine AW.iload_n dX11_pass_103 rfl rfl ?_
        refine AW.iret dX11_pass_104 ⟨_, rfl, rfl⟩ (Nat.zero_le _) (Nat.zero_le _) ⟨_, rfl, ?_⟩
        have hu36 : upN (noteN N) (10 + t) g 36 = N 36 := by rw [upN_ne (by omega), n36]
        have hu47 : upN (noteN N) (10 + t) g 47 = N 47 := by rw [upN_ne (by omega), n47]
        refine q3 t g ht hg rfl rfl c33 _ (((f1.w (by omega) (by omega)).up (by omega) (by omega)).up (by omega) (by omega)) ?_ ?_
        · exact HR.up (HR.up hR1 (by rw [n36]; exact h5) (by rw [n47]; exact h8) (HT.gv (by rw [n47]; exact ht)) (by omega) (by omega)) (by rw [hu36]; exact h5) (by rw [hu47]; exact h8) (HT.lf (by rw [hu47]; exact ht)) (by omega) (by omega)
        · exact (P1.of (fun b b1 b2 => by rw [sd_u_ne (by omega), sd_u_ne (by omega)])).eqN (fun k hk => by rw [upN_ne (by omega), upN_ne (by omega)]) (by rw [n36]; exact h5) (by rw [n47]; exact h8)
      · refine AW.bipush (v := (-2)) dX11_pass_36 (by decide) ?_
        refine AW.iret dX11_pass_38 ⟨_, rfl, rfl⟩ (Nat.zero_le _) (Nat.zero_le _) ⟨_, rfl, ?_⟩
        exact q2 t g ht hg rfl rfl c33
    · refine AW.ifne0 (tgt := 20) dX11_pass_15 (by decide) ?_
      refine AW.iconst (v := (-1)) dX11_pass_18 (by decide) ?_
      refine AW.iret dX11_pass_19 ⟨_, rfl, rfl⟩ (Nat.zero_le _) (Nat.zero_le _) ⟨_, rfl, ?_⟩
      first | exact q1 (fun h => hn h.1) | exact q1 (fun h => hn h.2)
  · refine AW.ifeq0 (tgt := 18) dX11_pass_8 (by decide) ?_
    refine AW.iconst (v := (-1)) dX11_pass_18 (by decide) ?_
    refine AW.iret dX11_pass_19 ⟨_, rfl, rfl⟩ (Nat.zero_le _) (Nat.zero_le _) ⟨_, rfl, ?_⟩
    first | exact q1 (fun h => hn h.1) | exact q1 (fun h => hn h.2)
theorem c_back {x : Int32} (hV : NV N) (hR : HR I 1 N) (hP : PR I 19 N) (q1 : ¬ inR x 0 (N 47) → Q (-1) (sk0, X, I, J)) (q2 : ∀ t, t < N 47 → x = nI t → N (18 + t) = 0 → Q (-2) (sk0, X, I, J)) (q3 : ∀ t, t < N 47 → x = nI t → N (18 + t) ≠ 0 → ∀ I', Fr I I' 1 68 → HR I' 1 (upN (noteN N) (18 + t) 0) → PR I' 19 (upN (noteN N) (18 + t) 0) → Q (nI (N (18 + t))) (sk0, X, I', J)) : AWi muX11_back [.ref 0, .int x] (sk0, X, I, J) Q := by
  have h5 := hV.s5
  have h8 := hV.t8
  have n36 : noteN N 36 = N 36 := noteN_low (by omega)
  have n47 : noteN N 47 = N 47 := noteN_low (by omega)
  show AW muX11_back 0 0 0 [.ref 0, .int x, .null] [] _ _
  refine AW.aload_n dX11_back_0 rfl rfl ?_
  refine g11_0 dX11_back_1 wF_X11_10 (by first | assumption | rfl | (unfold is11; omega)) ?_
  refine AW.iload_n dX11_back_4 rfl rfl ?_
  refine cs_X11_back_5 (by first | exact k0_1 | exact k0_19 | exact is4.a3 (is2.m i2_1)) (by decide) (by decide) (Nat.le_of_ble_eq_true rfl) (s_X2_hasThing i2_1 hR.th (by omega) (fun t ht ex => ?_) (fun hn => ?_))
  · refine AW.ifne1 (tgt := 13) dX11_back_8 (by decide) ?_
    subst ex
    have hlf := hV.lf ht
    refine AW.aload_n dX11_back_13 rfl rfl ?_
    refine g11_0 dX11_back_14 wF_X11_10 (by first | assumption | rfl | (unfold is11; omega)) ?_
    refine g2_6 dX11_back_17 wF_X11_92 (by first | assumption | rfl | (unfold is2; omega)) ?_
    show AW muX11_back _ _ 20 _ _ _ _
    refine g4_2 dX11_back_20 wF_X11_125 (by first | assumption | exact is2.m (by assumption) | rfl | (unfold is4; omega) | exact is6.m (by assumption) (by omega)) ?_
    refine AW.iload_n dX11_back_23 rfl rfl ?_
    refine AW.iald dX11_back_24 (by first | exact k0_1 | exact k0_19 | exact is4.a3 (is2.m i2_1)) _ (by first | rfl | assumption) (by omega) (by first | decide | omega) ?_
    refine AW.top (hR.m.lf ht) ?_
    refine AW.istore_n dX11_back_25 rfl (by decide) rfl rfl ?_
    refine AW.iload_n dX11_back_26 rfl rfl ?_
    first | refine AW.if_neN (tgt := 33) dX11_back_27 (by decide) (by omega) (fun c27 => ?_) (fun c27 => ?_) | refine AW.if_ne (tgt := 33) dX11_back_27 (by decide) (fun c27 => ?_) (fun c27 => ?_)
    · refine AW.aload_n dX11_back_33 rfl rfl ?_
      show AW muX11_back _ _ 34 _ _ _ _
      refine g11_1 dX11_back_34 wF_X11_19 (by first | assumption | rfl | (unfold is11; omega)) ?_
      refine AW.aload_n dX11_back_37 rfl rfl ?_
      refine g11_0 dX11_back_38 wF_X11_10 (by first | assumption | rfl | (unfold is11; omega)) ?_
      refine g2_6 dX11_back_41 wF_X11_92 (by first | assumption | rfl | (unfold is2; omega)) ?_
      refine cs_X11_back_44 (by first | exact k0_1 | exact k0_19 | exact is4.a3 (is2.m i2_1)) (by decide) (by decide) (Nat.le_of_ble_eq_true rfl) (s_X6_keep i6_19 (is2.m i2_1) (by omega) hP hR.m h5 h8 (fun I1 f1 P1 => ?_))
      refine AW.aload_n dX11_back_47 rfl rfl ?_
      show AW muX11_back _ _ 48 _ _ _ _
      refine g11_0 dX11_back_48 wF_X11_10 (by first | assumption | rfl | (unfold is11; omega)) ?_
      refine g2_6 dX11_back_51 wF_X11_92 (by first | assumption | rfl | (unfold is2; omega)) ?_
      refine g4_2 dX11_back_54 wF_X11_125 (by first | assumption | exact is2.m (by assumption) | rfl | (unfold is4; omega) | exact is6.m (by assumption) (by omega)) ?_
      refine AW.iload_n dX11_back_57 rfl rfl ?_
      refine AW.iconst (v := nI 0) dX11_back_58 (by decide) ?_
      refine AW.iast dX11_back_59 (by first | exact k0_1 | exact k0_19 | exact is4.a3 (is2.m i2_1)) _ (by first | rfl | assumption) (by omega) (by first | decide | omega) ?_
      show AW muX11_back _ _ 60 _ _ _ _
      refine AW.iload_n dX11_back_60 rfl rfl ?_
      refine AW.iret dX11_back_61 ⟨_, rfl, rfl⟩ (Nat.zero_le _) (Nat.zero_le _) ⟨_, rfl, ?_⟩
      refine q3 t ht rfl c27 _ ((f1.w (by omega) (by omega)).up (by omega) (by omega)) ?_ ?_
      · exact HR.up ((hR.of (fun b b1 b2 b3 => f1 b (by omega))).eqN (fun k hk => noteN_low hk) h5 h8) (by rw [n36]; exact h5) (by rw [n47]; exact h8) (HT.lf (by rw [n47]; exact ht)) (by omega) (by omega)
      · exact (P1.of (fun b b1 b2 => sd_u_ne (by omega))).eqN (fun k hk => upN_ne (by omega)) (by rw [n36]; exact h5) (by rw [n47]; exact h8)
    · refine AW.bipush (v := (-2)) dX11_back_30 (by decide) ?_
      refine AW.iret dX11_back_32 ⟨_, rfl, rfl⟩ (Nat.zero_le _) (Nat.zero_le _) ⟨_, rfl, ?_⟩
      exact q2 t ht rfl c27
  · refine AW.ifne0 (tgt := 13) dX11_back_8 (by decide) ?_
    refine AW.iconst (v := (-1)) dX11_back_11 (by decide) ?_
    refine AW.iret dX11_back_12 ⟨_, rfl, rfl⟩ (Nat.zero_le _) (Nat.zero_le _) ⟨_, rfl, ?_⟩
    exact q1 hn
theorem c_undo (hV : NV N) (hR : HR I 1 N) (hP : PR I 19 N) (q1 : N 64 = 0 → Q (-4) (sk0, X, I, J)) (q2 : N 64 ≠ 0 → ∀ I', Fr I I' 1 68 → HR I' 1 (undoN N) → PR I' 19 (undoN N) → Q (nI (N 64 - 1)) (sk0, X, I', J)) : AWi muX11_undo [.ref 0] (sk0, X, I, J) Q := by
  have h5 := hV.s5
  have h8 := hV.t8
  have h64 := hP.2.1
  show AW muX11_undo 0 0 0 [.ref 0] [] _ _
  refine AW.aload_n dX11_undo_0 rfl rfl ?_
  refine g11_1 dX11_undo_1 wF_X11_19 (by first | assumption | rfl | (unfold is11; omega)) ?_
  refine g6_2 dX11_undo_4 wF_X11_182 (by first | assumption | rfl | (unfold is6; omega)) ?_
  refine AW.top (hP.1) ?_
  first | refine AW.if_neN (tgt := 13) dX11_undo_7 (by decide) (by omega) (fun c7 => ?_) (fun c7 => ?_) | refine AW.if_ne (tgt := 13) dX11_undo_7 (by decide) (fun c7 => ?_) (fun c7 => ?_)
  · refine AW.aload_n dX11_undo_13 rfl rfl ?_
    refine g11_1 dX11_undo_14 wF_X11_19 (by first | assumption | rfl | (unfold is11; omega)) ?_
    refine AW.aload_n dX11_undo_17 rfl rfl ?_
    show AW muX11_undo _ _ 18 _ _ _ _
    refine g11_0 dX11_undo_18 wF_X11_10 (by first | assumption | rfl | (unfold is11; omega)) ?_
    refine g2_6 dX11_undo_21 wF_X11_92 (by first | assumption | rfl | (unfold is2; omega)) ?_
    refine cs_X11_undo_24 (by first | exact k0_19) (by decide) (by decide) (Nat.le_of_ble_eq_true rfl) (s_X6_bringBack i6_19 (is2.m i2_1) (by omega) hP c7 h5 h8 (fun I1 f1 P1 M1 => ?_))
    have hu : undoN N 64 = N 64 - 1 := by unfold undoN; rw [if_neg (by omega), if_pos rfl]
    have hu36 : undoN N 36 = N 36 := by unfold undoN; rw [if_neg (by omega), if_neg (by omega)]
    have hu47 : undoN N 47 = N 47 := by unfold undoN; rw [if_neg (by omega), if_neg (by omega)]
    refine AW.aload_n dX11_undo_27 rfl rfl ?_
    refine g11_1 dX11_undo_28 wF_X11_19 (by first | assumption | rfl | (unfold is11; omega)) ?_
    refine g6_2 dX11_undo_31 wF_X11_182 (by first | assumption | rfl | (unfold is6; omega)) ?_
    refine AW.top (P1.1.trans (by rw [hu])) ?_
    show AW muX11_undo _ _ 34 _ _ _ _
    refine AW.iret dX11_undo_34 ⟨_, rfl, rfl⟩ (Nat.zero_le _) (Nat.zero_le _) ⟨_, rfl, ?_⟩
    refine q2 c7 I1 (fun c hc => f1 c (by omega) (by omega)) ⟨?_, ?_, fun s hs => ?_, fun t ht => ?_, M1⟩ P1
    · rw [f1 1 (by omega) (by omega), hu36]; exact hR.sl
    · rw [f1 1 (by omega) (by omega), hu47]; exact hR.th
    · rw [hu36] at hs
      rw [f1 _ (by omega) (by omega), f1 _ (by omega) (by omega)]
      unfold undoN; rw [if_neg (by omega), if_neg (by omega), if_neg (by omega), if_neg (by omega)]
      exact hR.2.2.1 s hs
    · rw [hu47] at ht
      rw [f1 _ (by omega) (by omega), f1 _ (by omega) (by omega)]
      unfold undoN; rw [if_neg (by omega), if_neg (by omega), if_neg (by omega), if_neg (by omega)]
      exact hR.2.2.2.1 t ht
  · refine AW.bipush (v := (-4)) dX11_undo_10 (by decide) ?_
    refine AW.iret dX11_undo_12 ⟨_, rfl, rfl⟩ (Nat.zero_le _) (Nat.zero_le _) ⟨_, rfl, ?_⟩
    exact q1 c7
theorem c_seed {x : Int32} (hV : NV N) (hR : HR I 1 N) (q1 : x < 0 → Q (-1) (sk0, X, I, J)) (q2 : ∀ d, d < 2 ^ 31 → x = nI d → ∀ I', Fr I I' 1 18 → HR I' 1 (upN N 1 d) → Q (nI (N 1)) (sk0, X, I', J)) : AWi muX11_seed [.ref 0, .int x] (sk0, X, I, J) Q := by
  show AW muX11_seed 0 0 0 [.ref 0, .int x, .null] [] _ _
  refine AW.iload_n dX11_seed_0 rfl rfl ?_
  refine AW.if_ge (tgt := 6) dX11_seed_1 (by decide) (fun c1 => ?_) (fun c1 => ?_)
  · obtain ⟨d, hd, rfl⟩ := nI_of (x := x) (Int32.not_lt.mpr c1)
    refine AW.aload_n dX11_seed_6 rfl rfl ?_
    refine g11_0 dX11_seed_7 wF_X11_10 (by first | assumption | rfl | (unfold is11; omega)) ?_
    refine g2_6 dX11_seed_10 wF_X11_92 (by first | assumption | rfl | (unfold is2; omega)) ?_
    refine g4_6 dX11_seed_13 wF_X11_149 (by first | assumption | exact is2.m (by assumption) | rfl | (unfold is4; omega) | exact is6.m (by assumption) (by omega)) ?_
    refine AW.top (hR.m.dw) ?_
    refine AW.istore_n dX11_seed_16 rfl (by decide) rfl rfl ?_
    show AW muX11_seed _ _ 17 _ _ _ _
    refine AW.aload_n dX11_seed_17 rfl rfl ?_
    refine g11_0 dX11_seed_18 wF_X11_10 (by first | assumption | rfl | (unfold is11; omega)) ?_
    refine g2_6 dX11_seed_21 wF_X11_92 (by first | assumption | rfl | (unfold is2; omega)) ?_
    refine AW.iload_n dX11_seed_24 rfl rfl ?_
    refine p4_6 dX11_seed_25 wF_X11_149 (by first | assumption | exact is2.m (by assumption) | rfl | (unfold is4; omega) | exact is6.m (by assumption) (by omega)) ?_
    refine AW.iload_n dX11_seed_28 rfl rfl ?_
    show AW muX11_seed _ _ 29 _ _ _ _
    refine AW.iret dX11_seed_29 ⟨_, rfl, rfl⟩ (Nat.zero_le _) (Nat.zero_le _) ⟨_, rfl, ?_⟩
    exact q2 d hd rfl _ (Fr.u (by omega) (by omega)) (HR.up hR hV.s5 hV.t8 HT.dw (by omega) (by omega))
  · refine AW.iconst (v := (-1)) dX11_seed_4 (by decide) ?_
    refine AW.iret dX11_seed_5 ⟨_, rfl, rfl⟩ (Nat.zero_le _) (Nat.zero_le _) ⟨_, rfl, ?_⟩
    exact q1 (Int32.not_le.mp c1)
end Pub1
