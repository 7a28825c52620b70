-- the class's Reader: houses; type, house
section Reader3
variable {X : Nat × (Nat → Int32)} {I : sd_I} {J : sd_J} {f : Nat → Nat} {L p h : Nat}
theorem rdLS_v {f : Nat → Nat} {L : Nat} {R : Nat → (Nat → Nat) → Nat × Option (Nat → Nat)} {P : Nat → (Nat → Nat) → Prop} (hR : ∀ n p N N', P (n + 1) N → (R p N).2 = some N' → P n N') (hP : ∀ n N, P n N → P 0 N) : ∀ (n p : Nat) (N N' : Nat → Nat), P n N → (rdL f L R n p N).2 = some N' → P 0 N' := by
  intro n
  induction n with
  | zero => intro p N N' hp e; rw [rdL] at e; simp only [Option.some.injEq] at e; subst e; exact hp
  | succ n ih =>
    intro p N N' hp e
    rw [rdL] at e
    split at e
    · simp at e
    · rename_i N1 h1
      have h2 := hR n p N N1 hp h1
      split at e
      · simp only [Option.some.injEq] at e; subst e; exact hP _ _ h2
      · split at e
        · exact ih _ _ _ h2 e
        · simp only [Option.some.injEq] at e; subst e; exact hP _ _ h2
theorem rdLS_36 {p : Nat} {N N' : Nat → Nat} (h1 : N 36 = 0) (h2 : N 47 = 0) (e : (rdL f L (rdS f L) 5 p N).2 = some N') : N' 36 ≤ 5 ∧ N' 47 = 0 := by
  have h := rdLS_v (f := f) (L := L) (R := rdS f L) (P := fun n N => N 36 + n ≤ 5 ∧ N 47 = 0) (fun n p N N' hp hn => by
    obtain ⟨r, b, _, _, rfl⟩ := rdS_v hn
    exact ⟨by rw [addS_36]; omega, by rw [addS_47 (by omega)]; exact hp.2⟩) (fun n N hp => ⟨by omega, hp.2⟩) 5 p N N' ⟨by omega, h2⟩ e
  exact ⟨by have := h.1; omega, h.2⟩
theorem s_X8_readHouse {Q : Int32 → sd_S → Prop} {N : Nat → Nat} (hh : is2 h) (hR : HR I h N) (hN : N 36 = 0 ∧ N 47 = 0) (hV : TPV f L) (hT : TPC I f L) (q2 : ∀ I' N', (rdH f L N).2 = some N' → Fr I I' h 155 → TPC I' f L → I' 155 2 = nI (rdH f L N).1 → HR I' h N' → Q (nI 1) (sk0, X, I', J)) (q1 : ∀ I', (rdH f L N).2 = none → Fr I I' h 155 → TPC I' f L → I' 155 2 = nI (rdH f L N).1 → Q (nI 0) (sk0, X, I', J)) : AWi muX8_readHouse [.ref 155, .ref h] (sk0, X, I, J) Q := by
  have h80 := hV.1
  have hb : h ≤ 137 := by unfold is2 at hh; omega
  have hle := rdL_le (f := f) (fun p N => rdS_le (f := f) (p := p) (N := N)) 5 0 N (Nat.zero_le L)
  have hle2 := rdC_le (f := f) (c := 59) hle
  show AW muX8_readHouse 0 0 0 [.ref 155, .ref h] [] _ _
  refine AW.aload_n dX8_readHouse_0 rfl rfl ?_
  refine AW.iconst (v := nI 0) dX8_readHouse_1 (by decide) ?_
  refine p8_2 dX8_readHouse_2 wF_X8_19 (by first | assumption | rfl | (unfold is8; omega)) ?_
  refine AW.aload_n dX8_readHouse_5 rfl rfl ?_
  refine AW.aload_n dX8_readHouse_6 rfl rfl ?_
  refine cs_X8_readHouse_7 (by first | exact k0_155) (by decide) (by decide) (Nat.le_of_ble_eq_true rfl) (s_X8_readSleepers (p := 0) hh (hR.of (fun b hb1 hb2 _ => PL.u.1 b (by omega))) hN hV (hT.pl PL.u) PL.u.2.2 (Nat.zero_le _) (fun I1 N1 h1 f1 t1 p1 r1 => ?_) (fun I1 h1 f1 t1 p1 => ?_))
  · refine AW.ifne1 (tgt := 15) dX8_readHouse_10 (by decide) ?_
    have hN1 := rdLS_36 hN.1 hN.2 h1
    have g1 : Fr I I1 h 155 := (PL.u.1.w (by omega) (by omega)).tr f1
    refine AW.aload_n dX8_readHouse_15 rfl rfl ?_
    show AW muX8_readHouse _ _ 16 _ _ _ _
    refine AW.bipush (v := nI 59) dX8_readHouse_16 (by decide) ?_
    refine cs_X8_readHouse_18 (by first | exact k0_155) (by decide) (by decide) (Nat.le_of_ble_eq_true rfl) (s_X8_takes (c := 59) (by decide) hV t1 p1 hle (fun I2 e2 h2 => ?_) (fun I2 e2 h2 => ?_))
    · refine AW.ifeq1 (tgt := 34) dX8_readHouse_21 (by decide) ?_
      have hle3 := rdL_le (f := f) (fun p N => rdT_le (f := f) (p := p) (N := N)) 8 _ N1 hle2
      refine AW.aload_n dX8_readHouse_24 rfl rfl ?_
      refine AW.aload_n dX8_readHouse_25 rfl rfl ?_
      refine cs_X8_readHouse_26 (by first | exact k0_155) (by decide) (by decide) (Nat.le_of_ble_eq_true rfl) (s_X8_readThings hh (r1.of (fun b hb1 hb2 _ => e2.1 b (by omega))) ⟨hN1.2, hN1.1⟩ hV (t1.pl e2) e2.2.2 hle2 (fun I3 N3 h3 f3 t3 p3 r3 => ?_) (fun I3 h3 f3 t3 p3 => ?_))
      · obtain ⟨Iw, Nw, pw, hI, gw, tw, ww, rw', lw, ew⟩ : ∃ Iw Nw pw, Iw = I3 ∧ Fr I Iw h 155 ∧ TPC Iw f L ∧ Iw 155 2 = nI pw ∧ HR Iw h Nw ∧ pw ≤ L ∧ rdH f L N = rdE f L pw Nw := ⟨I3, N3, _, rfl, (g1.tr (e2.1.w (by omega) (by omega))).tr f3, t3, p3, r3, hle3, by unfold rdH; simp only [h1]; unfold rdH2; simp only [h2, h3]⟩
        refine AW.ifne1 (tgt := 34) dX8_readHouse_29 (by decide) ?_
        rw [← hI]
        have lw2 := skp_le (f := f) lw
        refine AW.aload_n dX8_readHouse_34 rfl rfl ?_
        refine cs_X8_readHouse_35 (by first | exact k0_155) (by decide) (by decide) (Nat.le_of_ble_eq_true rfl) (s_X8_skipBlanks hV tw ww lw (fun I4 e4 => ?_))
        have t4 := tw.pl e4
        have g4 : Fr I I4 h 155 := gw.tr (e4.1.w (by omega) (by omega))
        have r4 : HR I4 h Nw := rw'.of (fun b hb1 hb2 _ => e4.1 b (by omega))
        refine AW.aload_n dX8_readHouse_38 rfl rfl ?_
        show AW muX8_readHouse _ _ 39 _ _ _ _
        refine g8_2 dX8_readHouse_39 wF_X8_19 (by first | assumption | rfl | (unfold is8; omega)) ?_
        first | refine AW.top (by first | exact e4.2.2 | exact t4.1) ?_ | skip
        refine AW.aload_n dX8_readHouse_42 rfl rfl ?_
        refine g8_1 dX8_readHouse_43 wF_X8_15 (by first | assumption | rfl | (unfold is8; omega)) ?_
        first | refine AW.top (by first | exact e4.2.2 | exact t4.1) ?_ | skip
        first | refine AW.icmp_neN (tgt := 53) dX8_readHouse_46 (by decide) (by omega) (by omega) (fun c46 => ?_) (fun c46 => ?_) | refine AW.icmp_ne (tgt := 53) dX8_readHouse_46 (by decide) (fun c46 => ?_) (fun c46 => ?_)
        · refine AW.iconst (v := nI 0) dX8_readHouse_53 (by decide) ?_
          refine AW.iret dX8_readHouse_54 ⟨_, rfl, by decide⟩ (Nat.zero_le _) (Nat.zero_le _) ⟨_, rfl, ?_⟩
          exact q1 I4 (by rw [ew]; unfold rdE; simp only [c46, if_false]) g4 t4 (by rw [ew]; exact e4.2.2)
        · refine AW.iconst (v := nI 1) dX8_readHouse_49 (by decide) ?_
          refine AW.goto (tgt := 54) dX8_readHouse_50 (by decide) ?_
          refine AW.iret dX8_readHouse_54 ⟨_, rfl, by decide⟩ (Nat.zero_le _) (Nat.zero_le _) ⟨_, rfl, ?_⟩
          exact q2 I4 Nw (by rw [ew]; unfold rdE; simp only [c46, if_true]) g4 t4 (by rw [ew]; exact e4.2.2) r4
      · refine AW.ifne0 (tgt := 34) dX8_readHouse_29 (by decide) ?_
        refine AW.iconst (v := nI 0) dX8_readHouse_32 (by decide) ?_
        show AW muX8_readHouse _ _ 33 _ _ _ _
        refine AW.iret dX8_readHouse_33 ⟨_, rfl, by decide⟩ (Nat.zero_le _) (Nat.zero_le _) ⟨_, rfl, ?_⟩
        exact q1 I3 (by unfold rdH; simp only [h1]; unfold rdH2; simp only [h2, h3]) ((g1.tr (e2.1.w (by omega) (by omega))).tr f3) t3 (by unfold rdH; simp only [h1]; unfold rdH2; simp only [h2, h3]; exact p3)
    · obtain ⟨Iw, Nw, pw, hI, gw, tw, ww, rw', lw, ew⟩ : ∃ Iw Nw pw, Iw = I2 ∧ Fr I Iw h 155 ∧ TPC Iw f L ∧ Iw 155 2 = nI pw ∧ HR Iw h Nw ∧ pw ≤ L ∧ rdH f L N = rdE f L pw Nw := ⟨I2, N1, _, rfl, g1.tr (e2.1.w (by omega) (by omega)), t1.pl e2, e2.2.2, r1.of (fun b hb1 hb2 _ => e2.1 b (by omega)), hle2, by unfold rdH; simp only [h1]; unfold rdH2; simp only [h2]⟩
      refine AW.ifeq0 (tgt := 34) dX8_readHouse_21 (by decide) ?_
      rw [← hI]
      have lw2 := skp_le (f := f) lw
      refine AW.aload_n dX8_readHouse_34 rfl rfl ?_
      refine cs_X8_readHouse_35 (by first | exact k0_155) (by decide) (by decide) (Nat.le_of_ble_eq_true rfl) (s_X8_skipBlanks hV tw ww lw (fun I4 e4 => ?_))
      have t4 := tw.pl e4
      have g4 : Fr I I4 h 155 := gw.tr (e4.1.w (by omega) (by omega))
      have r4 : HR I4 h Nw := rw'.of (fun b hb1 hb2 _ => e4.1 b (by omega))
      refine AW.aload_n dX8_readHouse_38 rfl rfl ?_
      refine g8_2 dX8_readHouse_39 wF_X8_19 (by first | assumption | rfl | (unfold is8; omega)) ?_
      first | refine AW.top (by first | exact e4.2.2 | exact t4.1) ?_ | skip
      refine AW.aload_n dX8_readHouse_42 rfl rfl ?_
      refine g8_1 dX8_readHouse_43 wF_X8_15 (by first | assumption | rfl | (unfold is8; omega)) ?_
      first | refine AW.top (by first | exact e4.2.2 | exact t4.1) ?_ | skip
      show AW muX8_readHouse _ _ 46 _ _ _ _
      first | refine AW.icmp_neN (tgt := 53) dX8_readHouse_46 (by decide) (by omega) (by omega) (fun c46 => ?_) (fun c46 => ?_) | refine AW.icmp_ne (tgt := 53) dX8_readHouse_46 (by decide) (fun c46 => ?_) (fun c46 => ?_)
      · refine AW.iconst (v := nI 0) dX8_readHouse_53 (by decide) ?_
        refine AW.iret dX8_readHouse_54 ⟨_, rfl, by decide⟩ (Nat.zero_le _) (Nat.zero_le _) ⟨_, rfl, ?_⟩
        exact q1 I4 (by rw [ew]; unfold rdE; simp only [c46, if_false]) g4 t4 (by rw [ew]; exact e4.2.2)
      · refine AW.iconst (v := nI 1) dX8_readHouse_49 (by decide) ?_
        refine AW.goto (tgt := 54) dX8_readHouse_50 (by decide) ?_
        refine AW.iret dX8_readHouse_54 ⟨_, rfl, by decide⟩ (Nat.zero_le _) (Nat.zero_le _) ⟨_, rfl, ?_⟩
        exact q2 I4 Nw (by rw [ew]; unfold rdE; simp only [c46, if_true]) g4 t4 (by rw [ew]; exact e4.2.2) r4
  · refine AW.ifne0 (tgt := 15) dX8_readHouse_10 (by decide) ?_
    refine AW.iconst (v := nI 0) dX8_readHouse_13 (by decide) ?_
    refine AW.iret dX8_readHouse_14 ⟨_, rfl, by decide⟩ (Nat.zero_le _) (Nat.zero_le _) ⟨_, rfl, ?_⟩
    exact q1 I1 (by unfold rdH; simp only [h1]) ((PL.u.1.w (by omega) (by omega)).tr f1) t1 (by unfold rdH; simp only [h1]; exact p1)
theorem i2c_small {c : Nat} (hc : c ≤ 126) : ((nI c).toUInt32 % 65536).toInt32 = nI c := by
  have key : ∀ v : Fin 127, ((nI v.val).toUInt32 % 65536).toInt32 = nI v.val := by decide +kernel
  exact key ⟨c, by omega⟩
theorem nar_small {c : Nat} (hc : c ≤ 126) : narrow .char (.int (nI c)) = .int (nI c) := by
  have key : ∀ v : Fin 127, narrow .char (.int (nI v.val)) = .int (nI v.val) := by decide +kernel
  exact key ⟨c, by omega⟩
theorem s_X8_addLetter {Q : sd_S → Prop} {c : Nat} (hc : c ≤ 126) (hL : I 155 1 = nI L) (h80 : L < 80) (hQ : ∀ I', Fr I I' 155 156 → I' 155 1 = nI (L + 1) → I' 156 L = nI c → (∀ k, k ≠ L → I' 156 k = I 156 k) → Q (sk0, X, I', J)) : AWv muX8_addLetter [.ref 155, .int (nI c)] (sk0, X, I, J) Q := by
  show AW muX8_addLetter 0 0 0 [.ref 155, .int (nI c)] [] _ _
  refine AW.aload_n dX8_addLetter_0 rfl rfl ?_
  refine g8_1 dX8_addLetter_1 wF_X8_15 (by first | assumption | rfl | (unfold is8; omega)) ?_
  first | refine AW.top (by first | exact hL | (show _ = nI L; (repeat first | rw [ru_ne (by omega)] | rw [ru_j] | rw [ru_ij (by omega)] | rw [upN_ne (by omega)] | rw [upN_eq] | rw [rr_ne (by omega)] | rw [rr_eq] | rw [sb_cpy0 (by omega)]); exact hL)) ?_ | skip
  refine AW.bipush (v := nI 80) dX8_addLetter_4 (by decide) ?_
  first | refine AW.icmp_geN (tgt := 29) dX8_addLetter_6 (by decide) (by omega) (by omega) (fun c6 => ?_) (fun c6 => ?_) | refine AW.icmp_ge (tgt := 29) dX8_addLetter_6 (by decide) (fun c6 => ?_) (fun c6 => ?_)
  · first | omega | exact AW.ret dX8_addLetter_29 rfl (Nat.zero_le _) (Nat.zero_le _) ⟨rfl, hQ _ ((Fr.u (by omega) (by omega)).up (by omega) (by omega)) (by (repeat first | rw [ru_ne (by omega)] | rw [ru_j] | rw [ru_ij (by omega)] | rw [upN_ne (by omega)] | rw [upN_eq] | rw [rr_ne (by omega)] | rw [rr_eq] | rw [sb_cpy0 (by omega)])) (by (repeat first | rw [ru_ne (by omega)] | rw [ru_j] | rw [ru_ij (by omega)] | rw [upN_ne (by omega)] | rw [upN_eq] | rw [rr_ne (by omega)] | rw [rr_eq] | rw [sb_cpy0 (by omega)])) (fun k hk => by (repeat first | rw [ru_ne (by omega)] | rw [ru_j] | rw [ru_ij (by omega)] | rw [upN_ne (by omega)] | rw [upN_eq] | rw [rr_ne (by omega)] | rw [rr_eq] | rw [sb_cpy0 (by omega)]))⟩
  · refine AW.aload_n dX8_addLetter_9 rfl rfl ?_
    refine g8_0 dX8_addLetter_10 wF_X8_9 (by first | assumption | rfl | (unfold is8; omega)) ?_
    refine AW.aload_n dX8_addLetter_13 rfl rfl ?_
    show AW muX8_addLetter _ _ 14 _ _ _ _
    refine g8_1 dX8_addLetter_14 wF_X8_15 (by first | assumption | rfl | (unfold is8; omega)) ?_
    first | refine AW.top (by first | exact hL | (show _ = nI L; (repeat first | rw [ru_ne (by omega)] | rw [ru_j] | rw [ru_ij (by omega)] | rw [upN_ne (by omega)] | rw [upN_eq] | rw [rr_ne (by omega)] | rw [rr_eq] | rw [sb_cpy0 (by omega)]); exact hL)) ?_ | skip
    refine AW.iload_n dX8_addLetter_17 rfl rfl ?_
    refine AW.cast dX8_addLetter_18 k0_156 L rfl h80 (by decide) (nar_small hc) ?_
    refine AW.aload_n dX8_addLetter_19 rfl rfl ?_
    refine AW.dup dX8_addLetter_20 rfl ?_
    refine g8_1 dX8_addLetter_21 wF_X8_15 (by first | assumption | rfl | (unfold is8; omega)) ?_
    first | refine AW.top (by first | exact hL | (show _ = nI L; (repeat first | rw [ru_ne (by omega)] | rw [ru_j] | rw [ru_ij (by omega)] | rw [upN_ne (by omega)] | rw [upN_eq] | rw [rr_ne (by omega)] | rw [rr_eq] | rw [sb_cpy0 (by omega)]); exact hL)) ?_ | skip
    show AW muX8_addLetter _ _ 24 _ _ _ _
    refine AW.iconst (v := nI 1) dX8_addLetter_24 (by decide) ?_
    first | refine AW.iaddN dX8_addLetter_25 ?_ | refine AW.iadd dX8_addLetter_25 ?_
    refine p8_1 dX8_addLetter_26 wF_X8_15 (by first | assumption | rfl | (unfold is8; omega)) ?_
    first | omega | exact AW.ret dX8_addLetter_29 rfl (Nat.zero_le _) (Nat.zero_le _) ⟨rfl, hQ _ ((Fr.u (by omega) (by omega)).up (by omega) (by omega)) (by (repeat first | rw [ru_ne (by omega)] | rw [ru_j] | rw [ru_ij (by omega)] | rw [upN_ne (by omega)] | rw [upN_eq] | rw [rr_ne (by omega)] | rw [rr_eq] | rw [sb_cpy0 (by omega)])) (by (repeat first | rw [ru_ne (by omega)] | rw [ru_j] | rw [ru_ij (by omega)] | rw [upN_ne (by omega)] | rw [upN_eq] | rw [rr_ne (by omega)] | rw [rr_eq] | rw [sb_cpy0 (by omega)])) (fun k hk => by (repeat first | rw [ru_ne (by omega)] | rw [ru_j] | rw [ru_ij (by omega)] | rw [upN_ne (by omega)] | rw [upN_eq] | rw [rr_ne (by omega)] | rw [rr_eq] | rw [sb_cpy0 (by omega)]))⟩
theorem s_X8_clear {Q : sd_S → Prop} (hQ : Q (sk0, X, sd_u I 155 1 (nI 0), J)) : AWv muX8_clear [.ref 155] (sk0, X, I, J) Q := by
  show AW muX8_clear 0 0 0 [.ref 155] [] _ _
  refine AW.aload_n dX8_clear_0 rfl rfl ?_
  refine AW.iconst (v := nI 0) dX8_clear_1 (by decide) ?_
  refine p8_1 dX8_clear_2 wF_X8_15 (by first | assumption | rfl | (unfold is8; omega)) ?_
  refine AW.ret dX8_clear_5 rfl (Nat.zero_le _) (Nat.zero_le _) ⟨rfl, ?_⟩
  exact hQ
theorem c_type {Q : Int32 → sd_S → Prop} {x : Int32} (hV : TPV f L) (hT : TPC I f L) (q1 : ¬ inR x 32 127 → Q (-1) (sk0, X, I, J)) (q2 : inR x 32 127 → L = 80 → Q (-3) (sk0, X, I, J)) (q3 : ∀ c, 32 ≤ c → c < 127 → x = nI c → L < 80 → ∀ I', Fr I I' 155 156 → TPC I' (upN f L c) (L + 1) → Q (nI (L + 1)) (sk0, X, I', J)) : AWi muX11_type [.ref 0, .int x] (sk0, X, I, J) Q := by
  have h80 := hV.1
  show AW muX11_type 0 0 0 [.ref 0, .int x] [] _ _
  refine AW.iload_n dX11_type_0 rfl rfl ?_
  refine AW.bipush (v := nI 32) dX11_type_1 (by decide) ?_
  refine AW.bipush (v := nI 126) dX11_type_3 (by decide) ?_
  refine cs_X11_type_5 (by decide) (by decide) (Nat.le_of_ble_eq_true rfl) (s_X11_within (lo := 32) (hi := 127) (by decide) (by decide) (by decide) (fun c hc1 hc2 ec => ?_) (fun hn => ?_))
  · refine AW.ifne1 (tgt := 13) dX11_type_8 (by decide) ?_
    subst ec
    refine AW.aload_n dX11_type_13 rfl rfl ?_
    refine g11_6 dX11_type_14 wF_X11_35 (by first | assumption | rfl | (unfold is11; omega)) ?_
    refine g8_1 dX11_type_17 wF_X11_142 (by first | assumption | rfl | (unfold is8; omega)) ?_
    refine AW.top (hT.1) ?_
    show AW muX11_type _ _ 20 _ _ _ _
    refine AW.bipush (v := nI 80) dX11_type_20 (by decide) ?_
    first | refine AW.icmp_ltN (tgt := 28) dX11_type_22 (by decide) (by omega) (by omega) (fun c22 => ?_) (fun c22 => ?_) | refine AW.icmp_lt (tgt := 28) dX11_type_22 (by decide) (fun c22 => ?_) (fun c22 => ?_)
    · refine AW.aload_n dX11_type_28 rfl rfl ?_
      refine g11_6 dX11_type_29 wF_X11_35 (by first | assumption | rfl | (unfold is11; omega)) ?_
      refine AW.iload_n dX11_type_32 rfl rfl ?_
      refine AW.i2c dX11_type_33 ?_
      refine AW.top (i2c_small (by omega)) ?_
      refine cs_X11_type_34 (by first | exact k0_155) (by decide) (by decide) (Nat.le_of_ble_eq_true rfl) (s_X8_addLetter (c := c) (by omega) hT.1 c22 (fun I1 f1 e1 e2 e3 => ?_))
      show AW muX11_type _ _ 37 _ _ _ _
      refine AW.aload_n dX11_type_37 rfl rfl ?_
      refine g11_6 dX11_type_38 wF_X11_35 (by first | assumption | rfl | (unfold is11; omega)) ?_
      refine g8_1 dX11_type_41 wF_X11_142 (by first | assumption | rfl | (unfold is8; omega)) ?_
      refine AW.top (e1) ?_
      refine AW.iret dX11_type_44 ⟨_, rfl, rfl⟩ (Nat.zero_le _) (Nat.zero_le _) ⟨_, rfl, ?_⟩
      refine q3 c hc1 hc2 rfl c22 I1 f1 ⟨e1, fun k hk => ?_⟩
      by_cases hkL : k = L
      · subst hkL; rw [upN_eq]; exact e2
      · rw [upN_ne hkL, e3 k hkL]; exact hT.2 k (by omega)
    · refine AW.bipush (v := (-3)) dX11_type_25 (by decide) ?_
      refine AW.iret dX11_type_27 ⟨_, rfl, rfl⟩ (Nat.zero_le _) (Nat.zero_le _) ⟨_, rfl, ?_⟩
      exact q2 ⟨c, hc1, hc2, rfl⟩ (by omega)
  · refine AW.ifne0 (tgt := 13) dX11_type_8 (by decide) ?_
    refine AW.iconst (v := (-1)) dX11_type_11 (by decide) ?_
    refine AW.iret dX11_type_12 ⟨_, rfl, rfl⟩ (Nat.zero_le _) (Nat.zero_le _) ⟨_, rfl, ?_⟩
    exact q1 hn
def zrN (d : Nat) : Nat → Nat := clrN (fun _ => 0) d
theorem ho_0 {Q : Option Int32 → sd_S → Prop} {p : Nat} {I2 : sd_I} (p2 : I2 155 2 = nI p) (hQ : Q (some (-20 - nI p)) (sk0, X, sd_u I2 155 1 (nI 0), J)) : AW muX11_house 0 0 28 [.ref 0, .null, .null] [.int (nI 0)] (sk0, X, I2, J) Q := by
  refine AW.istore_n dX11_house_28 rfl (by decide) rfl rfl ?_
  refine AW.aload_n dX11_house_29 rfl rfl ?_
  refine g11_6 dX11_house_30 wF_X11_35 (by first | assumption | rfl | (unfold is11; omega)) ?_
  refine g8_2 dX11_house_33 wF_X11_160 (by first | assumption | rfl | (unfold is8; omega)) ?_
  refine AW.top (p2) ?_
  refine AW.istore_n dX11_house_36 rfl (by decide) rfl rfl ?_
  refine AW.aload_n dX11_house_37 rfl rfl ?_
  show AW muX11_house _ _ 38 _ _ _ _
  refine g11_6 dX11_house_38 wF_X11_35 (by first | assumption | rfl | (unfold is11; omega)) ?_
  refine cs_X11_house_41 (by first | exact k0_155) (by decide) (by decide) (Nat.le_of_ble_eq_true rfl) (s_X8_clear ?_)
  refine AW.iload_n dX11_house_44 rfl rfl ?_
  refine AW.ifne0 (tgt := 53) dX11_house_45 (by decide) ?_
  refine AW.bipush (v := (-20)) dX11_house_48 (by decide) ?_
  refine AW.iload_n dX11_house_50 rfl rfl ?_
  refine AW.isub dX11_house_51 ?_
  show AW muX11_house _ _ 52 _ _ _ _
  refine AW.iret dX11_house_52 ⟨_, rfl, rfl⟩ (Nat.zero_le _) (Nat.zero_le _) ?_
  exact hQ
theorem ho_1 {Q : Int32 → sd_S → Prop} {N N2 : Nat → Nat} {p : Nat} {I2 : sd_I} (p2 : I2 155 2 = nI p) (r2 : HR I2 137 N2) (z1 : N2 36 ≤ 5) (z2 : N2 47 ≤ 8) (z3 : N2 64 = 0) (hP : PR I2 19 N) (hQ : ∀ I', (∀ b, (b = 0 ∨ 69 ≤ b) → b ≠ 155 → I' b = I2 b) → TPC I' f 0 → HR I' 1 N2 → PR I' 19 N2 → Q (nI (N2 36)) (sk0, X, I', J)) : AW muX11_house 0 0 28 [.ref 0, .null, .null] [.int (nI 1)] (sk0, X, I2, J) (fun r σ' => ∃ v, r = some v ∧ Q v σ') := by
  refine AW.istore_n dX11_house_28 rfl (by decide) rfl rfl ?_
  refine AW.aload_n dX11_house_29 rfl rfl ?_
  refine g11_6 dX11_house_30 wF_X11_35 (by first | assumption | rfl | (unfold is11; omega)) ?_
  refine g8_2 dX11_house_33 wF_X11_160 (by first | assumption | rfl | (unfold is8; omega)) ?_
  refine AW.top (p2) ?_
  refine AW.istore_n dX11_house_36 rfl (by decide) rfl rfl ?_
  refine AW.aload_n dX11_house_37 rfl rfl ?_
  show AW muX11_house _ _ 38 _ _ _ _
  refine g11_6 dX11_house_38 wF_X11_35 (by first | assumption | rfl | (unfold is11; omega)) ?_
  refine cs_X11_house_41 (by first | exact k0_155 | exact is2.a0 i2_1 | exact is6.a0 i6_19) (by decide) (by decide) (Nat.le_of_ble_eq_true rfl) (s_X8_clear ?_)
  have f3 : Fr I2 (sd_u I2 155 1 (nI 0)) 155 155 := Fr.u (by omega) (by omega)
  have t3 : sd_u I2 155 1 (nI 0) 155 1 = nI 0 := by (repeat first | rw [ru_ne (by omega)] | rw [ru_j] | rw [ru_ij (by omega)] | rw [upN_ne (by omega)] | rw [upN_eq] | rw [rr_ne (by omega)] | rw [rr_eq] | rw [sb_cpy0 (by omega)])
  generalize sd_u I2 155 1 (nI 0) = I3 at f3 t3
  have r3 : HR I3 137 N2 := r2.of (fun b hb1 hb2 _ => f3 b (by omega))
  refine AW.iload_n dX11_house_44 rfl rfl ?_
  refine AW.ifne1 (tgt := 53) dX11_house_45 (by decide) ?_
  refine AW.aload_n dX11_house_53 rfl rfl ?_
  refine g11_1 dX11_house_54 wF_X11_19 (by first | assumption | rfl | (unfold is11; omega)) ?_
  refine cs_X11_house_57 (by first | exact k0_155 | exact is2.a0 i2_1 | exact is6.a0 i6_19) (by decide) (by decide) (Nat.le_of_ble_eq_true rfl) (s_X6_forget (N := N) i6_19 (hP.of (fun b hb1 hb2 => f3 b (by omega))) (fun I4 f4 p4 => ?_))
  show AW muX11_house _ _ 60 _ _ _ _
  refine AW.aload_n dX11_house_60 rfl rfl ?_
  refine g11_0 dX11_house_61 wF_X11_10 (by first | assumption | rfl | (unfold is11; omega)) ?_
  refine AW.aload_n dX11_house_64 rfl rfl ?_
  refine g11_5 dX11_house_65 wF_X11_29 (by first | assumption | rfl | (unfold is11; omega)) ?_
  refine cs_X11_house_68 (by first | exact k0_155 | exact is2.a0 i2_1 | exact is6.a0 i6_19) (by decide) (by decide) (Nat.le_of_ble_eq_true rfl) (s_X2_takeAll i2_1 i2_137 (by decide) (r3.of (fun b hb1 hb2 _ => f4 b (by omega))) z1 z2 (fun I5 f5 r5 => ?_))
  refine AW.aload_n dX11_house_71 rfl rfl ?_
  show AW muX11_house _ _ 72 _ _ _ _
  refine g11_0 dX11_house_72 wF_X11_10 (by first | assumption | rfl | (unfold is11; omega)) ?_
  refine g2_7 dX11_house_75 wF_X11_61 (by first | assumption | rfl | (unfold is2; omega)) ?_
  refine AW.top (r5.sl) ?_
  refine AW.iret dX11_house_78 ⟨_, rfl, rfl⟩ (Nat.zero_le _) (Nat.zero_le _) ⟨_, rfl, ?_⟩
  refine hQ I5 (fun b hb1 hb2 => ((f5 b (by omega)).trans (f4 b (by omega))).trans (f3 b (by omega))) ⟨by rw [f5 155 (by omega), f4 155 (by omega)]; exact t3, fun k hk => absurd hk (by omega)⟩ r5 ?_
  obtain ⟨a1, a2, y, a3, a4, a5⟩ := p4
  exact ⟨by rw [f5 19 (by omega), a1, z3, upN_eq], by omega, y, a3, by rw [f5 19 (by omega)]; exact a4, fun j hj => absurd hj (by omega)⟩
theorem c_house {Q : Int32 → sd_S → Prop} {N : Nat → Nat} (hV : TPV f L) (hT : TPC I f L) (hNV : NV N) (hR : HR I 1 N) (hP : PR I 19 N) (q1 : (rdH f L (zrN (N 1))).2 = none → ∀ I', Fr I I' 137 156 → TPC I' f 0 → Q (-20 - nI (rdH f L (zrN (N 1))).1) (sk0, X, I', J)) (q2 : ∀ N', (rdH f L (zrN (N 1))).2 = some N' → N' 36 ≤ 5 → N' 47 ≤ 8 → N' 64 = 0 → ∀ I', (∀ b, (b = 0 ∨ 69 ≤ b) → (b < 137 ∨ 156 < b) → I' b = I b) → TPC I' f 0 → HR I' 1 N' → PR I' 19 N' → Q (nI (N' 36)) (sk0, X, I', J)) (hz : ∀ N', (rdH f L (zrN (N 1))).2 = some N' → N' 36 ≤ 5 ∧ N' 47 ≤ 8 ∧ N' 64 = 0) : AWi muX11_house [.ref 0] (sk0, X, I, J) Q := by
  show AW muX11_house 0 0 0 [.ref 0, .null, .null] [] _ _
  refine AW.aload_n dX11_house_0 rfl rfl ?_
  refine g11_5 dX11_house_1 wF_X11_29 (by first | assumption | rfl | (unfold is11; omega)) ?_
  refine AW.aload_n dX11_house_4 rfl rfl ?_
  refine g11_0 dX11_house_5 wF_X11_10 (by first | assumption | rfl | (unfold is11; omega)) ?_
  refine g2_6 dX11_house_8 wF_X11_92 (by first | assumption | rfl | (unfold is2; omega)) ?_
  refine g4_6 dX11_house_11 wF_X11_149 (by first | assumption | exact is2.m (by assumption) | rfl | (unfold is4; omega) | exact is6.m (by assumption) (by omega)) ?_
  refine AW.top (hR.m.dw) ?_
  show AW muX11_house _ _ 14 _ _ _ _
  refine cs_X11_house_14 (by first | exact k0_155 | exact is2.a0 i2_137) (by decide) (by decide) (Nat.le_of_ble_eq_true rfl) (s_X2_clear (N := fun _ => 0) i2_137 (fun I1 f1 r1 => ?_))
  refine AW.aload_n dX11_house_17 rfl rfl ?_
  refine g11_6 dX11_house_18 wF_X11_35 (by first | assumption | rfl | (unfold is11; omega)) ?_
  refine AW.aload_n dX11_house_21 rfl rfl ?_
  refine g11_5 dX11_house_22 wF_X11_29 (by first | assumption | rfl | (unfold is11; omega)) ?_
  refine cs_X11_house_25 (by first | exact k0_155 | exact is2.a0 i2_137) (by decide) (by decide) (Nat.le_of_ble_eq_true rfl) (s_X8_readHouse (f := f) (L := L) i2_137 r1 ⟨by unfold clrN; (repeat first | rw [ru_ne (by omega)] | rw [ru_j] | rw [ru_ij (by omega)] | rw [upN_ne (by omega)] | rw [upN_eq] | rw [rr_ne (by omega)] | rw [rr_eq] | rw [sb_cpy0 (by omega)]), by unfold clrN; (repeat first | rw [ru_ne (by omega)] | rw [ru_j] | rw [ru_ij (by omega)] | rw [upN_ne (by omega)] | rw [upN_eq] | rw [rr_ne (by omega)] | rw [rr_eq] | rw [sb_cpy0 (by omega)])⟩ hV (hT.fr f1 (by omega)) (fun I2 N2 h2 f2 t2 p2 r2 => ?_) (fun I2 h2 f2 t2 p2 => ?_))
  · obtain ⟨z1, z2, z3⟩ := hz N2 h2
    have f3 : Fr I I2 137 156 := (f1.w (by omega) (by omega)).tr (f2.w (by omega) (by omega))
    exact ho_1 p2 r2 z1 z2 z3 (hP.of (fun b hb1 hb2 => f3 b (by omega))) (fun I' e1 e2 e3 e4 => q2 N2 h2 z1 z2 z3 I' (fun b hb1 hb2 => (e1 b hb1 (by omega)).trans (f3 b (by omega))) e2 e3 e4)
  · exact ho_0 p2 ⟨_, rfl, q1 h2 _ (((f1.w (by omega) (by omega)).tr (f2.w (by omega) (by omega))).up (by omega) (by omega)) ⟨by (repeat first | rw [ru_ne (by omega)] | rw [ru_j] | rw [ru_ij (by omega)] | rw [upN_ne (by omega)] | rw [upN_eq] | rw [rr_ne (by omega)] | rw [rr_eq] | rw [sb_cpy0 (by omega)]), fun k hk => absurd hk (by omega)⟩⟩
end Reader3
