-- the class's Reader: items, houses; type, house
theorem rdL_bad {f : Nat → Nat} {L n p : Nat} {R : Nat → (Nat → Nat) → Nat × Option (Nat → Nat)} {N : Nat → Nat} (h1 : (R p N).2 = none) : rdL f L R (n + 1) p N = ((R p N).1, none) := by rw [rdL]; simp only [h1]
theorem rdL_end {f : Nat → Nat} {L n p : Nat} {R : Nat → (Nat → Nat) → Nat × Option (Nat → Nat)} {N N1 : Nat → Nat} (h1 : (R p N).2 = some N1) (hn : n = 0) : rdL f L R (n + 1) p N = ((R p N).1, some N1) := by rw [rdL]; simp only [h1]; rw [if_pos hn]
theorem rdL_no {f : Nat → Nat} {L n p : Nat} {R : Nat → (Nat → Nat) → Nat × Option (Nat → Nat)} {N N1 : Nat → Nat} (h1 : (R p N).2 = some N1) (hn : n ≠ 0) (h2 : (rdC f L 44 (R p N).1).2 = false) : rdL f L R (n + 1) p N = ((rdC f L 44 (R p N).1).1, some N1) := by rw [rdL]; simp only [h1]; rw [if_neg hn]; simp only [h2]
theorem rdL_more {f : Nat → Nat} {L n p : Nat} {R : Nat → (Nat → Nat) → Nat × Option (Nat → Nat)} {N N1 : Nat → Nat} (h1 : (R p N).2 = some N1) (hn : n ≠ 0) (h2 : (rdC f L 44 (R p N).1).2 = true) : rdL f L R (n + 1) p N = rdL f L R n (rdC f L 44 (R p N).1).1 N1 := by rw [rdL]; simp only [h1]; rw [if_neg hn]; simp only [h2]
theorem addS_36 {N : Nat → Nat} {r b : Nat} : addS N r b 36 = N 36 + 1 := by unfold addS; (repeat first | rw [ru_ne (by omega)] | rw [ru_j] | rw [ru_ij (by omega)] | rw [upN_ne (by omega)] | rw [upN_eq] | rw [rr_ne (by omega)] | rw [rr_eq] | rw [sb_cpy0 (by omega)])
theorem addS_47 {N : Nat → Nat} {r b : Nat} (h : N 36 < 5) : addS N r b 47 = N 47 := by unfold addS; (repeat first | rw [ru_ne (by omega)] | rw [ru_j] | rw [ru_ij (by omega)] | rw [upN_ne (by omega)] | rw [upN_eq] | rw [rr_ne (by omega)] | rw [rr_eq] | rw [sb_cpy0 (by omega)])
theorem addT_47 {N : Nat → Nat} {k g d r : Nat} : addT N k g d r 47 = N 47 + 1 := by unfold addT; (repeat first | rw [ru_ne (by omega)] | rw [ru_j] | rw [ru_ij (by omega)] | rw [upN_ne (by omega)] | rw [upN_eq] | rw [rr_ne (by omega)] | rw [rr_eq] | rw [sb_cpy0 (by omega)])
theorem addT_36 {N : Nat → Nat} {k g d r : Nat} (h : N 47 < 8) : addT N k g d r 36 = N 36 := by unfold addT; (repeat first | rw [ru_ne (by omega)] | rw [ru_j] | rw [ru_ij (by omega)] | rw [upN_ne (by omega)] | rw [upN_eq] | rw [rr_ne (by omega)] | rw [rr_eq] | rw [sb_cpy0 (by omega)])
section Reader2
variable {X : Nat × (Nat → Int32)} {I : sd_I} {J : sd_J} {f : Nat → Nat} {L p h : Nat}
theorem lp_X8_readSleepers (hh : is2 h) (hV : TPV f L) {Q : Option Int32 → sd_S → Prop} : ∀ (m i p : Nat) (N : Nat → Nat) (I : sd_I), 5 - i < m → i < 5 → N 36 = i ∧ N 47 = 0 → HR I h N → TPC I f L → I 155 2 = nI p → p ≤ L → (∀ I', (rdL f L (rdS f L) (5 - i) p N).2 = none → Fr I I' h 155 → TPC I' f L → I' 155 2 = nI (rdL f L (rdS f L) (5 - i) p N).1 → Q (some (nI 0)) (sk0, X, I', J)) → (∀ I' N', (rdL f L (rdS f L) (5 - i) p N).2 = some N' → Fr I I' h 155 → TPC I' f L → I' 155 2 = nI (rdL f L (rdS f L) (5 - i) p N).1 → HR I' h N' → Q (some (nI 1)) (sk0, X, I', J)) → AW muX8_readSleepers 0 0 4 [.ref 155, .ref h, .int (nI 1), .int (nI i)] [] (sk0, X, I, J) Q := by
  have h80 := hV.1
  have hb : h ≤ 137 := by unfold is2 at hh; omega
  intro m
  induction m with
  | zero => intros; omega
  | succ m ih =>
    intro i p N I hm hi hN hR hT hP hp K1 K2
    obtain ⟨hN1, hN2⟩ := hN
    have hle := rdS_le (f := f) (N := N) hp
    have hle2 := rdC_le (f := f) (c := 44) hle
    rw [show 5 - i = (4 - i) + 1 by omega] at K1 K2
    refine AW.iload_n dX8_readSleepers_4 rfl rfl ?_
    refine AW.iconst (v := nI 5) dX8_readSleepers_5 (by decide) ?_
    first | refine AW.icmp_geN (tgt := 49) dX8_readSleepers_6 (by decide) (by omega) (by omega) (fun c6 => ?_) (fun c6 => ?_) | refine AW.icmp_ge (tgt := 49) dX8_readSleepers_6 (by decide) (fun c6 => ?_) (fun c6 => ?_)
    · omega
    · refine AW.iload_n dX8_readSleepers_9 rfl rfl ?_
      refine AW.ifeq1 (tgt := 49) dX8_readSleepers_10 (by decide) ?_
      refine AW.aload_n dX8_readSleepers_13 rfl rfl ?_
      refine AW.aload_n dX8_readSleepers_14 rfl rfl ?_
      refine cs_X8_readSleepers_15 (by first | exact k0_155) (by decide) (by decide) (Nat.le_of_ble_eq_true rfl) (s_X8_readSleeper hh hR (by omega) (by omega) hV hT hP hp (fun I1 N1 h1 f1 t1 p1 r1 => ?_) (fun I1 h1 f1 t1 p1 => ?_))
      · refine AW.ifne1 (tgt := 23) dX8_readSleepers_18 (by decide) ?_
        refine AW.iload_n dX8_readSleepers_23 rfl rfl ?_
        show AW muX8_readSleepers _ _ 24 _ _ _ _
        refine AW.iconst (v := nI 4) dX8_readSleepers_24 (by decide) ?_
        first | refine AW.icmp_geN (tgt := 41) dX8_readSleepers_25 (by decide) (by omega) (by omega) (fun c25 => ?_) (fun c25 => ?_) | refine AW.icmp_ge (tgt := 41) dX8_readSleepers_25 (by decide) (fun c25 => ?_) (fun c25 => ?_)
        · first
            | (have fin := K2 I2 N1 (by rw [rdL_no h1 (by omega) h2]) (f1.tr (e2.1.w (by omega) (by omega))) (t1.pl e2) (by rw [rdL_no h1 (by omega) h2]; exact e2.2.2) (r1.of (fun b hb1 hb2 _ => e2.1 b (by omega))))
            | (have fin := K2 I1 N1 (by rw [rdL_end h1 (by omega)]) f1 t1 (by rw [rdL_end h1 (by omega)]; exact p1) r1)
          refine AW.iconst (v := nI 0) dX8_readSleepers_41 (by decide) ?_
          refine AW.istore_n dX8_readSleepers_42 rfl (by decide) rfl rfl ?_
          refine AW.iincN dX8_readSleepers_43 rfl (by decide) rfl rfl ?_
          refine AW.goto (tgt := 4) dX8_readSleepers_46 (by decide) ?_
          refine AW.iload_n dX8_readSleepers_4 rfl rfl ?_
          refine AW.iconst (v := nI 5) dX8_readSleepers_5 (by decide) ?_
          refine AW.icmp_geN (tgt := 49) dX8_readSleepers_6 (by decide) (by omega) (by omega) (fun _ => ?_) (fun _ => ?_)
          · refine AW.iconst (v := nI 1) dX8_readSleepers_49 (by decide) ?_
            exact AW.iret dX8_readSleepers_50 ⟨_, rfl, by decide⟩ (Nat.zero_le _) (Nat.zero_le _) fin
          · refine AW.iload_n dX8_readSleepers_9 rfl rfl ?_
            refine AW.ifeq0 (tgt := 49) dX8_readSleepers_10 (by decide) ?_
            refine AW.iconst (v := nI 1) dX8_readSleepers_49 (by decide) ?_
            exact AW.iret dX8_readSleepers_50 ⟨_, rfl, by decide⟩ (Nat.zero_le _) (Nat.zero_le _) fin
        · refine AW.aload_n dX8_readSleepers_28 rfl rfl ?_
          refine AW.bipush (v := nI 44) dX8_readSleepers_29 (by decide) ?_
          refine cs_X8_readSleepers_31 (by first | exact k0_155) (by decide) (by decide) (Nat.le_of_ble_eq_true rfl) (s_X8_takes (c := 44) (by decide) hV t1 p1 hle (fun I2 e2 h2 => ?_) (fun I2 e2 h2 => ?_))
          · refine AW.ifeq1 (tgt := 41) dX8_readSleepers_34 (by decide) ?_
            refine AW.iconst (v := nI 1) dX8_readSleepers_37 (by decide) ?_
            refine AW.goto (tgt := 42) dX8_readSleepers_38 (by decide) ?_
            refine AW.istore_n dX8_readSleepers_42 rfl (by decide) rfl rfl ?_
            refine AW.iincN dX8_readSleepers_43 rfl (by decide) rfl rfl ?_
            refine AW.goto (tgt := 4) dX8_readSleepers_46 (by decide) ?_
            have hq := rdL_more (n := 4 - i) h1 (by omega) h2
            have hf := f1.tr (e2.1.w (c := h) (d := 155) (by omega) (by omega))
            refine ih (i + 1) _ N1 I2 (by omega) (by omega) ?_ (r1.of (fun b hb1 hb2 _ => e2.1 b (by omega))) (t1.pl e2) e2.2.2 hle2 (fun I' a1 a2 a3 a4 => ?_) (fun I' N' a1 a2 a3 a4 a5 => ?_)
            · obtain ⟨r, b, _, _, rfl⟩ := rdS_v h1
              exact ⟨by rw [addS_36]; omega, by rw [addS_47 (by omega)]; exact hN2⟩
            · rw [show 5 - (i + 1) = 4 - i by omega] at a1 a4
              exact K1 I' (by rw [hq]; exact a1) (hf.tr a2) a3 (by rw [hq]; exact a4)
            · rw [show 5 - (i + 1) = 4 - i by omega] at a1 a4
              exact K2 I' N' (by rw [hq]; exact a1) (hf.tr a2) a3 (by rw [hq]; exact a4) a5
          · refine AW.ifeq0 (tgt := 41) dX8_readSleepers_34 (by decide) ?_
            first
              | (have fin := K2 I2 N1 (by rw [rdL_no h1 (by omega) h2]) (f1.tr (e2.1.w (by omega) (by omega))) (t1.pl e2) (by rw [rdL_no h1 (by omega) h2]; exact e2.2.2) (r1.of (fun b hb1 hb2 _ => e2.1 b (by omega))))
              | (have fin := K2 I1 N1 (by rw [rdL_end h1 (by omega)]) f1 t1 (by rw [rdL_end h1 (by omega)]; exact p1) r1)
            refine AW.iconst (v := nI 0) dX8_readSleepers_41 (by decide) ?_
            show AW muX8_readSleepers _ _ 42 _ _ _ _
            refine AW.istore_n dX8_readSleepers_42 rfl (by decide) rfl rfl ?_
            refine AW.iincN dX8_readSleepers_43 rfl (by decide) rfl rfl ?_
            refine AW.goto (tgt := 4) dX8_readSleepers_46 (by decide) ?_
            refine AW.iload_n dX8_readSleepers_4 rfl rfl ?_
            refine AW.iconst (v := nI 5) dX8_readSleepers_5 (by decide) ?_
            refine AW.icmp_geN (tgt := 49) dX8_readSleepers_6 (by decide) (by omega) (by omega) (fun _ => ?_) (fun _ => ?_)
            · refine AW.iconst (v := nI 1) dX8_readSleepers_49 (by decide) ?_
              exact AW.iret dX8_readSleepers_50 ⟨_, rfl, by decide⟩ (Nat.zero_le _) (Nat.zero_le _) fin
            · refine AW.iload_n dX8_readSleepers_9 rfl rfl ?_
              refine AW.ifeq0 (tgt := 49) dX8_readSleepers_10 (by decide) ?_
              refine AW.iconst (v := nI 1) dX8_readSleepers_49 (by decide) ?_
              exact AW.iret dX8_readSleepers_50 ⟨_, rfl, by decide⟩ (Nat.zero_le _) (Nat.zero_le _) fin
      · refine AW.ifne0 (tgt := 23) dX8_readSleepers_18 (by decide) ?_
        refine AW.iconst (v := nI 0) dX8_readSleepers_21 (by decide) ?_
        refine AW.iret dX8_readSleepers_22 ⟨_, rfl, by decide⟩ (Nat.zero_le _) (Nat.zero_le _) ?_
        exact K1 I1 (by rw [rdL_bad h1]) f1 t1 (by rw [rdL_bad h1]; exact p1)
theorem s_X8_readSleepers {Q : Int32 → sd_S → Prop} {N : Nat → Nat} (hh : is2 h) (hR : HR I h N) (hN : N 36 = 0 ∧ N 47 = 0) (hV : TPV f L) (hT : TPC I f L) (hP : I 155 2 = nI p) (hp : p ≤ L) (q2 : ∀ I' N', (rdL f L (rdS f L) 5 p N).2 = some N' → Fr I I' h 155 → TPC I' f L → I' 155 2 = nI (rdL f L (rdS f L) 5 p N).1 → HR I' h N' → Q (nI 1) (sk0, X, I', J)) (q1 : ∀ I', (rdL f L (rdS f L) 5 p N).2 = none → Fr I I' h 155 → TPC I' f L → I' 155 2 = nI (rdL f L (rdS f L) 5 p N).1 → Q (nI 0) (sk0, X, I', J)) : AWi muX8_readSleepers [.ref 155, .ref h] (sk0, X, I, J) Q := by
  show AW muX8_readSleepers 0 0 0 [.ref 155, .ref h, .null, .null] [] _ _
  refine AW.iconst (v := nI 1) dX8_readSleepers_0 (by decide) ?_
  refine AW.istore_n dX8_readSleepers_1 rfl (by decide) rfl rfl ?_
  refine AW.iconst (v := nI 0) dX8_readSleepers_2 (by decide) ?_
  refine AW.istore_n dX8_readSleepers_3 rfl (by decide) rfl rfl ?_
  exact lp_X8_readSleepers hh hV 6 0 p N I (by decide) (by decide) hN hR hT hP hp (fun I' a1 a2 a3 a4 => ⟨_, rfl, q1 I' a1 a2 a3 a4⟩) (fun I' N' a1 a2 a3 a4 a5 => ⟨_, rfl, q2 I' N' a1 a2 a3 a4 a5⟩)
theorem lp_X8_readThings (hh : is2 h) (hV : TPV f L) {Q : Option Int32 → sd_S → Prop} : ∀ (m i p : Nat) (N : Nat → Nat) (I : sd_I), 8 - i < m → i < 8 → N 47 = i ∧ N 36 ≤ 5 → HR I h N → TPC I f L → I 155 2 = nI p → p ≤ L → (∀ I', (rdL f L (rdT f L) (8 - i) p N).2 = none → Fr I I' h 155 → TPC I' f L → I' 155 2 = nI (rdL f L (rdT f L) (8 - i) p N).1 → Q (some (nI 0)) (sk0, X, I', J)) → (∀ I' N', (rdL f L (rdT f L) (8 - i) p N).2 = some N' → Fr I I' h 155 → TPC I' f L → I' 155 2 = nI (rdL f L (rdT f L) (8 - i) p N).1 → HR I' h N' → Q (some (nI 1)) (sk0, X, I', J)) → AW muX8_readThings 0 0 4 [.ref 155, .ref h, .int (nI 1), .int (nI i)] [] (sk0, X, I, J) Q := by
  have h80 := hV.1
  have hb : h ≤ 137 := by unfold is2 at hh; omega
  intro m
  induction m with
  | zero => intros; omega
  | succ m ih =>
    intro i p N I hm hi hN hR hT hP hp K1 K2
    obtain ⟨hN1, hN2⟩ := hN
    have hle := rdT_le (f := f) (N := N) hp
    have hle2 := rdC_le (f := f) (c := 44) hle
    rw [show 8 - i = (7 - i) + 1 by omega] at K1 K2
    refine AW.iload_n dX8_readThings_4 rfl rfl ?_
    refine AW.bipush (v := nI 8) dX8_readThings_5 (by decide) ?_
    first | refine AW.icmp_geN (tgt := 51) dX8_readThings_7 (by decide) (by omega) (by omega) (fun c7 => ?_) (fun c7 => ?_) | refine AW.icmp_ge (tgt := 51) dX8_readThings_7 (by decide) (fun c7 => ?_) (fun c7 => ?_)
    · omega
    · refine AW.iload_n dX8_readThings_10 rfl rfl ?_
      refine AW.ifeq1 (tgt := 51) dX8_readThings_11 (by decide) ?_
      refine AW.aload_n dX8_readThings_14 rfl rfl ?_
      refine AW.aload_n dX8_readThings_15 rfl rfl ?_
      refine cs_X8_readThings_16 (by first | exact k0_155) (by decide) (by decide) (Nat.le_of_ble_eq_true rfl) (s_X8_readThing hh hR (by omega) (by omega) hV hT hP hp (fun I1 N1 h1 f1 t1 p1 r1 => ?_) (fun I1 h1 f1 t1 p1 => ?_))
      · refine AW.ifne1 (tgt := 24) dX8_readThings_19 (by decide) ?_
        refine AW.iload_n dX8_readThings_24 rfl rfl ?_
        show AW muX8_readThings _ _ 25 _ _ _ _
        refine AW.bipush (v := nI 7) dX8_readThings_25 (by decide) ?_
        first | refine AW.icmp_geN (tgt := 43) dX8_readThings_27 (by decide) (by omega) (by omega) (fun c27 => ?_) (fun c27 => ?_) | refine AW.icmp_ge (tgt := 43) dX8_readThings_27 (by decide) (fun c27 => ?_) (fun c27 => ?_)
        · first
            | (have fin := K2 I2 N1 (by rw [rdL_no h1 (by omega) h2]) (f1.tr (e2.1.w (by omega) (by omega))) (t1.pl e2) (by rw [rdL_no h1 (by omega) h2]; exact e2.2.2) (r1.of (fun b hb1 hb2 _ => e2.1 b (by omega))))
            | (have fin := K2 I1 N1 (by rw [rdL_end h1 (by omega)]) f1 t1 (by rw [rdL_end h1 (by omega)]; exact p1) r1)
          refine AW.iconst (v := nI 0) dX8_readThings_43 (by decide) ?_
          refine AW.istore_n dX8_readThings_44 rfl (by decide) rfl rfl ?_
          refine AW.iincN dX8_readThings_45 rfl (by decide) rfl rfl ?_
          refine AW.goto (tgt := 4) dX8_readThings_48 (by decide) ?_
          refine AW.iload_n dX8_readThings_4 rfl rfl ?_
          refine AW.bipush (v := nI 8) dX8_readThings_5 (by decide) ?_
          refine AW.icmp_geN (tgt := 51) dX8_readThings_7 (by decide) (by omega) (by omega) (fun _ => ?_) (fun _ => ?_)
          · refine AW.iconst (v := nI 1) dX8_readThings_51 (by decide) ?_
            exact AW.iret dX8_readThings_52 ⟨_, rfl, by decide⟩ (Nat.zero_le _) (Nat.zero_le _) fin
          · refine AW.iload_n dX8_readThings_10 rfl rfl ?_
            refine AW.ifeq0 (tgt := 51) dX8_readThings_11 (by decide) ?_
            refine AW.iconst (v := nI 1) dX8_readThings_51 (by decide) ?_
            exact AW.iret dX8_readThings_52 ⟨_, rfl, by decide⟩ (Nat.zero_le _) (Nat.zero_le _) fin
        · refine AW.aload_n dX8_readThings_30 rfl rfl ?_
          refine AW.bipush (v := nI 44) dX8_readThings_31 (by decide) ?_
          refine cs_X8_readThings_33 (by first | exact k0_155) (by decide) (by decide) (Nat.le_of_ble_eq_true rfl) (s_X8_takes (c := 44) (by decide) hV t1 p1 hle (fun I2 e2 h2 => ?_) (fun I2 e2 h2 => ?_))
          · refine AW.ifeq1 (tgt := 43) dX8_readThings_36 (by decide) ?_
            refine AW.iconst (v := nI 1) dX8_readThings_39 (by decide) ?_
            refine AW.goto (tgt := 44) dX8_readThings_40 (by decide) ?_
            refine AW.istore_n dX8_readThings_44 rfl (by decide) rfl rfl ?_
            refine AW.iincN dX8_readThings_45 rfl (by decide) rfl rfl ?_
            refine AW.goto (tgt := 4) dX8_readThings_48 (by decide) ?_
            have hq := rdL_more (n := 7 - i) h1 (by omega) h2
            have hf := f1.tr (e2.1.w (c := h) (d := 155) (by omega) (by omega))
            refine ih (i + 1) _ N1 I2 (by omega) (by omega) ?_ (r1.of (fun b hb1 hb2 _ => e2.1 b (by omega))) (t1.pl e2) e2.2.2 hle2 (fun I' a1 a2 a3 a4 => ?_) (fun I' N' a1 a2 a3 a4 a5 => ?_)
            · obtain ⟨k, g, d, r, _, _, _, _, _, rfl⟩ := rdT_v h1
              exact ⟨by rw [addT_47]; omega, by rw [addT_36 (by omega)]; exact hN2⟩
            · rw [show 8 - (i + 1) = 7 - i by omega] at a1 a4
              exact K1 I' (by rw [hq]; exact a1) (hf.tr a2) a3 (by rw [hq]; exact a4)
            · rw [show 8 - (i + 1) = 7 - i by omega] at a1 a4
              exact K2 I' N' (by rw [hq]; exact a1) (hf.tr a2) a3 (by rw [hq]; exact a4) a5
          · refine AW.ifeq0 (tgt := 43) dX8_readThings_36 (by decide) ?_
            first
              | (have fin := K2 I2 N1 (by rw [rdL_no h1 (by omega) h2]) (f1.tr (e2.1.w (by omega) (by omega))) (t1.pl e2) (by rw [rdL_no h1 (by omega) h2]; exact e2.2.2) (r1.of (fun b hb1 hb2 _ => e2.1 b (by omega))))
              | (have fin := K2 I1 N1 (by rw [rdL_end h1 (by omega)]) f1 t1 (by rw [rdL_end h1 (by omega)]; exact p1) r1)
            refine AW.iconst (v := nI 0) dX8_readThings_43 (by decide) ?_
            show AW muX8_readThings _ _ 44 _ _ _ _
            refine AW.istore_n dX8_readThings_44 rfl (by decide) rfl rfl ?_
            refine AW.iincN dX8_readThings_45 rfl (by decide) rfl rfl ?_
            refine AW.goto (tgt := 4) dX8_readThings_48 (by decide) ?_
            refine AW.iload_n dX8_readThings_4 rfl rfl ?_
            refine AW.bipush (v := nI 8) dX8_readThings_5 (by decide) ?_
            refine AW.icmp_geN (tgt := 51) dX8_readThings_7 (by decide) (by omega) (by omega) (fun _ => ?_) (fun _ => ?_)
            · refine AW.iconst (v := nI 1) dX8_readThings_51 (by decide) ?_
              exact AW.iret dX8_readThings_52 ⟨_, rfl, by decide⟩ (Nat.zero_le _) (Nat.zero_le _) fin
            · refine AW.iload_n dX8_readThings_10 rfl rfl ?_
              refine AW.ifeq0 (tgt := 51) dX8_readThings_11 (by decide) ?_
              refine AW.iconst (v := nI 1) dX8_readThings_51 (by decide) ?_
              exact AW.iret dX8_readThings_52 ⟨_, rfl, by decide⟩ (Nat.zero_le _) (Nat.zero_le _) fin
      · refine AW.ifne0 (tgt := 24) dX8_readThings_19 (by decide) ?_
        refine AW.iconst (v := nI 0) dX8_readThings_22 (by decide) ?_
        refine AW.iret dX8_readThings_23 ⟨_, rfl, by decide⟩ (Nat.zero_le _) (Nat.zero_le _) ?_
        exact K1 I1 (by rw [rdL_bad h1]) f1 t1 (by rw [rdL_bad h1]; exact p1)
theorem s_X8_readThings {Q : Int32 → sd_S → Prop} {N : Nat → Nat} (hh : is2 h) (hR : HR I h N) (hN : N 47 = 0 ∧ N 36 ≤ 5) (hV : TPV f L) (hT : TPC I f L) (hP : I 155 2 = nI p) (hp : p ≤ L) (q2 : ∀ I' N', (rdL f L (rdT f L) 8 p N).2 = some N' → Fr I I' h 155 → TPC I' f L → I' 155 2 = nI (rdL f L (rdT f L) 8 p N).1 → HR I' h N' → Q (nI 1) (sk0, X, I', J)) (q1 : ∀ I', (rdL f L (rdT f L) 8 p N).2 = none → Fr I I' h 155 → TPC I' f L → I' 155 2 = nI (rdL f L (rdT f L) 8 p N).1 → Q (nI 0) (sk0, X, I', J)) : AWi muX8_readThings [.ref 155, .ref h] (sk0, X, I, J) Q := by
  show AW muX8_readThings 0 0 0 [.ref 155, .ref h, .null, .null] [] _ _
  refine AW.iconst (v := nI 1) dX8_readThings_0 (by decide) ?_
  refine AW.istore_n dX8_readThings_1 rfl (by decide) rfl rfl ?_
  refine AW.iconst (v := nI 0) dX8_readThings_2 (by decide) ?_
  refine AW.istore_n dX8_readThings_3 rfl (by decide) rfl rfl ?_
  exact lp_X8_readThings hh hV 9 0 p N I (by decide) (by decide) hN hR hT hP hp (fun I' a1 a2 a3 a4 => ⟨_, rfl, q1 I' a1 a2 a3 a4⟩) (fun I' N' a1 a2 a3 a4 a5 => ⟨_, rfl, q2 I' N' a1 a2 a3 a4 a5⟩)
end Reader2
