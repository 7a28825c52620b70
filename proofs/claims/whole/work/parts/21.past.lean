-- moments, houses taken over; the past
theorem rr_eq {I : sd_I} {a i : Nat} {f : Nat → Int32} : sd_r I a f a i = f i := by rw [sd_r_eq]
theorem Fr.r {I : sd_I} {a b c : Nat} {f : Nat → Int32} (h1 : a ≤ c) (h2 : c ≤ b) : Fr I (sd_r I c f) a b := fun d hd => sd_r_ne (by omega)
theorem Fr.rp {I I' : sd_I} {a b c : Nat} {f : Nat → Int32} (h : Fr I I' a b) (h1 : a ≤ c) (h2 : c ≤ b) : Fr I (sd_r I' c f) a b := h.tr (Fr.r h1 h2)
theorem is4.ap {a b : Nat} (ha : is4 a) (hb : is4 b) (h : a ≠ b) : a + 6 ≤ b ∨ b + 6 ≤ a := by
  unfold is4 at ha hb
  rcases ha with h1 | h1 | h1 | h1 | h1 | h1 | h1 | h1 | h1 | h1 | h1 | h1 | h1 | h1 | h1 | h1 | h1 | h1 | h1 <;> omega
/-- a moment taken over -/
def MC (I I' : sd_I) (m o : Nat) : Prop := (∀ t, t < 8 → I' (m + 1) t = I (o + 1) t ∧ I' (m + 2) t = I (o + 2) t ∧ I' (m + 3) t = I (o + 3) t) ∧ (∀ s, s < 5 → I' (m + 4) s = I (o + 4) s ∧ I' (m + 5) s = I (o + 5) s) ∧ I' m 5 = I o 5 ∧ I' m 6 = I o 6
theorem MR.cp {I I' : sd_I} {m o : Nat} {N : Nat → Nat} (H : MR I o N) (hc : MC I I' m o) (h5 : N 36 ≤ 5) (h8 : N 47 ≤ 8) : MR I' m N := by
  obtain ⟨a1, a2, a3, a4⟩ := H
  obtain ⟨c1, c2, c3, c4⟩ := hc
  refine ⟨c3.trans a1, c4.trans a2, fun t ht => ?_, fun s hs => ?_⟩
  · obtain ⟨x1, x2, x3⟩ := c1 t (by omega)
    rw [x1, x2, x3]; exact a3 t ht
  · obtain ⟨x1, x2⟩ := c2 s (by omega)
    rw [x1, x2]; exact a4 s hs
theorem s_X4_takeAll {X : Nat × (Nat → Int32)} {I : sd_I} {J : sd_J} {m o : Nat} {Q : sd_S → Prop} (hm : is4 m) (ho : is4 o) (hne : m ≠ o) (hQ : ∀ I', Fr I I' m (m + 5) → MC I I' m o → Q (sk0, X, I', J)) : AWv muX4_takeAll [.ref m, .ref o] (sk0, X, I, J) Q := by
  have hap := hm.ap ho hne
  show AW muX4_takeAll 0 0 0 [.ref m, .ref o] [] _ _
  refine AW.aload_n dX4_takeAll_0 rfl rfl ?_
  refine g4_0 dX4_takeAll_1 wF_X4_9 (by first | assumption | exact is2.m (by assumption) | rfl | (unfold is4; omega) | exact is6.m (by assumption) (by omega)) ?_
  refine AW.iconst (v := nI 0) dX4_takeAll_4 (by decide) ?_
  refine AW.aload_n dX4_takeAll_5 rfl rfl ?_
  refine g4_0 dX4_takeAll_6 wF_X4_9 (by first | assumption | exact is2.m (by assumption) | rfl | (unfold is4; omega) | exact is6.m (by assumption) (by omega)) ?_
  refine AW.iconst (v := nI 0) dX4_takeAll_9 (by decide) ?_
  show AW muX4_takeAll _ _ 10 _ _ _ _
  refine AW.bipush (v := nI 8) dX4_takeAll_10 (by decide) ?_
  refine AW.copyI (p0 := 0) (q0 := 0) (k0 := 8) dX4_takeAll_12 wM_X4_31 (is4.a1 ho) (is4.a1 hm) rfl rfl rfl (by decide) (by decide) (by decide) (by decide) (by decide) (Nat.le_of_ble_eq_true rfl) ?_
  refine AW.aload_n dX4_takeAll_15 rfl rfl ?_
  refine g4_1 dX4_takeAll_16 wF_X4_15 (by first | assumption | exact is2.m (by assumption) | rfl | (unfold is4; omega) | exact is6.m (by assumption) (by omega)) ?_
  refine AW.iconst (v := nI 0) dX4_takeAll_19 (by decide) ?_
  refine AW.aload_n dX4_takeAll_20 rfl rfl ?_
  refine g4_1 dX4_takeAll_21 wF_X4_15 (by first | assumption | exact is2.m (by assumption) | rfl | (unfold is4; omega) | exact is6.m (by assumption) (by omega)) ?_
  show AW muX4_takeAll _ _ 24 _ _ _ _
  refine AW.iconst (v := nI 0) dX4_takeAll_24 (by decide) ?_
  refine AW.bipush (v := nI 8) dX4_takeAll_25 (by decide) ?_
  refine AW.copyI (p0 := 0) (q0 := 0) (k0 := 8) dX4_takeAll_27 wM_X4_31 (is4.a2 ho) (is4.a2 hm) rfl rfl rfl (by decide) (by decide) (by decide) (by decide) (by decide) (Nat.le_of_ble_eq_true rfl) ?_
  refine AW.aload_n dX4_takeAll_30 rfl rfl ?_
  refine g4_2 dX4_takeAll_31 wF_X4_18 (by first | assumption | exact is2.m (by assumption) | rfl | (unfold is4; omega) | exact is6.m (by assumption) (by omega)) ?_
  refine AW.iconst (v := nI 0) dX4_takeAll_34 (by decide) ?_
  refine AW.aload_n dX4_takeAll_35 rfl rfl ?_
  show AW muX4_takeAll _ _ 36 _ _ _ _
  refine g4_2 dX4_takeAll_36 wF_X4_18 (by first | assumption | exact is2.m (by assumption) | rfl | (unfold is4; omega) | exact is6.m (by assumption) (by omega)) ?_
  refine AW.iconst (v := nI 0) dX4_takeAll_39 (by decide) ?_
  refine AW.bipush (v := nI 8) dX4_takeAll_40 (by decide) ?_
  refine AW.copyI (p0 := 0) (q0 := 0) (k0 := 8) dX4_takeAll_42 wM_X4_31 (is4.a3 ho) (is4.a3 hm) rfl rfl rfl (by decide) (by decide) (by decide) (by decide) (by decide) (Nat.le_of_ble_eq_true rfl) ?_
  refine AW.aload_n dX4_takeAll_45 rfl rfl ?_
  refine g4_3 dX4_takeAll_46 wF_X4_21 (by first | assumption | exact is2.m (by assumption) | rfl | (unfold is4; omega) | exact is6.m (by assumption) (by omega)) ?_
  refine AW.iconst (v := nI 0) dX4_takeAll_49 (by decide) ?_
  show AW muX4_takeAll _ _ 50 _ _ _ _
  refine AW.aload_n dX4_takeAll_50 rfl rfl ?_
  refine g4_3 dX4_takeAll_51 wF_X4_21 (by first | assumption | exact is2.m (by assumption) | rfl | (unfold is4; omega) | exact is6.m (by assumption) (by omega)) ?_
  refine AW.iconst (v := nI 0) dX4_takeAll_54 (by decide) ?_
  refine AW.iconst (v := nI 5) dX4_takeAll_55 (by decide) ?_
  refine AW.copyI (p0 := 0) (q0 := 0) (k0 := 5) dX4_takeAll_56 wM_X4_31 (is4.a4 ho) (is4.a4 hm) rfl rfl rfl (by decide) (by decide) (by decide) (by decide) (by decide) (Nat.le_of_ble_eq_true rfl) ?_
  refine AW.aload_n dX4_takeAll_59 rfl rfl ?_
  refine g4_4 dX4_takeAll_60 wF_X4_24 (by first | assumption | exact is2.m (by assumption) | rfl | (unfold is4; omega) | exact is6.m (by assumption) (by omega)) ?_
  show AW muX4_takeAll _ _ 63 _ _ _ _
  refine AW.iconst (v := nI 0) dX4_takeAll_63 (by decide) ?_
  refine AW.aload_n dX4_takeAll_64 rfl rfl ?_
  refine g4_4 dX4_takeAll_65 wF_X4_24 (by first | assumption | exact is2.m (by assumption) | rfl | (unfold is4; omega) | exact is6.m (by assumption) (by omega)) ?_
  refine AW.iconst (v := nI 0) dX4_takeAll_68 (by decide) ?_
  refine AW.iconst (v := nI 5) dX4_takeAll_69 (by decide) ?_
  refine AW.copyI (p0 := 0) (q0 := 0) (k0 := 5) dX4_takeAll_70 wM_X4_31 (is4.a5 ho) (is4.a5 hm) rfl rfl rfl (by decide) (by decide) (by decide) (by decide) (by decide) (Nat.le_of_ble_eq_true rfl) ?_
  refine AW.aload_n dX4_takeAll_73 rfl rfl ?_
  show AW muX4_takeAll _ _ 74 _ _ _ _
  refine AW.aload_n dX4_takeAll_74 rfl rfl ?_
  refine g4_5 dX4_takeAll_75 wF_X4_37 (by first | assumption | exact is2.m (by assumption) | rfl | (unfold is4; omega) | exact is6.m (by assumption) (by omega)) ?_
  refine p4_5 dX4_takeAll_78 wF_X4_37 (by first | assumption | exact is2.m (by assumption) | rfl | (unfold is4; omega) | exact is6.m (by assumption) (by omega)) ?_
  refine AW.aload_n dX4_takeAll_81 rfl rfl ?_
  refine AW.aload_n dX4_takeAll_82 rfl rfl ?_
  refine g4_6 dX4_takeAll_83 wF_X4_27 (by first | assumption | exact is2.m (by assumption) | rfl | (unfold is4; omega) | exact is6.m (by assumption) (by omega)) ?_
  show AW muX4_takeAll _ _ 86 _ _ _ _
  refine p4_6 dX4_takeAll_86 wF_X4_27 (by first | assumption | exact is2.m (by assumption) | rfl | (unfold is4; omega) | exact is6.m (by assumption) (by omega)) ?_
  refine AW.ret dX4_takeAll_89 rfl (Nat.zero_le _) (Nat.zero_le _) ⟨rfl, ?_⟩
  refine hQ _ (((((((Fr.r (by omega) (by omega)).rp (by omega) (by omega)).rp (by omega) (by omega)).rp (by omega) (by omega)).rp (by omega) (by omega)).up (by omega) (by omega)).up (by omega) (by omega)) ⟨fun t ht => ⟨?_, ?_, ?_⟩, fun s hs => ⟨?_, ?_⟩, ?_, ?_⟩
  all_goals (repeat first | rw [ru_ne (by omega)] | rw [ru_j] | rw [ru_ij (by omega)] | rw [upN_ne (by omega)] | rw [upN_eq] | rw [rr_ne (by omega)] | rw [rr_eq] | rw [sb_cpy0 (by omega)])
theorem s_X2_takeAll {X : Nat × (Nat → Int32)} {I : sd_I} {J : sd_J} {h o : Nat} {N : Nat → Nat} {Q : sd_S → Prop} (hh : is2 h) (ho : is2 o) (hne : h ≠ o) (hR : HR I o N) (h5 : N 36 ≤ 5) (h8 : N 47 ≤ 8) (hQ : ∀ I', Fr I I' h (h + 17) → HR I' h N → Q (sk0, X, I', J)) : AWv muX2_takeAll [.ref h, .ref o] (sk0, X, I, J) Q := by
  have hap : h + 18 ≤ o ∨ o + 18 ≤ h := by unfold is2 at hh ho; omega
  show AW muX2_takeAll 0 0 0 [.ref h, .ref o] [] _ _
  refine AW.aload_n dX2_takeAll_0 rfl rfl ?_
  refine g2_1 dX2_takeAll_1 wF_X2_30 (by first | assumption | rfl | (unfold is2; omega)) ?_
  refine AW.iconst (v := nI 0) dX2_takeAll_4 (by decide) ?_
  refine AW.aload_n dX2_takeAll_5 rfl rfl ?_
  refine g2_1 dX2_takeAll_6 wF_X2_30 (by first | assumption | rfl | (unfold is2; omega)) ?_
  refine AW.iconst (v := nI 0) dX2_takeAll_9 (by decide) ?_
  show AW muX2_takeAll _ _ 10 _ _ _ _
  refine AW.iconst (v := nI 5) dX2_takeAll_10 (by decide) ?_
  refine AW.copyI (p0 := 0) (q0 := 0) (k0 := 5) dX2_takeAll_11 wM_X2_53 (is2.a7 ho) (is2.a7 hh) rfl rfl rfl (by decide) (by decide) (by decide) (by decide) (by decide) (Nat.le_of_ble_eq_true rfl) ?_
  refine AW.aload_n dX2_takeAll_14 rfl rfl ?_
  refine g2_2 dX2_takeAll_15 wF_X2_34 (by first | assumption | rfl | (unfold is2; omega)) ?_
  refine AW.iconst (v := nI 0) dX2_takeAll_18 (by decide) ?_
  refine AW.aload_n dX2_takeAll_19 rfl rfl ?_
  refine g2_2 dX2_takeAll_20 wF_X2_34 (by first | assumption | rfl | (unfold is2; omega)) ?_
  show AW muX2_takeAll _ _ 23 _ _ _ _
  refine AW.iconst (v := nI 0) dX2_takeAll_23 (by decide) ?_
  refine AW.iconst (v := nI 5) dX2_takeAll_24 (by decide) ?_
  refine AW.copyI (p0 := 0) (q0 := 0) (k0 := 5) dX2_takeAll_25 wM_X2_53 (is2.a8 ho) (is2.a8 hh) rfl rfl rfl (by decide) (by decide) (by decide) (by decide) (by decide) (Nat.le_of_ble_eq_true rfl) ?_
  refine AW.aload_n dX2_takeAll_28 rfl rfl ?_
  refine g2_3 dX2_takeAll_29 wF_X2_37 (by first | assumption | rfl | (unfold is2; omega)) ?_
  refine AW.iconst (v := nI 0) dX2_takeAll_32 (by decide) ?_
  refine AW.aload_n dX2_takeAll_33 rfl rfl ?_
  show AW muX2_takeAll _ _ 34 _ _ _ _
  refine g2_3 dX2_takeAll_34 wF_X2_37 (by first | assumption | rfl | (unfold is2; omega)) ?_
  refine AW.iconst (v := nI 0) dX2_takeAll_37 (by decide) ?_
  refine AW.bipush (v := nI 8) dX2_takeAll_38 (by decide) ?_
  refine AW.copyI (p0 := 0) (q0 := 0) (k0 := 8) dX2_takeAll_40 wM_X2_53 (is2.a9 ho) (is2.a9 hh) rfl rfl rfl (by decide) (by decide) (by decide) (by decide) (by decide) (Nat.le_of_ble_eq_true rfl) ?_
  refine AW.aload_n dX2_takeAll_43 rfl rfl ?_
  refine g2_4 dX2_takeAll_44 wF_X2_40 (by first | assumption | rfl | (unfold is2; omega)) ?_
  refine AW.iconst (v := nI 0) dX2_takeAll_47 (by decide) ?_
  show AW muX2_takeAll _ _ 48 _ _ _ _
  refine AW.aload_n dX2_takeAll_48 rfl rfl ?_
  refine g2_4 dX2_takeAll_49 wF_X2_40 (by first | assumption | rfl | (unfold is2; omega)) ?_
  refine AW.iconst (v := nI 0) dX2_takeAll_52 (by decide) ?_
  refine AW.bipush (v := nI 8) dX2_takeAll_53 (by decide) ?_
  refine AW.copyI (p0 := 0) (q0 := 0) (k0 := 8) dX2_takeAll_55 wM_X2_53 (is2.a10 ho) (is2.a10 hh) rfl rfl rfl (by decide) (by decide) (by decide) (by decide) (by decide) (Nat.le_of_ble_eq_true rfl) ?_
  refine AW.aload_n dX2_takeAll_58 rfl rfl ?_
  refine g2_6 dX2_takeAll_59 wF_X2_49 (by first | assumption | rfl | (unfold is2; omega)) ?_
  show AW muX2_takeAll _ _ 62 _ _ _ _
  refine AW.aload_n dX2_takeAll_62 rfl rfl ?_
  refine g2_6 dX2_takeAll_63 wF_X2_49 (by first | assumption | rfl | (unfold is2; omega)) ?_
  refine cs_X2_takeAll_66 (by first | exact is4.a0 (is2.m hh)) (by decide) (by decide) (Nat.le_of_ble_eq_true rfl) (s_X4_takeAll (is2.m hh) (is2.m ho) (by omega) (fun I5 f5 c5 => ?_))
  refine AW.aload_n dX2_takeAll_69 rfl rfl ?_
  refine AW.aload_n dX2_takeAll_70 rfl rfl ?_
  refine g2_7 dX2_takeAll_71 wF_X2_63 (by first | assumption | rfl | (unfold is2; omega)) ?_
  show AW muX2_takeAll _ _ 74 _ _ _ _
  refine p2_7 dX2_takeAll_74 wF_X2_63 (by first | assumption | rfl | (unfold is2; omega)) ?_
  refine AW.aload_n dX2_takeAll_77 rfl rfl ?_
  refine AW.aload_n dX2_takeAll_78 rfl rfl ?_
  refine g2_8 dX2_takeAll_79 wF_X2_67 (by first | assumption | rfl | (unfold is2; omega)) ?_
  refine p2_8 dX2_takeAll_82 wF_X2_67 (by first | assumption | rfl | (unfold is2; omega)) ?_
  refine AW.ret dX2_takeAll_85 rfl (Nat.zero_le _) (Nat.zero_le _) ⟨rfl, ?_⟩
  have fa : ∀ c, c ≠ h + 7 → c ≠ h + 8 → c ≠ h + 9 → c ≠ h + 10 → (c < h + 12 ∨ h + 17 < c) → I5 c = I c := fun c q1 q2 q3 q4 q5 => by
    rw [f5 c (by omega)]
    rw [sd_r_ne q4, sd_r_ne q3, sd_r_ne q2, sd_r_ne q1]
  have g7 : ∀ s, s < 5 → I5 (h + 7) s = I (o + 7) s := fun s hs => by rw [f5 (h + 7) (by omega)]; (repeat first | rw [ru_ne (by omega)] | rw [ru_j] | rw [ru_ij (by omega)] | rw [upN_ne (by omega)] | rw [upN_eq] | rw [rr_ne (by omega)] | rw [rr_eq] | rw [sb_cpy0 (by omega)])
  have g8 : ∀ s, s < 5 → I5 (h + 8) s = I (o + 8) s := fun s hs => by rw [f5 (h + 8) (by omega)]; (repeat first | rw [ru_ne (by omega)] | rw [ru_j] | rw [ru_ij (by omega)] | rw [upN_ne (by omega)] | rw [upN_eq] | rw [rr_ne (by omega)] | rw [rr_eq] | rw [sb_cpy0 (by omega)])
  have g9 : ∀ s, s < 8 → I5 (h + 9) s = I (o + 9) s := fun s hs => by rw [f5 (h + 9) (by omega)]; (repeat first | rw [ru_ne (by omega)] | rw [ru_j] | rw [ru_ij (by omega)] | rw [upN_ne (by omega)] | rw [upN_eq] | rw [rr_ne (by omega)] | rw [rr_eq] | rw [sb_cpy0 (by omega)])
  have g10 : ∀ s, s < 8 → I5 (h + 10) s = I (o + 10) s := fun s hs => by rw [f5 (h + 10) (by omega)]; (repeat first | rw [ru_ne (by omega)] | rw [ru_j] | rw [ru_ij (by omega)] | rw [upN_ne (by omega)] | rw [upN_eq] | rw [rr_ne (by omega)] | rw [rr_eq] | rw [sb_cpy0 (by omega)])
  have c6 : MC I I5 (h + 12) (o + 12) := by
    obtain ⟨x1, x2, x3, x4⟩ := c5
    refine ⟨fun t ht => ?_, fun s hs => ?_, ?_, ?_⟩
    · obtain ⟨y1, y2, y3⟩ := x1 t ht
      refine ⟨y1.trans ?_, y2.trans ?_, y3.trans ?_⟩ <;> (repeat first | rw [ru_ne (by omega)] | rw [ru_j] | rw [ru_ij (by omega)] | rw [upN_ne (by omega)] | rw [upN_eq] | rw [rr_ne (by omega)] | rw [rr_eq] | rw [sb_cpy0 (by omega)])
    · obtain ⟨y1, y2⟩ := x2 s hs
      refine ⟨y1.trans ?_, y2.trans ?_⟩ <;> (repeat first | rw [ru_ne (by omega)] | rw [ru_j] | rw [ru_ij (by omega)] | rw [upN_ne (by omega)] | rw [upN_eq] | rw [rr_ne (by omega)] | rw [rr_eq] | rw [sb_cpy0 (by omega)])
    · refine x3.trans ?_; (repeat first | rw [ru_ne (by omega)] | rw [ru_j] | rw [ru_ij (by omega)] | rw [upN_ne (by omega)] | rw [upN_eq] | rw [rr_ne (by omega)] | rw [rr_eq] | rw [sb_cpy0 (by omega)])
    · refine x4.trans ?_; (repeat first | rw [ru_ne (by omega)] | rw [ru_j] | rw [ru_ij (by omega)] | rw [upN_ne (by omega)] | rw [upN_eq] | rw [rr_ne (by omega)] | rw [rr_eq] | rw [sb_cpy0 (by omega)])
  have hM := hR.m.cp c6 h5 h8
  refine hQ _ ?_ ⟨?_, ?_, fun s hs => ⟨?_, ?_⟩, fun t ht => ⟨?_, ?_⟩, hM.of (fun b b1 b2 => by rw [sd_u_ne (by omega), sd_u_ne (by omega)])⟩
  · intro c hc
    rw [sd_u_ne (by omega), sd_u_ne (by omega), fa c (by omega) (by omega) (by omega) (by omega) (by omega)]
  · (repeat first | rw [ru_ne (by omega)] | rw [ru_j] | rw [ru_ij (by omega)] | rw [upN_ne (by omega)] | rw [upN_eq] | rw [rr_ne (by omega)] | rw [rr_eq] | rw [sb_cpy0 (by omega)]); rw [fa o (by omega) (by omega) (by omega) (by omega) (by omega)]; exact hR.sl
  · (repeat first | rw [ru_ne (by omega)] | rw [ru_j] | rw [ru_ij (by omega)] | rw [upN_ne (by omega)] | rw [upN_eq] | rw [rr_ne (by omega)] | rw [rr_eq] | rw [sb_cpy0 (by omega)]); rw [fa o (by omega) (by omega) (by omega) (by omega) (by omega)]; exact hR.th
  · (repeat first | rw [ru_ne (by omega)] | rw [ru_j] | rw [ru_ij (by omega)] | rw [upN_ne (by omega)] | rw [upN_eq] | rw [rr_ne (by omega)] | rw [rr_eq] | rw [sb_cpy0 (by omega)]); rw [g7 s (by omega)]; exact hR.bd hs
  · (repeat first | rw [ru_ne (by omega)] | rw [ru_j] | rw [ru_ij (by omega)] | rw [upN_ne (by omega)] | rw [upN_eq] | rw [rr_ne (by omega)] | rw [rr_eq] | rw [sb_cpy0 (by omega)]); rw [g8 s (by omega)]; exact hR.br hs
  · (repeat first | rw [ru_ne (by omega)] | rw [ru_j] | rw [ru_ij (by omega)] | rw [upN_ne (by omega)] | rw [upN_eq] | rw [rr_ne (by omega)] | rw [rr_eq] | rw [sb_cpy0 (by omega)]); rw [g9 t (by omega)]; exact hR.kd ht
  · (repeat first | rw [ru_ne (by omega)] | rw [ru_j] | rw [ru_ij (by omega)] | rw [upN_ne (by omega)] | rw [upN_eq] | rw [rr_ne (by omega)] | rw [rr_eq] | rw [sb_cpy0 (by omega)]); rw [g10 t (by omega)]; exact hR.dr ht
