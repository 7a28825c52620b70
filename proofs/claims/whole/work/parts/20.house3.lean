-- the class House: a whole night, what is added, taken over, drawn
theorem ru_ne {I : sd_I} {a b i j : Nat} {v : Int32} (h : b ≠ a) : sd_u I a j v b i = I b i := by rw [sd_u_ne h]
theorem ru_j {I : sd_I} {a j : Nat} {v : Int32} : sd_u I a j v a j = v := by rw [sd_u_eq]; simp
theorem ru_ij {I : sd_I} {a i j : Nat} {v : Int32} (h : i ≠ j) : sd_u I a j v a i = I a i := by rw [sd_u_eq]; simp [h]
theorem rr_ne {I : sd_I} {a b i : Nat} {f : Nat → Int32} (h : b ≠ a) : sd_r I a f b i = I b i := by rw [sd_r_ne h]
section House3
variable {X : Nat × (Nat → Int32)} {I : sd_I} {J : sd_J} {h : Nat} {N : Nat → Nat}
theorem goT_step {N : Nat → Nat} {i : Nat} (hi : i < 8) (h5 : N 36 ≤ 5) (k : Nat) : goT N (i + 1) k = upN (goT N i) (18 + i) (mB (N (48 + i)) (N (56 + i)) (N (18 + i)) (N 0)) k := by
  by_cases h1 : k = 18 + i
  · subst h1
    rw [upN_eq]; unfold goT; rw [if_pos (by omega), show 18 + i + 30 = 48 + i by omega, show 18 + i + 38 = 56 + i by omega]
  · rw [upN_ne h1]; unfold goT
    by_cases h3 : 18 ≤ k ∧ k < 18 + i
    · rw [if_pos h3, if_pos (by omega)]
    · rw [if_neg h3, if_neg (by omega : ¬ (18 ≤ k ∧ k < 18 + (i + 1)))]
theorem goT_0 {N : Nat → Nat} : goT N 0 = goS N (N 36) := by funext k; unfold goT; rw [if_neg (by omega)]
theorem goN_eq (hs : N 36 ≤ 5) (ht : N 47 ≤ 8) : goN N = upN (goT N (N 47)) 0 (N 0 + 1) := by
  funext k; rw [goT_done hs ht]
  by_cases h0 : k = 0
  · subst h0; rw [upN_eq]; rfl
  · rw [upN_ne h0, if_neg h0]
theorem lp2_X2_spendNight {w : Nat} (hh : is2 h) (hV : NV N) {Q : Option Int32 → sd_S → Prop} : ∀ (m i : Nat) (I : sd_I), N 47 - i < m → i ≤ N 47 → HR I h (goT N i) → (∀ I', Fr I I' (h + 12) (h + 15) → HR I' h (goN N) → Q (some (nI w)) (sk0, X, I', J)) → AW muX2_spendNight 0 0 64 [.ref h, .int (nI w), .int (nI i)] [] (sk0, X, I, J) Q := by
  have h5 := hV.s5
  have h8 := hV.t8
  have hn := hV.ni
  intro m
  induction m with
  | zero => intros; omega
  | succ m ih =>
    intro i I hm hi hR K
    have e36 : goT N i 36 = N 36 := goT_low (by omega) (by omega) h5
    have e47 : goT N i 47 = N 47 := goT_low (by omega) (by omega) h5
    have e0 : goT N i 0 = N 0 := goT_low (by omega) (by omega) h5
    have hTh := hR.th
    rw [e47] at hTh
    have hNi := hR.m.ni
    rw [e0] at hNi
    have hkd : i < N 47 → I (h + 9) i = nI (N (48 + i)) := fun hi => by rw [hR.kd (by rw [e47]; exact hi), goT_low (by omega) (by omega) h5]
    have hdr : i < N 47 → I (h + 10) i = nI (N (56 + i)) := fun hi => by rw [hR.dr (by rw [e47]; exact hi), goT_low (by omega) (by omega) h5]
    have hlf : i < N 47 → I (h + 12 + 3) i = nI (N (18 + i)) := fun hi => by rw [hR.m.lf (by rw [e47]; exact hi)]; unfold goT; rw [if_neg (by omega), goS_low (by omega) h5]
    refine AW.iload_n dX2_spendNight_64 rfl rfl ?_
    refine AW.aload_n dX2_spendNight_65 rfl rfl ?_
    refine g2_8 dX2_spendNight_66 wF_X2_67 (by first | assumption | rfl | (unfold is2; omega)) ?_
    refine AW.top (hTh) ?_
    first | refine AW.icmp_geN (tgt := 113) dX2_spendNight_69 (by decide) (by omega) (by omega) (fun c69 => ?_) (fun c69 => ?_) | refine AW.icmp_ge (tgt := 113) dX2_spendNight_69 (by decide) (fun c69 => ?_) (fun c69 => ?_)
    · refine AW.aload_n dX2_spendNight_113 rfl rfl ?_
      refine g2_6 dX2_spendNight_114 wF_X2_49 (by first | assumption | rfl | (unfold is2; omega)) ?_
      refine AW.dup dX2_spendNight_117 rfl ?_
      show AW muX2_spendNight _ _ 118 _ _ _ _
      refine g4_5 dX2_spendNight_118 wF_X2_70 (by first | assumption | exact is2.m (by assumption) | rfl | (unfold is4; omega) | exact is6.m (by assumption) (by omega)) ?_
      refine AW.top (hNi) ?_
      refine AW.iconst (v := nI 1) dX2_spendNight_121 (by decide) ?_
      first | refine AW.iaddN dX2_spendNight_122 ?_ | refine AW.iadd dX2_spendNight_122 ?_
      refine p4_5 dX2_spendNight_123 wF_X2_70 (by first | assumption | exact is2.m (by assumption) | rfl | (unfold is4; omega) | exact is6.m (by assumption) (by omega)) ?_
      refine AW.iload_n dX2_spendNight_126 rfl rfl ?_
      refine AW.iret dX2_spendNight_127 ⟨_, rfl, rfl⟩ (Nat.zero_le _) (Nat.zero_le _) ?_
      obtain rfl : i = N 47 := by omega
      refine K _ (Fr.u (by omega) (by omega)) ?_
      rw [goN_eq h5 h8]
      exact HR.up hR (by omega) (by omega) HT.ni (by omega) (by omega)
    · refine AW.aload_n dX2_spendNight_72 rfl rfl ?_
      show AW muX2_spendNight _ _ 73 _ _ _ _
      refine g2_6 dX2_spendNight_73 wF_X2_49 (by first | assumption | rfl | (unfold is2; omega)) ?_
      refine g4_2 dX2_spendNight_76 wF_X2_88 (by first | assumption | exact is2.m (by assumption) | rfl | (unfold is4; omega) | exact is6.m (by assumption) (by omega)) ?_
      refine AW.iload_n dX2_spendNight_79 rfl rfl ?_
      refine AW.aload_n dX2_spendNight_80 rfl rfl ?_
      refine AW.aload_n dX2_spendNight_81 rfl rfl ?_
      refine g2_3 dX2_spendNight_82 wF_X2_37 (by first | assumption | rfl | (unfold is2; omega)) ?_
      show AW muX2_spendNight _ _ 85 _ _ _ _
      refine AW.iload_n dX2_spendNight_85 rfl rfl ?_
      refine AW.iald dX2_spendNight_86 (by first | exact is4.a3 (is2.m hh) | exact is2.a9 hh | exact is2.a10 hh | exact is2.a0 hh) _ (by first | rfl | assumption) (by omega) (by first | decide | omega) ?_
      refine AW.top (hkd (by omega)) ?_
      refine AW.aload_n dX2_spendNight_87 rfl rfl ?_
      refine g2_4 dX2_spendNight_88 wF_X2_40 (by first | assumption | rfl | (unfold is2; omega)) ?_
      refine AW.iload_n dX2_spendNight_91 rfl rfl ?_
      refine AW.iald dX2_spendNight_92 (by first | exact is4.a3 (is2.m hh) | exact is2.a9 hh | exact is2.a10 hh | exact is2.a0 hh) _ (by first | rfl | assumption) (by omega) (by first | decide | omega) ?_
      refine AW.top (hdr (by omega)) ?_
      show AW muX2_spendNight _ _ 93 _ _ _ _
      refine AW.aload_n dX2_spendNight_93 rfl rfl ?_
      refine g2_6 dX2_spendNight_94 wF_X2_49 (by first | assumption | rfl | (unfold is2; omega)) ?_
      refine g4_2 dX2_spendNight_97 wF_X2_88 (by first | assumption | exact is2.m (by assumption) | rfl | (unfold is4; omega) | exact is6.m (by assumption) (by omega)) ?_
      refine AW.iload_n dX2_spendNight_100 rfl rfl ?_
      refine AW.iald dX2_spendNight_101 (by first | exact is4.a3 (is2.m hh) | exact is2.a9 hh | exact is2.a10 hh | exact is2.a0 hh) _ (by first | rfl | assumption) (by omega) (by first | decide | omega) ?_
      refine AW.top (hlf (by omega)) ?_
      refine AW.iconst (v := nI 0) dX2_spendNight_102 (by decide) ?_
      show AW muX2_spendNight _ _ 103 _ _ _ _
      refine cs_X2_spendNight_103 (by first | exact is4.a3 (is2.m hh) | exact is2.a9 hh | exact is2.a10 hh | exact is2.a0 hh) (by decide) (by decide) (Nat.le_of_ble_eq_true rfl) (s_X2_leftBehind (N := N) hh hNi hn (hV.kd (by omega)) (by have := hV.dr (t := i) (by omega); omega) (by have := hV.lf (t := i) (by omega); omega) (by decide) ?_)
      refine AW.iast dX2_spendNight_106 (by first | exact is4.a3 (is2.m hh) | exact is2.a9 hh | exact is2.a10 hh | exact is2.a0 hh) _ (by first | rfl | assumption) (by omega) (by first | decide | omega) ?_
      first | refine AW.iincN dX2_spendNight_107 rfl (by decide) rfl rfl ?_ | refine AW.iinc dX2_spendNight_107 rfl rfl (by decide) rfl rfl ?_
      refine AW.goto (tgt := 64) dX2_spendNight_110 (by decide) ?_
      refine ih (i + 1) _ (by omega) (by omega) ?_ (fun I' f H => K I' ((Fr.u (by omega) (by omega)).tr f) H)
      rw [funext (goT_step (N := N) (i := i) (by omega) h5)]
      exact HR.up hR (by omega) (by omega) (HT.lf (by omega)) (by omega) (by omega)
theorem s_X2_spendNight {Q : Int32 → sd_S → Prop} (hh : is2 h) (hR : HR I h N) (hV : NV N) (hQ : ∀ I', Fr I I' h (h + 17) → HR I' h (goN N) → Q (nI (wokenC N (N 36))) (sk0, X, I', J)) : AWi muX2_spendNight [.ref h] (sk0, X, I, J) Q := by
  have g0 : goS N 0 = N := by funext k; unfold goS; rw [if_neg (by omega), if_neg (by omega)]
  show AW muX2_spendNight 0 0 0 [.ref h, .null, .null] [] _ _
  refine AW.iconst (v := nI 0) dX2_spendNight_0 (by decide) ?_
  refine AW.istore_n dX2_spendNight_1 rfl (by decide) rfl rfl ?_
  refine AW.aload_n dX2_spendNight_2 rfl rfl ?_
  refine cs_X2_spendNight_3 (by first | exact is2.a0 hh) (by decide) (by decide) (Nat.le_of_ble_eq_true rfl) (s_X2_listen hh hR hV (fun I1 f1 e1 => ?_))
  refine AW.iconst (v := nI 0) dX2_spendNight_6 (by decide) ?_
  refine AW.istore_n dX2_spendNight_7 rfl (by decide) rfl rfl ?_
  show AW muX2_spendNight _ _ 8 _ _ _ _
  refine lp1_X2_spendNight hh hV (N 36 + 1) 0 I1 (by omega) (by omega) ?_ e1 (fun I2 f2 H2 => ?_)
  · rw [g0]; exact hR.of (fun b b1 b2 b3 => f1 b (by omega))
  · refine AW.iconst (v := nI 0) dX2_spendNight_62 (by decide) ?_
    refine AW.istore_n dX2_spendNight_63 rfl (by decide) rfl rfl ?_
    refine lp2_X2_spendNight hh hV (N 47 + 1) 0 I2 (by omega) (by omega) (by rw [goT_0]; exact H2) (fun I3 f3 H3 => ⟨_, rfl, hQ I3 ?_ H3⟩)
    exact (((f1.w (by omega) (by omega) : Fr I I1 h (h + 17))).tr (f2.w (by omega) (by omega))).tr (f3.w (by omega) (by omega))
/-- one more sleeper -/
def addS (N : Nat → Nat) (r b : Nat) : Nat → Nat := upN (upN (upN (upN (upN N (37 + N 36) r) (42 + N 36) b) (26 + N 36) 0) (31 + N 36) 0) 36 (N 36 + 1)
/-- one more thing -/
def addT (N : Nat → Nat) (k g d r : Nat) : Nat → Nat := upN (upN (upN (upN (upN (upN N (48 + N 47) k) (56 + N 47) d) (10 + N 47) g) (2 + N 47) r) (18 + N 47) (min (10 * d) 99)) 47 (N 47 + 1)
theorem s_X2_addSleeper {Q : sd_S → Prop} {r b : Nat} (hh : is2 h) (hR : HR I h N) (h5 : N 36 < 5) (h8 : N 47 ≤ 8) (hQ : ∀ I', Fr I I' h (h + 17) → HR I' h (addS N r b) → Q (sk0, X, I', J)) : AWv muX2_addSleeper [.ref h, .int (nI r), .int (nI b)] (sk0, X, I, J) Q := by
  show AW muX2_addSleeper 0 0 0 [.ref h, .int (nI r), .int (nI b)] [] _ _
  refine AW.aload_n dX2_addSleeper_0 rfl rfl ?_
  refine g2_7 dX2_addSleeper_1 wF_X2_63 (by first | assumption | rfl | (unfold is2; omega)) ?_
  refine AW.top (show _ = nI (N 36) by (repeat first | rw [ru_ne (by omega)] | rw [ru_j] | rw [ru_ij (by omega)] | rw [upN_ne (by omega)] | rw [upN_eq]); exact hR.sl) ?_
  refine AW.iconst (v := nI 5) dX2_addSleeper_4 (by decide) ?_
  first | refine AW.icmp_ltN (tgt := 9) dX2_addSleeper_5 (by decide) (by omega) (by omega) (fun c5 => ?_) (fun c5 => ?_) | refine AW.icmp_lt (tgt := 9) dX2_addSleeper_5 (by decide) (fun c5 => ?_) (fun c5 => ?_)
  · refine AW.aload_n dX2_addSleeper_9 rfl rfl ?_
    refine g2_1 dX2_addSleeper_10 wF_X2_30 (by first | assumption | rfl | (unfold is2; omega)) ?_
    refine AW.aload_n dX2_addSleeper_13 rfl rfl ?_
    show AW muX2_addSleeper _ _ 14 _ _ _ _
    refine g2_7 dX2_addSleeper_14 wF_X2_63 (by first | assumption | rfl | (unfold is2; omega)) ?_
    refine AW.top (show _ = nI (N 36) by (repeat first | rw [ru_ne (by omega)] | rw [ru_j] | rw [ru_ij (by omega)] | rw [upN_ne (by omega)] | rw [upN_eq]); exact hR.sl) ?_
    refine AW.iload_n dX2_addSleeper_17 rfl rfl ?_
    refine AW.iast dX2_addSleeper_18 (by first | exact is4.a4 (is2.m hh) | exact is4.a5 (is2.m hh) | exact is2.a7 hh | exact is2.a8 hh) _ (by first | rfl | assumption) (by omega) (by first | decide | omega) ?_
    refine AW.aload_n dX2_addSleeper_19 rfl rfl ?_
    refine g2_2 dX2_addSleeper_20 wF_X2_34 (by first | assumption | rfl | (unfold is2; omega)) ?_
    refine AW.aload_n dX2_addSleeper_23 rfl rfl ?_
    show AW muX2_addSleeper _ _ 24 _ _ _ _
    refine g2_7 dX2_addSleeper_24 wF_X2_63 (by first | assumption | rfl | (unfold is2; omega)) ?_
    refine AW.top (show _ = nI (N 36) by (repeat first | rw [ru_ne (by omega)] | rw [ru_j] | rw [ru_ij (by omega)] | rw [upN_ne (by omega)] | rw [upN_eq]); exact hR.sl) ?_
    refine AW.iload_n dX2_addSleeper_27 rfl rfl ?_
    refine AW.iast dX2_addSleeper_28 (by first | exact is4.a4 (is2.m hh) | exact is4.a5 (is2.m hh) | exact is2.a7 hh | exact is2.a8 hh) _ (by first | rfl | assumption) (by omega) (by first | decide | omega) ?_
    refine AW.aload_n dX2_addSleeper_29 rfl rfl ?_
    refine g2_6 dX2_addSleeper_30 wF_X2_49 (by first | assumption | rfl | (unfold is2; omega)) ?_
    refine g4_3 dX2_addSleeper_33 wF_X2_76 (by first | assumption | exact is2.m (by assumption) | rfl | (unfold is4; omega) | exact is6.m (by assumption) (by omega)) ?_
    show AW muX2_addSleeper _ _ 36 _ _ _ _
    refine AW.aload_n dX2_addSleeper_36 rfl rfl ?_
    refine g2_7 dX2_addSleeper_37 wF_X2_63 (by first | assumption | rfl | (unfold is2; omega)) ?_
    refine AW.top (show _ = nI (N 36) by (repeat first | rw [ru_ne (by omega)] | rw [ru_j] | rw [ru_ij (by omega)] | rw [upN_ne (by omega)] | rw [upN_eq]); exact hR.sl) ?_
    refine AW.iconst (v := nI 0) dX2_addSleeper_40 (by decide) ?_
    refine AW.iast dX2_addSleeper_41 (by first | exact is4.a4 (is2.m hh) | exact is4.a5 (is2.m hh) | exact is2.a7 hh | exact is2.a8 hh) _ (by first | rfl | assumption) (by omega) (by first | decide | omega) ?_
    refine AW.aload_n dX2_addSleeper_42 rfl rfl ?_
    refine g2_6 dX2_addSleeper_43 wF_X2_49 (by first | assumption | rfl | (unfold is2; omega)) ?_
    show AW muX2_addSleeper _ _ 46 _ _ _ _
    refine g4_4 dX2_addSleeper_46 wF_X2_79 (by first | assumption | exact is2.m (by assumption) | rfl | (unfold is4; omega) | exact is6.m (by assumption) (by omega)) ?_
    refine AW.aload_n dX2_addSleeper_49 rfl rfl ?_
    refine g2_7 dX2_addSleeper_50 wF_X2_63 (by first | assumption | rfl | (unfold is2; omega)) ?_
    refine AW.top (show _ = nI (N 36) by (repeat first | rw [ru_ne (by omega)] | rw [ru_j] | rw [ru_ij (by omega)] | rw [upN_ne (by omega)] | rw [upN_eq]); exact hR.sl) ?_
    refine AW.iconst (v := nI 0) dX2_addSleeper_53 (by decide) ?_
    refine AW.iast dX2_addSleeper_54 (by first | exact is4.a4 (is2.m hh) | exact is4.a5 (is2.m hh) | exact is2.a7 hh | exact is2.a8 hh) _ (by first | rfl | assumption) (by omega) (by first | decide | omega) ?_
    refine AW.aload_n dX2_addSleeper_55 rfl rfl ?_
    show AW muX2_addSleeper _ _ 56 _ _ _ _
    refine AW.dup dX2_addSleeper_56 rfl ?_
    refine g2_7 dX2_addSleeper_57 wF_X2_63 (by first | assumption | rfl | (unfold is2; omega)) ?_
    refine AW.top (show _ = nI (N 36) by (repeat first | rw [ru_ne (by omega)] | rw [ru_j] | rw [ru_ij (by omega)] | rw [upN_ne (by omega)] | rw [upN_eq]); exact hR.sl) ?_
    refine AW.iconst (v := nI 1) dX2_addSleeper_60 (by decide) ?_
    first | refine AW.iaddN dX2_addSleeper_61 ?_ | refine AW.iadd dX2_addSleeper_61 ?_
    refine p2_7 dX2_addSleeper_62 wF_X2_63 (by first | assumption | rfl | (unfold is2; omega)) ?_
    refine AW.ret dX2_addSleeper_65 rfl (Nat.zero_le _) (Nat.zero_le _) ⟨rfl, ?_⟩
    refine hQ _ (((((Fr.u (by omega) (by omega)).up (by omega) (by omega)).up (by omega) (by omega)).up (by omega) (by omega)).up (by omega) (by omega)) ?_
    have hI := HR_iff.mp hR
    rw [HR_iff]
    intro c i k hc
    have e36 : addS N r b 36 = N 36 + 1 := by unfold addS; (repeat first | rw [ru_ne (by omega)] | rw [ru_j] | rw [ru_ij (by omega)] | rw [upN_ne (by omega)] | rw [upN_eq])
    have e47 : addS N r b 47 = N 47 := by unfold addS; (repeat first | rw [ru_ne (by omega)] | rw [ru_j] | rw [ru_ij (by omega)] | rw [upN_ne (by omega)] | rw [upN_eq])
    rw [e36, e47] at hc
    unfold HT at hc
    unfold addS
    rcases hc with ⟨rfl, rfl, rfl⟩ | ⟨rfl, rfl, rfl⟩ | ⟨rfl, hi, rfl⟩ | ⟨rfl, hi, rfl⟩ | ⟨rfl, hi, rfl⟩ | ⟨rfl, hi, rfl⟩ | ⟨rfl, rfl, rfl⟩ | ⟨rfl, rfl, rfl⟩ | ⟨rfl, hi, rfl⟩ | ⟨rfl, hi, rfl⟩ | ⟨rfl, hi, rfl⟩ | ⟨rfl, hi, rfl⟩ | ⟨rfl, hi, rfl⟩
    · (repeat first | rw [ru_ne (by omega)] | rw [ru_j] | rw [ru_ij (by omega)] | rw [upN_ne (by omega)] | rw [upN_eq])
    · (repeat first | rw [ru_ne (by omega)] | rw [ru_j] | rw [ru_ij (by omega)] | rw [upN_ne (by omega)] | rw [upN_eq]); exact hR.th
    · by_cases e : i = N 36
      · subst e; (repeat first | rw [ru_ne (by omega)] | rw [ru_j] | rw [ru_ij (by omega)] | rw [upN_ne (by omega)] | rw [upN_eq])
      · (repeat first | rw [ru_ne (by omega)] | rw [ru_j] | rw [ru_ij (by omega)] | rw [upN_ne (by omega)] | rw [upN_eq]); exact hR.bd (by omega)
    · by_cases e : i = N 36
      · subst e; (repeat first | rw [ru_ne (by omega)] | rw [ru_j] | rw [ru_ij (by omega)] | rw [upN_ne (by omega)] | rw [upN_eq])
      · (repeat first | rw [ru_ne (by omega)] | rw [ru_j] | rw [ru_ij (by omega)] | rw [upN_ne (by omega)] | rw [upN_eq]); exact hR.br (by omega)
    · (repeat first | rw [ru_ne (by omega)] | rw [ru_j] | rw [ru_ij (by omega)] | rw [upN_ne (by omega)] | rw [upN_eq]); exact hR.kd hi
    · (repeat first | rw [ru_ne (by omega)] | rw [ru_j] | rw [ru_ij (by omega)] | rw [upN_ne (by omega)] | rw [upN_eq]); exact hR.dr hi
    · (repeat first | rw [ru_ne (by omega)] | rw [ru_j] | rw [ru_ij (by omega)] | rw [upN_ne (by omega)] | rw [upN_eq]); exact hR.m.ni
    · (repeat first | rw [ru_ne (by omega)] | rw [ru_j] | rw [ru_ij (by omega)] | rw [upN_ne (by omega)] | rw [upN_eq]); exact hR.m.dw
    · (repeat first | rw [ru_ne (by omega)] | rw [ru_j] | rw [ru_ij (by omega)] | rw [upN_ne (by omega)] | rw [upN_eq]); exact hR.m.pl hi
    · (repeat first | rw [ru_ne (by omega)] | rw [ru_j] | rw [ru_ij (by omega)] | rw [upN_ne (by omega)] | rw [upN_eq]); exact hR.m.gv hi
    · (repeat first | rw [ru_ne (by omega)] | rw [ru_j] | rw [ru_ij (by omega)] | rw [upN_ne (by omega)] | rw [upN_eq]); exact hR.m.lf hi
    · by_cases e : i = N 36
      · subst e; (repeat first | rw [ru_ne (by omega)] | rw [ru_j] | rw [ru_ij (by omega)] | rw [upN_ne (by omega)] | rw [upN_eq])
      · (repeat first | rw [ru_ne (by omega)] | rw [ru_j] | rw [ru_ij (by omega)] | rw [upN_ne (by omega)] | rw [upN_eq]); exact hR.m.sp (by omega)
    · by_cases e : i = N 36
      · subst e; (repeat first | rw [ru_ne (by omega)] | rw [ru_j] | rw [ru_ij (by omega)] | rw [upN_ne (by omega)] | rw [upN_eq])
      · (repeat first | rw [ru_ne (by omega)] | rw [ru_j] | rw [ru_ij (by omega)] | rw [upN_ne (by omega)] | rw [upN_eq]); exact hR.m.wk (by omega)
  · omega
theorem s_X2_addThing {Q : sd_S → Prop} {kd g d r : Nat} (hh : is2 h) (hR : HR I h N) (h5 : N 36 ≤ 5) (h8 : N 47 < 8) (hd : d < 1000) (hQ : ∀ I', Fr I I' h (h + 17) → HR I' h (addT N kd g d r) → Q (sk0, X, I', J)) : AWv muX2_addThing [.ref h, .int (nI kd), .int (nI g), .int (nI d), .int (nI r)] (sk0, X, I, J) Q := by
  show AW muX2_addThing 0 0 0 [.ref h, .int (nI kd), .int (nI g), .int (nI d), .int (nI r)] [] _ _
  refine AW.aload_n dX2_addThing_0 rfl rfl ?_
  refine g2_8 dX2_addThing_1 wF_X2_67 (by first | assumption | rfl | (unfold is2; omega)) ?_
  refine AW.top (show _ = nI (N 47) by (repeat first | rw [ru_ne (by omega)] | rw [ru_j] | rw [ru_ij (by omega)] | rw [upN_ne (by omega)] | rw [upN_eq]); exact hR.th) ?_
  refine AW.bipush (v := nI 8) dX2_addThing_4 (by decide) ?_
  first | refine AW.icmp_ltN (tgt := 10) dX2_addThing_6 (by decide) (by omega) (by omega) (fun c6 => ?_) (fun c6 => ?_) | refine AW.icmp_lt (tgt := 10) dX2_addThing_6 (by decide) (fun c6 => ?_) (fun c6 => ?_)
  · refine AW.aload_n dX2_addThing_10 rfl rfl ?_
    refine g2_3 dX2_addThing_11 wF_X2_37 (by first | assumption | rfl | (unfold is2; omega)) ?_
    refine AW.aload_n dX2_addThing_14 rfl rfl ?_
    show AW muX2_addThing _ _ 15 _ _ _ _
    refine g2_8 dX2_addThing_15 wF_X2_67 (by first | assumption | rfl | (unfold is2; omega)) ?_
    refine AW.top (show _ = nI (N 47) by (repeat first | rw [ru_ne (by omega)] | rw [ru_j] | rw [ru_ij (by omega)] | rw [upN_ne (by omega)] | rw [upN_eq]); exact hR.th) ?_
    refine AW.iload_n dX2_addThing_18 rfl rfl ?_
    refine AW.iast dX2_addThing_19 (by first | exact is4.a1 (is2.m hh) | exact is4.a2 (is2.m hh) | exact is4.a3 (is2.m hh) | exact is2.a9 hh | exact is2.a10 hh) _ (by first | rfl | assumption) (by omega) (by first | decide | omega) ?_
    refine AW.aload_n dX2_addThing_20 rfl rfl ?_
    refine g2_4 dX2_addThing_21 wF_X2_40 (by first | assumption | rfl | (unfold is2; omega)) ?_
    refine AW.aload_n dX2_addThing_24 rfl rfl ?_
    show AW muX2_addThing _ _ 25 _ _ _ _
    refine g2_8 dX2_addThing_25 wF_X2_67 (by first | assumption | rfl | (unfold is2; omega)) ?_
    refine AW.top (show _ = nI (N 47) by (repeat first | rw [ru_ne (by omega)] | rw [ru_j] | rw [ru_ij (by omega)] | rw [upN_ne (by omega)] | rw [upN_eq]); exact hR.th) ?_
    refine AW.iload_n dX2_addThing_28 rfl rfl ?_
    refine AW.iast dX2_addThing_29 (by first | exact is4.a1 (is2.m hh) | exact is4.a2 (is2.m hh) | exact is4.a3 (is2.m hh) | exact is2.a9 hh | exact is2.a10 hh) _ (by first | rfl | assumption) (by omega) (by first | decide | omega) ?_
    refine AW.aload_n dX2_addThing_30 rfl rfl ?_
    refine g2_6 dX2_addThing_31 wF_X2_49 (by first | assumption | rfl | (unfold is2; omega)) ?_
    refine g4_1 dX2_addThing_34 wF_X2_82 (by first | assumption | exact is2.m (by assumption) | rfl | (unfold is4; omega) | exact is6.m (by assumption) (by omega)) ?_
    show AW muX2_addThing _ _ 37 _ _ _ _
    refine AW.aload_n dX2_addThing_37 rfl rfl ?_
    refine g2_8 dX2_addThing_38 wF_X2_67 (by first | assumption | rfl | (unfold is2; omega)) ?_
    refine AW.top (show _ = nI (N 47) by (repeat first | rw [ru_ne (by omega)] | rw [ru_j] | rw [ru_ij (by omega)] | rw [upN_ne (by omega)] | rw [upN_eq]); exact hR.th) ?_
    refine AW.iload_n dX2_addThing_41 rfl rfl ?_
    refine AW.iast dX2_addThing_42 (by first | exact is4.a1 (is2.m hh) | exact is4.a2 (is2.m hh) | exact is4.a3 (is2.m hh) | exact is2.a9 hh | exact is2.a10 hh) _ (by first | rfl | assumption) (by omega) (by first | decide | omega) ?_
    refine AW.aload_n dX2_addThing_43 rfl rfl ?_
    refine g2_6 dX2_addThing_44 wF_X2_49 (by first | assumption | rfl | (unfold is2; omega)) ?_
    show AW muX2_addThing _ _ 47 _ _ _ _
    refine g4_0 dX2_addThing_47 wF_X2_85 (by first | assumption | exact is2.m (by assumption) | rfl | (unfold is4; omega) | exact is6.m (by assumption) (by omega)) ?_
    refine AW.aload_n dX2_addThing_50 rfl rfl ?_
    refine g2_8 dX2_addThing_51 wF_X2_67 (by first | assumption | rfl | (unfold is2; omega)) ?_
    refine AW.top (show _ = nI (N 47) by (repeat first | rw [ru_ne (by omega)] | rw [ru_j] | rw [ru_ij (by omega)] | rw [upN_ne (by omega)] | rw [upN_eq]); exact hR.th) ?_
    refine AW.iload dX2_addThing_54 rfl ?_
    refine AW.iast dX2_addThing_56 (by first | exact is4.a1 (is2.m hh) | exact is4.a2 (is2.m hh) | exact is4.a3 (is2.m hh) | exact is2.a9 hh | exact is2.a10 hh) _ (by first | rfl | assumption) (by omega) (by first | decide | omega) ?_
    refine AW.aload_n dX2_addThing_57 rfl rfl ?_
    show AW muX2_addThing _ _ 58 _ _ _ _
    refine g2_6 dX2_addThing_58 wF_X2_49 (by first | assumption | rfl | (unfold is2; omega)) ?_
    refine g4_2 dX2_addThing_61 wF_X2_88 (by first | assumption | exact is2.m (by assumption) | rfl | (unfold is4; omega) | exact is6.m (by assumption) (by omega)) ?_
    refine AW.aload_n dX2_addThing_64 rfl rfl ?_
    refine g2_8 dX2_addThing_65 wF_X2_67 (by first | assumption | rfl | (unfold is2; omega)) ?_
    refine AW.top (show _ = nI (N 47) by (repeat first | rw [ru_ne (by omega)] | rw [ru_j] | rw [ru_ij (by omega)] | rw [upN_ne (by omega)] | rw [upN_eq]); exact hR.th) ?_
    refine AW.iload_n dX2_addThing_68 rfl rfl ?_
    refine cs_X2_addThing_69 (by decide) (by decide) (Nat.le_of_ble_eq_true rfl) (s_X11_leftAtFirst hd ?_)
    show AW muX2_addThing _ _ 72 _ _ _ _
    refine AW.iast dX2_addThing_72 (by first | exact is4.a1 (is2.m hh) | exact is4.a2 (is2.m hh) | exact is4.a3 (is2.m hh) | exact is2.a9 hh | exact is2.a10 hh) _ (by first | rfl | assumption) (by omega) (by first | decide | omega) ?_
    refine AW.aload_n dX2_addThing_73 rfl rfl ?_
    refine AW.dup dX2_addThing_74 rfl ?_
    refine g2_8 dX2_addThing_75 wF_X2_67 (by first | assumption | rfl | (unfold is2; omega)) ?_
    refine AW.top (show _ = nI (N 47) by (repeat first | rw [ru_ne (by omega)] | rw [ru_j] | rw [ru_ij (by omega)] | rw [upN_ne (by omega)] | rw [upN_eq]); exact hR.th) ?_
    refine AW.iconst (v := nI 1) dX2_addThing_78 (by decide) ?_
    first | refine AW.iaddN dX2_addThing_79 ?_ | refine AW.iadd dX2_addThing_79 ?_
    show AW muX2_addThing _ _ 80 _ _ _ _
    refine p2_8 dX2_addThing_80 wF_X2_67 (by first | assumption | rfl | (unfold is2; omega)) ?_
    refine AW.ret dX2_addThing_83 rfl (Nat.zero_le _) (Nat.zero_le _) ⟨rfl, ?_⟩
    refine hQ _ ((((((Fr.u (by omega) (by omega)).up (by omega) (by omega)).up (by omega) (by omega)).up (by omega) (by omega)).up (by omega) (by omega)).up (by omega) (by omega)) ?_
    rw [HR_iff]
    intro c i k hc
    have e36 : addT N kd g d r 36 = N 36 := by unfold addT; (repeat first | rw [ru_ne (by omega)] | rw [ru_j] | rw [ru_ij (by omega)] | rw [upN_ne (by omega)] | rw [upN_eq])
    have e47 : addT N kd g d r 47 = N 47 + 1 := by unfold addT; (repeat first | rw [ru_ne (by omega)] | rw [ru_j] | rw [ru_ij (by omega)] | rw [upN_ne (by omega)] | rw [upN_eq])
    rw [e36, e47] at hc
    unfold HT at hc
    unfold addT
    rcases hc with ⟨rfl, rfl, rfl⟩ | ⟨rfl, rfl, rfl⟩ | ⟨rfl, hi, rfl⟩ | ⟨rfl, hi, rfl⟩ | ⟨rfl, hi, rfl⟩ | ⟨rfl, hi, rfl⟩ | ⟨rfl, rfl, rfl⟩ | ⟨rfl, rfl, rfl⟩ | ⟨rfl, hi, rfl⟩ | ⟨rfl, hi, rfl⟩ | ⟨rfl, hi, rfl⟩ | ⟨rfl, hi, rfl⟩ | ⟨rfl, hi, rfl⟩
    · (repeat first | rw [ru_ne (by omega)] | rw [ru_j] | rw [ru_ij (by omega)] | rw [upN_ne (by omega)] | rw [upN_eq]); exact hR.sl
    · (repeat first | rw [ru_ne (by omega)] | rw [ru_j] | rw [ru_ij (by omega)] | rw [upN_ne (by omega)] | rw [upN_eq])
    · (repeat first | rw [ru_ne (by omega)] | rw [ru_j] | rw [ru_ij (by omega)] | rw [upN_ne (by omega)] | rw [upN_eq]); exact hR.bd hi
    · (repeat first | rw [ru_ne (by omega)] | rw [ru_j] | rw [ru_ij (by omega)] | rw [upN_ne (by omega)] | rw [upN_eq]); exact hR.br hi
    · by_cases e : i = N 47
      · subst e; (repeat first | rw [ru_ne (by omega)] | rw [ru_j] | rw [ru_ij (by omega)] | rw [upN_ne (by omega)] | rw [upN_eq])
      · (repeat first | rw [ru_ne (by omega)] | rw [ru_j] | rw [ru_ij (by omega)] | rw [upN_ne (by omega)] | rw [upN_eq]); exact hR.kd (by omega)
    · by_cases e : i = N 47
      · subst e; (repeat first | rw [ru_ne (by omega)] | rw [ru_j] | rw [ru_ij (by omega)] | rw [upN_ne (by omega)] | rw [upN_eq])
      · (repeat first | rw [ru_ne (by omega)] | rw [ru_j] | rw [ru_ij (by omega)] | rw [upN_ne (by omega)] | rw [upN_eq]); exact hR.dr (by omega)
    · (repeat first | rw [ru_ne (by omega)] | rw [ru_j] | rw [ru_ij (by omega)] | rw [upN_ne (by omega)] | rw [upN_eq]); exact hR.m.ni
    · (repeat first | rw [ru_ne (by omega)] | rw [ru_j] | rw [ru_ij (by omega)] | rw [upN_ne (by omega)] | rw [upN_eq]); exact hR.m.dw
    · by_cases e : i = N 47
      · subst e; (repeat first | rw [ru_ne (by omega)] | rw [ru_j] | rw [ru_ij (by omega)] | rw [upN_ne (by omega)] | rw [upN_eq])
      · (repeat first | rw [ru_ne (by omega)] | rw [ru_j] | rw [ru_ij (by omega)] | rw [upN_ne (by omega)] | rw [upN_eq]); exact hR.m.pl (by omega)
    · by_cases e : i = N 47
      · subst e; (repeat first | rw [ru_ne (by omega)] | rw [ru_j] | rw [ru_ij (by omega)] | rw [upN_ne (by omega)] | rw [upN_eq])
      · (repeat first | rw [ru_ne (by omega)] | rw [ru_j] | rw [ru_ij (by omega)] | rw [upN_ne (by omega)] | rw [upN_eq]); exact hR.m.gv (by omega)
    · by_cases e : i = N 47
      · subst e; (repeat first | rw [ru_ne (by omega)] | rw [ru_j] | rw [ru_ij (by omega)] | rw [upN_ne (by omega)] | rw [upN_eq])
      · (repeat first | rw [ru_ne (by omega)] | rw [ru_j] | rw [ru_ij (by omega)] | rw [upN_ne (by omega)] | rw [upN_eq]); exact hR.m.lf (by omega)
    · (repeat first | rw [ru_ne (by omega)] | rw [ru_j] | rw [ru_ij (by omega)] | rw [upN_ne (by omega)] | rw [upN_eq]); exact hR.m.sp hi
    · (repeat first | rw [ru_ne (by omega)] | rw [ru_j] | rw [ru_ij (by omega)] | rw [upN_ne (by omega)] | rw [upN_eq]); exact hR.m.wk hi
  · omega
/-- nobody, nothing; the draw is told -/
def clrN (N : Nat → Nat) (d : Nat) : Nat → Nat := upN (upN (upN (upN N 36 0) 47 0) 0 0) 1 d
theorem s_X2_clear {Q : sd_S → Prop} {d : Nat} (hh : is2 h) (hQ : ∀ I', Fr I I' h (h + 17) → HR I' h (clrN N d) → Q (sk0, X, I', J)) : AWv muX2_clear [.ref h, .int (nI d)] (sk0, X, I, J) Q := by
  show AW muX2_clear 0 0 0 [.ref h, .int (nI d)] [] _ _
  refine AW.aload_n dX2_clear_0 rfl rfl ?_
  refine AW.iconst (v := nI 0) dX2_clear_1 (by decide) ?_
  refine p2_7 dX2_clear_2 wF_X2_63 (by first | assumption | rfl | (unfold is2; omega)) ?_
  refine AW.aload_n dX2_clear_5 rfl rfl ?_
  refine AW.iconst (v := nI 0) dX2_clear_6 (by decide) ?_
  refine p2_8 dX2_clear_7 wF_X2_67 (by first | assumption | rfl | (unfold is2; omega)) ?_
  show AW muX2_clear _ _ 10 _ _ _ _
  refine AW.aload_n dX2_clear_10 rfl rfl ?_
  refine g2_6 dX2_clear_11 wF_X2_49 (by first | assumption | rfl | (unfold is2; omega)) ?_
  refine AW.iconst (v := nI 0) dX2_clear_14 (by decide) ?_
  refine p4_5 dX2_clear_15 wF_X2_70 (by first | assumption | exact is2.m (by assumption) | rfl | (unfold is4; omega) | exact is6.m (by assumption) (by omega)) ?_
  refine AW.aload_n dX2_clear_18 rfl rfl ?_
  refine g2_6 dX2_clear_19 wF_X2_49 (by first | assumption | rfl | (unfold is2; omega)) ?_
  show AW muX2_clear _ _ 22 _ _ _ _
  refine AW.iload_n dX2_clear_22 rfl rfl ?_
  refine p4_6 dX2_clear_23 wF_X2_73 (by first | assumption | exact is2.m (by assumption) | rfl | (unfold is4; omega) | exact is6.m (by assumption) (by omega)) ?_
  refine AW.ret dX2_clear_26 rfl (Nat.zero_le _) (Nat.zero_le _) ⟨rfl, ?_⟩
  refine hQ _ ((((Fr.u (by omega) (by omega)).up (by omega) (by omega)).up (by omega) (by omega)).up (by omega) (by omega)) ?_
  have e36 : clrN N d 36 = 0 := by unfold clrN; (repeat first | rw [ru_ne (by omega)] | rw [ru_j] | rw [ru_ij (by omega)] | rw [upN_ne (by omega)] | rw [upN_eq])
  have e47 : clrN N d 47 = 0 := by unfold clrN; (repeat first | rw [ru_ne (by omega)] | rw [ru_j] | rw [ru_ij (by omega)] | rw [upN_ne (by omega)] | rw [upN_eq])
  refine ⟨?_, ?_, fun s hs => absurd hs (by rw [e36]; omega), fun t ht => absurd ht (by rw [e47]; omega), ?_, ?_, fun t ht => absurd ht (by rw [e47]; omega), fun s hs => absurd hs (by rw [e36]; omega)⟩
  all_goals (unfold clrN; (repeat first | rw [ru_ne (by omega)] | rw [ru_j] | rw [ru_ij (by omega)] | rw [upN_ne (by omega)] | rw [upN_eq]))
end House3
