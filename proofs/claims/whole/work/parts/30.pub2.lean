-- the class's own calls: foretold
def pl0 (N : Nat → Nat) : Nat → Nat := fun t => N (2 + t)
def plT (N : Nat → Nat) (t r : Nat) : Nat → Nat := fun q => if q = t then r else N (2 + q)
theorem oI_le {N pl : Nat → Nat} {r b : Nat} (k : Nat) : oI N pl r b k ≤ k := by
  have h : oI N pl r b k ≤ k * 1 := sumN_le (fun t _ => by split <;> omega)
  omega
theorem oWs_le {N pl : Nat → Nat} (h5 : N 36 ≤ 5) (k : Nat) : oWs N pl k ≤ k * 5 := sumN_le (fun t _ => Nat.le_trans (oW_le _) h5)
theorem setN_bit (n : Nat) (p : Nat → Bool) (i : Nat) : (setN n p).testBit i = (decide (i < n) && p i) := by
  induction n with
  | zero => simp [setN]
  | succ n ih =>
    have hlt := setN_lt n p
    unfold setN
    by_cases hp : p n = true
    · rw [if_pos hp]
      have e := Nat.two_pow_add_eq_or_of_lt (i := n) (b := setN n p) hlt 1
      rw [Nat.mul_one] at e
      rw [Nat.add_comm, e, Nat.testBit_or, Nat.testBit_two_pow, ih]
      by_cases h1 : i = n
      · subst h1; simp [hp]
      · have h2 : decide (n = i) = false := by simp; omega
        rw [h2, Bool.false_or]
        congr 1
        have : (i < n) ↔ (i < n + 1) := by omega
        simp [this]
    · have hp : p n = false := by simpa using hp
      rw [hp]; simp only [Bool.false_eq_true, if_false, Nat.add_zero]
      rw [ih]
      by_cases h1 : i = n
      · subst h1; simp [hp]
      · congr 1
        have : (i < n) ↔ (i < n + 1) := by omega
        simp [this]
section Pub2
variable {X : Nat × (Nat → Int32)} {I : sd_I} {J : sd_J} {N : Nat → Nat} {Q : Int32 → sd_S → Prop}
theorem lp_X11_ahead {t n : Nat} (hV : NV N) (hR : HR I 1 N) (ht : t < N 47) (hn : n ≤ 60) {Q : Option Int32 → sd_S → Prop} (K : Q (some (nI (lk N t n))) (sk0, X, I, J)) : ∀ (m k : Nat), n - k < m → k ≤ n → AW muX11_ahead 0 0 39 [.ref 0, .int (nI t), .int (nI n), .int (nI (lk N t k)), .int (nI k)] [] (sk0, X, I, J) Q := by
  have h8 := hV.t8
  have hl := hV.lf ht
  intro m
  induction m with
  | zero => intros; omega
  | succ m ih =>
    intro k hm hk
    have hle := lk_le (N := N) (t := t) k
    refine AW.iload dX11_ahead_39 rfl ?_
    refine AW.iload_n dX11_ahead_41 rfl rfl ?_
    first | refine AW.icmp_geN (tgt := 80) dX11_ahead_42 (by decide) (by omega) (by omega) (fun c42 => ?_) (fun c42 => ?_) | refine AW.icmp_ge (tgt := 80) dX11_ahead_42 (by decide) (fun c42 => ?_) (fun c42 => ?_)
    · refine AW.iload_n dX11_ahead_80 rfl rfl ?_
      refine AW.iret dX11_ahead_81 ⟨_, rfl, rfl⟩ (Nat.zero_le _) (Nat.zero_le _) ?_
      obtain rfl : k = n := by omega
      exact K
    · refine AW.aload_n dX11_ahead_45 rfl rfl ?_
      refine g11_0 dX11_ahead_46 wF_X11_10 (by first | assumption | rfl | (unfold is11; omega)) ?_
      refine AW.aload_n dX11_ahead_49 rfl rfl ?_
      show AW muX11_ahead _ _ 50 _ _ _ _
      refine g11_0 dX11_ahead_50 wF_X11_10 (by first | assumption | rfl | (unfold is11; omega)) ?_
      refine g2_3 dX11_ahead_53 wF_X11_113 (by first | assumption | rfl | (unfold is2; omega)) ?_
      refine AW.iload_n dX11_ahead_56 rfl rfl ?_
      refine AW.iald dX11_ahead_57 (by first | exact k0_1 | exact is2.a9 i2_1 | exact is2.a10 i2_1) _ (by first | rfl | assumption) (by omega) (by first | decide | omega) ?_
      refine AW.top (hR.kd ht) ?_
      refine AW.aload_n dX11_ahead_58 rfl rfl ?_
      refine g11_0 dX11_ahead_59 wF_X11_10 (by first | assumption | rfl | (unfold is11; omega)) ?_
      show AW muX11_ahead _ _ 62 _ _ _ _
      refine g2_4 dX11_ahead_62 wF_X11_119 (by first | assumption | rfl | (unfold is2; omega)) ?_
      refine AW.iload_n dX11_ahead_65 rfl rfl ?_
      refine AW.iald dX11_ahead_66 (by first | exact k0_1 | exact is2.a9 i2_1 | exact is2.a10 i2_1) _ (by first | rfl | assumption) (by omega) (by first | decide | omega) ?_
      refine AW.top (hR.dr ht) ?_
      refine AW.iload_n dX11_ahead_67 rfl rfl ?_
      refine AW.iload dX11_ahead_68 rfl ?_
      refine cs_X11_ahead_70 (by first | exact k0_1 | exact is2.a9 i2_1 | exact is2.a10 i2_1) (by decide) (by decide) (Nat.le_of_ble_eq_true rfl) (s_X2_leftBehind (N := N) i2_1 hR.m.ni hV.ni (hV.kd ht) (by have := hV.dr ht; omega) (by omega) (by omega) ?_)
      show AW muX11_ahead _ _ 73 _ _ _ _
      refine AW.istore_n dX11_ahead_73 rfl (by decide) rfl rfl ?_
      first | refine AW.iincN dX11_ahead_74 rfl (by decide) rfl rfl ?_ | refine AW.iinc dX11_ahead_74 rfl rfl (by decide) rfl rfl ?_
      refine AW.goto (tgt := 39) dX11_ahead_77 (by decide) ?_
      have := ih (k + 1) (by omega) (by omega)
      rw [lk] at this
      exact this
theorem c_ahead {x y : Int32} (hV : NV N) (hR : HR I 1 N) (q1 : ¬ (inR x 0 (N 47) ∧ inR y 0 61) → Q (-1) (sk0, X, I, J)) (q2 : ∀ t n, t < N 47 → n < 61 → x = nI t → y = nI n → Q (nI (lk N t n)) (sk0, X, I, J)) : AWi muX11_ahead [.ref 0, .int x, .int y] (sk0, X, I, J) Q := by
  have h8 := hV.t8
  show AW muX11_ahead 0 0 0 [.ref 0, .int x, .int y, .null, .null] [] _ _
  refine AW.aload_n dX11_ahead_0 rfl rfl ?_
  refine g11_0 dX11_ahead_1 wF_X11_10 (by first | assumption | rfl | (unfold is11; omega)) ?_
  refine AW.iload_n dX11_ahead_4 rfl rfl ?_
  refine cs_X11_ahead_5 (by first | exact k0_1 | exact is4.a3 (is2.m i2_1)) (by decide) (by decide) (Nat.le_of_ble_eq_true rfl) (s_X2_hasThing i2_1 hR.th (by omega) (fun t ht ex => ?_) (fun hn => ?_))
  · refine AW.ifeq1 (tgt := 21) dX11_ahead_8 (by decide) ?_
    refine AW.iload_n dX11_ahead_11 rfl rfl ?_
    refine AW.iconst (v := nI 0) dX11_ahead_12 (by decide) ?_
    refine AW.bipush (v := nI 60) dX11_ahead_13 (by decide) ?_
    show AW muX11_ahead _ _ 15 _ _ _ _
    refine cs_X11_ahead_15 (by decide) (by decide) (Nat.le_of_ble_eq_true rfl) (s_X11_within (lo := 0) (hi := 61) (by decide) (by decide) (by decide) (fun n hn1 hn ey => ?_) (fun hn => ?_))
    · refine AW.ifne1 (tgt := 23) dX11_ahead_18 (by decide) ?_
      subst ex; subst ey
      refine AW.aload_n dX11_ahead_23 rfl rfl ?_
      refine g11_0 dX11_ahead_24 wF_X11_10 (by first | assumption | rfl | (unfold is11; omega)) ?_
      refine g2_6 dX11_ahead_27 wF_X11_92 (by first | assumption | rfl | (unfold is2; omega)) ?_
      refine g4_2 dX11_ahead_30 wF_X11_125 (by first | assumption | exact is2.m (by assumption) | rfl | (unfold is4; omega) | exact is6.m (by assumption) (by omega)) ?_
      refine AW.iload_n dX11_ahead_33 rfl rfl ?_
      refine AW.iald dX11_ahead_34 (by first | exact k0_1 | exact is4.a3 (is2.m i2_1)) _ (by first | rfl | assumption) (by omega) (by first | decide | omega) ?_
      refine AW.top (hR.m.lf ht) ?_
      show AW muX11_ahead _ _ 35 _ _ _ _
      refine AW.istore_n dX11_ahead_35 rfl (by decide) rfl rfl ?_
      refine AW.iconst (v := nI 0) dX11_ahead_36 (by decide) ?_
      refine AW.istore dX11_ahead_37 (by decide) rfl rfl ?_
      exact lp_X11_ahead hV hR ht (by omega) ⟨_, rfl, q2 t n ht hn rfl rfl⟩ (n + 1) 0 (by omega) (by omega)
    · refine AW.ifne0 (tgt := 23) dX11_ahead_18 (by decide) ?_
      refine AW.iconst (v := (-1)) dX11_ahead_21 (by decide) ?_
      refine AW.iret dX11_ahead_22 ⟨_, rfl, rfl⟩ (Nat.zero_le _) (Nat.zero_le _) ⟨_, rfl, ?_⟩
      first | exact q1 (fun h => hn h.1) | exact q1 (fun h => hn h.2)
  · refine AW.ifeq0 (tgt := 21) dX11_ahead_8 (by decide) ?_
    refine AW.iconst (v := (-1)) dX11_ahead_21 (by decide) ?_
    refine AW.iret dX11_ahead_22 ⟨_, rfl, rfl⟩ (Nat.zero_le _) (Nat.zero_le _) ⟨_, rfl, ?_⟩
    first | exact q1 (fun h => hn h.1) | exact q1 (fun h => hn h.2)
theorem c_loudAhead {x y : Int32} (hV : NV N) (hR : HR I 1 N) (q1 : ¬ (inR x 0 4 ∧ inR y 0 61) → Q (-1) (sk0, X, I, J)) (q2 : ∀ r n, r < 4 → n < 61 → x = nI r → y = nI n → ∀ I', Fr I I' 157 160 → Q (nI (oL N (pl0 N) 0 n (N 47) r)) (sk0, X, I', J)) : AWi muX11_loudAhead [.ref 0, .int x, .int y] (sk0, X, I, J) Q := by
  show AW muX11_loudAhead 0 0 0 [.ref 0, .int x, .int y] [] _ _
  refine AW.iload_n dX11_loudAhead_0 rfl rfl ?_
  refine cs_X11_loudAhead_1 (by decide) (by decide) (Nat.le_of_ble_eq_true rfl) (s_X11_isRoom (fun r hr ex => ?_) (fun hn => ?_))
  · refine AW.ifeq1 (tgt := 17) dX11_loudAhead_4 (by decide) ?_
    refine AW.iload_n dX11_loudAhead_7 rfl rfl ?_
    refine AW.iconst (v := nI 0) dX11_loudAhead_8 (by decide) ?_
    refine AW.bipush (v := nI 60) dX11_loudAhead_9 (by decide) ?_
    refine cs_X11_loudAhead_11 (by decide) (by decide) (Nat.le_of_ble_eq_true rfl) (s_X11_within (lo := 0) (hi := 61) (by decide) (by decide) (by decide) (fun n hn1 hn ey => ?_) (fun hn => ?_))
    · refine AW.ifne1 (tgt := 19) dX11_loudAhead_14 (by decide) ?_
      subst ex; subst ey
      refine AW.aload_n dX11_loudAhead_19 rfl rfl ?_
      refine g11_7 dX11_loudAhead_20 wF_X11_42 (by first | assumption | rfl | (unfold is11; omega)) ?_
      show AW muX11_loudAhead _ _ 23 _ _ _ _
      refine AW.aload_n dX11_loudAhead_23 rfl rfl ?_
      refine g11_0 dX11_loudAhead_24 wF_X11_10 (by first | assumption | rfl | (unfold is11; omega)) ?_
      refine AW.iload_n dX11_loudAhead_27 rfl rfl ?_
      refine AW.iconst (v := nI 1) dX11_loudAhead_28 (by decide) ?_
      first | refine AW.iaddN dX11_loudAhead_29 ?_ | refine AW.iadd dX11_loudAhead_29 ?_
      refine cs_X11_loudAhead_30 (by first | exact k0_157 | exact k0_160) (by decide) (by decide) (Nat.le_of_ble_eq_true rfl) (s_X5_look i2_1 hR hV (by omega) (fun I1 f1 O1 => ?_))
      show AW muX11_loudAhead _ _ 33 _ _ _ _
      refine AW.aload_n dX11_loudAhead_33 rfl rfl ?_
      refine g11_7 dX11_loudAhead_34 wF_X11_42 (by first | assumption | rfl | (unfold is11; omega)) ?_
      refine AW.iload_n dX11_loudAhead_37 rfl rfl ?_
      refine AW.iconst (v := nI 0) dX11_loudAhead_38 (by decide) ?_
      refine cs_X11_loudAhead_39 (by first | exact k0_157 | exact k0_160) (by decide) (by decide) (Nat.le_of_ble_eq_true rfl) (s_X5_listen (pl := pl0 N) hV O1 (by omega) (by omega) (by decide) (fun t ht => hV.pl ht) (fun I2 f2 e2 => ?_))
      refine AW.aload_n dX11_loudAhead_42 rfl rfl ?_
      show AW muX11_loudAhead _ _ 43 _ _ _ _
      refine g11_7 dX11_loudAhead_43 wF_X11_42 (by first | assumption | rfl | (unfold is11; omega)) ?_
      refine g5_4 dX11_loudAhead_46 wF_X11_209 (by first | assumption | rfl | (unfold is5; omega)) ?_
      refine AW.iload_n dX11_loudAhead_49 rfl rfl ?_
      refine AW.iald dX11_loudAhead_50 (by first | exact k0_157 | exact k0_160) _ (by first | rfl | assumption) (by omega) (by first | decide | omega) ?_
      refine AW.top (e2 _ hr) ?_
      refine AW.iret dX11_loudAhead_51 ⟨_, rfl, rfl⟩ (Nat.zero_le _) (Nat.zero_le _) ⟨_, rfl, ?_⟩
      exact q2 r n hr hn rfl rfl I2 (f1.tr (f2.w (by omega) (by omega)))
    · refine AW.ifne0 (tgt := 19) dX11_loudAhead_14 (by decide) ?_
      refine AW.iconst (v := (-1)) dX11_loudAhead_17 (by decide) ?_
      refine AW.iret dX11_loudAhead_18 ⟨_, rfl, rfl⟩ (Nat.zero_le _) (Nat.zero_le _) ⟨_, rfl, ?_⟩
      first | exact q1 (fun h => hn h.1) | exact q1 (fun h => hn h.2)
  · refine AW.ifeq0 (tgt := 17) dX11_loudAhead_4 (by decide) ?_
    refine AW.iconst (v := (-1)) dX11_loudAhead_17 (by decide) ?_
    show AW muX11_loudAhead _ _ 18 _ _ _ _
    refine AW.iret dX11_loudAhead_18 ⟨_, rfl, rfl⟩ (Nat.zero_le _) (Nat.zero_le _) ⟨_, rfl, ?_⟩
    first | exact q1 (fun h => hn h.1) | exact q1 (fun h => hn h.2)
theorem c_sleeps {x y : Int32} (hV : NV N) (hR : HR I 1 N) (q1 : ¬ (inR x 0 (N 36) ∧ inR y 0 61) → Q (-1) (sk0, X, I, J)) (q2 : ∀ s n, s < N 36 → n < 61 → x = nI s → y = nI n → ∀ I', Fr I I' 157 160 → Q (nI (n - oI N (pl0 N) (N (37 + s)) (N (42 + s)) n)) (sk0, X, I', J)) : AWi muX11_sleeps [.ref 0, .int x, .int y] (sk0, X, I, J) Q := by
  have h5 := hV.s5
  show AW muX11_sleeps 0 0 0 [.ref 0, .int x, .int y] [] _ _
  refine AW.aload_n dX11_sleeps_0 rfl rfl ?_
  refine g11_0 dX11_sleeps_1 wF_X11_10 (by first | assumption | rfl | (unfold is11; omega)) ?_
  refine AW.iload_n dX11_sleeps_4 rfl rfl ?_
  refine cs_X11_sleeps_5 (by first | exact k0_1 | exact k0_157 | exact is2.a7 i2_1 | exact is2.a8 i2_1) (by decide) (by decide) (Nat.le_of_ble_eq_true rfl) (s_X2_hasSleeper i2_1 hR.sl (by omega) (fun s hs ex => ?_) (fun hn => ?_))
  · refine AW.ifeq1 (tgt := 21) dX11_sleeps_8 (by decide) ?_
    refine AW.iload_n dX11_sleeps_11 rfl rfl ?_
    refine AW.iconst (v := nI 0) dX11_sleeps_12 (by decide) ?_
    refine AW.bipush (v := nI 60) dX11_sleeps_13 (by decide) ?_
    show AW muX11_sleeps _ _ 15 _ _ _ _
    refine cs_X11_sleeps_15 (by decide) (by decide) (Nat.le_of_ble_eq_true rfl) (s_X11_within (lo := 0) (hi := 61) (by decide) (by decide) (by decide) (fun n hn1 hn ey => ?_) (fun hn => ?_))
    · refine AW.ifne1 (tgt := 23) dX11_sleeps_18 (by decide) ?_
      subst ex; subst ey
      refine AW.aload_n dX11_sleeps_23 rfl rfl ?_
      refine g11_7 dX11_sleeps_24 wF_X11_42 (by first | assumption | rfl | (unfold is11; omega)) ?_
      refine AW.aload_n dX11_sleeps_27 rfl rfl ?_
      refine g11_0 dX11_sleeps_28 wF_X11_10 (by first | assumption | rfl | (unfold is11; omega)) ?_
      refine AW.iload_n dX11_sleeps_31 rfl rfl ?_
      refine cs_X11_sleeps_32 (by first | exact k0_1 | exact k0_157 | exact is2.a7 i2_1 | exact is2.a8 i2_1) (by decide) (by decide) (Nat.le_of_ble_eq_true rfl) (s_X5_look i2_1 hR hV (by omega) (fun I1 f1 O1 => ?_))
      show AW muX11_sleeps _ _ 35 _ _ _ _
      have hR1 := hR.of (I' := I1) (fun b b1 b2 b3 => f1 b (by omega))
      refine AW.iload_n dX11_sleeps_35 rfl rfl ?_
      refine AW.aload_n dX11_sleeps_36 rfl rfl ?_
      refine g11_7 dX11_sleeps_37 wF_X11_42 (by first | assumption | rfl | (unfold is11; omega)) ?_
      refine AW.aload_n dX11_sleeps_40 rfl rfl ?_
      refine g11_0 dX11_sleeps_41 wF_X11_10 (by first | assumption | rfl | (unfold is11; omega)) ?_
      refine g2_1 dX11_sleeps_44 wF_X11_85 (by first | assumption | rfl | (unfold is2; omega)) ?_
      show AW muX11_sleeps _ _ 47 _ _ _ _
      refine AW.iload_n dX11_sleeps_47 rfl rfl ?_
      refine AW.iald dX11_sleeps_48 (by first | exact k0_1 | exact k0_157 | exact is2.a7 i2_1 | exact is2.a8 i2_1) _ (by first | rfl | assumption) (by omega) (by first | decide | omega) ?_
      refine AW.top (hR1.bd hs) ?_
      refine AW.aload_n dX11_sleeps_49 rfl rfl ?_
      refine g11_0 dX11_sleeps_50 wF_X11_10 (by first | assumption | rfl | (unfold is11; omega)) ?_
      refine g2_2 dX11_sleeps_53 wF_X11_89 (by first | assumption | rfl | (unfold is2; omega)) ?_
      refine AW.iload_n dX11_sleeps_56 rfl rfl ?_
      show AW muX11_sleeps _ _ 57 _ _ _ _
      refine AW.iald dX11_sleeps_57 (by first | exact k0_1 | exact k0_157 | exact is2.a7 i2_1 | exact is2.a8 i2_1) _ (by first | rfl | assumption) (by omega) (by first | decide | omega) ?_
      refine AW.top (hR1.br hs) ?_
      refine cs_X11_sleeps_58 (by first | exact k0_1 | exact k0_157 | exact is2.a7 i2_1 | exact is2.a8 i2_1) (by decide) (by decide) (Nat.le_of_ble_eq_true rfl) (s_X5_wakingsIn (pl := pl0 N) hV O1 (by omega) (hV.bd hs) (hV.br hs) (fun t ht => hV.pl ht) (fun I2 f2 => ?_))
      have hle := oI_le (N := N) (pl := pl0 N) (r := N (37 + s)) (b := N (42 + s)) n
      first | refine AW.isubN dX11_sleeps_61 (by omega) ?_ | refine AW.isub dX11_sleeps_61 ?_
      refine AW.iret dX11_sleeps_62 ⟨_, rfl, rfl⟩ (Nat.zero_le _) (Nat.zero_le _) ⟨_, rfl, ?_⟩
      exact q2 s n hs hn rfl rfl I2 (f1.tr (f2.w (by omega) (by omega)))
    · refine AW.ifne0 (tgt := 23) dX11_sleeps_18 (by decide) ?_
      refine AW.iconst (v := (-1)) dX11_sleeps_21 (by decide) ?_
      refine AW.iret dX11_sleeps_22 ⟨_, rfl, rfl⟩ (Nat.zero_le _) (Nat.zero_le _) ⟨_, rfl, ?_⟩
      first | exact q1 (fun h => hn h.1) | exact q1 (fun h => hn h.2)
  · refine AW.ifeq0 (tgt := 21) dX11_sleeps_8 (by decide) ?_
    refine AW.iconst (v := (-1)) dX11_sleeps_21 (by decide) ?_
    refine AW.iret dX11_sleeps_22 ⟨_, rfl, rfl⟩ (Nat.zero_le _) (Nat.zero_le _) ⟨_, rfl, ?_⟩
    first | exact q1 (fun h => hn h.1) | exact q1 (fun h => hn h.2)
theorem lp_X11_peace (hV : NV N) {Q : Option Int32 → sd_S → Prop} : ∀ (m k : Nat) (I : sd_I), 61 - k < m → k ≤ 61 → HR I 1 N → OL I N 61 (pl0 N) → (∀ j, j < k → oW N (pl0 N) 0 j (N 36) ≠ 0) → (∀ I', Fr I I' 160 160 → (∀ j, j < 61 → oW N (pl0 N) 0 j (N 36) ≠ 0) → Q (some (-4)) (sk0, X, I', J)) → (∀ I' k, Fr I I' 160 160 → k < 61 → oW N (pl0 N) 0 k (N 36) = 0 → (∀ j, j < k → oW N (pl0 N) 0 j (N 36) ≠ 0) → Q (some (nI k)) (sk0, X, I', J)) → AW muX11_peace 0 0 15 [.ref 0, .int (nI k)] [] (sk0, X, I, J) Q := by
  have h5 := hV.s5
  intro m
  induction m with
  | zero => intros; omega
  | succ m ih =>
    intro k I hm hk hR hO hz K1 K2
    have hle := oW_le (N := N) (pl := pl0 N) (w := 0) (k := k) (N 36)
    refine AW.iload_n dX11_peace_15 rfl rfl ?_
    refine AW.bipush (v := nI 60) dX11_peace_16 (by decide) ?_
    first | refine AW.icmp_gtN (tgt := 45) dX11_peace_18 (by decide) (by omega) (by omega) (fun c18 => ?_) (fun c18 => ?_) | refine AW.icmp_gt (tgt := 45) dX11_peace_18 (by decide) (fun c18 => ?_) (fun c18 => ?_)
    · refine AW.bipush (v := (-4)) dX11_peace_45 (by decide) ?_
      refine AW.iret dX11_peace_47 ⟨_, rfl, rfl⟩ (Nat.zero_le _) (Nat.zero_le _) ?_
      obtain rfl : k = 61 := by omega
      exact K1 I Fr.rf hz
    · refine AW.aload_n dX11_peace_21 rfl rfl ?_
      refine g11_7 dX11_peace_22 wF_X11_42 (by first | assumption | rfl | (unfold is11; omega)) ?_
      refine AW.aload_n dX11_peace_25 rfl rfl ?_
      show AW muX11_peace _ _ 26 _ _ _ _
      refine g11_0 dX11_peace_26 wF_X11_10 (by first | assumption | rfl | (unfold is11; omega)) ?_
      refine AW.iload_n dX11_peace_29 rfl rfl ?_
      refine AW.iconst (v := nI 0) dX11_peace_30 (by decide) ?_
      refine cs_X11_peace_31 (by first | exact k0_157) (by decide) (by decide) (Nat.le_of_ble_eq_true rfl) (s_X5_wokenIn i2_1 hV hR hO (by omega) (by omega) (by decide) (fun t ht => hV.pl ht) (fun I1 f1 => ?_))
      first | refine AW.if_neN (tgt := 39) dX11_peace_34 (by decide) (by omega) (fun c34 => ?_) (fun c34 => ?_) | refine AW.if_ne (tgt := 39) dX11_peace_34 (by decide) (fun c34 => ?_) (fun c34 => ?_)
      · first | refine AW.iincN dX11_peace_39 rfl (by decide) rfl rfl ?_ | refine AW.iinc dX11_peace_39 rfl rfl (by decide) rfl rfl ?_
        refine AW.goto (tgt := 15) dX11_peace_42 (by decide) ?_
        refine ih (k + 1) I1 (by omega) (by omega) (hR.of (fun b b1 b2 b3 => f1 b (by omega))) (hO.of (fun b b1 b2 => f1 b (by omega))) (fun j hj => ?_) (fun I' f => K1 I' (f1.tr f)) (fun I' q f => K2 I' q (f1.tr f))
        by_cases e : j = k
        · subst e; exact c34
        · exact hz j (by omega)
      · refine AW.iload_n dX11_peace_37 rfl rfl ?_
        show AW muX11_peace _ _ 38 _ _ _ _
        refine AW.iret dX11_peace_38 ⟨_, rfl, rfl⟩ (Nat.zero_le _) (Nat.zero_le _) ?_
        exact K2 I1 k f1 (by omega) c34 hz
theorem c_peace (hV : NV N) (hR : HR I 1 N) (q1 : (∀ j, j < 61 → oW N (pl0 N) 0 j (N 36) ≠ 0) → ∀ I', Fr I I' 157 160 → Q (-4) (sk0, X, I', J)) (q2 : ∀ k, k < 61 → oW N (pl0 N) 0 k (N 36) = 0 → (∀ j, j < k → oW N (pl0 N) 0 j (N 36) ≠ 0) → ∀ I', Fr I I' 157 160 → Q (nI k) (sk0, X, I', J)) : AWi muX11_peace [.ref 0] (sk0, X, I, J) Q := by
  show AW muX11_peace 0 0 0 [.ref 0, .null] [] _ _
  refine AW.aload_n dX11_peace_0 rfl rfl ?_
  refine g11_7 dX11_peace_1 wF_X11_42 (by first | assumption | rfl | (unfold is11; omega)) ?_
  refine AW.aload_n dX11_peace_4 rfl rfl ?_
  refine g11_0 dX11_peace_5 wF_X11_10 (by first | assumption | rfl | (unfold is11; omega)) ?_
  refine AW.bipush (v := nI 61) dX11_peace_8 (by decide) ?_
  refine cs_X11_peace_10 (by first | exact k0_157) (by decide) (by decide) (Nat.le_of_ble_eq_true rfl) (s_X5_look i2_1 hR hV (by omega) (fun I1 f1 O1 => ?_))
  show AW muX11_peace _ _ 13 _ _ _ _
  refine AW.iconst (v := nI 0) dX11_peace_13 (by decide) ?_
  refine AW.istore_n dX11_peace_14 rfl (by decide) rfl rfl ?_
  refine lp_X11_peace hV 62 0 I1 (by omega) (by omega) (hR.of (fun b b1 b2 b3 => f1 b (by omega))) O1 (fun j hj => absurd hj (by omega)) (fun I' f e => ⟨_, rfl, q1 e I' (f1.tr (f.w (by omega) (by omega)))⟩) (fun I' k f h1 h2 h3 => ⟨_, rfl, q2 k h1 h2 h3 I' (f1.tr (f.w (by omega) (by omega)))⟩)
theorem c_thanked {x : Int32} (hV : NV N) (hR : HR I 1 N) (q1 : ¬ inR x 0 10 → Q (-1) (sk0, X, I, J)) (q2 : ∀ g, g < 10 → x = nI g → Q (nI (sumN (N 47) (fun t => if N (10 + t) = g then loudT N t else 0))) (sk0, X, I, J)) : AWi muX11_thanked [.ref 0, .int x] (sk0, X, I, J) Q := by
  have h8 := hV.t8
  show AW muX11_thanked 0 0 0 [.ref 0, .int x] [] _ _
  refine AW.iload_n dX11_thanked_0 rfl rfl ?_
  refine cs_X11_thanked_1 (by decide) (by decide) (Nat.le_of_ble_eq_true rfl) (s_X11_isGiver (fun g hg ex => ?_) (fun hn => ?_))
  · refine AW.ifne1 (tgt := 9) dX11_thanked_4 (by decide) ?_
    subst ex
    refine AW.aload_n dX11_thanked_9 rfl rfl ?_
    refine g11_0 dX11_thanked_10 wF_X11_10 (by first | assumption | rfl | (unfold is11; omega)) ?_
    refine AW.aload_n dX11_thanked_13 rfl rfl ?_
    refine g11_0 dX11_thanked_14 wF_X11_10 (by first | assumption | rfl | (unfold is11; omega)) ?_
    refine AW.iload_n dX11_thanked_17 rfl rfl ?_
    show AW muX11_thanked _ _ 18 _ _ _ _
    refine cs_X11_thanked_18 (by first | exact k0_1) (by decide) (by decide) (Nat.le_of_ble_eq_true rfl) (s_X2_thingsOf i2_1 hR hV (by omega) ?_)
    have hlt := setN_lt (N 47) (fun t => decide (N (10 + t) = g))
    have hp : 2 ^ N 47 ≤ 2 ^ 8 := Nat.pow_le_pow_right (by decide) h8
    refine cs_X11_thanked_21 (by first | exact k0_1) (by decide) (by decide) (Nat.le_of_ble_eq_true rfl) (s_X2_loudOfSet i2_1 hR hV (by omega) ?_)
    refine AW.iret dX11_thanked_24 ⟨_, rfl, rfl⟩ (Nat.zero_le _) (Nat.zero_le _) ⟨_, rfl, ?_⟩
    have := q2 g hg rfl
    rw [sumN_congr (g := fun t => if (setN (N 47) (fun t => decide (N (10 + t) = g))).testBit t then loudT N t else 0) (fun t ht => by rw [setN_bit]; simp [ht])] at this
    exact this
  · refine AW.ifne0 (tgt := 9) dX11_thanked_4 (by decide) ?_
    refine AW.iconst (v := (-1)) dX11_thanked_7 (by decide) ?_
    refine AW.iret dX11_thanked_8 ⟨_, rfl, rfl⟩ (Nat.zero_le _) (Nat.zero_le _) ⟨_, rfl, ?_⟩
    exact q1 hn
theorem c_image (hV : NV N) (hR : HR I 1 N) (hP : PR I 19 N) (q : ∀ I', (∀ c, c ≠ 0 → (c < 69 ∨ 136 < c) → I' c = I c) → I' 0 4 = nI 1 → HR I' 69 N → PR I' 87 N → Q (nI 1) (sk0, X, I', J)) : AWi muX11_image [.ref 0] (sk0, X, I, J) Q := by
  have h5 := hV.s5
  have h8 := hV.t8
  show AW muX11_image 0 0 0 [.ref 0] [] _ _
  refine AW.aload_n dX11_image_0 rfl rfl ?_
  refine g11_2 dX11_image_1 wF_X11_23 (by first | assumption | rfl | (unfold is11; omega)) ?_
  refine AW.aload_n dX11_image_4 rfl rfl ?_
  refine g11_0 dX11_image_5 wF_X11_10 (by first | assumption | rfl | (unfold is11; omega)) ?_
  refine cs_X11_image_8 (by first | exact k0_69 | exact k0_87) (by decide) (by decide) (Nat.le_of_ble_eq_true rfl) (s_X2_takeAll i2_69 i2_1 (by omega) hR h5 h8 (fun I1 f1 H1 => ?_))
  refine AW.aload_n dX11_image_11 rfl rfl ?_
  show AW muX11_image _ _ 12 _ _ _ _
  refine g11_3 dX11_image_12 wF_X11_26 (by first | assumption | rfl | (unfold is11; omega)) ?_
  refine AW.aload_n dX11_image_15 rfl rfl ?_
  refine g11_1 dX11_image_16 wF_X11_19 (by first | assumption | rfl | (unfold is11; omega)) ?_
  refine cs_X11_image_19 (by first | exact k0_69 | exact k0_87) (by decide) (by decide) (Nat.le_of_ble_eq_true rfl) (s_X6_takeAll i6_87 i6_19 (by omega) (hP.of (fun b b1 b2 => f1 b (by omega))) h5 h8 (fun I2 f2 P2 => ?_))
  refine AW.aload_n dX11_image_22 rfl rfl ?_
  refine AW.iconst (v := nI 1) dX11_image_23 (by decide) ?_
  show AW muX11_image _ _ 24 _ _ _ _
  refine p11_4 dX11_image_24 wF_X11_255 (by first | assumption | rfl | (unfold is11; omega)) (by decide) (by decide) ?_
  refine AW.iconst (v := nI 1) dX11_image_27 (by decide) ?_
  refine AW.iret dX11_image_28 ⟨_, rfl, rfl⟩ (Nat.zero_le _) (Nat.zero_le _) ⟨_, rfl, ?_⟩
  refine q _ (fun c hc h => ?_) ?_ ?_ ?_
  · rw [sd_u_ne hc, f2 c (by omega), f1 c (by omega)]
  · (repeat first | rw [ru_ne (by omega)] | rw [ru_j] | rw [ru_ij (by omega)] | rw [upN_ne (by omega)] | rw [upN_eq] | rw [rr_ne (by omega)] | rw [rr_eq] | rw [sb_cpy0 (by omega)])
  · exact (H1.of (fun b b1 b2 b3 => f2 b (by omega))).of (fun b b1 b2 b3 => sd_u_ne (by omega))
  · exact P2.of (fun b b1 b2 => sd_u_ne (by omega))
theorem c_restore {b : Nat} {K : Nat → Nat} (hb : b < 2) (h4 : I 0 4 = nI b) (hV : b = 1 → NV K ∧ HR I 69 K ∧ PR I 87 K) (q1 : b = 0 → Q (-4) (sk0, X, I, J)) (q2 : b = 1 → ∀ I', Fr I I' 1 68 → HR I' 1 K → PR I' 19 K → Q (nI 1) (sk0, X, I', J)) : AWi muX11_restore [.ref 0] (sk0, X, I, J) Q := by
  show AW muX11_restore 0 0 0 [.ref 0] [] _ _
  refine AW.aload_n dX11_restore_0 rfl rfl ?_
  refine g11_4 dX11_restore_1 wF_X11_255 (by first | assumption | rfl | (unfold is11; omega)) ?_
  refine AW.top (h4) ?_
  first | refine AW.if_neN (tgt := 10) dX11_restore_4 (by decide) (by omega) (fun c4 => ?_) (fun c4 => ?_) | refine AW.if_ne (tgt := 10) dX11_restore_4 (by decide) (fun c4 => ?_) (fun c4 => ?_)
  · obtain ⟨hVK, hR, hP⟩ := hV (by omega)
    have h5 := hVK.s5
    have h8 := hVK.t8
    refine AW.aload_n dX11_restore_10 rfl rfl ?_
    refine g11_0 dX11_restore_11 wF_X11_10 (by first | assumption | rfl | (unfold is11; omega)) ?_
    refine AW.aload_n dX11_restore_14 rfl rfl ?_
    refine g11_2 dX11_restore_15 wF_X11_23 (by first | assumption | rfl | (unfold is11; omega)) ?_
    show AW muX11_restore _ _ 18 _ _ _ _
    refine cs_X11_restore_18 (by first | exact k0_1 | exact k0_19) (by decide) (by decide) (Nat.le_of_ble_eq_true rfl) (s_X2_takeAll i2_1 i2_69 (by omega) hR h5 h8 (fun I1 f1 H1 => ?_))
    refine AW.aload_n dX11_restore_21 rfl rfl ?_
    refine g11_1 dX11_restore_22 wF_X11_19 (by first | assumption | rfl | (unfold is11; omega)) ?_
    refine AW.aload_n dX11_restore_25 rfl rfl ?_
    refine g11_3 dX11_restore_26 wF_X11_26 (by first | assumption | rfl | (unfold is11; omega)) ?_
    refine cs_X11_restore_29 (by first | exact k0_1 | exact k0_19) (by decide) (by decide) (Nat.le_of_ble_eq_true rfl) (s_X6_takeAll i6_19 i6_87 (by omega) (hP.of (fun b b1 b2 => f1 b (by omega))) h5 h8 (fun I2 f2 P2 => ?_))
    show AW muX11_restore _ _ 32 _ _ _ _
    refine AW.iconst (v := nI 1) dX11_restore_32 (by decide) ?_
    refine AW.iret dX11_restore_33 ⟨_, rfl, rfl⟩ (Nat.zero_le _) (Nat.zero_le _) ⟨_, rfl, ?_⟩
    exact q2 (by omega) I2 ((f1.w (by omega) (by omega)).tr (f2.w (by omega) (by omega))) (H1.of (fun b b1 b2 b3 => f2 b (by omega))) P2
  · refine AW.bipush (v := (-4)) dX11_restore_7 (by decide) ?_
    refine AW.iret dX11_restore_9 ⟨_, rfl, rfl⟩ (Nat.zero_le _) (Nat.zero_le _) ⟨_, rfl, ?_⟩
    exact q1 c4
/-- the first of the least, among the first i rooms -/
def amin (W : Nat → Nat) : Nat → Nat × Nat
  | 0 => (0, 0)
  | i + 1 => if i = 0 ∨ W i < (amin W i).2 then (i, W i) else amin W i
theorem amin_succ {W : Nat → Nat} {i : Nat} : amin W (i + 1) = if i = 0 ∨ W i < (amin W i).2 then (i, W i) else amin W i := by rw [amin]
theorem amin_le {W : Nat → Nat} {b : Nat} (hW : ∀ r, W r ≤ b) (i : Nat) : (amin W i).2 ≤ b := by
  induction i with
  | zero => exact Nat.zero_le _
  | succ i ih => rw [amin_succ]; split; exact hW i; exact ih
theorem lp_X11_best {t n w : Nat} (hV : NV N) (ht : t < N 47) (hn : n ≤ 40) (hw : w < 2) {Q : Option Int32 → sd_S → Prop} : ∀ (m i : Nat) (I : sd_I) (pl : Nat → Nat) (v7 : Value), 4 - i < m → i ≤ 4 → HR I 1 N → OL I N n pl → (∀ q, q < N 47 → q ≠ t → pl q = N (2 + q)) → (∀ I', Fr I I' 157 160 → Q (some (nI (if w = 0 then (amin (fun r => oWs N (plT N t r) n) 4).1 else (amin (fun r => oWs N (plT N t r) n) 4).2))) (sk0, X, I', J)) → AW muX11_best 0 0 53 [.ref 0, .int (nI t), .int (nI n), .int (nI w), .int (nI (amin (fun r => oWs N (plT N t r) n) i).1), .int (nI (amin (fun r => oWs N (plT N t r) n) i).2), .int (nI i), v7] [] (sk0, X, I, J) Q := by
  have h5 := hV.s5
  have h8 := hV.t8
  have hW : ∀ r, (fun r => oWs N (plT N t r) n) r ≤ 200 := fun r => Nat.le_trans (oWs_le h5 n) (by omega)
  intro m
  induction m with
  | zero => intros; omega
  | succ m ih =>
    intro i I pl v7 hm hi hR hO hpl K
    have ha := amin_le hW i
    have hWi : oWs N (plT N t i) n ≤ 200 := hW i
    have hs : amin (fun r => oWs N (plT N t r) n) (i + 1) = if i = 0 ∨ oWs N (plT N t i) n < (amin (fun r => oWs N (plT N t r) n) i).2 then (i, oWs N (plT N t i) n) else amin (fun r => oWs N (plT N t r) n) i := amin_succ
    generalize hA : amin (fun r => oWs N (plT N t r) n) i = A at ha hs
    refine AW.iload dX11_best_53 rfl ?_
    refine AW.iconst (v := nI 4) dX11_best_55 (by decide) ?_
    first | refine AW.icmp_geN (tgt := 109) dX11_best_56 (by decide) (by omega) (by omega) (fun c56 => ?_) (fun c56 => ?_) | refine AW.icmp_ge (tgt := 109) dX11_best_56 (by decide) (fun c56 => ?_) (fun c56 => ?_)
    · refine AW.iload_n dX11_best_109 rfl rfl ?_
      first | refine AW.if_neN (tgt := 118) dX11_best_110 (by decide) (by omega) (fun c110 => ?_) (fun c110 => ?_) | refine AW.if_ne (tgt := 118) dX11_best_110 (by decide) (fun c110 => ?_) (fun c110 => ?_)
      · refine AW.iload dX11_best_118 rfl ?_
        refine AW.iret dX11_best_120 ⟨_, rfl, rfl⟩ (Nat.zero_le _) (Nat.zero_le _) ?_
        obtain rfl : i = 4 := by omega
        rw [hA] at K
        first | (rw [if_pos c110] at K; exact K I Fr.rf) | (rw [if_neg c110] at K; exact K I Fr.rf)
      · refine AW.iload dX11_best_113 rfl ?_
        refine AW.goto (tgt := 120) dX11_best_115 (by decide) ?_
        refine AW.iret dX11_best_120 ⟨_, rfl, rfl⟩ (Nat.zero_le _) (Nat.zero_le _) ?_
        obtain rfl : i = 4 := by omega
        rw [hA] at K
        first | (rw [if_pos c110] at K; exact K I Fr.rf) | (rw [if_neg c110] at K; exact K I Fr.rf)
    · refine AW.aload_n dX11_best_59 rfl rfl ?_
      show AW muX11_best _ _ 60 _ _ _ _
      refine g11_7 dX11_best_60 wF_X11_42 (by first | assumption | rfl | (unfold is11; omega)) ?_
      refine g5_3 dX11_best_63 wF_X11_218 (by first | assumption | rfl | (unfold is5; omega)) ?_
      refine AW.iload_n dX11_best_66 rfl rfl ?_
      refine AW.iload dX11_best_67 rfl ?_
      refine AW.iast dX11_best_69 (by first | exact k0_157 | exact k0_159) _ (by first | rfl | assumption) (by omega) (by first | decide | omega) ?_
      refine AW.aload_n dX11_best_70 rfl rfl ?_
      show AW muX11_best _ _ 71 _ _ _ _
      refine g11_7 dX11_best_71 wF_X11_42 (by first | assumption | rfl | (unfold is11; omega)) ?_
      refine AW.aload_n dX11_best_74 rfl rfl ?_
      refine g11_0 dX11_best_75 wF_X11_10 (by first | assumption | rfl | (unfold is11; omega)) ?_
      refine cs_X11_best_78 (by first | exact k0_157 | exact k0_159) (by decide) (by decide) (Nat.le_of_ble_eq_true rfl) (s_X5_wakings (pl := plT N t i) i2_1 hV (hR.of (fun b b1 b2 b3 => sd_u_ne (by omega))) (by exact ⟨by (repeat first | rw [ru_ne (by omega)] | rw [ru_j] | rw [ru_ij (by omega)] | rw [upN_ne (by omega)] | rw [upN_eq] | rw [rr_ne (by omega)] | rw [rr_eq] | rw [sb_cpy0 (by omega)]); exact hO.1, by (repeat first | rw [ru_ne (by omega)] | rw [ru_j] | rw [ru_ij (by omega)] | rw [upN_ne (by omega)] | rw [upN_eq] | rw [rr_ne (by omega)] | rw [rr_eq] | rw [sb_cpy0 (by omega)]); exact hO.2.1, fun q hq => by unfold plT; by_cases e : q = t; (subst e; rw [if_pos rfl]; (repeat first | rw [ru_ne (by omega)] | rw [ru_j] | rw [ru_ij (by omega)] | rw [upN_ne (by omega)] | rw [upN_eq] | rw [rr_ne (by omega)] | rw [rr_eq] | rw [sb_cpy0 (by omega)])); (rw [if_neg e]; (repeat first | rw [ru_ne (by omega)] | rw [ru_j] | rw [ru_ij (by omega)] | rw [upN_ne (by omega)] | rw [upN_eq] | rw [rr_ne (by omega)] | rw [rr_eq] | rw [sb_cpy0 (by omega)]); rw [hO.2.2.1 q hq, hpl q hq e]), fun q hq k hk => by (repeat first | rw [ru_ne (by omega)] | rw [ru_j] | rw [ru_ij (by omega)] | rw [upN_ne (by omega)] | rw [upN_eq] | rw [rr_ne (by omega)] | rw [rr_eq] | rw [sb_cpy0 (by omega)]); exact hO.2.2.2 q hq k hk⟩) (by omega) (fun q hq => by unfold plT; split; omega; exact hV.pl hq) (fun I1 f1 => ?_))
      refine AW.istore dX11_best_81 (by decide) rfl rfl ?_
      refine AW.iload dX11_best_83 rfl ?_
      show AW muX11_best _ _ 85 _ _ _ _
      first | refine AW.if_eqN (tgt := 95) dX11_best_85 (by decide) (by omega) (fun c85 => ?_) (fun c85 => ?_) | refine AW.if_eq (tgt := 95) dX11_best_85 (by decide) (fun c85 => ?_) (fun c85 => ?_)
      · refine AW.iload dX11_best_95 rfl ?_
        refine AW.istore dX11_best_97 (by decide) rfl rfl ?_
        refine AW.iload dX11_best_99 rfl ?_
        refine AW.istore dX11_best_101 (by decide) rfl rfl ?_
        first | refine AW.iincN dX11_best_103 rfl (by decide) rfl rfl ?_ | refine AW.iinc dX11_best_103 rfl rfl (by decide) rfl rfl ?_
        refine AW.goto (tgt := 53) dX11_best_106 (by decide) ?_
        have hO1 : OL I1 N n (plT N t i) := ⟨by rw [f1 157 (by omega)]; (repeat first | rw [ru_ne (by omega)] | rw [ru_j] | rw [ru_ij (by omega)] | rw [upN_ne (by omega)] | rw [upN_eq] | rw [rr_ne (by omega)] | rw [rr_eq] | rw [sb_cpy0 (by omega)]); exact hO.1, by rw [f1 157 (by omega)]; (repeat first | rw [ru_ne (by omega)] | rw [ru_j] | rw [ru_ij (by omega)] | rw [upN_ne (by omega)] | rw [upN_eq] | rw [rr_ne (by omega)] | rw [rr_eq] | rw [sb_cpy0 (by omega)]); exact hO.2.1, fun q hq => by rw [f1 159 (by omega)]; unfold plT; by_cases e : q = t; (subst e; rw [if_pos rfl]; (repeat first | rw [ru_ne (by omega)] | rw [ru_j] | rw [ru_ij (by omega)] | rw [upN_ne (by omega)] | rw [upN_eq] | rw [rr_ne (by omega)] | rw [rr_eq] | rw [sb_cpy0 (by omega)])); (rw [if_neg e]; (repeat first | rw [ru_ne (by omega)] | rw [ru_j] | rw [ru_ij (by omega)] | rw [upN_ne (by omega)] | rw [upN_eq] | rw [rr_ne (by omega)] | rw [rr_eq] | rw [sb_cpy0 (by omega)]); rw [hO.2.2.1 q hq, hpl q hq e]), fun q hq k hk => by rw [f1 158 (by omega)]; (repeat first | rw [ru_ne (by omega)] | rw [ru_j] | rw [ru_ij (by omega)] | rw [upN_ne (by omega)] | rw [upN_eq] | rw [rr_ne (by omega)] | rw [rr_eq] | rw [sb_cpy0 (by omega)]); exact hO.2.2.2 q hq k hk⟩
        have hR1 : HR I1 1 N := hR.of (fun b b1 b2 b3 => by rw [f1 b (by omega), sd_u_ne (by omega)])
        have := ih (i + 1) I1 (plT N t i) (.int (nI (oWs N (plT N t i) n))) (by omega) (by omega) hR1 hO1 (fun q hq e => by unfold plT; rw [if_neg e]) (fun I' f => K I' ((Fr.u (by omega) (by omega) : Fr I _ 157 160).tr ((f1.w (by omega) (by omega)).tr f)))
        rw [hs] at this
        first | (rw [if_pos (show i = 0 ∨ oWs N (plT N t i) n < A.2 by omega)] at this; exact this) | (rw [if_neg (show ¬ (i = 0 ∨ oWs N (plT N t i) n < A.2) by omega)] at this; exact this)
      · refine AW.iload dX11_best_88 rfl ?_
        show AW muX11_best _ _ 90 _ _ _ _
        refine AW.iload dX11_best_90 rfl ?_
        first | refine AW.icmp_geN (tgt := 103) dX11_best_92 (by decide) (by omega) (by omega) (fun c92 => ?_) (fun c92 => ?_) | refine AW.icmp_ge (tgt := 103) dX11_best_92 (by decide) (fun c92 => ?_) (fun c92 => ?_)
        · first | refine AW.iincN dX11_best_103 rfl (by decide) rfl rfl ?_ | refine AW.iinc dX11_best_103 rfl rfl (by decide) rfl rfl ?_
          refine AW.goto (tgt := 53) dX11_best_106 (by decide) ?_
          have hO1 : OL I1 N n (plT N t i) := ⟨by rw [f1 157 (by omega)]; (repeat first | rw [ru_ne (by omega)] | rw [ru_j] | rw [ru_ij (by omega)] | rw [upN_ne (by omega)] | rw [upN_eq] | rw [rr_ne (by omega)] | rw [rr_eq] | rw [sb_cpy0 (by omega)]); exact hO.1, by rw [f1 157 (by omega)]; (repeat first | rw [ru_ne (by omega)] | rw [ru_j] | rw [ru_ij (by omega)] | rw [upN_ne (by omega)] | rw [upN_eq] | rw [rr_ne (by omega)] | rw [rr_eq] | rw [sb_cpy0 (by omega)]); exact hO.2.1, fun q hq => by rw [f1 159 (by omega)]; unfold plT; by_cases e : q = t; (subst e; rw [if_pos rfl]; (repeat first | rw [ru_ne (by omega)] | rw [ru_j] | rw [ru_ij (by omega)] | rw [upN_ne (by omega)] | rw [upN_eq] | rw [rr_ne (by omega)] | rw [rr_eq] | rw [sb_cpy0 (by omega)])); (rw [if_neg e]; (repeat first | rw [ru_ne (by omega)] | rw [ru_j] | rw [ru_ij (by omega)] | rw [upN_ne (by omega)] | rw [upN_eq] | rw [rr_ne (by omega)] | rw [rr_eq] | rw [sb_cpy0 (by omega)]); rw [hO.2.2.1 q hq, hpl q hq e]), fun q hq k hk => by rw [f1 158 (by omega)]; (repeat first | rw [ru_ne (by omega)] | rw [ru_j] | rw [ru_ij (by omega)] | rw [upN_ne (by omega)] | rw [upN_eq] | rw [rr_ne (by omega)] | rw [rr_eq] | rw [sb_cpy0 (by omega)]); exact hO.2.2.2 q hq k hk⟩
          have hR1 : HR I1 1 N := hR.of (fun b b1 b2 b3 => by rw [f1 b (by omega), sd_u_ne (by omega)])
          have := ih (i + 1) I1 (plT N t i) (.int (nI (oWs N (plT N t i) n))) (by omega) (by omega) hR1 hO1 (fun q hq e => by unfold plT; rw [if_neg e]) (fun I' f => K I' ((Fr.u (by omega) (by omega) : Fr I _ 157 160).tr ((f1.w (by omega) (by omega)).tr f)))
          rw [hs] at this
          first | (rw [if_pos (show i = 0 ∨ oWs N (plT N t i) n < A.2 by omega)] at this; exact this) | (rw [if_neg (show ¬ (i = 0 ∨ oWs N (plT N t i) n < A.2) by omega)] at this; exact this)
        · refine AW.iload dX11_best_95 rfl ?_
          refine AW.istore dX11_best_97 (by decide) rfl rfl ?_
          refine AW.iload dX11_best_99 rfl ?_
          refine AW.istore dX11_best_101 (by decide) rfl rfl ?_
          show AW muX11_best _ _ 103 _ _ _ _
          first | refine AW.iincN dX11_best_103 rfl (by decide) rfl rfl ?_ | refine AW.iinc dX11_best_103 rfl rfl (by decide) rfl rfl ?_
          refine AW.goto (tgt := 53) dX11_best_106 (by decide) ?_
          have hO1 : OL I1 N n (plT N t i) := ⟨by rw [f1 157 (by omega)]; (repeat first | rw [ru_ne (by omega)] | rw [ru_j] | rw [ru_ij (by omega)] | rw [upN_ne (by omega)] | rw [upN_eq] | rw [rr_ne (by omega)] | rw [rr_eq] | rw [sb_cpy0 (by omega)]); exact hO.1, by rw [f1 157 (by omega)]; (repeat first | rw [ru_ne (by omega)] | rw [ru_j] | rw [ru_ij (by omega)] | rw [upN_ne (by omega)] | rw [upN_eq] | rw [rr_ne (by omega)] | rw [rr_eq] | rw [sb_cpy0 (by omega)]); exact hO.2.1, fun q hq => by rw [f1 159 (by omega)]; unfold plT; by_cases e : q = t; (subst e; rw [if_pos rfl]; (repeat first | rw [ru_ne (by omega)] | rw [ru_j] | rw [ru_ij (by omega)] | rw [upN_ne (by omega)] | rw [upN_eq] | rw [rr_ne (by omega)] | rw [rr_eq] | rw [sb_cpy0 (by omega)])); (rw [if_neg e]; (repeat first | rw [ru_ne (by omega)] | rw [ru_j] | rw [ru_ij (by omega)] | rw [upN_ne (by omega)] | rw [upN_eq] | rw [rr_ne (by omega)] | rw [rr_eq] | rw [sb_cpy0 (by omega)]); rw [hO.2.2.1 q hq, hpl q hq e]), fun q hq k hk => by rw [f1 158 (by omega)]; (repeat first | rw [ru_ne (by omega)] | rw [ru_j] | rw [ru_ij (by omega)] | rw [upN_ne (by omega)] | rw [upN_eq] | rw [rr_ne (by omega)] | rw [rr_eq] | rw [sb_cpy0 (by omega)]); exact hO.2.2.2 q hq k hk⟩
          have hR1 : HR I1 1 N := hR.of (fun b b1 b2 b3 => by rw [f1 b (by omega), sd_u_ne (by omega)])
          have := ih (i + 1) I1 (plT N t i) (.int (nI (oWs N (plT N t i) n))) (by omega) (by omega) hR1 hO1 (fun q hq e => by unfold plT; rw [if_neg e]) (fun I' f => K I' ((Fr.u (by omega) (by omega) : Fr I _ 157 160).tr ((f1.w (by omega) (by omega)).tr f)))
          rw [hs] at this
          first | (rw [if_pos (show i = 0 ∨ oWs N (plT N t i) n < A.2 by omega)] at this; exact this) | (rw [if_neg (show ¬ (i = 0 ∨ oWs N (plT N t i) n < A.2) by omega)] at this; exact this)
theorem c_best {x y z : Int32} (hV : NV N) (hR : HR I 1 N) (q1 : ¬ (inR x 0 (N 47) ∧ inR y 1 41 ∧ inR z 0 2) → Q (-1) (sk0, X, I, J)) (q2 : ∀ t n w, t < N 47 → 1 ≤ n → n < 41 → w < 2 → x = nI t → y = nI n → z = nI w → ∀ I', Fr I I' 157 160 → Q (nI (if w = 0 then (amin (fun r => oWs N (plT N t r) n) 4).1 else (amin (fun r => oWs N (plT N t r) n) 4).2)) (sk0, X, I', J)) : AWi muX11_best [.ref 0, .int x, .int y, .int z] (sk0, X, I, J) Q := by
  have h8 := hV.t8
  show AW muX11_best 0 0 0 [.ref 0, .int x, .int y, .int z, .null, .null, .null, .null] [] _ _
  refine AW.aload_n dX11_best_0 rfl rfl ?_
  refine g11_0 dX11_best_1 wF_X11_10 (by first | assumption | rfl | (unfold is11; omega)) ?_
  refine AW.iload_n dX11_best_4 rfl rfl ?_
  refine cs_X11_best_5 (by first | exact k0_1 | exact k0_157) (by decide) (by decide) (Nat.le_of_ble_eq_true rfl) (s_X2_hasThing i2_1 hR.th (by omega) (fun t ht ex => ?_) (fun hn => ?_))
  · refine AW.ifeq1 (tgt := 30) dX11_best_8 (by decide) ?_
    refine AW.iload_n dX11_best_11 rfl rfl ?_
    refine AW.iconst (v := nI 1) dX11_best_12 (by decide) ?_
    refine AW.bipush (v := nI 40) dX11_best_13 (by decide) ?_
    show AW muX11_best _ _ 15 _ _ _ _
    refine cs_X11_best_15 (by decide) (by decide) (Nat.le_of_ble_eq_true rfl) (s_X11_within (lo := 1) (hi := 41) (by decide) (by decide) (by decide) (fun n hn1 hn ey => ?_) (fun hn => ?_))
    · refine AW.ifeq1 (tgt := 30) dX11_best_18 (by decide) ?_
      refine AW.iload_n dX11_best_21 rfl rfl ?_
      refine AW.iconst (v := nI 0) dX11_best_22 (by decide) ?_
      refine AW.iconst (v := nI 1) dX11_best_23 (by decide) ?_
      refine cs_X11_best_24 (by decide) (by decide) (Nat.le_of_ble_eq_true rfl) (s_X11_within (lo := 0) (hi := 2) (by decide) (by decide) (by decide) (fun w hw1 hw ez => ?_) (fun hn => ?_))
      · refine AW.ifne1 (tgt := 32) dX11_best_27 (by decide) ?_
        subst ex; subst ey; subst ez
        refine AW.aload_n dX11_best_32 rfl rfl ?_
        refine g11_7 dX11_best_33 wF_X11_42 (by first | assumption | rfl | (unfold is11; omega)) ?_
        refine AW.aload_n dX11_best_36 rfl rfl ?_
        show AW muX11_best _ _ 37 _ _ _ _
        refine g11_0 dX11_best_37 wF_X11_10 (by first | assumption | rfl | (unfold is11; omega)) ?_
        refine AW.iload_n dX11_best_40 rfl rfl ?_
        refine cs_X11_best_41 (by first | exact k0_1 | exact k0_157) (by decide) (by decide) (Nat.le_of_ble_eq_true rfl) (s_X5_look i2_1 hR hV (by omega) (fun I1 f1 O1 => ?_))
        refine AW.iconst (v := nI 0) dX11_best_44 (by decide) ?_
        refine AW.istore dX11_best_45 (by decide) rfl rfl ?_
        refine AW.iconst (v := nI 0) dX11_best_47 (by decide) ?_
        show AW muX11_best _ _ 48 _ _ _ _
        refine AW.istore dX11_best_48 (by decide) rfl rfl ?_
        refine AW.iconst (v := nI 0) dX11_best_50 (by decide) ?_
        refine AW.istore dX11_best_51 (by decide) rfl rfl ?_
        exact lp_X11_best hV ht (by omega) hw 5 0 I1 _ .null (by omega) (by omega) (hR.of (fun b b1 b2 b3 => f1 b (by omega))) O1 (fun _ _ _ => rfl) (fun I' f => ⟨_, rfl, q2 t n w ht hn1 hn hw rfl rfl rfl I' (f1.tr f)⟩)
      · refine AW.ifne0 (tgt := 32) dX11_best_27 (by decide) ?_
        refine AW.iconst (v := (-1)) dX11_best_30 (by decide) ?_
        refine AW.iret dX11_best_31 ⟨_, rfl, rfl⟩ (Nat.zero_le _) (Nat.zero_le _) ⟨_, rfl, ?_⟩
        first | exact q1 (fun h => hn h.1) | exact q1 (fun h => hn h.2.1) | exact q1 (fun h => hn h.2.2)
    · refine AW.ifeq0 (tgt := 30) dX11_best_18 (by decide) ?_
      refine AW.iconst (v := (-1)) dX11_best_30 (by decide) ?_
      refine AW.iret dX11_best_31 ⟨_, rfl, rfl⟩ (Nat.zero_le _) (Nat.zero_le _) ⟨_, rfl, ?_⟩
      first | exact q1 (fun h => hn h.1) | exact q1 (fun h => hn h.2.1) | exact q1 (fun h => hn h.2.2)
  · refine AW.ifeq0 (tgt := 30) dX11_best_8 (by decide) ?_
    refine AW.iconst (v := (-1)) dX11_best_30 (by decide) ?_
    show AW muX11_best _ _ 31 _ _ _ _
    refine AW.iret dX11_best_31 ⟨_, rfl, rfl⟩ (Nat.zero_le _) (Nat.zero_le _) ⟨_, rfl, ?_⟩
    first | exact q1 (fun h => hn h.1) | exact q1 (fun h => hn h.2.1) | exact q1 (fun h => hn h.2.2)
theorem lp_X11_bestBed {s n w : Nat} (hV : NV N) (hs : s < N 36) (hn : n ≤ 40) (hw : w < 2) {Q : Option Int32 → sd_S → Prop} : ∀ (m i : Nat) (I : sd_I) (v7 : Value), 4 - i < m → i ≤ 4 → HR I 1 N → OL I N n (pl0 N) → (∀ I', Fr I I' 157 160 → Q (some (nI (if w = 0 then (amin (fun r => oI N (pl0 N) r (N (42 + s)) n) 4).1 else (amin (fun r => oI N (pl0 N) r (N (42 + s)) n) 4).2))) (sk0, X, I', J)) → AW muX11_bestBed 0 0 53 [.ref 0, .int (nI s), .int (nI n), .int (nI w), .int (nI (amin (fun r => oI N (pl0 N) r (N (42 + s)) n) i).1), .int (nI (amin (fun r => oI N (pl0 N) r (N (42 + s)) n) i).2), .int (nI i), v7] [] (sk0, X, I, J) Q := by
  have h5 := hV.s5
  have hW : ∀ r, (fun r => oI N (pl0 N) r (N (42 + s)) n) r ≤ 200 := fun r => Nat.le_trans (oI_le n) (by omega)
  intro m
  induction m with
  | zero => intros; omega
  | succ m ih =>
    intro i I v7 hm hi hR hO K
    have ha := amin_le hW i
    have hWi : oI N (pl0 N) i (N (42 + s)) n ≤ 200 := hW i
    have hsu : amin (fun r => oI N (pl0 N) r (N (42 + s)) n) (i + 1) = if i = 0 ∨ oI N (pl0 N) i (N (42 + s)) n < (amin (fun r => oI N (pl0 N) r (N (42 + s)) n) i).2 then (i, oI N (pl0 N) i (N (42 + s)) n) else amin (fun r => oI N (pl0 N) r (N (42 + s)) n) i := amin_succ
    generalize hA : amin (fun r => oI N (pl0 N) r (N (42 + s)) n) i = A at ha hsu
    refine AW.iload dX11_bestBed_53 rfl ?_
    refine AW.iconst (v := nI 4) dX11_bestBed_55 (by decide) ?_
    first | refine AW.icmp_geN (tgt := 105) dX11_bestBed_56 (by decide) (by omega) (by omega) (fun c56 => ?_) (fun c56 => ?_) | refine AW.icmp_ge (tgt := 105) dX11_bestBed_56 (by decide) (fun c56 => ?_) (fun c56 => ?_)
    · refine AW.iload_n dX11_bestBed_105 rfl rfl ?_
      first | refine AW.if_neN (tgt := 114) dX11_bestBed_106 (by decide) (by omega) (fun c106 => ?_) (fun c106 => ?_) | refine AW.if_ne (tgt := 114) dX11_bestBed_106 (by decide) (fun c106 => ?_) (fun c106 => ?_)
      · refine AW.iload dX11_bestBed_114 rfl ?_
        refine AW.iret dX11_bestBed_116 ⟨_, rfl, rfl⟩ (Nat.zero_le _) (Nat.zero_le _) ?_
        obtain rfl : i = 4 := by omega
        rw [hA] at K
        first | (rw [if_pos c106] at K; exact K I Fr.rf) | (rw [if_neg c106] at K; exact K I Fr.rf)
      · refine AW.iload dX11_bestBed_109 rfl ?_
        refine AW.goto (tgt := 116) dX11_bestBed_111 (by decide) ?_
        refine AW.iret dX11_bestBed_116 ⟨_, rfl, rfl⟩ (Nat.zero_le _) (Nat.zero_le _) ?_
        obtain rfl : i = 4 := by omega
        rw [hA] at K
        first | (rw [if_pos c106] at K; exact K I Fr.rf) | (rw [if_neg c106] at K; exact K I Fr.rf)
    · refine AW.aload_n dX11_bestBed_59 rfl rfl ?_
      show AW muX11_bestBed _ _ 60 _ _ _ _
      refine g11_7 dX11_bestBed_60 wF_X11_42 (by first | assumption | rfl | (unfold is11; omega)) ?_
      refine AW.iload dX11_bestBed_63 rfl ?_
      refine AW.aload_n dX11_bestBed_65 rfl rfl ?_
      refine g11_0 dX11_bestBed_66 wF_X11_10 (by first | assumption | rfl | (unfold is11; omega)) ?_
      refine g2_2 dX11_bestBed_69 wF_X11_89 (by first | assumption | rfl | (unfold is2; omega)) ?_
      refine AW.iload_n dX11_bestBed_72 rfl rfl ?_
      show AW muX11_bestBed _ _ 73 _ _ _ _
      refine AW.iald dX11_bestBed_73 (by first | exact k0_157 | exact is2.a8 i2_1) _ (by first | rfl | assumption) (by omega) (by first | decide | omega) ?_
      refine AW.top (hR.br hs) ?_
      refine cs_X11_bestBed_74 (by first | exact k0_157 | exact is2.a8 i2_1) (by decide) (by decide) (Nat.le_of_ble_eq_true rfl) (s_X5_wakingsIn (pl := pl0 N) hV hO (by omega) (by omega) (hV.br hs) (fun q hq => hV.pl hq) (fun I1 f1 => ?_))
      refine AW.istore dX11_bestBed_77 (by decide) rfl rfl ?_
      refine AW.iload dX11_bestBed_79 rfl ?_
      first | refine AW.if_eqN (tgt := 91) dX11_bestBed_81 (by decide) (by omega) (fun c81 => ?_) (fun c81 => ?_) | refine AW.if_eq (tgt := 91) dX11_bestBed_81 (by decide) (fun c81 => ?_) (fun c81 => ?_)
      · refine AW.iload dX11_bestBed_91 rfl ?_
        refine AW.istore dX11_bestBed_93 (by decide) rfl rfl ?_
        show AW muX11_bestBed _ _ 95 _ _ _ _
        refine AW.iload dX11_bestBed_95 rfl ?_
        refine AW.istore dX11_bestBed_97 (by decide) rfl rfl ?_
        first | refine AW.iincN dX11_bestBed_99 rfl (by decide) rfl rfl ?_ | refine AW.iinc dX11_bestBed_99 rfl rfl (by decide) rfl rfl ?_
        refine AW.goto (tgt := 53) dX11_bestBed_102 (by decide) ?_
        have := ih (i + 1) I1 (.int (nI (oI N (pl0 N) i (N (42 + s)) n))) (by omega) (by omega) (hR.of (fun b b1 b2 b3 => f1 b (by omega))) (hO.of (fun b b1 b2 => f1 b (by omega))) (fun I' f => K I' ((f1.w (by omega) (by omega)).tr f))
        rw [hsu] at this
        first | (rw [if_pos (show i = 0 ∨ oI N (pl0 N) i (N (42 + s)) n < A.2 by omega)] at this; exact this) | (rw [if_neg (show ¬ (i = 0 ∨ oI N (pl0 N) i (N (42 + s)) n < A.2) by omega)] at this; exact this)
      · refine AW.iload dX11_bestBed_84 rfl ?_
        refine AW.iload dX11_bestBed_86 rfl ?_
        first | refine AW.icmp_geN (tgt := 99) dX11_bestBed_88 (by decide) (by omega) (by omega) (fun c88 => ?_) (fun c88 => ?_) | refine AW.icmp_ge (tgt := 99) dX11_bestBed_88 (by decide) (fun c88 => ?_) (fun c88 => ?_)
        · first | refine AW.iincN dX11_bestBed_99 rfl (by decide) rfl rfl ?_ | refine AW.iinc dX11_bestBed_99 rfl rfl (by decide) rfl rfl ?_
          show AW muX11_bestBed _ _ 102 _ _ _ _
          refine AW.goto (tgt := 53) dX11_bestBed_102 (by decide) ?_
          have := ih (i + 1) I1 (.int (nI (oI N (pl0 N) i (N (42 + s)) n))) (by omega) (by omega) (hR.of (fun b b1 b2 b3 => f1 b (by omega))) (hO.of (fun b b1 b2 => f1 b (by omega))) (fun I' f => K I' ((f1.w (by omega) (by omega)).tr f))
          rw [hsu] at this
          first | (rw [if_pos (show i = 0 ∨ oI N (pl0 N) i (N (42 + s)) n < A.2 by omega)] at this; exact this) | (rw [if_neg (show ¬ (i = 0 ∨ oI N (pl0 N) i (N (42 + s)) n < A.2) by omega)] at this; exact this)
        · refine AW.iload dX11_bestBed_91 rfl ?_
          refine AW.istore dX11_bestBed_93 (by decide) rfl rfl ?_
          refine AW.iload dX11_bestBed_95 rfl ?_
          refine AW.istore dX11_bestBed_97 (by decide) rfl rfl ?_
          first | refine AW.iincN dX11_bestBed_99 rfl (by decide) rfl rfl ?_ | refine AW.iinc dX11_bestBed_99 rfl rfl (by decide) rfl rfl ?_
          refine AW.goto (tgt := 53) dX11_bestBed_102 (by decide) ?_
          have := ih (i + 1) I1 (.int (nI (oI N (pl0 N) i (N (42 + s)) n))) (by omega) (by omega) (hR.of (fun b b1 b2 b3 => f1 b (by omega))) (hO.of (fun b b1 b2 => f1 b (by omega))) (fun I' f => K I' ((f1.w (by omega) (by omega)).tr f))
          rw [hsu] at this
          first | (rw [if_pos (show i = 0 ∨ oI N (pl0 N) i (N (42 + s)) n < A.2 by omega)] at this; exact this) | (rw [if_neg (show ¬ (i = 0 ∨ oI N (pl0 N) i (N (42 + s)) n < A.2) by omega)] at this; exact this)
theorem c_bestBed {x y z : Int32} (hV : NV N) (hR : HR I 1 N) (q1 : ¬ (inR x 0 (N 36) ∧ inR y 1 41 ∧ inR z 0 2) → Q (-1) (sk0, X, I, J)) (q2 : ∀ s n w, s < N 36 → 1 ≤ n → n < 41 → w < 2 → x = nI s → y = nI n → z = nI w → ∀ I', Fr I I' 157 160 → Q (nI (if w = 0 then (amin (fun r => oI N (pl0 N) r (N (42 + s)) n) 4).1 else (amin (fun r => oI N (pl0 N) r (N (42 + s)) n) 4).2)) (sk0, X, I', J)) : AWi muX11_bestBed [.ref 0, .int x, .int y, .int z] (sk0, X, I, J) Q := by
  have h5 := hV.s5
  show AW muX11_bestBed 0 0 0 [.ref 0, .int x, .int y, .int z, .null, .null, .null, .null] [] _ _
  refine AW.aload_n dX11_bestBed_0 rfl rfl ?_
  refine g11_0 dX11_bestBed_1 wF_X11_10 (by first | assumption | rfl | (unfold is11; omega)) ?_
  refine AW.iload_n dX11_bestBed_4 rfl rfl ?_
  refine cs_X11_bestBed_5 (by first | exact k0_1 | exact k0_157) (by decide) (by decide) (Nat.le_of_ble_eq_true rfl) (s_X2_hasSleeper i2_1 hR.sl (by omega) (fun s hs ex => ?_) (fun hn => ?_))
  · refine AW.ifeq1 (tgt := 30) dX11_bestBed_8 (by decide) ?_
    refine AW.iload_n dX11_bestBed_11 rfl rfl ?_
    refine AW.iconst (v := nI 1) dX11_bestBed_12 (by decide) ?_
    refine AW.bipush (v := nI 40) dX11_bestBed_13 (by decide) ?_
    show AW muX11_bestBed _ _ 15 _ _ _ _
    refine cs_X11_bestBed_15 (by decide) (by decide) (Nat.le_of_ble_eq_true rfl) (s_X11_within (lo := 1) (hi := 41) (by decide) (by decide) (by decide) (fun n hn1 hn ey => ?_) (fun hn => ?_))
    · refine AW.ifeq1 (tgt := 30) dX11_bestBed_18 (by decide) ?_
      refine AW.iload_n dX11_bestBed_21 rfl rfl ?_
      refine AW.iconst (v := nI 0) dX11_bestBed_22 (by decide) ?_
      refine AW.iconst (v := nI 1) dX11_bestBed_23 (by decide) ?_
      refine cs_X11_bestBed_24 (by decide) (by decide) (Nat.le_of_ble_eq_true rfl) (s_X11_within (lo := 0) (hi := 2) (by decide) (by decide) (by decide) (fun w hw1 hw ez => ?_) (fun hn => ?_))
      · refine AW.ifne1 (tgt := 32) dX11_bestBed_27 (by decide) ?_
        subst ex; subst ey; subst ez
        refine AW.aload_n dX11_bestBed_32 rfl rfl ?_
        refine g11_7 dX11_bestBed_33 wF_X11_42 (by first | assumption | rfl | (unfold is11; omega)) ?_
        refine AW.aload_n dX11_bestBed_36 rfl rfl ?_
        show AW muX11_bestBed _ _ 37 _ _ _ _
        refine g11_0 dX11_bestBed_37 wF_X11_10 (by first | assumption | rfl | (unfold is11; omega)) ?_
        refine AW.iload_n dX11_bestBed_40 rfl rfl ?_
        refine cs_X11_bestBed_41 (by first | exact k0_1 | exact k0_157) (by decide) (by decide) (Nat.le_of_ble_eq_true rfl) (s_X5_look i2_1 hR hV (by omega) (fun I1 f1 O1 => ?_))
        refine AW.iconst (v := nI 0) dX11_bestBed_44 (by decide) ?_
        refine AW.istore dX11_bestBed_45 (by decide) rfl rfl ?_
        refine AW.iconst (v := nI 0) dX11_bestBed_47 (by decide) ?_
        show AW muX11_bestBed _ _ 48 _ _ _ _
        refine AW.istore dX11_bestBed_48 (by decide) rfl rfl ?_
        refine AW.iconst (v := nI 0) dX11_bestBed_50 (by decide) ?_
        refine AW.istore dX11_bestBed_51 (by decide) rfl rfl ?_
        exact lp_X11_bestBed hV hs (by omega) hw 5 0 I1 .null (by omega) (by omega) (hR.of (fun b b1 b2 b3 => f1 b (by omega))) O1 (fun I' f => ⟨_, rfl, q2 s n w hs hn1 hn hw rfl rfl rfl I' (f1.tr f)⟩)
      · refine AW.ifne0 (tgt := 32) dX11_bestBed_27 (by decide) ?_
        refine AW.iconst (v := (-1)) dX11_bestBed_30 (by decide) ?_
        refine AW.iret dX11_bestBed_31 ⟨_, rfl, rfl⟩ (Nat.zero_le _) (Nat.zero_le _) ⟨_, rfl, ?_⟩
        first | exact q1 (fun h => hn h.1) | exact q1 (fun h => hn h.2.1) | exact q1 (fun h => hn h.2.2)
    · refine AW.ifeq0 (tgt := 30) dX11_bestBed_18 (by decide) ?_
      refine AW.iconst (v := (-1)) dX11_bestBed_30 (by decide) ?_
      refine AW.iret dX11_bestBed_31 ⟨_, rfl, rfl⟩ (Nat.zero_le _) (Nat.zero_le _) ⟨_, rfl, ?_⟩
      first | exact q1 (fun h => hn h.1) | exact q1 (fun h => hn h.2.1) | exact q1 (fun h => hn h.2.2)
  · refine AW.ifeq0 (tgt := 30) dX11_bestBed_8 (by decide) ?_
    refine AW.iconst (v := (-1)) dX11_bestBed_30 (by decide) ?_
    show AW muX11_bestBed _ _ 31 _ _ _ _
    refine AW.iret dX11_bestBed_31 ⟨_, rfl, rfl⟩ (Nat.zero_le _) (Nat.zero_le _) ⟨_, rfl, ?_⟩
    first | exact q1 (fun h => hn h.1) | exact q1 (fun h => hn h.2.1) | exact q1 (fun h => hn h.2.2)
end Pub2
