-- the class House: what is read
section House
variable {X : Nat × (Nat → Int32)} {I : sd_I} {J : sd_J} {Q : Int32 → sd_S → Prop} {h : Nat} {N : Nat → Nat}
theorem s_X2_hasSleeper {x : Int32} {n : Nat} (hh : is2 h) (hn : I h 7 = nI n) (hb : n ≤ 100) (hT : ∀ j, j < n → x = nI j → Q (nI 1) (sk0, X, I, J)) (hF : ¬ inR x 0 n → Q (nI 0) (sk0, X, I, J)) : AWi muX2_hasSleeper [.ref h, .int x] (sk0, X, I, J) Q := by
  show AW muX2_hasSleeper 0 0 0 [.ref h, .int x] [] _ _
  refine AW.iload_n dX2_hasSleeper_0 rfl rfl ?_
  refine AW.iconst (v := nI 0) dX2_hasSleeper_1 (by decide) ?_
  refine AW.aload_n dX2_hasSleeper_2 rfl rfl ?_
  refine g2_7 dX2_hasSleeper_3 wF_X2_63 (by first | assumption | rfl | (unfold is2; omega)) ?_
  refine AW.top (hn) ?_
  refine AW.iconst (v := nI 1) dX2_hasSleeper_6 (by decide) ?_
  first | refine AW.isubN dX2_hasSleeper_7 (by omega) ?_ | refine AW.isub dX2_hasSleeper_7 ?_
  show AW muX2_hasSleeper _ _ 8 _ _ _ _
  refine cs_X2_hasSleeper_8 (by decide) (by decide) (Nat.le_of_ble_eq_true rfl) (s_X11_within (lo := 0) (hi := n) (by decide) (by omega) (nI_m1 (by omega)) (fun j h1 h2 h3 => ?_) (fun hn => ?_))
  · refine AW.iret dX2_hasSleeper_11 ⟨_, rfl, by decide⟩ (Nat.zero_le _) (Nat.zero_le _) ⟨_, rfl, ?_⟩
    exact hT j h2 h3
  · refine AW.iret dX2_hasSleeper_11 ⟨_, rfl, by decide⟩ (Nat.zero_le _) (Nat.zero_le _) ⟨_, rfl, ?_⟩
    exact hF hn
theorem s_X2_hasThing {x : Int32} {n : Nat} (hh : is2 h) (hn : I h 8 = nI n) (hb : n ≤ 100) (hT : ∀ j, j < n → x = nI j → Q (nI 1) (sk0, X, I, J)) (hF : ¬ inR x 0 n → Q (nI 0) (sk0, X, I, J)) : AWi muX2_hasThing [.ref h, .int x] (sk0, X, I, J) Q := by
  show AW muX2_hasThing 0 0 0 [.ref h, .int x] [] _ _
  refine AW.iload_n dX2_hasThing_0 rfl rfl ?_
  refine AW.iconst (v := nI 0) dX2_hasThing_1 (by decide) ?_
  refine AW.aload_n dX2_hasThing_2 rfl rfl ?_
  refine g2_8 dX2_hasThing_3 wF_X2_67 (by first | assumption | rfl | (unfold is2; omega)) ?_
  refine AW.top (hn) ?_
  refine AW.iconst (v := nI 1) dX2_hasThing_6 (by decide) ?_
  first | refine AW.isubN dX2_hasThing_7 (by omega) ?_ | refine AW.isub dX2_hasThing_7 ?_
  show AW muX2_hasThing _ _ 8 _ _ _ _
  refine cs_X2_hasThing_8 (by decide) (by decide) (Nat.le_of_ble_eq_true rfl) (s_X11_within (lo := 0) (hi := n) (by decide) (by omega) (nI_m1 (by omega)) (fun j h1 h2 h3 => ?_) (fun hn => ?_))
  · refine AW.iret dX2_hasThing_11 ⟨_, rfl, by decide⟩ (Nat.zero_le _) (Nat.zero_le _) ⟨_, rfl, ?_⟩
    exact hT j h2 h3
  · refine AW.iret dX2_hasThing_11 ⟨_, rfl, by decide⟩ (Nat.zero_le _) (Nat.zero_le _) ⟨_, rfl, ?_⟩
    exact hF hn
theorem s_X2_loudWith {t l k : Nat} (hh : is2 h) (hR : HR I h N) (hV : NV N) (ht : t < N 47) (hl : l < 1000) (hk : k < 1000) (hQ : Q (nI (mL (N (48 + t)) (N (56 + t)) l (N 0 + k))) (sk0, X, I, J)) : AWi muX2_loudWith [.ref h, .int (nI t), .int (nI l), .int (nI k)] (sk0, X, I, J) Q := by
  have h8 := hV.t8
  have hn := hV.ni
  have hkd := hV.kd ht
  have hd := hV.dr ht
  have hlt := hh.lt
  generalize hkk : N (48 + t) = kd at hkd hQ
  have hkd' : I (h + 9) t = nI kd := by rw [hR.kd ht, hkk]
  show AW muX2_loudWith 0 0 0 [.ref h, .int (nI t), .int (nI l), .int (nI k)] [] _ _
  rcases (show kd = 0 ∨ kd = 1 ∨ kd = 2 ∨ kd = 3 ∨ kd = 4 by omega) with rfl | rfl | rfl | rfl | rfl
  all_goals (
  refine AW.iload_n dX2_loudWith_0 rfl rfl ?_
  first | refine AW.if_neN (tgt := 8) dX2_loudWith_1 (by decide) (by omega) (fun c1 => ?_) (fun c1 => ?_) | refine AW.if_ne (tgt := 8) dX2_loudWith_1 (by decide) (fun c1 => ?_) (fun c1 => ?_)
  · refine AW.aload_n dX2_loudWith_8 rfl rfl ?_
    refine g2_0 dX2_loudWith_9 wF_X2_24 (by first | assumption | rfl | (unfold is2; omega)) ?_
    refine AW.aload_n dX2_loudWith_12 rfl rfl ?_
    refine g2_3 dX2_loudWith_13 wF_X2_37 (by first | assumption | rfl | (unfold is2; omega)) ?_
    refine AW.iload_n dX2_loudWith_16 rfl rfl ?_
    show AW muX2_loudWith _ _ 17 _ _ _ _
    refine AW.iald dX2_loudWith_17 (by first | exact is2.a9 hh | exact is2.a10 hh | exact is2.k0 hh | exact is2.k1 hh | exact is2.k2 hh | exact is2.k3 hh | exact is2.k4 hh) _ (by first | rfl | assumption) (by omega) (by first | decide | omega) ?_
    refine AW.top (hkd') ?_
    refine AW.aald dX2_loudWith_18 (Or.inl rfl) (is2.a1 hh) _ rfl (by decide) (by decide) rfl (by omega) ?_
    refine AW.aload_n dX2_loudWith_19 rfl rfl ?_
    refine g2_4 dX2_loudWith_20 wF_X2_40 (by first | assumption | rfl | (unfold is2; omega)) ?_
    refine AW.iload_n dX2_loudWith_23 rfl rfl ?_
    refine AW.iald dX2_loudWith_24 (by first | exact is2.a9 hh | exact is2.a10 hh | exact is2.k0 hh | exact is2.k1 hh | exact is2.k2 hh | exact is2.k3 hh | exact is2.k4 hh) _ (by first | rfl | assumption) (by omega) (by first | decide | omega) ?_
    refine AW.top (hR.dr ht) ?_
    show AW muX2_loudWith _ _ 25 _ _ _ _
    refine AW.aload_n dX2_loudWith_25 rfl rfl ?_
    refine g2_6 dX2_loudWith_26 wF_X2_49 (by first | assumption | rfl | (unfold is2; omega)) ?_
    refine g4_5 dX2_loudWith_29 wF_X2_70 (by first | assumption | exact is2.m (by assumption) | rfl | (unfold is4; omega) | exact is6.m (by assumption) (by omega)) ?_
    refine AW.top (hR.m.ni) ?_
    refine AW.iload_n dX2_loudWith_32 rfl rfl ?_
    first | refine AW.iaddN dX2_loudWith_33 ?_ | refine AW.iadd dX2_loudWith_33 ?_
    first | refine cs_X2_loudWith_34_X7 (is2.k0 hh) (by decide) (by decide) (Nat.le_of_ble_eq_true rfl) (s_X7_loudness ?_) | refine cs_X2_loudWith_34_X1 (is2.k1 hh) (by decide) (by decide) (Nat.le_of_ble_eq_true rfl) (s_X1_loudness ?_) | refine cs_X2_loudWith_34_X0 (is2.k2 hh) (by decide) (by decide) (Nat.le_of_ble_eq_true rfl) (s_X7_loudness ?_) | refine cs_X2_loudWith_34_X10 (is2.k3 hh) (by decide) (by decide) (Nat.le_of_ble_eq_true rfl) (s_X10_loudness (is2.k3 hh) (by omega) ?_) | refine cs_X2_loudWith_34_X3 (is2.k4 hh) (by decide) (by decide) (Nat.le_of_ble_eq_true rfl) (s_X3_loudness ?_)
    show AW muX2_loudWith _ _ 37 _ _ _ _
    refine AW.iret dX2_loudWith_37 ⟨_, rfl, rfl⟩ (Nat.zero_le _) (Nat.zero_le _) ⟨_, rfl, ?_⟩
    simpa [mL, c1] using hQ
  · refine AW.iconst (v := nI 0) dX2_loudWith_4 (by decide) ?_
    refine AW.goto (tgt := 37) dX2_loudWith_5 (by decide) ?_
    refine AW.iret dX2_loudWith_37 ⟨_, rfl, rfl⟩ (Nat.zero_le _) (Nat.zero_le _) ⟨_, rfl, ?_⟩
    simpa [mL, c1] using hQ
  )
theorem s_X2_leftBehind {kd d l k : Nat} (hh : is2 h) (hni : I (h + 12) 5 = nI (N 0)) (hn : N 0 ≤ 20000) (hkd : kd < 5) (hd : d < 1000) (hl : l < 1000) (hk : k < 1000) (hQ : Q (nI (mB kd d l (N 0 + k))) (sk0, X, I, J)) : AWi muX2_leftBehind [.ref h, .int (nI kd), .int (nI d), .int (nI l), .int (nI k)] (sk0, X, I, J) Q := by
  have hlt := hh.lt
  show AW muX2_leftBehind 0 0 0 [.ref h, .int (nI kd), .int (nI d), .int (nI l), .int (nI k)] [] _ _
  rcases (show kd = 0 ∨ kd = 1 ∨ kd = 2 ∨ kd = 3 ∨ kd = 4 by omega) with rfl | rfl | rfl | rfl | rfl
  all_goals (
  refine AW.aload_n dX2_leftBehind_0 rfl rfl ?_
  refine g2_0 dX2_leftBehind_1 wF_X2_24 (by first | assumption | rfl | (unfold is2; omega)) ?_
  refine AW.iload_n dX2_leftBehind_4 rfl rfl ?_
  refine AW.aald dX2_leftBehind_5 (Or.inl rfl) (is2.a1 hh) _ rfl (by decide) (by decide) rfl (by omega) ?_
  refine AW.iload_n dX2_leftBehind_6 rfl rfl ?_
  refine AW.iload_n dX2_leftBehind_7 rfl rfl ?_
  show AW muX2_leftBehind _ _ 8 _ _ _ _
  refine AW.aload_n dX2_leftBehind_8 rfl rfl ?_
  refine g2_6 dX2_leftBehind_9 wF_X2_49 (by first | assumption | rfl | (unfold is2; omega)) ?_
  refine g4_5 dX2_leftBehind_12 wF_X2_70 (by first | assumption | exact is2.m (by assumption) | rfl | (unfold is4; omega) | exact is6.m (by assumption) (by omega)) ?_
  refine AW.top (hni) ?_
  refine AW.iload dX2_leftBehind_15 rfl ?_
  first | refine AW.iaddN dX2_leftBehind_17 ?_ | refine AW.iadd dX2_leftBehind_17 ?_
  first | refine cs_X2_leftBehind_18_X7 (is2.k0 hh) (by decide) (by decide) (Nat.le_of_ble_eq_true rfl) (s_X7_leftBehind (by omega) (by omega) ?_) | refine cs_X2_leftBehind_18_X1 (is2.k1 hh) (by decide) (by decide) (Nat.le_of_ble_eq_true rfl) (s_X1_leftBehind (by omega) ?_) | refine cs_X2_leftBehind_18_X0 (is2.k2 hh) (by decide) (by decide) (Nat.le_of_ble_eq_true rfl) (s_X0_leftBehind (by omega) ?_) | refine cs_X2_leftBehind_18_X10 (is2.k3 hh) (by decide) (by decide) (Nat.le_of_ble_eq_true rfl) (s_X10_leftBehind (is2.k3 hh) (by omega) (by omega) ?_) | refine cs_X2_leftBehind_18_X3 (is2.k4 hh) (by decide) (by decide) (Nat.le_of_ble_eq_true rfl) (s_X3_leftBehind (is2.k4 hh) (by omega) (by omega) ?_)
  show AW muX2_leftBehind _ _ 21 _ _ _ _
  refine AW.iret dX2_leftBehind_21 ⟨_, rfl, rfl⟩ (Nat.zero_le _) (Nat.zero_le _) ⟨_, rfl, ?_⟩
  exact hQ
  )
theorem s_X11_isIn {C : List sd_C} {w t : Nat} (hw : w < 2 ^ 31) (ht : t < 31) (hT : w.testBit t = true → Q (nI 1) (C, X, I, J)) (hF : w.testBit t = false → Q (nI 0) (C, X, I, J)) : AWi muX11_isIn [.int (nI w), .int (nI t)] (C, X, I, J) Q := by
  show AW muX11_isIn 0 0 0 [.int (nI w), .int (nI t)] [] _ _
  by_cases hb : w.testBit t = true
  · have e : (nI w >>> (nI t &&& 31)) &&& nI 1 = nI 1 := by rw [nI_bit hw ht, if_pos hb]
    refine AW.iload_n dX11_isIn_0 rfl rfl ?_
    refine AW.iload_n dX11_isIn_1 rfl rfl ?_
    refine AW.ishr dX11_isIn_2 ?_
    refine AW.iconst (v := nI 1) dX11_isIn_3 (by decide) ?_
    refine AW.iand dX11_isIn_4 ?_
    refine AW.top (e) ?_
    refine AW.iconst (v := nI 1) dX11_isIn_5 (by decide) ?_
    show AW muX11_isIn _ _ 6 _ _ _ _
    refine AW.icmp_neN (tgt := 13) dX11_isIn_6 (by decide) (by decide) (by decide) (fun c6 => absurd c6 (by decide)) (fun _ => ?_)
    refine AW.iconst (v := nI 1) dX11_isIn_9 (by decide) ?_
    refine AW.goto (tgt := 14) dX11_isIn_10 (by decide) ?_
    refine AW.iret dX11_isIn_14 ⟨_, rfl, by decide⟩ (Nat.zero_le _) (Nat.zero_le _) ⟨_, rfl, ?_⟩
    exact hT hb
  · have hb : w.testBit t = false := by simpa using hb
    have e : (nI w >>> (nI t &&& 31)) &&& nI 1 = nI 0 := by rw [nI_bit hw ht, hb]; rfl
    refine AW.iload_n dX11_isIn_0 rfl rfl ?_
    refine AW.iload_n dX11_isIn_1 rfl rfl ?_
    refine AW.ishr dX11_isIn_2 ?_
    refine AW.iconst (v := nI 1) dX11_isIn_3 (by decide) ?_
    refine AW.iand dX11_isIn_4 ?_
    refine AW.top (e) ?_
    refine AW.iconst (v := nI 1) dX11_isIn_5 (by decide) ?_
    show AW muX11_isIn _ _ 6 _ _ _ _
    refine AW.icmp_neN (tgt := 13) dX11_isIn_6 (by decide) (by decide) (by decide) (fun _ => ?_) (fun c6 => absurd c6 (by decide))
    refine AW.iconst (v := nI 0) dX11_isIn_13 (by decide) ?_
    refine AW.iret dX11_isIn_14 ⟨_, rfl, by decide⟩ (Nat.zero_le _) (Nat.zero_le _) ⟨_, rfl, ?_⟩
    exact hF hb
theorem lp_X2_placesOf {x a n len : Nat} {f : Nat → Nat} (hx : x < 2 ^ 31) (hA : sk0[a]? = some (20, len, [])) (hn : n ≤ len) (hl : len ≤ 8) (hf : ∀ i, i < n → f i < 2 ^ 31 ∧ I a i = nI (f i)) {Q : Option Int32 → sd_S → Prop} (K : AW muX2_placesOf 0 0 43 [.int (nI x), .ref a, .int (nI n), .int (nI (setN n (fun i => decide (f i = x)))), .int (nI n)] [] (sk0, X, I, J) Q) : ∀ (m i : Nat), n - i < m → i ≤ n → AW muX2_placesOf 0 0 5 [.int (nI x), .ref a, .int (nI n), .int (nI (setN i (fun i => decide (f i = x)))), .int (nI i)] [] (sk0, X, I, J) Q := by
  intro m
  induction m with
  | zero => intros; omega
  | succ m ih =>
    intro i hm hi
    have hlt := setN_lt i (fun i => decide (f i = x))
    refine AW.iload dX2_placesOf_5 rfl ?_
    refine AW.iload_n dX2_placesOf_7 rfl rfl ?_
    first | refine AW.icmp_geN (tgt := 43) dX2_placesOf_8 (by decide) (by omega) (by omega) (fun c8 => ?_) (fun c8 => ?_) | refine AW.icmp_ge (tgt := 43) dX2_placesOf_8 (by decide) (fun c8 => ?_) (fun c8 => ?_)
    · obtain rfl : i = n := by omega
      exact K
    · refine AW.iload dX2_placesOf_11 rfl ?_
      refine AW.aload_n dX2_placesOf_13 rfl rfl ?_
      refine AW.alen (t := 0) (v := _) dX2_placesOf_14 (by first | exact hA) rfl ?_
      first | refine AW.icmp_geN (tgt := 43) dX2_placesOf_15 (by decide) (by omega) (by omega) (fun c15 => ?_) (fun c15 => ?_) | refine AW.icmp_ge (tgt := 43) dX2_placesOf_15 (by decide) (fun c15 => ?_) (fun c15 => ?_)
      · obtain rfl : i = n := by omega
        exact K
      · refine AW.iload_n dX2_placesOf_18 rfl rfl ?_
        show AW muX2_placesOf _ _ 19 _ _ _ _
        refine AW.aload_n dX2_placesOf_19 rfl rfl ?_
        refine AW.iload dX2_placesOf_20 rfl ?_
        refine AW.iald dX2_placesOf_22 (by first | exact hA) _ (by first | rfl | assumption) (by omega) (by first | decide | omega) ?_
        refine AW.top ((hf i (by omega)).2) ?_
        refine AW.iload_n dX2_placesOf_23 rfl rfl ?_
        have hfi := (hf i (by omega)).1
        refine AW.icmp_neN (tgt := 34) dX2_placesOf_24 (by decide) hfi hx (fun c24 => ?_) (fun c24 => ?_)
        · refine AW.iconst (v := nI 0) dX2_placesOf_34 (by decide) ?_
          refine AW.ior dX2_placesOf_35 ?_
          refine AW.top ((by first | exact nI_or hlt | exact nI_or0 _)) ?_
          show AW muX2_placesOf _ _ 36 _ _ _ _
          refine AW.istore_n dX2_placesOf_36 rfl (by decide) rfl rfl ?_
          first | refine AW.iincN dX2_placesOf_37 rfl (by decide) rfl rfl ?_ | refine AW.iinc dX2_placesOf_37 rfl rfl (by decide) rfl rfl ?_
          refine AW.goto (tgt := 5) dX2_placesOf_40 (by decide) ?_
          have e : setN (i + 1) (fun i => decide (f i = x)) = setN i (fun i => decide (f i = x)) + 2 ^ i ∨ setN (i + 1) (fun i => decide (f i = x)) = setN i (fun i => decide (f i = x)) := by simp [setN, c24]
          have := ih (i + 1) (by omega) (by omega)
          first | (rw [show setN (i + 1) (fun i => decide (f i = x)) = setN i (fun i => decide (f i = x)) + 2 ^ i by simp [setN, c24]] at this; exact this) | (rw [show setN (i + 1) (fun i => decide (f i = x)) = setN i (fun i => decide (f i = x)) by simp [setN, c24]] at this; exact this)
        · refine AW.iconst (v := nI 1) dX2_placesOf_27 (by decide) ?_
          refine AW.iload dX2_placesOf_28 rfl ?_
          refine AW.ishl dX2_placesOf_30 ?_
          refine AW.top (nI_shl1 (by omega)) ?_
          refine AW.goto (tgt := 35) dX2_placesOf_31 (by decide) ?_
          refine AW.ior dX2_placesOf_35 ?_
          refine AW.top ((by first | exact nI_or hlt | exact nI_or0 _)) ?_
          show AW muX2_placesOf _ _ 36 _ _ _ _
          refine AW.istore_n dX2_placesOf_36 rfl (by decide) rfl rfl ?_
          first | refine AW.iincN dX2_placesOf_37 rfl (by decide) rfl rfl ?_ | refine AW.iinc dX2_placesOf_37 rfl rfl (by decide) rfl rfl ?_
          refine AW.goto (tgt := 5) dX2_placesOf_40 (by decide) ?_
          have e : setN (i + 1) (fun i => decide (f i = x)) = setN i (fun i => decide (f i = x)) + 2 ^ i ∨ setN (i + 1) (fun i => decide (f i = x)) = setN i (fun i => decide (f i = x)) := by simp [setN, c24]
          have := ih (i + 1) (by omega) (by omega)
          first | (rw [show setN (i + 1) (fun i => decide (f i = x)) = setN i (fun i => decide (f i = x)) + 2 ^ i by simp [setN, c24]] at this; exact this) | (rw [show setN (i + 1) (fun i => decide (f i = x)) = setN i (fun i => decide (f i = x)) by simp [setN, c24]] at this; exact this)
theorem s_X2_placesOf {x a n len : Nat} {f : Nat → Nat} (hx : x < 2 ^ 31) (hA : sk0[a]? = some (20, len, [])) (hn : n ≤ len) (hl : len ≤ 8) (hf : ∀ i, i < n → f i < 2 ^ 31 ∧ I a i = nI (f i)) (hQ : Q (nI (setN n (fun i => decide (f i = x)))) (sk0, X, I, J)) : AWi muX2_placesOf [.int (nI x), .ref a, .int (nI n)] (sk0, X, I, J) Q := by
  show AW muX2_placesOf 0 0 0 [.int (nI x), .ref a, .int (nI n), .null, .null] [] _ _
  refine AW.iconst (v := nI 0) dX2_placesOf_0 (by decide) ?_
  refine AW.istore_n dX2_placesOf_1 rfl (by decide) rfl rfl ?_
  refine AW.iconst (v := nI 0) dX2_placesOf_2 (by decide) ?_
  refine AW.istore dX2_placesOf_3 (by decide) rfl rfl ?_
  refine lp_X2_placesOf hx hA hn hl hf ?_ (n + 1) 0 (by omega) (by omega)
  refine AW.iload_n dX2_placesOf_43 rfl rfl ?_
  exact AW.iret dX2_placesOf_44 ⟨_, rfl, rfl⟩ (Nat.zero_le _) (Nat.zero_le _) ⟨_, rfl, hQ⟩
theorem s_X2_thingsIn {r : Nat} (hh : is2 h) (hR : HR I h N) (hV : NV N) (hr : r < 2 ^ 31) (hQ : Q (nI (setN (N 47) (fun t => decide (N (2 + t) = r)))) (sk0, X, I, J)) : AWi muX2_thingsIn [.ref h, .int (nI r)] (sk0, X, I, J) Q := by
  show AW muX2_thingsIn 0 0 0 [.ref h, .int (nI r)] [] _ _
  refine AW.iload_n dX2_thingsIn_0 rfl rfl ?_
  refine AW.aload_n dX2_thingsIn_1 rfl rfl ?_
  refine g2_6 dX2_thingsIn_2 wF_X2_49 (by first | assumption | rfl | (unfold is2; omega)) ?_
  refine g4_0 dX2_thingsIn_5 wF_X2_85 (by first | assumption | exact is2.m (by assumption) | rfl | (unfold is4; omega) | exact is6.m (by assumption) (by omega)) ?_
  refine AW.aload_n dX2_thingsIn_8 rfl rfl ?_
  refine g2_8 dX2_thingsIn_9 wF_X2_67 (by first | assumption | rfl | (unfold is2; omega)) ?_
  refine AW.top (hR.th) ?_
  show AW muX2_thingsIn _ _ 12 _ _ _ _
  refine cs_X2_thingsIn_12 (by decide) (by decide) (Nat.le_of_ble_eq_true rfl) (s_X2_placesOf hr (is4.a1 (is2.m hh)) hV.t8 (by decide) (fun i hi => ⟨by have := hV.pl hi; omega, hR.m.pl hi⟩) ?_)
  refine AW.iret dX2_thingsIn_15 ⟨_, rfl, rfl⟩ (Nat.zero_le _) (Nat.zero_le _) ⟨_, rfl, ?_⟩
  exact hQ
theorem s_X2_thingsOf {r : Nat} (hh : is2 h) (hR : HR I h N) (hV : NV N) (hr : r < 2 ^ 31) (hQ : Q (nI (setN (N 47) (fun t => decide (N (10 + t) = r)))) (sk0, X, I, J)) : AWi muX2_thingsOf [.ref h, .int (nI r)] (sk0, X, I, J) Q := by
  show AW muX2_thingsOf 0 0 0 [.ref h, .int (nI r)] [] _ _
  refine AW.iload_n dX2_thingsOf_0 rfl rfl ?_
  refine AW.aload_n dX2_thingsOf_1 rfl rfl ?_
  refine g2_6 dX2_thingsOf_2 wF_X2_49 (by first | assumption | rfl | (unfold is2; omega)) ?_
  refine g4_1 dX2_thingsOf_5 wF_X2_82 (by first | assumption | exact is2.m (by assumption) | rfl | (unfold is4; omega) | exact is6.m (by assumption) (by omega)) ?_
  refine AW.aload_n dX2_thingsOf_8 rfl rfl ?_
  refine g2_8 dX2_thingsOf_9 wF_X2_67 (by first | assumption | rfl | (unfold is2; omega)) ?_
  refine AW.top (hR.th) ?_
  show AW muX2_thingsOf _ _ 12 _ _ _ _
  refine cs_X2_thingsOf_12 (by decide) (by decide) (Nat.le_of_ble_eq_true rfl) (s_X2_placesOf hr (is4.a2 (is2.m hh)) hV.t8 (by decide) (fun i hi => ⟨by have := hV.gv hi; omega, hR.m.gv hi⟩) ?_)
  refine AW.iret dX2_thingsOf_15 ⟨_, rfl, rfl⟩ (Nat.zero_le _) (Nat.zero_le _) ⟨_, rfl, ?_⟩
  exact hQ
theorem s_X2_silentThings (hh : is2 h) (hR : HR I h N) (hV : NV N) (hQ : Q (nI (setN (N 47) (fun t => decide (N (18 + t) = 0)))) (sk0, X, I, J)) : AWi muX2_silentThings [.ref h] (sk0, X, I, J) Q := by
  show AW muX2_silentThings 0 0 0 [.ref h] [] _ _
  refine AW.iconst (v := nI 0) dX2_silentThings_0 (by decide) ?_
  refine AW.aload_n dX2_silentThings_1 rfl rfl ?_
  refine g2_6 dX2_silentThings_2 wF_X2_49 (by first | assumption | rfl | (unfold is2; omega)) ?_
  refine g4_2 dX2_silentThings_5 wF_X2_88 (by first | assumption | exact is2.m (by assumption) | rfl | (unfold is4; omega) | exact is6.m (by assumption) (by omega)) ?_
  refine AW.aload_n dX2_silentThings_8 rfl rfl ?_
  refine g2_8 dX2_silentThings_9 wF_X2_67 (by first | assumption | rfl | (unfold is2; omega)) ?_
  refine AW.top (hR.th) ?_
  show AW muX2_silentThings _ _ 12 _ _ _ _
  refine cs_X2_silentThings_12 (by decide) (by decide) (Nat.le_of_ble_eq_true rfl) (s_X2_placesOf (by decide) (is4.a3 (is2.m hh)) hV.t8 (by decide) (fun i hi => ⟨by have := hV.lf hi; omega, hR.m.lf hi⟩) ?_)
  refine AW.iret dX2_silentThings_15 ⟨_, rfl, rfl⟩ (Nat.zero_le _) (Nat.zero_le _) ⟨_, rfl, ?_⟩
  exact hQ
theorem s_X2_sleepersIn {r : Nat} (hh : is2 h) (hR : HR I h N) (hV : NV N) (hr : r < 2 ^ 31) (hQ : Q (nI (setN (N 36) (fun t => decide (N (37 + t) = r)))) (sk0, X, I, J)) : AWi muX2_sleepersIn [.ref h, .int (nI r)] (sk0, X, I, J) Q := by
  show AW muX2_sleepersIn 0 0 0 [.ref h, .int (nI r)] [] _ _
  refine AW.iload_n dX2_sleepersIn_0 rfl rfl ?_
  refine AW.aload_n dX2_sleepersIn_1 rfl rfl ?_
  refine g2_1 dX2_sleepersIn_2 wF_X2_30 (by first | assumption | rfl | (unfold is2; omega)) ?_
  refine AW.aload_n dX2_sleepersIn_5 rfl rfl ?_
  refine g2_7 dX2_sleepersIn_6 wF_X2_63 (by first | assumption | rfl | (unfold is2; omega)) ?_
  refine AW.top (hR.sl) ?_
  refine cs_X2_sleepersIn_9 (by decide) (by decide) (Nat.le_of_ble_eq_true rfl) (s_X2_placesOf hr (is2.a7 hh) hV.s5 (by decide) (fun i hi => ⟨by have := hV.bd hi; omega, hR.bd hi⟩) ?_)
  show AW muX2_sleepersIn _ _ 12 _ _ _ _
  refine AW.iret dX2_sleepersIn_12 ⟨_, rfl, rfl⟩ (Nat.zero_le _) (Nat.zero_le _) ⟨_, rfl, ?_⟩
  exact hQ
theorem lp_X2_loudOfSet {w : Nat} (hh : is2 h) (hR : HR I h N) (hV : NV N) (hw : w < 2 ^ 31) {Q : Option Int32 → sd_S → Prop} (K : AW muX2_loudOfSet 0 0 48 [.ref h, .int (nI w), .int (nI (sumN (N 47) (fun t => if w.testBit t then loudT N t else 0))), .int (nI (N 47))] [] (sk0, X, I, J) Q) : ∀ (m i : Nat), N 47 - i < m → i ≤ N 47 → AW muX2_loudOfSet 0 0 4 [.ref h, .int (nI w), .int (nI (sumN i (fun t => if w.testBit t then loudT N t else 0))), .int (nI i)] [] (sk0, X, I, J) Q := by
  have h8 := hV.t8
  intro m
  induction m with
  | zero => intros; omega
  | succ m ih =>
    intro i hm hi
    refine AW.iload_n dX2_loudOfSet_4 rfl rfl ?_
    refine AW.aload_n dX2_loudOfSet_5 rfl rfl ?_
    refine g2_8 dX2_loudOfSet_6 wF_X2_67 (by first | assumption | rfl | (unfold is2; omega)) ?_
    refine AW.top (hR.th) ?_
    first | refine AW.icmp_geN (tgt := 48) dX2_loudOfSet_9 (by decide) (by omega) (by omega) (fun c9 => ?_) (fun c9 => ?_) | refine AW.icmp_ge (tgt := 48) dX2_loudOfSet_9 (by decide) (fun c9 => ?_) (fun c9 => ?_)
    · obtain rfl : i = N 47 := by omega
      exact K
    · refine AW.iload_n dX2_loudOfSet_12 rfl rfl ?_
      refine AW.iload_n dX2_loudOfSet_13 rfl rfl ?_
      refine AW.iload_n dX2_loudOfSet_14 rfl rfl ?_
      show AW muX2_loudOfSet _ _ 15 _ _ _ _
      refine cs_X2_loudOfSet_15 (by decide) (by decide) (Nat.le_of_ble_eq_true rfl) (s_X11_isIn hw (by omega) (fun hb => ?_) (fun hb => ?_))
      · refine AW.ifeq1 (tgt := 39) dX2_loudOfSet_18 (by decide) ?_
        refine AW.aload_n dX2_loudOfSet_21 rfl rfl ?_
        refine AW.iload_n dX2_loudOfSet_22 rfl rfl ?_
        refine AW.aload_n dX2_loudOfSet_23 rfl rfl ?_
        refine g2_6 dX2_loudOfSet_24 wF_X2_49 (by first | assumption | rfl | (unfold is2; omega)) ?_
        refine g4_2 dX2_loudOfSet_27 wF_X2_88 (by first | assumption | exact is2.m (by assumption) | rfl | (unfold is4; omega) | exact is6.m (by assumption) (by omega)) ?_
        refine AW.iload_n dX2_loudOfSet_30 rfl rfl ?_
        show AW muX2_loudOfSet _ _ 31 _ _ _ _
        refine AW.iald dX2_loudOfSet_31 (by first | exact is4.a3 (is2.m hh) | exact is2.a0 hh) _ (by first | rfl | assumption) (by omega) (by first | decide | omega) ?_
        refine AW.top (hR.m.lf (by omega)) ?_
        refine AW.iconst (v := nI 0) dX2_loudOfSet_32 (by decide) ?_
        refine cs_X2_loudOfSet_33 (by first | exact is4.a3 (is2.m hh) | exact is2.a0 hh) (by decide) (by decide) (Nat.le_of_ble_eq_true rfl) (s_X2_loudWith hh hR hV (by omega) (by have := hV.lf (t := i) (by omega); omega) (by decide) ?_)
        refine AW.goto (tgt := 40) dX2_loudOfSet_36 (by decide) ?_
        first | refine AW.iaddN dX2_loudOfSet_40 ?_ | refine AW.iadd dX2_loudOfSet_40 ?_
        refine AW.istore_n dX2_loudOfSet_41 rfl (by decide) rfl rfl ?_
        first | refine AW.iincN dX2_loudOfSet_42 rfl (by decide) rfl rfl ?_ | refine AW.iinc dX2_loudOfSet_42 rfl rfl (by decide) rfl rfl ?_
        show AW muX2_loudOfSet _ _ 45 _ _ _ _
        refine AW.goto (tgt := 4) dX2_loudOfSet_45 (by decide) ?_
        have := ih (i + 1) (by omega) (by omega)
        first | (rw [show sumN (i + 1) (fun t => if w.testBit t then loudT N t else 0) = sumN i (fun t => if w.testBit t then loudT N t else 0) + loudT N i by simp [sumN, hb]] at this; exact this) | (rw [show sumN (i + 1) (fun t => if w.testBit t then loudT N t else 0) = sumN i (fun t => if w.testBit t then loudT N t else 0) by simp [sumN, hb]] at this; exact this)
      · refine AW.ifeq0 (tgt := 39) dX2_loudOfSet_18 (by decide) ?_
        refine AW.iconst (v := nI 0) dX2_loudOfSet_39 (by decide) ?_
        first | refine AW.iaddN dX2_loudOfSet_40 ?_ | refine AW.iadd dX2_loudOfSet_40 ?_
        refine AW.istore_n dX2_loudOfSet_41 rfl (by decide) rfl rfl ?_
        first | refine AW.iincN dX2_loudOfSet_42 rfl (by decide) rfl rfl ?_ | refine AW.iinc dX2_loudOfSet_42 rfl rfl (by decide) rfl rfl ?_
        refine AW.goto (tgt := 4) dX2_loudOfSet_45 (by decide) ?_
        have := ih (i + 1) (by omega) (by omega)
        first | (rw [show sumN (i + 1) (fun t => if w.testBit t then loudT N t else 0) = sumN i (fun t => if w.testBit t then loudT N t else 0) + loudT N i by simp [sumN, hb]] at this; exact this) | (rw [show sumN (i + 1) (fun t => if w.testBit t then loudT N t else 0) = sumN i (fun t => if w.testBit t then loudT N t else 0) by simp [sumN, hb]] at this; exact this)
theorem s_X2_loudOfSet {w : Nat} (hh : is2 h) (hR : HR I h N) (hV : NV N) (hw : w < 2 ^ 31) (hQ : Q (nI (sumN (N 47) (fun t => if w.testBit t then loudT N t else 0))) (sk0, X, I, J)) : AWi muX2_loudOfSet [.ref h, .int (nI w)] (sk0, X, I, J) Q := by
  show AW muX2_loudOfSet 0 0 0 [.ref h, .int (nI w), .null, .null] [] _ _
  refine AW.iconst (v := nI 0) dX2_loudOfSet_0 (by decide) ?_
  refine AW.istore_n dX2_loudOfSet_1 rfl (by decide) rfl rfl ?_
  refine AW.iconst (v := nI 0) dX2_loudOfSet_2 (by decide) ?_
  refine AW.istore_n dX2_loudOfSet_3 rfl (by decide) rfl rfl ?_
  refine lp_X2_loudOfSet hh hR hV hw ?_ (N 47 + 1) 0 (by omega) (by omega)
  refine AW.iload_n dX2_loudOfSet_48 rfl rfl ?_
  exact AW.iret dX2_loudOfSet_49 ⟨_, rfl, rfl⟩ (Nat.zero_le _) (Nat.zero_le _) ⟨_, rfl, hQ⟩
theorem s_X2_loudOfAll (hh : is2 h) (hR : HR I h N) (hV : NV N) (hQ : Q (nI (sumN (N 47) (loudT N))) (sk0, X, I, J)) : AWi muX2_loudOfAll [.ref h] (sk0, X, I, J) Q := by
  have h8 := hV.t8
  have h2 : 0 < 2 ^ N 47 := Nat.two_pow_pos _
  have h3 : 2 ^ N 47 ≤ 2 ^ 8 := Nat.pow_le_pow_right (by decide) h8
  show AW muX2_loudOfAll 0 0 0 [.ref h] [] _ _
  refine AW.aload_n dX2_loudOfAll_0 rfl rfl ?_
  refine AW.iconst (v := nI 1) dX2_loudOfAll_1 (by decide) ?_
  refine AW.aload_n dX2_loudOfAll_2 rfl rfl ?_
  refine g2_8 dX2_loudOfAll_3 wF_X2_67 (by first | assumption | rfl | (unfold is2; omega)) ?_
  refine AW.top (hR.th) ?_
  refine AW.ishl dX2_loudOfAll_6 ?_
  refine AW.top (nI_shl1 (by omega)) ?_
  refine AW.iconst (v := nI 1) dX2_loudOfAll_7 (by decide) ?_
  show AW muX2_loudOfAll _ _ 8 _ _ _ _
  first | refine AW.isubN dX2_loudOfAll_8 (by omega) ?_ | refine AW.isub dX2_loudOfAll_8 ?_
  refine cs_X2_loudOfAll_9 (by first | exact is2.a0 hh) (by decide) (by decide) (Nat.le_of_ble_eq_true rfl) (s_X2_loudOfSet hh hR hV (by omega) ?_)
  refine AW.iret dX2_loudOfAll_12 ⟨_, rfl, rfl⟩ (Nat.zero_le _) (Nat.zero_le _) ⟨_, rfl, ?_⟩
  have e : sumN (N 47) (fun t => if (2 ^ N 47 - 1).testBit t then loudT N t else 0) = sumN (N 47) (loudT N) := sumN_congr (fun t ht => by rw [Nat.testBit_two_pow_sub_one]; simp [ht])
  rw [e]; exact hQ
theorem s_X2_isAsleep {s : Nat} (hh : is2 h) (hR : HR I h N) (hV : NV N) (hL : ∀ r, r < 4 → I (h + 11) r = nI (loudR N r)) (hs : s < N 36) (hT : asleepB N s = true → Q (nI 1) (sk0, X, I, J)) (hF : asleepB N s = false → Q (nI 0) (sk0, X, I, J)) : AWi muX2_isAsleep [.ref h, .int (nI s)] (sk0, X, I, J) Q := by
  have h5 := hV.s5
  have hb := hV.bd hs
  have hbr := hV.br hs
  have hlr := loudR_le hV (N (37 + s))
  show AW muX2_isAsleep 0 0 0 [.ref h, .int (nI s)] [] _ _
  refine AW.aload_n dX2_isAsleep_0 rfl rfl ?_
  refine g2_5 dX2_isAsleep_1 wF_X2_43 (by first | assumption | rfl | (unfold is2; omega)) ?_
  refine AW.aload_n dX2_isAsleep_4 rfl rfl ?_
  refine g2_1 dX2_isAsleep_5 wF_X2_30 (by first | assumption | rfl | (unfold is2; omega)) ?_
  refine AW.iload_n dX2_isAsleep_8 rfl rfl ?_
  refine AW.iald dX2_isAsleep_9 (by first | exact is2.a11 hh | exact is2.a7 hh | exact is2.a8 hh) _ (by first | rfl | assumption) (by omega) (by first | decide | omega) ?_
  refine AW.top (hR.bd hs) ?_
  show AW muX2_isAsleep _ _ 10 _ _ _ _
  refine AW.iald dX2_isAsleep_10 (by first | exact is2.a11 hh | exact is2.a7 hh | exact is2.a8 hh) _ (by first | rfl | assumption) (by omega) (by first | decide | omega) ?_
  refine AW.top (hL _ hb) ?_
  refine AW.aload_n dX2_isAsleep_11 rfl rfl ?_
  refine g2_2 dX2_isAsleep_12 wF_X2_34 (by first | assumption | rfl | (unfold is2; omega)) ?_
  refine AW.iload_n dX2_isAsleep_15 rfl rfl ?_
  refine AW.iald dX2_isAsleep_16 (by first | exact is2.a11 hh | exact is2.a7 hh | exact is2.a8 hh) _ (by first | rfl | assumption) (by omega) (by first | decide | omega) ?_
  refine AW.top (hR.br hs) ?_
  first | refine AW.icmp_gtN (tgt := 24) dX2_isAsleep_17 (by decide) (by omega) (by omega) (fun c17 => ?_) (fun c17 => ?_) | refine AW.icmp_gt (tgt := 24) dX2_isAsleep_17 (by decide) (fun c17 => ?_) (fun c17 => ?_)
  · refine AW.iconst (v := nI 0) dX2_isAsleep_24 (by decide) ?_
    show AW muX2_isAsleep _ _ 25 _ _ _ _
    refine AW.iret dX2_isAsleep_25 ⟨_, rfl, by decide⟩ (Nat.zero_le _) (Nat.zero_le _) ⟨_, rfl, ?_⟩
    exact hF (by unfold asleepB; simpa using c17)
  · refine AW.iconst (v := nI 1) dX2_isAsleep_20 (by decide) ?_
    refine AW.goto (tgt := 25) dX2_isAsleep_21 (by decide) ?_
    refine AW.iret dX2_isAsleep_25 ⟨_, rfl, by decide⟩ (Nat.zero_le _) (Nat.zero_le _) ⟨_, rfl, ?_⟩
    exact hT (by unfold asleepB; simpa using c17)
end House
