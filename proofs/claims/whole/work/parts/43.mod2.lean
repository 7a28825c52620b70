-- the model's own calls, second part
theorem NV.rooms {N N' : Nat → Nat} (h : NV N) (e : ∀ k, (k < 2 ∨ 10 ≤ k) → k < 64 → N' k = N k) (hr : ∀ t, t < N 47 → N' (2 + t) < 4) : NV N' := by
  have h5 := h.s5
  have h8 := h.t8
  unfold NV MV
  rw [e 36 (by omega) (by omega), e 47 (by omega) (by omega), e 0 (by omega) (by omega), e 1 (by omega) (by omega)]
  refine ⟨h5, h8, fun s hs => ?_, fun t ht => ?_, h.ni, h.dw, fun t ht => ?_⟩
  · rw [e (37 + s) (by omega) (by omega), e (42 + s) (by omega) (by omega)]; exact ⟨h.bd hs, h.br hs⟩
  · rw [e (48 + t) (by omega) (by omega), e (56 + t) (by omega) (by omega)]; exact ⟨h.kd ht, h.dr ht⟩
  · rw [e (10 + t) (by omega) (by omega), e (18 + t) (by omega) (by omega)]; exact ⟨hr t ht, h.gv ht, h.lf ht⟩
theorem NV.beds {N N' : Nat → Nat} (h : NV N) (e : ∀ k, (k < 37 ∨ 42 ≤ k) → k < 64 → N' k = N k) (hr : ∀ s, s < N 36 → N' (37 + s) < 4) : NV N' := by
  have h5 := h.s5
  have h8 := h.t8
  unfold NV MV
  rw [e 36 (by omega) (by omega), e 47 (by omega) (by omega), e 0 (by omega) (by omega), e 1 (by omega) (by omega)]
  refine ⟨h5, h8, fun s hs => ?_, fun t ht => ?_, h.ni, h.dw, fun t ht => ?_⟩
  · rw [e (42 + s) (by omega) (by omega)]; exact ⟨hr s hs, h.br hs⟩
  · rw [e (48 + t) (by omega) (by omega), e (56 + t) (by omega) (by omega)]; exact ⟨h.kd ht, h.dr ht⟩
  · rw [e (2 + t) (by omega) (by omega), e (10 + t) (by omega) (by omega), e (18 + t) (by omega) (by omega)]; exact ⟨h.pl ht, h.gv ht, h.lf ht⟩
theorem NV.lefts {N N' : Nat → Nat} (h : NV N) (e : ∀ k, (k < 18 ∨ 26 ≤ k) → k < 64 → N' k = N k) (hr : ∀ t, t < N 47 → N' (18 + t) ≤ 99) : NV N' := by
  have h5 := h.s5
  have h8 := h.t8
  unfold NV MV
  rw [e 36 (by omega) (by omega), e 47 (by omega) (by omega), e 0 (by omega) (by omega), e 1 (by omega) (by omega)]
  refine ⟨h5, h8, fun s hs => ?_, fun t ht => ?_, h.ni, h.dw, fun t ht => ?_⟩
  · rw [e (37 + s) (by omega) (by omega), e (42 + s) (by omega) (by omega)]; exact ⟨h.bd hs, h.br hs⟩
  · rw [e (48 + t) (by omega) (by omega), e (56 + t) (by omega) (by omega)]; exact ⟨h.kd ht, h.dr ht⟩
  · rw [e (2 + t) (by omega) (by omega), e (10 + t) (by omega) (by omega)]; exact ⟨h.pl ht, h.gv ht, hr t ht⟩
theorem noteN_le8 {N : Nat → Nat} (h : N 64 ≤ 8) : noteN N 64 ≤ 8 := by
  unfold noteN
  by_cases e : N 64 = 8
  · rw [if_pos e, if_neg (by omega), if_neg (by omega)]; omega
  · rw [if_neg e, if_pos rfl]; omega
theorem preN_64 {d : Bool} {N : Nat → Nat} (h8 : N 47 ≤ 8) (h : N 64 ≤ 8) : preN d N 64 ≤ 8 := by
  cases d with
  | false => rw [preN_f]; exact noteN_le8 h
  | true => rw [preN_t, drawN_hi (by rw [noteN_low (by omega)]; exact h8) (by omega)]; exact noteN_le8 h
theorem itN_64 {d : Bool} {N : Nat → Nat} (hV : NV N) (h : N 64 ≤ 8) (k : Nat) (hk : N 0 + k ≤ 20000) : itN d N k 64 ≤ 8 := by
  induction k with
  | zero => exact h
  | succ k ih =>
    have hi := itN_inv (d := d) hV k (by omega)
    have hp := preN_NV (d := d) hi.1
    have ih := ih (by omega)
    have h8 := hi.1.t8
    rw [itN_succ, goN_hi hp.s5 hp.t8 (by omega) (by omega)]
    exact preN_64 h8 ih
section Mod2
variable {X : Nat × (Nat → Int32)} {I : sd_I} {J : sd_J} {N : Nat → Nat} {Q : Int32 → sd_S → Prop}
theorem lp_X12_nights {n : Nat} {h : Int32} {I0 : sd_I} (hV : NV N) (h64 : N 64 ≤ 8) (hn : N 0 + n ≤ 9999) {Q : Option Int32 → sd_S → Prop} (K : ∀ I', AS I0 I' 175 353 (itN false N n) → AW muX12_nights 0 0 61 [.ref 170, .int (nI n), .int h, .int (nI n)] [] (sk0, X, I', J) Q) : ∀ (m k : Nat) (I : sd_I), n - k < m → k ≤ n → AS I0 I 175 353 (itN false N k) → AW muX12_nights 0 0 39 [.ref 170, .int (nI n), .int h, .int (nI k)] [] (sk0, X, I, J) Q := by
  intro m
  induction m with
  | zero => intros; omega
  | succ m ih =>
    intro k I hm hk hA
    have hi := itN_inv (d := false) hV k (by omega)
    have h6 := itN_64 (d := false) hV h64 k (by omega)
    have hp := preN_NV (d := false) hi.1
    rw [preN_f] at hp
    refine AW.iload_n dX12_nights_39 rfl rfl ?_
    refine AW.iload_n dX12_nights_40 rfl rfl ?_
    first | refine AW.icmp_geN (tgt := 61) dX12_nights_41 (by decide) (by omega) (by omega) (fun c41 => ?_) (fun c41 => ?_) | refine AW.icmp_ge (tgt := 61) dX12_nights_41 (by decide) (fun c41 => ?_) (fun c41 => ?_)
    · obtain rfl : k = n := by omega
      exact K I hA
    · refine AW.aload_n dX12_nights_44 rfl rfl ?_
      refine cs_X12_nights_45 (by first | exact k0_170) (by decide) (by decide) (Nat.le_of_ble_eq_true rfl) (s_X12_note hA h6 (fun I1 h1 => ?_))
      refine AW.aload_n dX12_nights_48 rfl rfl ?_
      refine g12_7 dX12_nights_49 wF_X12_23 (by first | assumption | rfl | (unfold is12; omega)) ?_
      show AW muX12_nights _ _ 52 _ _ _ _
      refine cs_X12_nights_52 (by decide) (by decide) (Nat.le_of_ble_eq_true rfl) (s_X12_goBy isA_175 (by decide) hp h1 (fun I2 h2 => ?_))
      first | refine AW.iincN dX12_nights_55 rfl (by decide) rfl rfl ?_ | refine AW.iinc dX12_nights_55 rfl rfl (by decide) rfl rfl ?_
      refine AW.goto (tgt := 39) dX12_nights_58 (by decide) ?_
      exact ih (k + 1) I2 (by omega) (by omega) (by rw [itN_succ, preN_f]; exact h2)
theorem m_nights {x : Int32} (hV : NV N) (h9 : N 0 ≤ 9999) (h64 : N 64 ≤ 8) (hM : MD I N) (q1 : ¬ inR x 1 41 → Q (-1) (sk0, X, I, J)) (q2 : ∀ n, 1 ≤ n → n < 41 → x = nI n → 9999 < N 0 + n → Q (-3) (sk0, X, I, J)) (q3 : ∀ n, 1 ≤ n → n < 41 → x = nI n → N 0 + n ≤ 9999 → ∀ I', AS I I' 175 353 (itN false N n) → Q (nI (wkN false N n)) (sk0, X, I', J)) : AWi muX12_nights [.ref 170, .int x] (sk0, X, I, J) Q := by
  have h5 := hV.s5
  have hA := AS.rf hM
  show AW muX12_nights 0 0 0 [.ref 170, .int x, .null, .null] [] _ _
  refine AW.iload_n dX12_nights_0 rfl rfl ?_
  refine AW.iconst (v := nI 1) dX12_nights_1 (by decide) ?_
  refine AW.bipush (v := nI 40) dX12_nights_2 (by decide) ?_
  refine cs_X12_nights_4 (by decide) (by decide) (Nat.le_of_ble_eq_true rfl) (s_X12_in (lo := 1) (hi := 41) (by decide) (by decide) (by decide) (fun n hn1 hn2 ex => ?_) (fun hn => ?_))
  · refine AW.ifne1 (tgt := 12) dX12_nights_7 (by decide) ?_
    subst ex
    refine AW.aload_n dX12_nights_12 rfl rfl ?_
    refine g12_7 dX12_nights_13 wF_X12_23 (by first | assumption | rfl | (unfold is12; omega)) ?_
    refine AW.iconst (v := nI 0) dX12_nights_16 (by decide) ?_
    show AW muX12_nights _ _ 17 _ _ _ _
    refine AW.iald dX12_nights_17 (by first | exact k0_175) _ (by first | rfl | assumption) (by omega) (by first | decide | omega) ?_
    refine AW.top (hA.g (by omega)) ?_
    refine AW.iload_n dX12_nights_18 rfl rfl ?_
    first | refine AW.iaddN dX12_nights_19 ?_ | refine AW.iadd dX12_nights_19 ?_
    refine AW.sipush (v := nI 9999) dX12_nights_20 (by decide) ?_
    first | refine AW.icmp_leN (tgt := 29) dX12_nights_23 (by decide) (by omega) (by omega) (fun c23 => ?_) (fun c23 => ?_) | refine AW.icmp_le (tgt := 29) dX12_nights_23 (by decide) (fun c23 => ?_) (fun c23 => ?_)
    · refine AW.aload_n dX12_nights_29 rfl rfl ?_
      refine g12_7 dX12_nights_30 wF_X12_23 (by first | assumption | rfl | (unfold is12; omega)) ?_
      show AW muX12_nights _ _ 33 _ _ _ _
      refine cs_X12_nights_33 (by decide) (by decide) (Nat.le_of_ble_eq_true rfl) (s_X12_wokenIn isA_175 (by decide) hA h5 ?_)
      refine AW.istore_n dX12_nights_36 rfl (by decide) rfl rfl ?_
      refine AW.iconst (v := nI 0) dX12_nights_37 (by decide) ?_
      refine AW.istore_n dX12_nights_38 rfl (by decide) rfl rfl ?_
      have hi := itN_inv (d := false) hV n (by omega)
      have hw := itN_wks (d := false) hV n (by omega)
      refine lp_X12_nights hV h64 (by omega) (fun I1 h1 => ?_) (n + 1) 0 I (by omega) (by omega) (by rw [itN]; exact hA)
      refine AW.aload_n dX12_nights_61 rfl rfl ?_
      refine g12_7 dX12_nights_62 wF_X12_23 (by first | assumption | rfl | (unfold is12; omega)) ?_
      show AW muX12_nights _ _ 65 _ _ _ _
      refine cs_X12_nights_65 (by decide) (by decide) (Nat.le_of_ble_eq_true rfl) (s_X12_wokenIn isA_175 (by decide) h1 (by omega) ?_)
      rw [hi.2.2, hw]
      refine AW.iload_n dX12_nights_68 rfl rfl ?_
      first | refine AW.isubN dX12_nights_69 (by omega) ?_ | refine AW.isub dX12_nights_69 ?_
      rw [Nat.add_sub_cancel_left]
      refine AW.iret dX12_nights_70 ⟨_, rfl, rfl⟩ (Nat.zero_le _) (Nat.zero_le _) ⟨_, rfl, ?_⟩
      exact q3 n hn1 hn2 rfl (by omega) I1 h1
    · refine AW.bipush (v := (-3)) dX12_nights_26 (by decide) ?_
      refine AW.iret dX12_nights_28 ⟨_, rfl, rfl⟩ (Nat.zero_le _) (Nat.zero_le _) ⟨_, rfl, ?_⟩
      exact q2 n hn1 hn2 rfl (by omega)
  · refine AW.ifne0 (tgt := 12) dX12_nights_7 (by decide) ?_
    refine AW.iconst (v := (-1)) dX12_nights_10 (by decide) ?_
    refine AW.iret dX12_nights_11 ⟨_, rfl, rfl⟩ (Nat.zero_le _) (Nat.zero_le _) ⟨_, rfl, ?_⟩
    exact q1 hn
theorem lp_X12_drift {n : Nat} {h : Int32} {I0 : sd_I} (hV : NV N) (h64 : N 64 ≤ 8) (hn : N 0 + n ≤ 9999) {Q : Option Int32 → sd_S → Prop} (K : ∀ I' v4, AS I0 I' 175 353 (itN true N n) → AW muX12_drift 0 0 144 [.ref 170, .int (nI n), .int h, .int (nI n), v4] [] (sk0, X, I', J) Q) : ∀ (m k : Nat) (I : sd_I) (v4 : Value), v4.category = 1 → n - k < m → k ≤ n → AS I0 I 175 353 (itN true N k) → AW muX12_drift 0 0 39 [.ref 170, .int (nI n), .int h, .int (nI k), v4] [] (sk0, X, I, J) Q := by
  intro m
  induction m with
  | zero => intros; omega
  | succ m ih =>
    intro k I v4 hv4 hm hk hA
    have hi := itN_inv (d := true) hV k (by omega)
    have h6 := itN_64 (d := true) hV h64 k (by omega)
    have hp := preN_NV (d := true) hi.1
    have hp0 := preN_NV (d := false) hi.1
    rw [preN_f] at hp0
    rw [preN_t] at hp
    have hits : itN true N (k + 1) = goN (drawN (noteN (itN true N k))) := by rw [itN_succ, preN_t]
    generalize hMk : itN true N k = M at hi h6 hp hp0 hA hits
    have h8 := hp0.t8
    have hd := hp0.dw
    have hD := drawD_lt (noteN M 1)
    have hmod : 0 < noteN M 47 → drawD (noteN M 1) / 65536 % noteN M 47 < noteN M 47 := fun h => Nat.mod_lt _ h
    refine AW.iload_n dX12_drift_39 rfl rfl ?_
    refine AW.iload_n dX12_drift_40 rfl rfl ?_
    first | refine AW.icmp_geN (tgt := 144) dX12_drift_41 (by decide) (by omega) (by omega) (fun c41 => ?_) (fun c41 => ?_) | refine AW.icmp_ge (tgt := 144) dX12_drift_41 (by decide) (fun c41 => ?_) (fun c41 => ?_)
    · obtain rfl : k = n := by omega
      exact K I _ (by rw [hMk]; exact hA)
    · refine AW.aload_n dX12_drift_44 rfl rfl ?_
      refine cs_X12_drift_45 (by first | exact k0_170 | exact k0_175) (by decide) (by decide) (Nat.le_of_ble_eq_true rfl) (s_X12_note hA h6 (fun I1 h1 => ?_))
      refine AW.aload_n dX12_drift_48 rfl rfl ?_
      refine g12_7 dX12_drift_49 wF_X12_23 (by first | assumption | rfl | (unfold is12; omega)) ?_
      show AW muX12_drift _ _ 52 _ _ _ _
      refine AW.iconst (v := nI 1) dX12_drift_52 (by decide) ?_
      refine AW.aload_n dX12_drift_53 rfl rfl ?_
      refine g12_7 dX12_drift_54 wF_X12_23 (by first | assumption | rfl | (unfold is12; omega)) ?_
      refine AW.iconst (v := nI 1) dX12_drift_57 (by decide) ?_
      refine AW.iald dX12_drift_58 (by first | exact k0_170 | exact k0_175) _ (by first | rfl | assumption) (by omega) (by first | decide | omega) ?_
      refine AW.top (h1.g (by omega)) ?_
      refine AW.i2l dX12_drift_59 ?_
      refine AW.topL (nI_l hd) ?_
      show AW muX12_drift _ _ 60 _ _ _ _
      refine AW.ldc2 (v := lN 1103515245) dX12_drift_60 wKL_X12_131 ?_
      refine AW.lmul dX12_drift_63 ?_
      refine AW.topL (lN_mul _ _) ?_
      refine AW.ldc2 (v := lN 12345) dX12_drift_64 wKL_X12_133 ?_
      refine AW.ladd dX12_drift_67 ?_
      refine AW.topL (lN_add _ _) ?_
      refine AW.ldc2 (v := lN 2147483648) dX12_drift_68 wKL_X12_135 ?_
      refine AW.lrem dX12_drift_71 (by decide) ?_
      refine AW.topL (pk_lRem (by omega) (by decide) (by decide)) ?_
      show AW muX12_drift _ _ 72 _ _ _ _
      refine AW.l2i dX12_drift_72 ?_
      refine AW.top (lN_i _) ?_
      refine AW.ast dX12_drift_73 (by first | exact isA_175 | exact isA_176 | exact isA_177 | assumption) (by assumption) (by omega) (fun I73 hA73 => ?_)
      have e1 := hA73.g (k := 1) (by omega)
      rw [upN_eq] at e1
      have e47 := hA73.g (k := 47) (by omega)
      rw [upN_ne (by omega)] at e47
      refine AW.aload_n dX12_drift_74 rfl rfl ?_
      refine g12_7 dX12_drift_75 wF_X12_23 (by first | assumption | rfl | (unfold is12; omega)) ?_
      refine AW.iconst (v := nI 1) dX12_drift_78 (by decide) ?_
      refine AW.iald dX12_drift_79 (by first | exact k0_170 | exact k0_175) _ (by first | rfl | assumption) (by omega) (by first | decide | omega) ?_
      refine AW.top (e1.trans (show _ = nI (drawD (noteN M 1)) from rfl)) ?_
      show AW muX12_drift _ _ 80 _ _ _ _
      refine AW.ldc (v := nI 65536) dX12_drift_80 wK_X12_137 ?_
      first | refine AW.idivN dX12_drift_82 (by omega) (by omega) (by omega) ?_ | refine AW.idiv dX12_drift_82 (by first | assumption | decide) ?_
      refine AW.istore dX12_drift_83 (by decide) rfl rfl ?_
      refine AW.iload dX12_drift_85 rfl ?_
      refine AW.iconst (v := nI 3) dX12_drift_87 (by decide) ?_
      first | refine AW.iremN dX12_drift_88 (by omega) (by omega) (by omega) ?_ | refine AW.irem dX12_drift_88 (by first | assumption | decide) ?_
      show AW muX12_drift _ _ 89 _ _ _ _
      first | refine AW.if_neN (tgt := 131) dX12_drift_89 (by decide) (by omega) (fun c89 => ?_) (fun c89 => ?_) | refine AW.if_ne (tgt := 131) dX12_drift_89 (by decide) (fun c89 => ?_) (fun c89 => ?_)
      · first
          | (have h2 : AS I0 I130 175 353 (drawN (noteN M)) := hA130.to (fun q _ => by unfold drawN; rw [if_pos (by omega)]; rfl)
             refine AW.aload_n dX12_drift_131 rfl rfl ?_
             refine g12_7 dX12_drift_132 wF_X12_23 rfl ?_
             refine cs_X12_drift_135 (by decide) (by decide) (Nat.le_of_ble_eq_true rfl) (s_X12_goBy isA_175 (by decide) hp h2 (fun I3 h3 => ?_))
             refine AW.iincN dX12_drift_138 rfl (by decide) rfl rfl ?_
             refine AW.goto (tgt := 39) dX12_drift_141 (by decide) ?_
             exact ih (k + 1) I3 _ rfl (by omega) (by omega) (by rw [hits]; exact h3))
          | (have h2 : AS I0 I73 175 353 (drawN (noteN M)) := hA73.to (fun q _ => by unfold drawN; rw [if_neg (by omega)]; rfl)
             refine AW.aload_n dX12_drift_131 rfl rfl ?_
             refine g12_7 dX12_drift_132 wF_X12_23 rfl ?_
             refine cs_X12_drift_135 (by decide) (by decide) (Nat.le_of_ble_eq_true rfl) (s_X12_goBy isA_175 (by decide) hp h2 (fun I3 h3 => ?_))
             refine AW.iincN dX12_drift_138 rfl (by decide) rfl rfl ?_
             refine AW.goto (tgt := 39) dX12_drift_141 (by decide) ?_
             exact ih (k + 1) I3 _ rfl (by omega) (by omega) (by rw [hits]; exact h3))
      · refine AW.aload_n dX12_drift_92 rfl rfl ?_
        refine g12_7 dX12_drift_93 wF_X12_23 (by first | assumption | rfl | (unfold is12; omega)) ?_
        refine AW.bipush (v := nI 47) dX12_drift_96 (by decide) ?_
        refine AW.iald dX12_drift_98 (by first | exact k0_170 | exact k0_175) _ (by first | rfl | assumption) (by omega) (by first | decide | omega) ?_
        refine AW.top (e47) ?_
        first | refine AW.if_leN (tgt := 131) dX12_drift_99 (by decide) (by omega) (fun c99 => ?_) (fun c99 => ?_) | refine AW.if_le (tgt := 131) dX12_drift_99 (by decide) (fun c99 => ?_) (fun c99 => ?_)
        · first
            | (have h2 : AS I0 I130 175 353 (drawN (noteN M)) := hA130.to (fun q _ => by unfold drawN; rw [if_pos (by omega)]; rfl)
               refine AW.aload_n dX12_drift_131 rfl rfl ?_
               refine g12_7 dX12_drift_132 wF_X12_23 rfl ?_
               refine cs_X12_drift_135 (by decide) (by decide) (Nat.le_of_ble_eq_true rfl) (s_X12_goBy isA_175 (by decide) hp h2 (fun I3 h3 => ?_))
               refine AW.iincN dX12_drift_138 rfl (by decide) rfl rfl ?_
               refine AW.goto (tgt := 39) dX12_drift_141 (by decide) ?_
               exact ih (k + 1) I3 _ rfl (by omega) (by omega) (by rw [hits]; exact h3))
            | (have h2 : AS I0 I73 175 353 (drawN (noteN M)) := hA73.to (fun q _ => by unfold drawN; rw [if_neg (by omega)]; rfl)
               refine AW.aload_n dX12_drift_131 rfl rfl ?_
               refine g12_7 dX12_drift_132 wF_X12_23 rfl ?_
               refine cs_X12_drift_135 (by decide) (by decide) (Nat.le_of_ble_eq_true rfl) (s_X12_goBy isA_175 (by decide) hp h2 (fun I3 h3 => ?_))
               refine AW.iincN dX12_drift_138 rfl (by decide) rfl rfl ?_
               refine AW.goto (tgt := 39) dX12_drift_141 (by decide) ?_
               exact ih (k + 1) I3 _ rfl (by omega) (by omega) (by rw [hits]; exact h3))
        · refine AW.aload_n dX12_drift_102 rfl rfl ?_
          refine g12_7 dX12_drift_103 wF_X12_23 (by first | assumption | rfl | (unfold is12; omega)) ?_
          show AW muX12_drift _ _ 106 _ _ _ _
          refine AW.iconst (v := nI 2) dX12_drift_106 (by decide) ?_
          refine AW.iload dX12_drift_107 rfl ?_
          refine AW.aload_n dX12_drift_109 rfl rfl ?_
          refine g12_7 dX12_drift_110 wF_X12_23 (by first | assumption | rfl | (unfold is12; omega)) ?_
          refine AW.bipush (v := nI 47) dX12_drift_113 (by decide) ?_
          refine AW.iald dX12_drift_115 (by first | exact k0_170 | exact k0_175) _ (by first | rfl | assumption) (by omega) (by first | decide | omega) ?_
          refine AW.top (e47) ?_
          show AW muX12_drift _ _ 116 _ _ _ _
          first | refine AW.iremN dX12_drift_116 (by omega) (by omega) (by omega) ?_ | refine AW.irem dX12_drift_116 (by first | assumption | decide) ?_
          first | refine AW.iaddN dX12_drift_117 ?_ | refine AW.iadd dX12_drift_117 ?_
          refine AW.aload_n dX12_drift_118 rfl rfl ?_
          refine g12_7 dX12_drift_119 wF_X12_23 (by first | assumption | rfl | (unfold is12; omega)) ?_
          refine AW.iconst (v := nI 1) dX12_drift_122 (by decide) ?_
          refine AW.iald dX12_drift_123 (by first | exact k0_170 | exact k0_175) _ (by first | rfl | assumption) (by omega) (by first | decide | omega) ?_
          refine AW.top (e1.trans (show _ = nI (drawD (noteN M 1)) from rfl)) ?_
          show AW muX12_drift _ _ 124 _ _ _ _
          refine AW.sipush (v := nI 128) dX12_drift_124 (by decide) ?_
          first | refine AW.idivN dX12_drift_127 (by omega) (by omega) (by omega) ?_ | refine AW.idiv dX12_drift_127 (by first | assumption | decide) ?_
          refine AW.iconst (v := nI 4) dX12_drift_128 (by decide) ?_
          first | refine AW.iremN dX12_drift_129 (by omega) (by omega) (by omega) ?_ | refine AW.irem dX12_drift_129 (by first | assumption | decide) ?_
          refine AW.ast dX12_drift_130 (by first | exact isA_175 | exact isA_176 | exact isA_177 | assumption) (by assumption) (by have := hmod (by omega); omega) (fun I130 hA130 => ?_)
          first
            | (have h2 : AS I0 I130 175 353 (drawN (noteN M)) := hA130.to (fun q _ => by unfold drawN; rw [if_pos (by omega)]; rfl)
               refine AW.aload_n dX12_drift_131 rfl rfl ?_
               refine g12_7 dX12_drift_132 wF_X12_23 rfl ?_
               refine cs_X12_drift_135 (by decide) (by decide) (Nat.le_of_ble_eq_true rfl) (s_X12_goBy isA_175 (by decide) hp h2 (fun I3 h3 => ?_))
               refine AW.iincN dX12_drift_138 rfl (by decide) rfl rfl ?_
               refine AW.goto (tgt := 39) dX12_drift_141 (by decide) ?_
               exact ih (k + 1) I3 _ rfl (by omega) (by omega) (by rw [hits]; exact h3))
            | (have h2 : AS I0 I73 175 353 (drawN (noteN M)) := hA73.to (fun q _ => by unfold drawN; rw [if_neg (by omega)]; rfl)
               refine AW.aload_n dX12_drift_131 rfl rfl ?_
               refine g12_7 dX12_drift_132 wF_X12_23 rfl ?_
               refine cs_X12_drift_135 (by decide) (by decide) (Nat.le_of_ble_eq_true rfl) (s_X12_goBy isA_175 (by decide) hp h2 (fun I3 h3 => ?_))
               refine AW.iincN dX12_drift_138 rfl (by decide) rfl rfl ?_
               refine AW.goto (tgt := 39) dX12_drift_141 (by decide) ?_
               exact ih (k + 1) I3 _ rfl (by omega) (by omega) (by rw [hits]; exact h3))
theorem m_drift {x : Int32} (hV : NV N) (h9 : N 0 ≤ 9999) (h64 : N 64 ≤ 8) (hM : MD I N) (q1 : ¬ inR x 1 41 → Q (-1) (sk0, X, I, J)) (q2 : ∀ n, 1 ≤ n → n < 41 → x = nI n → 9999 < N 0 + n → Q (-3) (sk0, X, I, J)) (q3 : ∀ n, 1 ≤ n → n < 41 → x = nI n → N 0 + n ≤ 9999 → ∀ I', AS I I' 175 353 (itN true N n) → Q (nI (wkN true N n)) (sk0, X, I', J)) : AWi muX12_drift [.ref 170, .int x] (sk0, X, I, J) Q := by
  have h5 := hV.s5
  have hA := AS.rf hM
  show AW muX12_drift 0 0 0 [.ref 170, .int x, .null, .null, .null] [] _ _
  refine AW.iload_n dX12_drift_0 rfl rfl ?_
  refine AW.iconst (v := nI 1) dX12_drift_1 (by decide) ?_
  refine AW.bipush (v := nI 40) dX12_drift_2 (by decide) ?_
  refine cs_X12_drift_4 (by decide) (by decide) (Nat.le_of_ble_eq_true rfl) (s_X12_in (lo := 1) (hi := 41) (by decide) (by decide) (by decide) (fun n hn1 hn2 ex => ?_) (fun hn => ?_))
  · refine AW.ifne1 (tgt := 12) dX12_drift_7 (by decide) ?_
    subst ex
    refine AW.aload_n dX12_drift_12 rfl rfl ?_
    refine g12_7 dX12_drift_13 wF_X12_23 (by first | assumption | rfl | (unfold is12; omega)) ?_
    refine AW.iconst (v := nI 0) dX12_drift_16 (by decide) ?_
    show AW muX12_drift _ _ 17 _ _ _ _
    refine AW.iald dX12_drift_17 (by first | exact k0_175) _ (by first | rfl | assumption) (by omega) (by first | decide | omega) ?_
    refine AW.top (hA.g (by omega)) ?_
    refine AW.iload_n dX12_drift_18 rfl rfl ?_
    first | refine AW.iaddN dX12_drift_19 ?_ | refine AW.iadd dX12_drift_19 ?_
    refine AW.sipush (v := nI 9999) dX12_drift_20 (by decide) ?_
    first | refine AW.icmp_leN (tgt := 29) dX12_drift_23 (by decide) (by omega) (by omega) (fun c23 => ?_) (fun c23 => ?_) | refine AW.icmp_le (tgt := 29) dX12_drift_23 (by decide) (fun c23 => ?_) (fun c23 => ?_)
    · refine AW.aload_n dX12_drift_29 rfl rfl ?_
      refine g12_7 dX12_drift_30 wF_X12_23 (by first | assumption | rfl | (unfold is12; omega)) ?_
      show AW muX12_drift _ _ 33 _ _ _ _
      refine cs_X12_drift_33 (by decide) (by decide) (Nat.le_of_ble_eq_true rfl) (s_X12_wokenIn isA_175 (by decide) hA h5 ?_)
      refine AW.istore_n dX12_drift_36 rfl (by decide) rfl rfl ?_
      refine AW.iconst (v := nI 0) dX12_drift_37 (by decide) ?_
      refine AW.istore_n dX12_drift_38 rfl (by decide) rfl rfl ?_
      have hi := itN_inv (d := true) hV n (by omega)
      have hw := itN_wks (d := true) hV n (by omega)
      refine lp_X12_drift hV h64 (by omega) (fun I1 v4 h1 => ?_) (n + 1) 0 I .null rfl (by omega) (by omega) (by rw [itN]; exact hA)
      refine AW.aload_n dX12_drift_144 rfl rfl ?_
      refine g12_7 dX12_drift_145 wF_X12_23 (by first | assumption | rfl | (unfold is12; omega)) ?_
      show AW muX12_drift _ _ 148 _ _ _ _
      refine cs_X12_drift_148 (by decide) (by decide) (Nat.le_of_ble_eq_true rfl) (s_X12_wokenIn isA_175 (by decide) h1 (by omega) ?_)
      rw [hi.2.2, hw]
      refine AW.iload_n dX12_drift_151 rfl rfl ?_
      first | refine AW.isubN dX12_drift_152 (by omega) ?_ | refine AW.isub dX12_drift_152 ?_
      rw [Nat.add_sub_cancel_left]
      refine AW.iret dX12_drift_153 ⟨_, rfl, rfl⟩ (Nat.zero_le _) (Nat.zero_le _) ⟨_, rfl, ?_⟩
      exact q3 n hn1 hn2 rfl (by omega) I1 h1
    · refine AW.bipush (v := (-3)) dX12_drift_26 (by decide) ?_
      refine AW.iret dX12_drift_28 ⟨_, rfl, rfl⟩ (Nat.zero_le _) (Nat.zero_le _) ⟨_, rfl, ?_⟩
      exact q2 n hn1 hn2 rfl (by omega)
  · refine AW.ifne0 (tgt := 12) dX12_drift_7 (by decide) ?_
    refine AW.iconst (v := (-1)) dX12_drift_10 (by decide) ?_
    refine AW.iret dX12_drift_11 ⟨_, rfl, rfl⟩ (Nat.zero_le _) (Nat.zero_le _) ⟨_, rfl, ?_⟩
    exact q1 hn
def am0 (W : Nat → Nat) (i : Nat) : Nat × Nat := if i = 0 then (0, 9999) else amin W i
theorem am0_s {W : Nat → Nat} {i : Nat} (hW : W i < 9999) : am0 W (i + 1) = if W i < (am0 W i).2 then (i, W i) else am0 W i := by
  unfold am0
  rw [if_neg (by omega), amin_succ]
  by_cases e : i = 0
  · subst e; rw [if_pos (Or.inl rfl), if_pos rfl, if_pos hW]
  · rw [if_neg e]
    by_cases h : W i < (amin W i).2
    · rw [if_pos (Or.inr h), if_pos h]
    · rw [if_neg (by omega), if_neg h]
theorem am0_b {W : Nat → Nat} (hW : ∀ r, W r < 9999) : ∀ i, (am0 W i).1 ≤ i ∧ (am0 W i).2 ≤ 9999 := by
  intro i
  induction i with
  | zero => exact ⟨Nat.le_refl _, Nat.le_refl _⟩
  | succ i ih =>
    have := hW i
    rw [am0_s (hW i)]
    split
    · exact ⟨by simp only; omega, by simp only; omega⟩
    · exact ⟨by omega, ih.2⟩
theorem lp_X12_best {t n w : Nat} {I0 : sd_I} (hV : NV N) (h9 : N 0 ≤ 9999) (ht : t < N 47) (hn : n ≤ 40) {Q : Option Int32 → sd_S → Prop} (hM0 : MD I0 N) (K : ∀ I' v7, Fr I0 I' 176 176 → AW muX12_best 0 0 105 [.ref 170, .int (nI t), .int (nI n), .int (nI w), .int (nI (am0 (fun r => oWs N (plT N t r) n) 4).1), .int (nI (am0 (fun r => oWs N (plT N t r) n) 4).2), .int (nI 4), v7] [] (sk0, X, I', J) Q) : ∀ (m r : Nat) (I : sd_I) (v7 : Value), v7.category = 1 → 4 - r < m → r ≤ 4 → Fr I0 I 176 176 → AW muX12_best 0 0 40 [.ref 170, .int (nI t), .int (nI n), .int (nI w), .int (nI (am0 (fun r => oWs N (plT N t r) n) r).1), .int (nI (am0 (fun r => oWs N (plT N t r) n) r).2), .int (nI r), v7] [] (sk0, X, I, J) Q := by
  have h5 := hV.s5
  have h8 := hV.t8
  have hW : ∀ r, (fun r => oWs N (plT N t r) n) r < 9999 := fun r => by have := oWs_le (N := N) (pl := plT N t r) h5 n; show oWs N (plT N t r) n < 9999; omega
  intro m
  induction m with
  | zero => intros; omega
  | succ m ih =>
    intro r I v7 hv7 hm hr hF
    have hM : MD I N := fun k hk => by rw [hF 175 (by omega)]; exact hM0 k hk
    have hs : am0 (fun r => oWs N (plT N t r) n) (r + 1) = if oWs N (plT N t r) n < (am0 (fun r => oWs N (plT N t r) n) r).2 then (r, oWs N (plT N t r) n) else am0 (fun r => oWs N (plT N t r) n) r := am0_s (W := fun r => oWs N (plT N t r) n) (i := r) (hW r)
    have hb := am0_b hW r
    have hwr : oWs N (plT N t r) n < 9999 := hW r
    generalize hst : am0 (fun r => oWs N (plT N t r) n) r = st at hs hb ⊢
    have hVr : r < 4 → NV (upN N (2 + t) r) := fun hr4 => hV.rooms (fun k hk _ => upN_ne (by omega)) (fun q hq => by by_cases e : q = t; (subst e; rw [upN_eq]; exact hr4); (rw [upN_ne (by omega)]; exact hV.pl hq))
    refine AW.iload dX12_best_40 rfl ?_
    refine AW.iconst (v := nI 4) dX12_best_42 (by decide) ?_
    first | refine AW.icmp_geN (tgt := 105) dX12_best_43 (by decide) (by omega) (by omega) (fun c43 => ?_) (fun c43 => ?_) | refine AW.icmp_ge (tgt := 105) dX12_best_43 (by decide) (fun c43 => ?_) (fun c43 => ?_)
    · obtain rfl : r = 4 := by omega
      rw [← hst]
      exact K I _ hF
    · refine AW.aload_n dX12_best_46 rfl rfl ?_
      refine cs_X12_best_47 (by first | exact k0_170) (by decide) (by decide) (Nat.le_of_ble_eq_true rfl) (s_X12_begin (N := N) (fun k hk => hM k (by omega)) (fun I1 h1 => ?_))
      refine AW.aload_n dX12_best_50 rfl rfl ?_
      refine g12_8 dX12_best_51 wF_X12_26 (by first | assumption | rfl | (unfold is12; omega)) ?_
      show AW muX12_best _ _ 54 _ _ _ _
      refine AW.iconst (v := nI 2) dX12_best_54 (by decide) ?_
      refine AW.iload_n dX12_best_55 rfl rfl ?_
      first | refine AW.iaddN dX12_best_56 ?_ | refine AW.iadd dX12_best_56 ?_
      refine AW.iload dX12_best_57 rfl ?_
      refine AW.ast dX12_best_59 (by first | exact isA_175 | exact isA_176 | exact isA_177 | assumption) (by assumption) (by omega) (fun I59 hA59 => ?_)
      have hd := goK_wks (hVr c43) n (by rw [upN_ne (by omega)]; omega)
      rw [oWs_congr (N := N) (pl := plT N t r) h5 h8 (fun k hk => upN_ne (by omega)) (fun q hq => by unfold pl0 plT; by_cases e : q = t; (subst e; rw [upN_eq, if_pos rfl]); (rw [upN_ne (by omega), if_neg e])) n] at hd
      refine AW.aload_n dX12_best_60 rfl rfl ?_
      show AW muX12_best _ _ 61 _ _ _ _
      refine AW.iload_n dX12_best_61 rfl rfl ?_
      refine cs_X12_best_62 (by first | exact k0_170) (by decide) (by decide) (Nat.le_of_ble_eq_true rfl) (s_X12_wokenOn (d := oWs N (plT N t r) n) (hVr c43) (by rw [upN_ne (by omega)]; omega) (by omega) hd hA59 (fun I2 h2 => ?_))
      refine AW.istore dX12_best_65 (by decide) rfl rfl ?_
      refine AW.iload dX12_best_67 rfl ?_
      refine AW.iload dX12_best_69 rfl ?_
      first | refine AW.icmp_geN (tgt := 79) dX12_best_71 (by decide) (by omega) (by omega) (fun c71 => ?_) (fun c71 => ?_) | refine AW.icmp_ge (tgt := 79) dX12_best_71 (by decide) (fun c71 => ?_) (fun c71 => ?_)
      · refine AW.iload dX12_best_79 rfl ?_
        show AW muX12_best _ _ 81 _ _ _ _
        refine AW.istore dX12_best_81 (by decide) rfl rfl ?_
        refine AW.iload dX12_best_83 rfl ?_
        refine AW.iload dX12_best_85 rfl ?_
        first | refine AW.icmp_geN (tgt := 95) dX12_best_87 (by decide) (by omega) (by omega) (fun c87 => ?_) (fun c87 => ?_) | refine AW.icmp_ge (tgt := 95) dX12_best_87 (by decide) (fun c87 => ?_) (fun c87 => ?_)
        · refine AW.iload dX12_best_95 rfl ?_
          refine AW.istore dX12_best_97 (by decide) rfl rfl ?_
          first | refine AW.iincN dX12_best_99 rfl (by decide) rfl rfl ?_ | refine AW.iinc dX12_best_99 rfl rfl (by decide) rfl rfl ?_
          show AW muX12_best _ _ 102 _ _ _ _
          refine AW.goto (tgt := 40) dX12_best_102 (by decide) ?_
          have := ih (r + 1) I2 (.int (nI (oWs N (plT N t r) n))) rfl (by omega) (by omega) (hF.tr h2.f)
          rw [hs] at this
          first
            | (rw [if_pos c71] at this; exact this)
            | (rw [if_neg (by omega)] at this; exact this)
            | omega
        · refine AW.iload dX12_best_90 rfl ?_
          refine AW.goto (tgt := 97) dX12_best_92 (by decide) ?_
          refine AW.istore dX12_best_97 (by decide) rfl rfl ?_
          first | refine AW.iincN dX12_best_99 rfl (by decide) rfl rfl ?_ | refine AW.iinc dX12_best_99 rfl rfl (by decide) rfl rfl ?_
          refine AW.goto (tgt := 40) dX12_best_102 (by decide) ?_
          have := ih (r + 1) I2 (.int (nI (oWs N (plT N t r) n))) rfl (by omega) (by omega) (hF.tr h2.f)
          rw [hs] at this
          first
            | (rw [if_pos c71] at this; exact this)
            | (rw [if_neg (by omega)] at this; exact this)
            | omega
      · refine AW.iload dX12_best_74 rfl ?_
        refine AW.goto (tgt := 81) dX12_best_76 (by decide) ?_
        refine AW.istore dX12_best_81 (by decide) rfl rfl ?_
        refine AW.iload dX12_best_83 rfl ?_
        show AW muX12_best _ _ 85 _ _ _ _
        refine AW.iload dX12_best_85 rfl ?_
        first | refine AW.icmp_geN (tgt := 95) dX12_best_87 (by decide) (by omega) (by omega) (fun c87 => ?_) (fun c87 => ?_) | refine AW.icmp_ge (tgt := 95) dX12_best_87 (by decide) (fun c87 => ?_) (fun c87 => ?_)
        · refine AW.iload dX12_best_95 rfl ?_
          refine AW.istore dX12_best_97 (by decide) rfl rfl ?_
          first | refine AW.iincN dX12_best_99 rfl (by decide) rfl rfl ?_ | refine AW.iinc dX12_best_99 rfl rfl (by decide) rfl rfl ?_
          refine AW.goto (tgt := 40) dX12_best_102 (by decide) ?_
          have := ih (r + 1) I2 (.int (nI (oWs N (plT N t r) n))) rfl (by omega) (by omega) (hF.tr h2.f)
          rw [hs] at this
          first
            | (rw [if_pos c71] at this; exact this)
            | (rw [if_neg (by omega)] at this; exact this)
            | omega
        · refine AW.iload dX12_best_90 rfl ?_
          refine AW.goto (tgt := 97) dX12_best_92 (by decide) ?_
          refine AW.istore dX12_best_97 (by decide) rfl rfl ?_
          show AW muX12_best _ _ 99 _ _ _ _
          first | refine AW.iincN dX12_best_99 rfl (by decide) rfl rfl ?_ | refine AW.iinc dX12_best_99 rfl rfl (by decide) rfl rfl ?_
          refine AW.goto (tgt := 40) dX12_best_102 (by decide) ?_
          have := ih (r + 1) I2 (.int (nI (oWs N (plT N t r) n))) rfl (by omega) (by omega) (hF.tr h2.f)
          rw [hs] at this
          first
            | (rw [if_pos c71] at this; exact this)
            | (rw [if_neg (by omega)] at this; exact this)
            | omega
theorem m_best {x y z : Int32} (hV : NV N) (h9 : N 0 ≤ 9999) (hM : MD I N) (q1 : ¬ (inR x 0 (N 47) ∧ inR y 1 41 ∧ inR z 0 2) → Q (-1) (sk0, X, I, J)) (q2 : ∀ t n w, t < N 47 → 1 ≤ n → n < 41 → w < 2 → x = nI t → y = nI n → z = nI w → ∀ I', Fr I I' 176 176 → Q (nI (if w = 0 then (amin (fun r => oWs N (plT N t r) n) 4).1 else (amin (fun r => oWs N (plT N t r) n) 4).2)) (sk0, X, I', J)) : AWi muX12_best [.ref 170, .int x, .int y, .int z] (sk0, X, I, J) Q := by
  have h8 := hV.t8
  show AW muX12_best 0 0 0 [.ref 170, .int x, .int y, .int z, .null, .null, .null, .null] [] _ _
  refine AW.aload_n dX12_best_0 rfl rfl ?_
  refine AW.iload_n dX12_best_1 rfl rfl ?_
  refine cs_X12_best_2 (by first | exact k0_170) (by decide) (by decide) (Nat.le_of_ble_eq_true rfl) (s_X12_isThing (hM 47 (by decide)) (by omega) (fun t ht ex => ?_) (fun hn => ?_))
  · refine AW.ifeq1 (tgt := 27) dX12_best_5 (by decide) ?_
    refine AW.iload_n dX12_best_8 rfl rfl ?_
    refine AW.iconst (v := nI 1) dX12_best_9 (by decide) ?_
    refine AW.bipush (v := nI 40) dX12_best_10 (by decide) ?_
    refine cs_X12_best_12 (by decide) (by decide) (Nat.le_of_ble_eq_true rfl) (s_X12_in (lo := 1) (hi := 41) (by decide) (by decide) (by decide) (fun n hn1 hn2 ey => ?_) (fun hn => ?_))
    · refine AW.ifeq1 (tgt := 27) dX12_best_15 (by decide) ?_
      refine AW.iload_n dX12_best_18 rfl rfl ?_
      show AW muX12_best _ _ 19 _ _ _ _
      refine AW.iconst (v := nI 0) dX12_best_19 (by decide) ?_
      refine AW.iconst (v := nI 1) dX12_best_20 (by decide) ?_
      refine cs_X12_best_21 (by decide) (by decide) (Nat.le_of_ble_eq_true rfl) (s_X12_in (lo := 0) (hi := 2) (by decide) (by decide) (by decide) (fun w _ hw ez => ?_) (fun hn => ?_))
      · refine AW.ifne1 (tgt := 29) dX12_best_24 (by decide) ?_
        refine AW.iconst (v := nI 0) dX12_best_29 (by decide) ?_
        refine AW.istore dX12_best_30 (by decide) rfl rfl ?_
        refine AW.sipush (v := nI 9999) dX12_best_32 (by decide) ?_
        refine AW.istore dX12_best_35 (by decide) rfl rfl ?_
        show AW muX12_best _ _ 37 _ _ _ _
        refine AW.iconst (v := nI 0) dX12_best_37 (by decide) ?_
        refine AW.istore dX12_best_38 (by decide) rfl rfl ?_
        subst ex; subst ey; subst ez
        refine lp_X12_best hV h9 ht (by omega) hM (fun I1 v7 f1 => ?_) 5 0 I .null rfl (by decide) (by decide) Fr.rf
        have hq := q2 t n w ht hn1 hn2 hw rfl rfl rfl I1 f1
        rw [show am0 (fun r => oWs N (plT N t r) n) 4 = amin (fun r => oWs N (plT N t r) n) 4 from rfl]
        generalize amin (fun r => oWs N (plT N t r) n) 4 = st at hq ⊢
        refine AW.iload_n dX12_best_105 rfl rfl ?_
        first | refine AW.if_neN (tgt := 114) dX12_best_106 (by decide) (by omega) (fun c106 => ?_) (fun c106 => ?_) | refine AW.if_ne (tgt := 114) dX12_best_106 (by decide) (fun c106 => ?_) (fun c106 => ?_)
        · refine AW.iload dX12_best_114 rfl ?_
          refine AW.iret dX12_best_116 ⟨_, rfl, rfl⟩ (Nat.zero_le _) (Nat.zero_le _) ⟨_, rfl, ?_⟩
          first | (rw [if_pos c106] at hq; exact hq) | (rw [if_neg c106] at hq; exact hq)
        · refine AW.iload dX12_best_109 rfl ?_
          refine AW.goto (tgt := 116) dX12_best_111 (by decide) ?_
          refine AW.iret dX12_best_116 ⟨_, rfl, rfl⟩ (Nat.zero_le _) (Nat.zero_le _) ⟨_, rfl, ?_⟩
          first | (rw [if_pos c106] at hq; exact hq) | (rw [if_neg c106] at hq; exact hq)
      · refine AW.ifne0 (tgt := 29) dX12_best_24 (by decide) ?_
        refine AW.iconst (v := (-1)) dX12_best_27 (by decide) ?_
        show AW muX12_best _ _ 28 _ _ _ _
        refine AW.iret dX12_best_28 ⟨_, rfl, rfl⟩ (Nat.zero_le _) (Nat.zero_le _) ⟨_, rfl, ?_⟩
        first | exact q1 (fun h => hn h.1) | exact q1 (fun h => hn h.2.1) | exact q1 (fun h => hn h.2.2)
    · refine AW.ifeq0 (tgt := 27) dX12_best_15 (by decide) ?_
      refine AW.iconst (v := (-1)) dX12_best_27 (by decide) ?_
      refine AW.iret dX12_best_28 ⟨_, rfl, rfl⟩ (Nat.zero_le _) (Nat.zero_le _) ⟨_, rfl, ?_⟩
      first | exact q1 (fun h => hn h.1) | exact q1 (fun h => hn h.2.1) | exact q1 (fun h => hn h.2.2)
  · refine AW.ifeq0 (tgt := 27) dX12_best_5 (by decide) ?_
    refine AW.iconst (v := (-1)) dX12_best_27 (by decide) ?_
    refine AW.iret dX12_best_28 ⟨_, rfl, rfl⟩ (Nat.zero_le _) (Nat.zero_le _) ⟨_, rfl, ?_⟩
    first | exact q1 (fun h => hn h.1) | exact q1 (fun h => hn h.2.1) | exact q1 (fun h => hn h.2.2)
theorem lp_X12_bestBed {s n w : Nat} {I0 : sd_I} (hV : NV N) (h9 : N 0 ≤ 9999) (ht : s < N 36) (hn : n ≤ 40) {Q : Option Int32 → sd_S → Prop} (hM0 : MD I0 N) (K : ∀ I' v7, Fr I0 I' 176 176 → AW muX12_bestBed 0 0 126 [.ref 170, .int (nI s), .int (nI n), .int (nI w), .int (nI (am0 (fun r => oI N (pl0 N) r (N (42 + s)) n) 4).1), .int (nI (am0 (fun r => oI N (pl0 N) r (N (42 + s)) n) 4).2), .int (nI 4), v7] [] (sk0, X, I', J) Q) : ∀ (m r : Nat) (I : sd_I) (v7 : Value), v7.category = 1 → 4 - r < m → r ≤ 4 → Fr I0 I 176 176 → AW muX12_bestBed 0 0 40 [.ref 170, .int (nI s), .int (nI n), .int (nI w), .int (nI (am0 (fun r => oI N (pl0 N) r (N (42 + s)) n) r).1), .int (nI (am0 (fun r => oI N (pl0 N) r (N (42 + s)) n) r).2), .int (nI r), v7] [] (sk0, X, I, J) Q := by
  have h5 := hV.s5
  have h8 := hV.t8
  have hW : ∀ r, (fun r => oI N (pl0 N) r (N (42 + s)) n) r < 9999 := fun r => by have := oI_le (N := N) (pl := pl0 N) (r := r) (b := N (42 + s)) n; show oI N (pl0 N) r (N (42 + s)) n < 9999; omega
  intro m
  induction m with
  | zero => intros; omega
  | succ m ih =>
    intro r I v7 hv7 hm hr hF
    have hM : MD I N := fun k hk => by rw [hF 175 (by omega)]; exact hM0 k hk
    have hs : am0 (fun r => oI N (pl0 N) r (N (42 + s)) n) (r + 1) = if oI N (pl0 N) r (N (42 + s)) n < (am0 (fun r => oI N (pl0 N) r (N (42 + s)) n) r).2 then (r, oI N (pl0 N) r (N (42 + s)) n) else am0 (fun r => oI N (pl0 N) r (N (42 + s)) n) r := am0_s (W := fun r => oI N (pl0 N) r (N (42 + s)) n) (i := r) (hW r)
    have hb := am0_b hW r
    have hwr : oI N (pl0 N) r (N (42 + s)) n < 9999 := hW r
    generalize hst : am0 (fun r => oI N (pl0 N) r (N (42 + s)) n) r = st at hs hb ⊢
    have hVr : r < 4 → NV (upN N (37 + s) r) := fun hr4 => hV.beds (fun k hk _ => upN_ne (by omega)) (fun q hq => by by_cases e : q = s; (subst e; rw [upN_eq]; exact hr4); (rw [upN_ne (by omega)]; exact hV.bd hq))
    refine AW.iload dX12_bestBed_40 rfl ?_
    refine AW.iconst (v := nI 4) dX12_bestBed_42 (by decide) ?_
    first | refine AW.icmp_geN (tgt := 126) dX12_bestBed_43 (by decide) (by omega) (by omega) (fun c43 => ?_) (fun c43 => ?_) | refine AW.icmp_ge (tgt := 126) dX12_bestBed_43 (by decide) (fun c43 => ?_) (fun c43 => ?_)
    · obtain rfl : r = 4 := by omega
      rw [← hst]
      exact K I _ hF
    · refine AW.aload_n dX12_bestBed_46 rfl rfl ?_
      refine cs_X12_bestBed_47 (by first | exact k0_170) (by decide) (by decide) (Nat.le_of_ble_eq_true rfl) (s_X12_begin (N := N) (fun k hk => hM k (by omega)) (fun I1 h1 => ?_))
      refine AW.aload_n dX12_bestBed_50 rfl rfl ?_
      refine g12_8 dX12_bestBed_51 wF_X12_26 (by first | assumption | rfl | (unfold is12; omega)) ?_
      show AW muX12_bestBed _ _ 54 _ _ _ _
      refine AW.bipush (v := nI 37) dX12_bestBed_54 (by decide) ?_
      refine AW.iload_n dX12_bestBed_56 rfl rfl ?_
      first | refine AW.iaddN dX12_bestBed_57 ?_ | refine AW.iadd dX12_bestBed_57 ?_
      refine AW.iload dX12_bestBed_58 rfl ?_
      refine AW.ast dX12_bestBed_60 (by first | exact isA_175 | exact isA_176 | exact isA_177 | assumption) (by assumption) (by omega) (fun I60 hA60 => ?_)
      have hd := goK_wks (hVr c43) n (by rw [upN_ne (by omega)]; omega)
      have hk := goK_wk (hVr c43) (s := s) (by rw [upN_ne (by omega)]; omega) n (by rw [upN_ne (by omega)]; omega)
      rw [upN_eq, upN_ne (by omega), upN_ne (by omega), oI_congr (N := N) (pl := pl0 N) h8 (fun k hk => upN_ne (by omega)) (fun q hq => by unfold pl0; rw [upN_ne (by omega)])] at hk
      refine AW.aload_n dX12_bestBed_61 rfl rfl ?_
      show AW muX12_bestBed _ _ 62 _ _ _ _
      refine AW.iload_n dX12_bestBed_62 rfl rfl ?_
      refine cs_X12_bestBed_63 (by first | exact k0_170) (by decide) (by decide) (Nat.le_of_ble_eq_true rfl) (s_X12_wokenOn (hVr c43) (by rw [upN_ne (by omega)]; omega) (by omega) hd hA60 (fun I2 h2 => ?_))
      refine AW.pop dX12_bestBed_66 rfl ?_
      refine AW.aload_n dX12_bestBed_67 rfl rfl ?_
      refine g12_8 dX12_bestBed_68 wF_X12_26 (by first | assumption | rfl | (unfold is12; omega)) ?_
      refine AW.bipush (v := nI 31) dX12_bestBed_71 (by decide) ?_
      show AW muX12_bestBed _ _ 73 _ _ _ _
      refine AW.iload_n dX12_bestBed_73 rfl rfl ?_
      first | refine AW.iaddN dX12_bestBed_74 ?_ | refine AW.iadd dX12_bestBed_74 ?_
      refine AW.iald dX12_bestBed_75 (by first | exact k0_176) _ (by first | rfl | assumption) (by omega) (by first | decide | omega) ?_
      refine AW.top ((h2.g (by omega)).trans (congrArg nI hk)) ?_
      refine AW.aload_n dX12_bestBed_76 rfl rfl ?_
      refine g12_7 dX12_bestBed_77 wF_X12_23 (by first | assumption | rfl | (unfold is12; omega)) ?_
      refine AW.bipush (v := nI 31) dX12_bestBed_80 (by decide) ?_
      show AW muX12_bestBed _ _ 82 _ _ _ _
      refine AW.iload_n dX12_bestBed_82 rfl rfl ?_
      first | refine AW.iaddN dX12_bestBed_83 ?_ | refine AW.iadd dX12_bestBed_83 ?_
      refine AW.iald dX12_bestBed_84 (by first | exact k0_175) _ (by first | rfl | assumption) (by omega) (by first | decide | omega) ?_
      refine AW.top (show _ = nI (N (31 + s)) by rw [h2.f 175 (by omega)]; exact hM _ (by omega)) ?_
      first | refine AW.isubN dX12_bestBed_85 (by omega) ?_ | refine AW.isub dX12_bestBed_85 ?_
      rw [Nat.add_sub_cancel_left]
      refine AW.istore dX12_bestBed_86 (by decide) rfl rfl ?_
      refine AW.iload dX12_bestBed_88 rfl ?_
      show AW muX12_bestBed _ _ 90 _ _ _ _
      refine AW.iload dX12_bestBed_90 rfl ?_
      first | refine AW.icmp_geN (tgt := 100) dX12_bestBed_92 (by decide) (by omega) (by omega) (fun c92 => ?_) (fun c92 => ?_) | refine AW.icmp_ge (tgt := 100) dX12_bestBed_92 (by decide) (fun c92 => ?_) (fun c92 => ?_)
      · refine AW.iload dX12_bestBed_100 rfl ?_
        refine AW.istore dX12_bestBed_102 (by decide) rfl rfl ?_
        refine AW.iload dX12_bestBed_104 rfl ?_
        refine AW.iload dX12_bestBed_106 rfl ?_
        first | refine AW.icmp_geN (tgt := 116) dX12_bestBed_108 (by decide) (by omega) (by omega) (fun c108 => ?_) (fun c108 => ?_) | refine AW.icmp_ge (tgt := 116) dX12_bestBed_108 (by decide) (fun c108 => ?_) (fun c108 => ?_)
        · refine AW.iload dX12_bestBed_116 rfl ?_
          show AW muX12_bestBed _ _ 118 _ _ _ _
          refine AW.istore dX12_bestBed_118 (by decide) rfl rfl ?_
          first | refine AW.iincN dX12_bestBed_120 rfl (by decide) rfl rfl ?_ | refine AW.iinc dX12_bestBed_120 rfl rfl (by decide) rfl rfl ?_
          refine AW.goto (tgt := 40) dX12_bestBed_123 (by decide) ?_
          have := ih (r + 1) I2 (.int (nI (oI N (pl0 N) r (N (42 + s)) n))) rfl (by omega) (by omega) (hF.tr h2.f)
          rw [hs] at this
          first
            | (rw [if_pos c92] at this; exact this)
            | (rw [if_neg (by omega)] at this; exact this)
            | omega
        · refine AW.iload dX12_bestBed_111 rfl ?_
          refine AW.goto (tgt := 118) dX12_bestBed_113 (by decide) ?_
          refine AW.istore dX12_bestBed_118 (by decide) rfl rfl ?_
          first | refine AW.iincN dX12_bestBed_120 rfl (by decide) rfl rfl ?_ | refine AW.iinc dX12_bestBed_120 rfl rfl (by decide) rfl rfl ?_
          refine AW.goto (tgt := 40) dX12_bestBed_123 (by decide) ?_
          have := ih (r + 1) I2 (.int (nI (oI N (pl0 N) r (N (42 + s)) n))) rfl (by omega) (by omega) (hF.tr h2.f)
          rw [hs] at this
          first
            | (rw [if_pos c92] at this; exact this)
            | (rw [if_neg (by omega)] at this; exact this)
            | omega
      · refine AW.iload dX12_bestBed_95 rfl ?_
        show AW muX12_bestBed _ _ 97 _ _ _ _
        refine AW.goto (tgt := 102) dX12_bestBed_97 (by decide) ?_
        refine AW.istore dX12_bestBed_102 (by decide) rfl rfl ?_
        refine AW.iload dX12_bestBed_104 rfl ?_
        refine AW.iload dX12_bestBed_106 rfl ?_
        first | refine AW.icmp_geN (tgt := 116) dX12_bestBed_108 (by decide) (by omega) (by omega) (fun c108 => ?_) (fun c108 => ?_) | refine AW.icmp_ge (tgt := 116) dX12_bestBed_108 (by decide) (fun c108 => ?_) (fun c108 => ?_)
        · refine AW.iload dX12_bestBed_116 rfl ?_
          refine AW.istore dX12_bestBed_118 (by decide) rfl rfl ?_
          first | refine AW.iincN dX12_bestBed_120 rfl (by decide) rfl rfl ?_ | refine AW.iinc dX12_bestBed_120 rfl rfl (by decide) rfl rfl ?_
          show AW muX12_bestBed _ _ 123 _ _ _ _
          refine AW.goto (tgt := 40) dX12_bestBed_123 (by decide) ?_
          have := ih (r + 1) I2 (.int (nI (oI N (pl0 N) r (N (42 + s)) n))) rfl (by omega) (by omega) (hF.tr h2.f)
          rw [hs] at this
          first
            | (rw [if_pos c92] at this; exact this)
            | (rw [if_neg (by omega)] at this; exact this)
            | omega
        · refine AW.iload dX12_bestBed_111 rfl ?_
          refine AW.goto (tgt := 118) dX12_bestBed_113 (by decide) ?_
          refine AW.istore dX12_bestBed_118 (by decide) rfl rfl ?_
          first | refine AW.iincN dX12_bestBed_120 rfl (by decide) rfl rfl ?_ | refine AW.iinc dX12_bestBed_120 rfl rfl (by decide) rfl rfl ?_
          refine AW.goto (tgt := 40) dX12_bestBed_123 (by decide) ?_
          have := ih (r + 1) I2 (.int (nI (oI N (pl0 N) r (N (42 + s)) n))) rfl (by omega) (by omega) (hF.tr h2.f)
          rw [hs] at this
          first
            | (rw [if_pos c92] at this; exact this)
            | (rw [if_neg (by omega)] at this; exact this)
            | omega
theorem m_bestBed {x y z : Int32} (hV : NV N) (h9 : N 0 ≤ 9999) (hM : MD I N) (q1 : ¬ (inR x 0 (N 36) ∧ inR y 1 41 ∧ inR z 0 2) → Q (-1) (sk0, X, I, J)) (q2 : ∀ s n w, s < N 36 → 1 ≤ n → n < 41 → w < 2 → x = nI s → y = nI n → z = nI w → ∀ I', Fr I I' 176 176 → Q (nI (if w = 0 then (amin (fun r => oI N (pl0 N) r (N (42 + s)) n) 4).1 else (amin (fun r => oI N (pl0 N) r (N (42 + s)) n) 4).2)) (sk0, X, I', J)) : AWi muX12_bestBed [.ref 170, .int x, .int y, .int z] (sk0, X, I, J) Q := by
  have h5 := hV.s5
  show AW muX12_bestBed 0 0 0 [.ref 170, .int x, .int y, .int z, .null, .null, .null, .null] [] _ _
  refine AW.aload_n dX12_bestBed_0 rfl rfl ?_
  refine AW.iload_n dX12_bestBed_1 rfl rfl ?_
  refine cs_X12_bestBed_2 (by first | exact k0_170) (by decide) (by decide) (Nat.le_of_ble_eq_true rfl) (s_X12_isSleeper (hM 36 (by decide)) (by omega) (fun s ht ex => ?_) (fun hn => ?_))
  · refine AW.ifeq1 (tgt := 27) dX12_bestBed_5 (by decide) ?_
    refine AW.iload_n dX12_bestBed_8 rfl rfl ?_
    refine AW.iconst (v := nI 1) dX12_bestBed_9 (by decide) ?_
    refine AW.bipush (v := nI 40) dX12_bestBed_10 (by decide) ?_
    refine cs_X12_bestBed_12 (by decide) (by decide) (Nat.le_of_ble_eq_true rfl) (s_X12_in (lo := 1) (hi := 41) (by decide) (by decide) (by decide) (fun n hn1 hn2 ey => ?_) (fun hn => ?_))
    · refine AW.ifeq1 (tgt := 27) dX12_bestBed_15 (by decide) ?_
      refine AW.iload_n dX12_bestBed_18 rfl rfl ?_
      show AW muX12_bestBed _ _ 19 _ _ _ _
      refine AW.iconst (v := nI 0) dX12_bestBed_19 (by decide) ?_
      refine AW.iconst (v := nI 1) dX12_bestBed_20 (by decide) ?_
      refine cs_X12_bestBed_21 (by decide) (by decide) (Nat.le_of_ble_eq_true rfl) (s_X12_in (lo := 0) (hi := 2) (by decide) (by decide) (by decide) (fun w _ hw ez => ?_) (fun hn => ?_))
      · refine AW.ifne1 (tgt := 29) dX12_bestBed_24 (by decide) ?_
        refine AW.iconst (v := nI 0) dX12_bestBed_29 (by decide) ?_
        refine AW.istore dX12_bestBed_30 (by decide) rfl rfl ?_
        refine AW.sipush (v := nI 9999) dX12_bestBed_32 (by decide) ?_
        refine AW.istore dX12_bestBed_35 (by decide) rfl rfl ?_
        show AW muX12_bestBed _ _ 37 _ _ _ _
        refine AW.iconst (v := nI 0) dX12_bestBed_37 (by decide) ?_
        refine AW.istore dX12_bestBed_38 (by decide) rfl rfl ?_
        subst ex; subst ey; subst ez
        refine lp_X12_bestBed hV h9 ht (by omega) hM (fun I1 v7 f1 => ?_) 5 0 I .null rfl (by decide) (by decide) Fr.rf
        have hq := q2 s n w ht hn1 hn2 hw rfl rfl rfl I1 f1
        rw [show am0 (fun r => oI N (pl0 N) r (N (42 + s)) n) 4 = amin (fun r => oI N (pl0 N) r (N (42 + s)) n) 4 from rfl]
        generalize amin (fun r => oI N (pl0 N) r (N (42 + s)) n) 4 = st at hq ⊢
        refine AW.iload_n dX12_bestBed_126 rfl rfl ?_
        first | refine AW.if_neN (tgt := 135) dX12_bestBed_127 (by decide) (by omega) (fun c127 => ?_) (fun c127 => ?_) | refine AW.if_ne (tgt := 135) dX12_bestBed_127 (by decide) (fun c127 => ?_) (fun c127 => ?_)
        · refine AW.iload dX12_bestBed_135 rfl ?_
          refine AW.iret dX12_bestBed_137 ⟨_, rfl, rfl⟩ (Nat.zero_le _) (Nat.zero_le _) ⟨_, rfl, ?_⟩
          first | (rw [if_pos c127] at hq; exact hq) | (rw [if_neg c127] at hq; exact hq)
        · refine AW.iload dX12_bestBed_130 rfl ?_
          refine AW.goto (tgt := 137) dX12_bestBed_132 (by decide) ?_
          refine AW.iret dX12_bestBed_137 ⟨_, rfl, rfl⟩ (Nat.zero_le _) (Nat.zero_le _) ⟨_, rfl, ?_⟩
          first | (rw [if_pos c127] at hq; exact hq) | (rw [if_neg c127] at hq; exact hq)
      · refine AW.ifne0 (tgt := 29) dX12_bestBed_24 (by decide) ?_
        refine AW.iconst (v := (-1)) dX12_bestBed_27 (by decide) ?_
        show AW muX12_bestBed _ _ 28 _ _ _ _
        refine AW.iret dX12_bestBed_28 ⟨_, rfl, rfl⟩ (Nat.zero_le _) (Nat.zero_le _) ⟨_, rfl, ?_⟩
        first | exact q1 (fun h => hn h.1) | exact q1 (fun h => hn h.2.1) | exact q1 (fun h => hn h.2.2)
    · refine AW.ifeq0 (tgt := 27) dX12_bestBed_15 (by decide) ?_
      refine AW.iconst (v := (-1)) dX12_bestBed_27 (by decide) ?_
      refine AW.iret dX12_bestBed_28 ⟨_, rfl, rfl⟩ (Nat.zero_le _) (Nat.zero_le _) ⟨_, rfl, ?_⟩
      first | exact q1 (fun h => hn h.1) | exact q1 (fun h => hn h.2.1) | exact q1 (fun h => hn h.2.2)
  · refine AW.ifeq0 (tgt := 27) dX12_bestBed_5 (by decide) ?_
    refine AW.iconst (v := (-1)) dX12_bestBed_27 (by decide) ?_
    refine AW.iret dX12_bestBed_28 ⟨_, rfl, rfl⟩ (Nat.zero_le _) (Nat.zero_le _) ⟨_, rfl, ?_⟩
    first | exact q1 (fun h => hn h.1) | exact q1 (fun h => hn h.2.1) | exact q1 (fun h => hn h.2.2)
end Mod2
