-- the model's own calls: type, house
def TM (I : sd_I) (f : Nat → Nat) (L : Nat) : Prop := I 170 3 = nI L ∧ ∀ k, k < L → I 174 k = nI (f k)
def FM (I I' : sd_I) : Prop := (∀ c, c ≠ 170 → c ≠ 177 → I' c = I c) ∧ ∀ k, k ≠ 5 → k ≠ 6 → I' 170 k = I 170 k
def PM (I I' : sd_I) (p : Nat) : Prop := (∀ c, c ≠ 170 → I' c = I c) ∧ (∀ k, k ≠ 5 → k ≠ 6 → I' 170 k = I 170 k) ∧ I' 170 5 = nI p
theorem PM.tr {I I1 I2 : sd_I} {p q : Nat} (h : PM I I1 p) (h' : PM I1 I2 q) : PM I I2 q := ⟨fun c hc => (h'.1 c hc).trans (h.1 c hc), fun k h5 h6 => (h'.2.1 k h5 h6).trans (h.2.1 k h5 h6), h'.2.2⟩
theorem PM.u {I : sd_I} {p : Nat} : PM I (sd_u I 170 5 (nI p)) p := ⟨fun c hc => sd_u_ne hc, fun k h5 h6 => by (repeat first | rw [ru_ne (by omega)] | rw [ru_j] | rw [ru_ij (by omega)] | rw [upN_ne (by omega)] | rw [upN_eq] | rw [rr_ne (by omega)] | rw [rr_eq] | rw [sb_cpy0 (by omega)]), by (repeat first | rw [ru_ne (by omega)] | rw [ru_j] | rw [ru_ij (by omega)] | rw [upN_ne (by omega)] | rw [upN_eq] | rw [rr_ne (by omega)] | rw [rr_eq] | rw [sb_cpy0 (by omega)])⟩
theorem PM.rf {I : sd_I} {p : Nat} (h : I 170 5 = nI p) : PM I I p := ⟨fun _ _ => rfl, fun _ _ _ => rfl, h⟩
theorem PM.n {I I' : sd_I} {p : Nat} {v : Int32} (h : PM I I' p) : PM I (sd_u I' 170 6 v) p := ⟨fun c hc => (sd_u_ne hc).trans (h.1 c hc), fun k h5 h6 => by rw [← h.2.1 k h5 h6]; (repeat first | rw [ru_ne (by omega)] | rw [ru_j] | rw [ru_ij (by omega)] | rw [upN_ne (by omega)] | rw [upN_eq] | rw [rr_ne (by omega)] | rw [rr_eq] | rw [sb_cpy0 (by omega)]), by (repeat first | rw [ru_ne (by omega)] | rw [ru_j] | rw [ru_ij (by omega)] | rw [upN_ne (by omega)] | rw [upN_eq] | rw [rr_ne (by omega)] | rw [rr_eq] | rw [sb_cpy0 (by omega)]); exact h.2.2⟩
theorem PM.fm {I I' : sd_I} {p : Nat} (h : PM I I' p) : FM I I' := ⟨fun c hc _ => h.1 c hc, h.2.1⟩
theorem FM.tr {I I1 I2 : sd_I} (h : FM I I1) (h' : FM I1 I2) : FM I I2 := ⟨fun c hc h7 => (h'.1 c hc h7).trans (h.1 c hc h7), fun k h5 h6 => (h'.2 k h5 h6).trans (h.2 k h5 h6)⟩
theorem FM.a {I I' : sd_I} {m : Nat} {N : Nat → Nat} {I0 : sd_I} (h : AS I0 I' 177 m N) (h0 : FM I I0) : FM I I' := ⟨fun c hc h7 => (h.f c (by omega)).trans (h0.1 c hc h7), fun k h5 h6 => by rw [h.f 170 (by omega)]; exact h0.2 k h5 h6⟩
theorem FM.rf {I : sd_I} : FM I I := ⟨fun _ _ _ => rfl, fun _ _ _ => rfl⟩
theorem TM.pm {I I' : sd_I} {f : Nat → Nat} {L : Nat} (h : TM I f L) (e : FM I I') : TM I' f L := ⟨(e.2 3 (by decide) (by decide)).trans h.1, fun k hk => by rw [e.1 174 (by decide) (by decide)]; exact h.2 k hk⟩
def RDa (I : sd_I) (N : Nat → Nat) : Prop := ∀ k, k < 353 → I 177 k = nI (N k)
theorem RDa.pm {I I' : sd_I} {p : Nat} {N : Nat → Nat} (h : RDa I N) (e : PM I I' p) : RDa I' N := fun k hk => by rw [e.1 177 (by decide)]; exact h k hk
section Mod7
variable {X : Nat × (Nat → Int32)} {I : sd_I} {J : sd_J} {N : Nat → Nat} {f : Nat → Nat} {L p : Nat}
theorem lp_X12_peek (hV : TPV f L) {Q : Option Int32 → sd_S → Prop} : ∀ (m p : Nat) (I : sd_I), L - p < m → p ≤ L → TM I f L → I 170 5 = nI p → (∀ I', PM I I' (skp f L p) → Q (some (nI (if skp f L p < L then f (skp f L p) else 0))) (sk0, X, I', J)) → AW muX12_peek 0 0 0 [.ref 170] [] (sk0, X, I, J) Q := by
  have h80 := hV.1
  intro m
  induction m with
  | zero => intros; omega
  | succ m ih =>
    intro p I hm hp hT hP K
    refine AW.aload_n dX12_peek_0 rfl rfl ?_
    refine g12_5 dX12_peek_1 wF_X12_80 (by first | assumption | rfl | (unfold is12; omega)) ?_
    first | refine AW.top (by first | exact hP | exact hT.1 | exact hT.2 _ (by omega)) ?_ | skip
    refine AW.aload_n dX12_peek_4 rfl rfl ?_
    refine g12_3 dX12_peek_5 wF_X12_76 (by first | assumption | rfl | (unfold is12; omega)) ?_
    first | refine AW.top (by first | exact hP | exact hT.1 | exact hT.2 _ (by omega)) ?_ | skip
    first | refine AW.icmp_geN (tgt := 38) dX12_peek_8 (by decide) (by omega) (by omega) (fun c8 => ?_) (fun c8 => ?_) | refine AW.icmp_ge (tgt := 38) dX12_peek_8 (by decide) (fun c8 => ?_) (fun c8 => ?_)
    · have e : skp f L p = p := by first | exact skp_no (by omega) | exact skp_no (fun h => c22 h.2)
      rw [e] at K
      refine AW.aload_n dX12_peek_38 rfl rfl ?_
      refine g12_5 dX12_peek_39 wF_X12_80 (by first | assumption | rfl | (unfold is12; omega)) ?_
      first | refine AW.top (by first | exact hP | exact hT.1 | exact hT.2 _ (by omega)) ?_ | skip
      show AW muX12_peek _ _ 42 _ _ _ _
      refine AW.aload_n dX12_peek_42 rfl rfl ?_
      refine g12_3 dX12_peek_43 wF_X12_76 (by first | assumption | rfl | (unfold is12; omega)) ?_
      first | refine AW.top (by first | exact hP | exact hT.1 | exact hT.2 _ (by omega)) ?_ | skip
      first | refine AW.icmp_geN (tgt := 61) dX12_peek_46 (by decide) (by omega) (by omega) (fun c46 => ?_) (fun c46 => ?_) | refine AW.icmp_ge (tgt := 61) dX12_peek_46 (by decide) (fun c46 => ?_) (fun c46 => ?_)
      · refine AW.iconst (v := nI 0) dX12_peek_61 (by decide) ?_
        refine AW.iret dX12_peek_62 ⟨_, rfl, rfl⟩ (Nat.zero_le _) (Nat.zero_le _) ?_
        first | (have hq := K I (PM.rf hP); rw [if_neg (by omega)] at hq; exact hq) | (have hq := K I (PM.rf hP); rw [if_pos c46] at hq; exact hq)
      · refine AW.aload_n dX12_peek_49 rfl rfl ?_
        refine g12_4 dX12_peek_50 wF_X12_20 (by first | assumption | rfl | (unfold is12; omega)) ?_
        refine AW.aload_n dX12_peek_53 rfl rfl ?_
        show AW muX12_peek _ _ 54 _ _ _ _
        refine g12_5 dX12_peek_54 wF_X12_80 (by first | assumption | rfl | (unfold is12; omega)) ?_
        first | refine AW.top (by first | exact hP | exact hT.1 | exact hT.2 _ (by omega)) ?_ | skip
        refine AW.iald dX12_peek_57 (by first | exact k0_174) _ (by first | rfl | assumption) (by omega) (by first | decide | omega) ?_
        first | refine AW.top (by first | exact hP | exact hT.1 | exact hT.2 _ (by omega)) ?_ | skip
        refine AW.goto (tgt := 62) dX12_peek_58 (by decide) ?_
        refine AW.iret dX12_peek_62 ⟨_, rfl, rfl⟩ (Nat.zero_le _) (Nat.zero_le _) ?_
        first | (have hq := K I (PM.rf hP); rw [if_neg (by omega)] at hq; exact hq) | (have hq := K I (PM.rf hP); rw [if_pos c46] at hq; exact hq)
    · have hf := hV.2 p c8
      refine AW.aload_n dX12_peek_11 rfl rfl ?_
      refine g12_4 dX12_peek_12 wF_X12_20 (by first | assumption | rfl | (unfold is12; omega)) ?_
      refine AW.aload_n dX12_peek_15 rfl rfl ?_
      refine g12_5 dX12_peek_16 wF_X12_80 (by first | assumption | rfl | (unfold is12; omega)) ?_
      first | refine AW.top (by first | exact hP | exact hT.1 | exact hT.2 _ (by omega)) ?_ | skip
      show AW muX12_peek _ _ 19 _ _ _ _
      refine AW.iald dX12_peek_19 (by first | exact k0_174) _ (by first | rfl | assumption) (by omega) (by first | decide | omega) ?_
      first | refine AW.top (by first | exact hP | exact hT.1 | exact hT.2 _ (by omega)) ?_ | skip
      refine AW.bipush (v := nI 32) dX12_peek_20 (by decide) ?_
      first | refine AW.icmp_neN (tgt := 38) dX12_peek_22 (by decide) (by omega) (by omega) (fun c22 => ?_) (fun c22 => ?_) | refine AW.icmp_ne (tgt := 38) dX12_peek_22 (by decide) (fun c22 => ?_) (fun c22 => ?_)
      · have e : skp f L p = p := by first | exact skp_no (by omega) | exact skp_no (fun h => c22 h.2)
        rw [e] at K
        refine AW.aload_n dX12_peek_38 rfl rfl ?_
        refine g12_5 dX12_peek_39 wF_X12_80 (by first | assumption | rfl | (unfold is12; omega)) ?_
        first | refine AW.top (by first | exact hP | exact hT.1 | exact hT.2 _ (by omega)) ?_ | skip
        refine AW.aload_n dX12_peek_42 rfl rfl ?_
        refine g12_3 dX12_peek_43 wF_X12_76 (by first | assumption | rfl | (unfold is12; omega)) ?_
        first | refine AW.top (by first | exact hP | exact hT.1 | exact hT.2 _ (by omega)) ?_ | skip
        show AW muX12_peek _ _ 46 _ _ _ _
        first | refine AW.icmp_geN (tgt := 61) dX12_peek_46 (by decide) (by omega) (by omega) (fun c46 => ?_) (fun c46 => ?_) | refine AW.icmp_ge (tgt := 61) dX12_peek_46 (by decide) (fun c46 => ?_) (fun c46 => ?_)
        · refine AW.iconst (v := nI 0) dX12_peek_61 (by decide) ?_
          refine AW.iret dX12_peek_62 ⟨_, rfl, rfl⟩ (Nat.zero_le _) (Nat.zero_le _) ?_
          first | (have hq := K I (PM.rf hP); rw [if_neg (by omega)] at hq; exact hq) | (have hq := K I (PM.rf hP); rw [if_pos c46] at hq; exact hq)
        · refine AW.aload_n dX12_peek_49 rfl rfl ?_
          refine g12_4 dX12_peek_50 wF_X12_20 (by first | assumption | rfl | (unfold is12; omega)) ?_
          refine AW.aload_n dX12_peek_53 rfl rfl ?_
          refine g12_5 dX12_peek_54 wF_X12_80 (by first | assumption | rfl | (unfold is12; omega)) ?_
          first | refine AW.top (by first | exact hP | exact hT.1 | exact hT.2 _ (by omega)) ?_ | skip
          refine AW.iald dX12_peek_57 (by first | exact k0_174) _ (by first | rfl | assumption) (by omega) (by first | decide | omega) ?_
          first | refine AW.top (by first | exact hP | exact hT.1 | exact hT.2 _ (by omega)) ?_ | skip
          show AW muX12_peek _ _ 58 _ _ _ _
          refine AW.goto (tgt := 62) dX12_peek_58 (by decide) ?_
          refine AW.iret dX12_peek_62 ⟨_, rfl, rfl⟩ (Nat.zero_le _) (Nat.zero_le _) ?_
          first | (have hq := K I (PM.rf hP); rw [if_neg (by omega)] at hq; exact hq) | (have hq := K I (PM.rf hP); rw [if_pos c46] at hq; exact hq)
      · refine AW.aload_n dX12_peek_25 rfl rfl ?_
        refine AW.dup dX12_peek_26 rfl ?_
        refine g12_5 dX12_peek_27 wF_X12_80 (by first | assumption | rfl | (unfold is12; omega)) ?_
        first | refine AW.top (by first | exact hP | exact hT.1 | exact hT.2 _ (by omega)) ?_ | skip
        refine AW.iconst (v := nI 1) dX12_peek_30 (by decide) ?_
        first | refine AW.iaddN dX12_peek_31 ?_ | refine AW.iadd dX12_peek_31 ?_
        refine p12_5 dX12_peek_32 wF_X12_80 (by first | assumption | rfl | (unfold is12; omega)) ?_
        show AW muX12_peek _ _ 35 _ _ _ _
        refine AW.goto (tgt := 0) dX12_peek_35 (by decide) ?_
        refine ih (p + 1) _ (by omega) (by omega) (hT.pm PM.u.fm) PM.u.2.2 (fun I' e => ?_)
        have hq := K I' (by rw [skp_yes c8 c22]; exact PM.u.tr e)
        rw [skp_yes c8 c22] at hq
        exact hq
theorem s_X12_peek {Q : Int32 → sd_S → Prop} (hV : TPV f L) (hT : TM I f L) (hP : I 170 5 = nI p) (hp : p ≤ L) (hQ : ∀ I', PM I I' (skp f L p) → Q (nI (if skp f L p < L then f (skp f L p) else 0)) (sk0, X, I', J)) : AWi muX12_peek [.ref 170] (sk0, X, I, J) Q := by
  show AW muX12_peek 0 0 0 [.ref 170] [] _ _
  exact lp_X12_peek hV (L + 1) p I (by omega) hp hT hP (fun I' e => ⟨_, rfl, hQ I' e⟩)
theorem pkk_le (hV : TPV f L) : (if skp f L p < L then f (skp f L p) else 0) ≤ 126 := by
  by_cases h : skp f L p < L
  · rw [if_pos h]; exact (hV.2 _ h).2
  · rw [if_neg h]; omega
theorem s_X12_isSign {Q : Int32 → sd_S → Prop} {c : Nat} (hc0 : c ≠ 0) (hc : c ≤ 126) (hV : TPV f L) (hT : TM I f L) (hP : I 170 5 = nI p) (hp : p ≤ L) (q1 : ∀ I', PM I I' (rdC f L c p).1 → (rdC f L c p).2 = true → Q (nI 1) (sk0, X, I', J)) (q2 : ∀ I', PM I I' (rdC f L c p).1 → (rdC f L c p).2 = false → Q (nI 0) (sk0, X, I', J)) : AWi muX12_isSign [.ref 170, .int (nI c)] (sk0, X, I, J) Q := by
  have hk := pkk_le (p := p) hV
  have hiff : (if skp f L p < L then f (skp f L p) else 0) = c ↔ skp f L p < L ∧ f (skp f L p) = c := by
    by_cases h : skp f L p < L
    · rw [if_pos h]; exact ⟨fun e => ⟨h, e⟩, fun e => e.2⟩
    · rw [if_neg h]; exact ⟨fun e => absurd e.symm hc0, fun e => absurd e.1 h⟩
  have h80 := hV.1
  have hle := skp_le (f := f) hp
  show AW muX12_isSign 0 0 0 [.ref 170, .int (nI c)] [] _ _
  generalize hg : (if skp f L p < L then f (skp f L p) else 0) = g at hk hiff
  refine AW.aload_n dX12_isSign_0 rfl rfl ?_
  refine cs_X12_isSign_1 (by first | exact k0_170) (by decide) (by decide) (Nat.le_of_ble_eq_true rfl) (s_X12_peek hV hT hP hp (fun I1 e1 => ?_))
  rw [hg]
  refine AW.iload_n dX12_isSign_4 rfl rfl ?_
  first | refine AW.icmp_eqN (tgt := 10) dX12_isSign_5 (by decide) (by omega) (by omega) (fun c5 => ?_) (fun c5 => ?_) | refine AW.icmp_eq (tgt := 10) dX12_isSign_5 (by decide) (fun c5 => ?_) (fun c5 => ?_)
  · refine AW.aload_n dX12_isSign_10 rfl rfl ?_
    refine AW.dup dX12_isSign_11 rfl ?_
    refine g12_5 dX12_isSign_12 wF_X12_80 (by first | assumption | rfl | (unfold is12; omega)) ?_
    refine AW.top (e1.2.2) ?_
    show AW muX12_isSign _ _ 15 _ _ _ _
    refine AW.iconst (v := nI 1) dX12_isSign_15 (by decide) ?_
    first | refine AW.iaddN dX12_isSign_16 ?_ | refine AW.iadd dX12_isSign_16 ?_
    refine p12_5 dX12_isSign_17 wF_X12_80 (by first | assumption | rfl | (unfold is12; omega)) ?_
    refine AW.iconst (v := nI 1) dX12_isSign_20 (by decide) ?_
    refine AW.iret dX12_isSign_21 ⟨_, rfl, by decide⟩ (Nat.zero_le _) (Nat.zero_le _) ⟨_, rfl, ?_⟩
    have hn := hiff.mp c5
    exact q1 _ (by unfold rdC; rw [if_pos hn]; exact e1.tr PM.u) (by unfold rdC; rw [if_pos hn])
  · refine AW.iconst (v := nI 0) dX12_isSign_8 (by decide) ?_
    refine AW.iret dX12_isSign_9 ⟨_, rfl, by decide⟩ (Nat.zero_le _) (Nat.zero_le _) ⟨_, rfl, ?_⟩
    have hn := fun h => c5 (hiff.mpr h)
    exact q2 _ (by unfold rdC; rw [if_neg hn]; exact e1) (by unfold rdC; rw [if_neg hn])
theorem s_X12_isDigit {Q : Int32 → sd_S → Prop} {lo hi : Nat} (h9 : hi ≤ 9) (hlo : lo ≤ 9) (hV : TPV f L) (hT : TM I f L) (hP : I 170 5 = nI p) (hp : p ≤ L) (q1 : ∀ I' v, PM I I' (rdD f L lo hi p).1 → (rdD f L lo hi p).2 = some v → I' 170 6 = nI v → Q (nI 1) (sk0, X, I', J)) (q2 : ∀ I', PM I I' (rdD f L lo hi p).1 → (rdD f L lo hi p).2 = none → Q (nI 0) (sk0, X, I', J)) : AWi muX12_isDigit [.ref 170, .int (nI lo), .int (nI hi)] (sk0, X, I, J) Q := by
  have hk := pkk_le (p := p) hV
  have hif : ∀ j, j ≤ 9 → (if skp f L p < L then f (skp f L p) else 0) = j + 48 → skp f L p < L ∧ f (skp f L p) = j + 48 := fun j _ e => by
    by_cases h : skp f L p < L
    · rw [if_pos h] at e; exact ⟨h, e⟩
    · rw [if_neg h] at e; omega
  have hif2 : skp f L p < L → (if skp f L p < L then f (skp f L p) else 0) = f (skp f L p) := fun h => if_pos h
  have h80 := hV.1
  have hle := skp_le (f := f) hp
  show AW muX12_isDigit 0 0 0 [.ref 170, .int (nI lo), .int (nI hi)] [] _ _
  generalize hg : (if skp f L p < L then f (skp f L p) else 0) = g at hk hif hif2
  refine AW.aload_n dX12_isDigit_0 rfl rfl ?_
  refine AW.aload_n dX12_isDigit_1 rfl rfl ?_
  refine cs_X12_isDigit_2 (by first | exact k0_170) (by decide) (by decide) (Nat.le_of_ble_eq_true rfl) (s_X12_peek hV hT hP hp (fun I1 e1 => ?_))
  rw [hg]
  refine AW.bipush (v := nI 48) dX12_isDigit_5 (by decide) ?_
  refine AW.isub dX12_isDigit_7 ?_
  refine p12_6 dX12_isDigit_8 wF_X12_87 (by first | assumption | rfl | (unfold is12; omega)) ?_
  show AW muX12_isDigit _ _ 11 _ _ _ _
  refine AW.aload_n dX12_isDigit_11 rfl rfl ?_
  refine g12_6 dX12_isDigit_12 wF_X12_87 (by first | assumption | rfl | (unfold is12; omega)) ?_
  refine AW.top (show _ = nI g - nI 48 by (repeat first | rw [ru_ne (by omega)] | rw [ru_j] | rw [ru_ij (by omega)] | rw [upN_ne (by omega)] | rw [upN_eq] | rw [rr_ne (by omega)] | rw [rr_eq] | rw [sb_cpy0 (by omega)])) ?_
  refine AW.iload_n dX12_isDigit_15 rfl rfl ?_
  refine AW.iload_n dX12_isDigit_16 rfl rfl ?_
  refine cs_X12_isDigit_17 (by decide) (by decide) (Nat.le_of_ble_eq_true rfl) (s_X12_in (lo := lo) (hi := hi + 1) (by omega) (by omega) (by rw [nI_toInt (by omega)]; omega) (fun j hj1 hj2 ej => ?_) (fun hn => ?_))
  · refine AW.ifne1 (tgt := 25) dX12_isDigit_20 (by decide) ?_
    refine AW.aload_n dX12_isDigit_25 rfl rfl ?_
    refine AW.dup dX12_isDigit_26 rfl ?_
    show AW muX12_isDigit _ _ 27 _ _ _ _
    refine g12_5 dX12_isDigit_27 wF_X12_80 (by first | assumption | rfl | (unfold is12; omega)) ?_
    refine AW.top (show _ = nI (skp f L p) by (repeat first | rw [ru_ne (by omega)] | rw [ru_j] | rw [ru_ij (by omega)] | rw [upN_ne (by omega)] | rw [upN_eq] | rw [rr_ne (by omega)] | rw [rr_eq] | rw [sb_cpy0 (by omega)]); exact e1.2.2) ?_
    refine AW.iconst (v := nI 1) dX12_isDigit_30 (by decide) ?_
    first | refine AW.iaddN dX12_isDigit_31 ?_ | refine AW.iadd dX12_isDigit_31 ?_
    refine p12_5 dX12_isDigit_32 wF_X12_80 (by first | assumption | rfl | (unfold is12; omega)) ?_
    refine AW.iconst (v := nI 1) dX12_isDigit_35 (by decide) ?_
    refine AW.iret dX12_isDigit_36 ⟨_, rfl, by decide⟩ (Nat.zero_le _) (Nat.zero_le _) ⟨_, rfl, ?_⟩
    have ej2 : g = j + 48 := by
      have : nI g = nI (j + 48) := by rw [← nI_add, ← ej, Int32.sub_add_cancel]
      exact (nI_eq (by omega) (by omega)).mp this
    have hj := hif j (by omega) ej2
    have hc : skp f L p < L ∧ 48 + lo ≤ f (skp f L p) ∧ f (skp f L p) ≤ 48 + hi := ⟨hj.1, by omega, by omega⟩
    refine q1 _ j (by unfold rdD; rw [if_pos hc]; exact e1.n.tr PM.u) (by unfold rdD; rw [if_pos hc, hj.2, Nat.add_sub_cancel]) ?_
    (repeat first | rw [ru_ne (by omega)] | rw [ru_j] | rw [ru_ij (by omega)] | rw [upN_ne (by omega)] | rw [upN_eq] | rw [rr_ne (by omega)] | rw [rr_eq] | rw [sb_cpy0 (by omega)])
    exact ej
  · refine AW.ifne0 (tgt := 25) dX12_isDigit_20 (by decide) ?_
    refine AW.iconst (v := nI 0) dX12_isDigit_23 (by decide) ?_
    show AW muX12_isDigit _ _ 24 _ _ _ _
    refine AW.iret dX12_isDigit_24 ⟨_, rfl, by decide⟩ (Nat.zero_le _) (Nat.zero_le _) ⟨_, rfl, ?_⟩
    have hc : ¬ (skp f L p < L ∧ 48 + lo ≤ f (skp f L p) ∧ f (skp f L p) ≤ 48 + hi) := fun h => by
      have e := hif2 h.1
      exact hn ⟨g - 48, by omega, by omega, nI_sub (by omega)⟩
    exact q2 _ (by unfold rdD; rw [if_neg hc]; exact e1.n) (by unfold rdD; rw [if_neg hc])
theorem nu_82 {Q : Int32 → sd_S → Prop} {p0 p1 v : Nat} (hP : I 170 5 = nI p0) (hv : v < 1000) (hp1 : p1 < 1000) (q1 : v ≤ 60 → ∀ I', PM I I' p0 → I' 170 6 = nI v → Q (nI 1) (sk0, X, I', J)) (q2 : ¬ v ≤ 60 → ∀ I', PM I I' p1 → Q (nI 0) (sk0, X, I', J)) : AW muX12_isNumber 0 0 82 [.ref 170, .int (nI p1), .int (nI v)] [] (sk0, X, I, J) (fun r σ' => ∃ v, r = some v ∧ Q v σ') := by
  refine AW.aload_n dX12_isNumber_82 rfl rfl ?_
  refine AW.iload_n dX12_isNumber_83 rfl rfl ?_
  refine p12_6 dX12_isNumber_84 wF_X12_87 (by first | assumption | rfl | (unfold is12; omega)) ?_
  refine AW.aload_n dX12_isNumber_87 rfl rfl ?_
  refine AW.iload_n dX12_isNumber_88 rfl rfl ?_
  refine AW.bipush (v := nI 60) dX12_isNumber_89 (by decide) ?_
  show AW muX12_isNumber _ _ 91 _ _ _ _
  first | refine AW.icmp_leN (tgt := 98) dX12_isNumber_91 (by decide) (by omega) (by omega) (fun c91 => ?_) (fun c91 => ?_) | refine AW.icmp_le (tgt := 98) dX12_isNumber_91 (by decide) (fun c91 => ?_) (fun c91 => ?_)
  · refine AW.aload_n dX12_isNumber_98 rfl rfl ?_
    refine g12_5 dX12_isNumber_99 wF_X12_80 (by first | assumption | rfl | (unfold is12; omega)) ?_
    refine AW.top (show _ = nI p0 by (repeat first | rw [ru_ne (by omega)] | rw [ru_j] | rw [ru_ij (by omega)] | rw [upN_ne (by omega)] | rw [upN_eq] | rw [rr_ne (by omega)] | rw [rr_eq] | rw [sb_cpy0 (by omega)]); exact hP) ?_
    refine p12_5 dX12_isNumber_102 wF_X12_80 (by first | assumption | rfl | (unfold is12; omega)) ?_
    refine AW.iload_n dX12_isNumber_105 rfl rfl ?_
    refine AW.bipush (v := nI 60) dX12_isNumber_106 (by decide) ?_
    first | refine AW.icmp_gtN (tgt := 115) dX12_isNumber_108 (by decide) (by omega) (by omega) (fun c108 => ?_) (fun c108 => ?_) | refine AW.icmp_gt (tgt := 115) dX12_isNumber_108 (by decide) (fun c108 => ?_) (fun c108 => ?_)
    · refine AW.iconst (v := nI 0) dX12_isNumber_115 (by decide) ?_
      show AW muX12_isNumber _ _ 116 _ _ _ _
      refine AW.iret dX12_isNumber_116 ⟨_, rfl, by decide⟩ (Nat.zero_le _) (Nat.zero_le _) ⟨_, rfl, ?_⟩
      first | omega | exact q2 (by omega) _ ((PM.rf hP).n.tr PM.u)
    · refine AW.iconst (v := nI 1) dX12_isNumber_111 (by decide) ?_
      refine AW.goto (tgt := 116) dX12_isNumber_112 (by decide) ?_
      refine AW.iret dX12_isNumber_116 ⟨_, rfl, by decide⟩ (Nat.zero_le _) (Nat.zero_le _) ⟨_, rfl, ?_⟩
      first | omega | exact q1 (by omega) _ ((PM.rf hP).n.tr PM.u) (by (repeat first | rw [ru_ne (by omega)] | rw [ru_j] | rw [ru_ij (by omega)] | rw [upN_ne (by omega)] | rw [upN_eq] | rw [rr_ne (by omega)] | rw [rr_eq] | rw [sb_cpy0 (by omega)]))
  · refine AW.iload_n dX12_isNumber_94 rfl rfl ?_
    refine AW.goto (tgt := 102) dX12_isNumber_95 (by decide) ?_
    refine p12_5 dX12_isNumber_102 wF_X12_80 (by first | assumption | rfl | (unfold is12; omega)) ?_
    refine AW.iload_n dX12_isNumber_105 rfl rfl ?_
    refine AW.bipush (v := nI 60) dX12_isNumber_106 (by decide) ?_
    first | refine AW.icmp_gtN (tgt := 115) dX12_isNumber_108 (by decide) (by omega) (by omega) (fun c108 => ?_) (fun c108 => ?_) | refine AW.icmp_gt (tgt := 115) dX12_isNumber_108 (by decide) (fun c108 => ?_) (fun c108 => ?_)
    · refine AW.iconst (v := nI 0) dX12_isNumber_115 (by decide) ?_
      show AW muX12_isNumber _ _ 116 _ _ _ _
      refine AW.iret dX12_isNumber_116 ⟨_, rfl, by decide⟩ (Nat.zero_le _) (Nat.zero_le _) ⟨_, rfl, ?_⟩
      first | omega | exact q2 (by omega) _ ((PM.rf hP).n.tr PM.u)
    · refine AW.iconst (v := nI 1) dX12_isNumber_111 (by decide) ?_
      refine AW.goto (tgt := 116) dX12_isNumber_112 (by decide) ?_
      refine AW.iret dX12_isNumber_116 ⟨_, rfl, by decide⟩ (Nat.zero_le _) (Nat.zero_le _) ⟨_, rfl, ?_⟩
      first | omega | exact q1 (by omega) _ ((PM.rf hP).n.tr PM.u) (by (repeat first | rw [ru_ne (by omega)] | rw [ru_j] | rw [ru_ij (by omega)] | rw [upN_ne (by omega)] | rw [upN_eq] | rw [rr_ne (by omega)] | rw [rr_eq] | rw [sb_cpy0 (by omega)]))
theorem s_X12_isNumber {Q : Int32 → sd_S → Prop} (hV : TPV f L) (hT : TM I f L) (hP : I 170 5 = nI p) (hp : p ≤ L) (q1 : ∀ I' v, PM I I' (rdN f L p).1 → (rdN f L p).2 = some v → I' 170 6 = nI v → Q (nI 1) (sk0, X, I', J)) (q2 : ∀ I', PM I I' (rdN f L p).1 → (rdN f L p).2 = none → Q (nI 0) (sk0, X, I', J)) : AWi muX12_isNumber [.ref 170] (sk0, X, I, J) Q := by
  have h80 := hV.1
  have hle := rdD_le (f := f) (lo := 0) (hi := 9) hp
  show AW muX12_isNumber 0 0 0 [.ref 170, .null, .null] [] _ _
  refine AW.aload_n dX12_isNumber_0 rfl rfl ?_
  refine AW.iconst (v := nI 0) dX12_isNumber_1 (by decide) ?_
  refine AW.bipush (v := nI 9) dX12_isNumber_2 (by decide) ?_
  refine cs_X12_isNumber_4 (by first | exact k0_170 | exact k0_174) (by decide) (by decide) (Nat.le_of_ble_eq_true rfl) (s_X12_isDigit (lo := 0) (hi := 9) (by decide) (by decide) hV hT hP hp (fun I1 d e1 h1 n1 => ?_) (fun I1 e1 h1 => ?_))
  · refine AW.ifne1 (tgt := 12) dX12_isNumber_7 (by decide) ?_
    have hd := rdD_pos h1
    have t1 := hT.pm e1.fm
    refine AW.aload_n dX12_isNumber_12 rfl rfl ?_
    refine g12_5 dX12_isNumber_13 wF_X12_80 (by first | assumption | rfl | (unfold is12; omega)) ?_
    first | refine AW.top (by first | exact e1.2.2 | exact n1 | exact t1.1 | exact t1.2 _ (by omega)) ?_ | skip
    refine AW.iconst (v := nI 1) dX12_isNumber_16 (by decide) ?_
    show AW muX12_isNumber _ _ 17 _ _ _ _
    first | refine AW.isubN dX12_isNumber_17 (by omega) ?_ | refine AW.isub dX12_isNumber_17 ?_
    refine AW.istore_n dX12_isNumber_18 rfl (by decide) rfl rfl ?_
    refine AW.aload_n dX12_isNumber_19 rfl rfl ?_
    refine g12_6 dX12_isNumber_20 wF_X12_87 (by first | assumption | rfl | (unfold is12; omega)) ?_
    first | refine AW.top (by first | exact e1.2.2 | exact n1 | exact t1.1 | exact t1.2 _ (by omega)) ?_ | skip
    refine AW.istore_n dX12_isNumber_23 rfl (by decide) rfl rfl ?_
    refine AW.aload_n dX12_isNumber_24 rfl rfl ?_
    show AW muX12_isNumber _ _ 25 _ _ _ _
    refine g12_5 dX12_isNumber_25 wF_X12_80 (by first | assumption | rfl | (unfold is12; omega)) ?_
    first | refine AW.top (by first | exact e1.2.2 | exact n1 | exact t1.1 | exact t1.2 _ (by omega)) ?_ | skip
    refine AW.aload_n dX12_isNumber_28 rfl rfl ?_
    refine g12_3 dX12_isNumber_29 wF_X12_76 (by first | assumption | rfl | (unfold is12; omega)) ?_
    first | refine AW.top (by first | exact e1.2.2 | exact n1 | exact t1.1 | exact t1.2 _ (by omega)) ?_ | skip
    first | refine AW.icmp_geN (tgt := 82) dX12_isNumber_32 (by decide) (by omega) (by omega) (fun c32 => ?_) (fun c32 => ?_) | refine AW.icmp_ge (tgt := 82) dX12_isNumber_32 (by decide) (fun c32 => ?_) (fun c32 => ?_)
    · first
        | (have hc : (rdD f L 0 9 p).1 < L ∧ 48 ≤ f (rdD f L 0 9 p).1 ∧ f (rdD f L 0 9 p).1 ≤ 57 := ⟨c32, by omega, by omega⟩
           have hs1 : 10 * d + (f (rdD f L 0 9 p).1 - 48) ≤ 60 → rdN f L p = ((rdD f L 0 9 p).1 + 1, some (10 * d + (f (rdD f L 0 9 p).1 - 48))) := fun h => by unfold rdN; simp only [h1]; rw [if_pos hc, if_pos h]
           have hs2 : ¬ 10 * d + (f (rdD f L 0 9 p).1 - 48) ≤ 60 → rdN f L p = ((rdD f L 0 9 p).1 - 1, none) := fun h => by unfold rdN; simp only [h1]; rw [if_pos hc, if_neg h]
           have eS : 10 * d + f (rdD f L 0 9 p).1 - 48 = 10 * d + (f (rdD f L 0 9 p).1 - 48) := by omega
           rw [eS]
           exact nu_82 (p1 := (rdD f L 0 9 p).1 - 1) (by (repeat first | rw [ru_ne (by omega)] | rw [ru_j] | rw [ru_ij (by omega)] | rw [upN_ne (by omega)] | rw [upN_eq] | rw [rr_ne (by omega)] | rw [rr_eq] | rw [sb_cpy0 (by omega)])) (by omega) (by omega) (fun h I' g1 g2 => q1 I' _ (by rw [hs1 h]; exact (e1.tr PM.u).tr g1) (by rw [hs1 h]) g2) (fun h I' g1 => q2 I' (by rw [hs2 h]; exact (e1.tr PM.u).tr g1) (by rw [hs2 h])))
        | (have hc : ¬ ((rdD f L 0 9 p).1 < L ∧ 48 ≤ f (rdD f L 0 9 p).1 ∧ f (rdD f L 0 9 p).1 ≤ 57) := by first | omega | exact (fun h => hn ⟨f (rdD f L 0 9 p).1, by omega, by omega, rfl⟩)
           have hs1 : rdN f L p = ((rdD f L 0 9 p).1, some d) := by unfold rdN; simp only [h1]; rw [if_neg hc]
           exact nu_82 (p1 := (rdD f L 0 9 p).1 - 1) e1.2.2 (by omega) (by omega) (fun h I' g1 g2 => q1 I' _ (by rw [hs1]; exact e1.tr g1) (by rw [hs1]) g2) (fun h => by omega))
    · have hf := hV.2 _ c32
      refine AW.aload_n dX12_isNumber_35 rfl rfl ?_
      refine g12_4 dX12_isNumber_36 wF_X12_20 (by first | assumption | rfl | (unfold is12; omega)) ?_
      refine AW.aload_n dX12_isNumber_39 rfl rfl ?_
      show AW muX12_isNumber _ _ 40 _ _ _ _
      refine g12_5 dX12_isNumber_40 wF_X12_80 (by first | assumption | rfl | (unfold is12; omega)) ?_
      first | refine AW.top (by first | exact e1.2.2 | exact n1 | exact t1.1 | exact t1.2 _ (by omega)) ?_ | skip
      refine AW.iald dX12_isNumber_43 (by first | exact k0_170 | exact k0_174) _ (by first | rfl | assumption) (by omega) (by first | decide | omega) ?_
      first | refine AW.top (by first | exact e1.2.2 | exact n1 | exact t1.1 | exact t1.2 _ (by omega)) ?_ | skip
      refine AW.bipush (v := nI 48) dX12_isNumber_44 (by decide) ?_
      refine AW.bipush (v := nI 57) dX12_isNumber_46 (by decide) ?_
      refine cs_X12_isNumber_48 (by decide) (by decide) (Nat.le_of_ble_eq_true rfl) (s_X12_in (lo := 48) (hi := 58) (by decide) (by decide) (by decide) (fun j hj1 hj2 ej => ?_) (fun hn => ?_))
      · refine AW.ifeq1 (tgt := 82) dX12_isNumber_51 (by decide) ?_
        have ej2 := (nI_eq (by omega) (by omega)).mp ej
        refine AW.bipush (v := nI 10) dX12_isNumber_54 (by decide) ?_
        refine AW.iload_n dX12_isNumber_56 rfl rfl ?_
        show AW muX12_isNumber _ _ 57 _ _ _ _
        first | refine AW.imulN dX12_isNumber_57 ?_ | refine AW.imul dX12_isNumber_57 ?_
        refine AW.aload_n dX12_isNumber_58 rfl rfl ?_
        refine g12_4 dX12_isNumber_59 wF_X12_20 (by first | assumption | rfl | (unfold is12; omega)) ?_
        refine AW.aload_n dX12_isNumber_62 rfl rfl ?_
        refine g12_5 dX12_isNumber_63 wF_X12_80 (by first | assumption | rfl | (unfold is12; omega)) ?_
        first | refine AW.top (by first | exact e1.2.2 | exact n1 | exact t1.1 | exact t1.2 _ (by omega)) ?_ | skip
        refine AW.iald dX12_isNumber_66 (by first | exact k0_170 | exact k0_174) _ (by first | rfl | assumption) (by omega) (by first | decide | omega) ?_
        first | refine AW.top (by first | exact e1.2.2 | exact n1 | exact t1.1 | exact t1.2 _ (by omega)) ?_ | skip
        show AW muX12_isNumber _ _ 67 _ _ _ _
        first | refine AW.iaddN dX12_isNumber_67 ?_ | refine AW.iadd dX12_isNumber_67 ?_
        refine AW.bipush (v := nI 48) dX12_isNumber_68 (by decide) ?_
        first | refine AW.isubN dX12_isNumber_70 (by omega) ?_ | refine AW.isub dX12_isNumber_70 ?_
        refine AW.istore_n dX12_isNumber_71 rfl (by decide) rfl rfl ?_
        refine AW.aload_n dX12_isNumber_72 rfl rfl ?_
        refine AW.dup dX12_isNumber_73 rfl ?_
        show AW muX12_isNumber _ _ 74 _ _ _ _
        refine g12_5 dX12_isNumber_74 wF_X12_80 (by first | assumption | rfl | (unfold is12; omega)) ?_
        first | refine AW.top (by first | exact e1.2.2 | exact n1 | exact t1.1 | exact t1.2 _ (by omega)) ?_ | skip
        refine AW.iconst (v := nI 1) dX12_isNumber_77 (by decide) ?_
        first | refine AW.iaddN dX12_isNumber_78 ?_ | refine AW.iadd dX12_isNumber_78 ?_
        refine p12_5 dX12_isNumber_79 wF_X12_80 (by first | assumption | rfl | (unfold is12; omega)) ?_
        first
          | (have hc : (rdD f L 0 9 p).1 < L ∧ 48 ≤ f (rdD f L 0 9 p).1 ∧ f (rdD f L 0 9 p).1 ≤ 57 := ⟨c32, by omega, by omega⟩
             have hs1 : 10 * d + (f (rdD f L 0 9 p).1 - 48) ≤ 60 → rdN f L p = ((rdD f L 0 9 p).1 + 1, some (10 * d + (f (rdD f L 0 9 p).1 - 48))) := fun h => by unfold rdN; simp only [h1]; rw [if_pos hc, if_pos h]
             have hs2 : ¬ 10 * d + (f (rdD f L 0 9 p).1 - 48) ≤ 60 → rdN f L p = ((rdD f L 0 9 p).1 - 1, none) := fun h => by unfold rdN; simp only [h1]; rw [if_pos hc, if_neg h]
             have eS : 10 * d + f (rdD f L 0 9 p).1 - 48 = 10 * d + (f (rdD f L 0 9 p).1 - 48) := by omega
             rw [eS]
             exact nu_82 (p1 := (rdD f L 0 9 p).1 - 1) (by (repeat first | rw [ru_ne (by omega)] | rw [ru_j] | rw [ru_ij (by omega)] | rw [upN_ne (by omega)] | rw [upN_eq] | rw [rr_ne (by omega)] | rw [rr_eq] | rw [sb_cpy0 (by omega)])) (by omega) (by omega) (fun h I' g1 g2 => q1 I' _ (by rw [hs1 h]; exact (e1.tr PM.u).tr g1) (by rw [hs1 h]) g2) (fun h I' g1 => q2 I' (by rw [hs2 h]; exact (e1.tr PM.u).tr g1) (by rw [hs2 h])))
          | (have hc : ¬ ((rdD f L 0 9 p).1 < L ∧ 48 ≤ f (rdD f L 0 9 p).1 ∧ f (rdD f L 0 9 p).1 ≤ 57) := by first | omega | exact (fun h => hn ⟨f (rdD f L 0 9 p).1, by omega, by omega, rfl⟩)
             have hs1 : rdN f L p = ((rdD f L 0 9 p).1, some d) := by unfold rdN; simp only [h1]; rw [if_neg hc]
             exact nu_82 (p1 := (rdD f L 0 9 p).1 - 1) e1.2.2 (by omega) (by omega) (fun h I' g1 g2 => q1 I' _ (by rw [hs1]; exact e1.tr g1) (by rw [hs1]) g2) (fun h => by omega))
      · refine AW.ifeq0 (tgt := 82) dX12_isNumber_51 (by decide) ?_
        first
          | (have hc : (rdD f L 0 9 p).1 < L ∧ 48 ≤ f (rdD f L 0 9 p).1 ∧ f (rdD f L 0 9 p).1 ≤ 57 := ⟨c32, by omega, by omega⟩
             have hs1 : 10 * d + (f (rdD f L 0 9 p).1 - 48) ≤ 60 → rdN f L p = ((rdD f L 0 9 p).1 + 1, some (10 * d + (f (rdD f L 0 9 p).1 - 48))) := fun h => by unfold rdN; simp only [h1]; rw [if_pos hc, if_pos h]
             have hs2 : ¬ 10 * d + (f (rdD f L 0 9 p).1 - 48) ≤ 60 → rdN f L p = ((rdD f L 0 9 p).1 - 1, none) := fun h => by unfold rdN; simp only [h1]; rw [if_pos hc, if_neg h]
             have eS : 10 * d + f (rdD f L 0 9 p).1 - 48 = 10 * d + (f (rdD f L 0 9 p).1 - 48) := by omega
             rw [eS]
             exact nu_82 (p1 := (rdD f L 0 9 p).1 - 1) (by (repeat first | rw [ru_ne (by omega)] | rw [ru_j] | rw [ru_ij (by omega)] | rw [upN_ne (by omega)] | rw [upN_eq] | rw [rr_ne (by omega)] | rw [rr_eq] | rw [sb_cpy0 (by omega)])) (by omega) (by omega) (fun h I' g1 g2 => q1 I' _ (by rw [hs1 h]; exact (e1.tr PM.u).tr g1) (by rw [hs1 h]) g2) (fun h I' g1 => q2 I' (by rw [hs2 h]; exact (e1.tr PM.u).tr g1) (by rw [hs2 h])))
          | (have hc : ¬ ((rdD f L 0 9 p).1 < L ∧ 48 ≤ f (rdD f L 0 9 p).1 ∧ f (rdD f L 0 9 p).1 ≤ 57) := by first | omega | exact (fun h => hn ⟨f (rdD f L 0 9 p).1, by omega, by omega, rfl⟩)
             have hs1 : rdN f L p = ((rdD f L 0 9 p).1, some d) := by unfold rdN; simp only [h1]; rw [if_neg hc]
             exact nu_82 (p1 := (rdD f L 0 9 p).1 - 1) e1.2.2 (by omega) (by omega) (fun h I' g1 g2 => q1 I' _ (by rw [hs1]; exact e1.tr g1) (by rw [hs1]) g2) (fun h => by omega))
  · refine AW.ifne0 (tgt := 12) dX12_isNumber_7 (by decide) ?_
    refine AW.iconst (v := nI 0) dX12_isNumber_10 (by decide) ?_
    refine AW.iret dX12_isNumber_11 ⟨_, rfl, by decide⟩ (Nat.zero_le _) (Nat.zero_le _) ⟨_, rfl, ?_⟩
    exact q2 _ (by unfold rdN; simp only [h1]; exact e1) (by unfold rdN; simp only [h1])
theorem s_X12_kindBy {C : List sd_C} {Q : Int32 → sd_S → Prop} {c : Nat} (hc : c ≤ 126) (q1 : ∀ k, kdN c = some k → Q (nI k) (C, X, I, J)) (q2 : kdN c = none → Q (-1) (C, X, I, J)) : AWi muX12_kindBy [.int (nI c)] (C, X, I, J) Q := by
  show AW muX12_kindBy 0 0 0 [.int (nI c)] [] _ _
  refine AW.iload_n dX12_kindBy_0 rfl rfl ?_
  refine AW.bipush (v := nI 112) dX12_kindBy_1 (by decide) ?_
  first | refine AW.icmp_neN (tgt := 10) dX12_kindBy_3 (by decide) (by omega) (by omega) (fun c3 => ?_) (fun c3 => ?_) | refine AW.icmp_ne (tgt := 10) dX12_kindBy_3 (by decide) (fun c3 => ?_) (fun c3 => ?_)
  · refine AW.iload_n dX12_kindBy_10 rfl rfl ?_
    refine AW.bipush (v := nI 102) dX12_kindBy_11 (by decide) ?_
    first | refine AW.icmp_neN (tgt := 20) dX12_kindBy_13 (by decide) (by omega) (by omega) (fun c13 => ?_) (fun c13 => ?_) | refine AW.icmp_ne (tgt := 20) dX12_kindBy_13 (by decide) (fun c13 => ?_) (fun c13 => ?_)
    · refine AW.iload_n dX12_kindBy_20 rfl rfl ?_
      refine AW.bipush (v := nI 99) dX12_kindBy_21 (by decide) ?_
      show AW muX12_kindBy _ _ 23 _ _ _ _
      first | refine AW.icmp_neN (tgt := 30) dX12_kindBy_23 (by decide) (by omega) (by omega) (fun c23 => ?_) (fun c23 => ?_) | refine AW.icmp_ne (tgt := 30) dX12_kindBy_23 (by decide) (fun c23 => ?_) (fun c23 => ?_)
      · refine AW.iload_n dX12_kindBy_30 rfl rfl ?_
        refine AW.bipush (v := nI 116) dX12_kindBy_31 (by decide) ?_
        first | refine AW.icmp_neN (tgt := 40) dX12_kindBy_33 (by decide) (by omega) (by omega) (fun c33 => ?_) (fun c33 => ?_) | refine AW.icmp_ne (tgt := 40) dX12_kindBy_33 (by decide) (fun c33 => ?_) (fun c33 => ?_)
        · refine AW.iload_n dX12_kindBy_40 rfl rfl ?_
          refine AW.bipush (v := nI 104) dX12_kindBy_41 (by decide) ?_
          first | refine AW.icmp_neN (tgt := 50) dX12_kindBy_43 (by decide) (by omega) (by omega) (fun c43 => ?_) (fun c43 => ?_) | refine AW.icmp_ne (tgt := 50) dX12_kindBy_43 (by decide) (fun c43 => ?_) (fun c43 => ?_)
          · refine AW.iconst (v := (-1)) dX12_kindBy_50 (by decide) ?_
            refine AW.iret dX12_kindBy_51 ⟨_, rfl, rfl⟩ (Nat.zero_le _) (Nat.zero_le _) ⟨_, rfl, ?_⟩
            first | exact q1 0 (by unfold kdN; rw [if_pos c3]) | exact q1 1 (by unfold kdN; rw [if_neg c3, if_pos c13]) | exact q1 2 (by unfold kdN; rw [if_neg c3, if_neg c13, if_pos c23]) | exact q1 3 (by unfold kdN; rw [if_neg c3, if_neg c13, if_neg c23, if_pos c33]) | exact q1 4 (by unfold kdN; rw [if_neg c3, if_neg c13, if_neg c23, if_neg c33, if_pos c43]) | exact q2 (by unfold kdN; rw [if_neg c3, if_neg c13, if_neg c23, if_neg c33, if_neg c43])
          · refine AW.iconst (v := nI 4) dX12_kindBy_46 (by decide) ?_
            show AW muX12_kindBy _ _ 47 _ _ _ _
            refine AW.goto (tgt := 51) dX12_kindBy_47 (by decide) ?_
            refine AW.iret dX12_kindBy_51 ⟨_, rfl, rfl⟩ (Nat.zero_le _) (Nat.zero_le _) ⟨_, rfl, ?_⟩
            first | exact q1 0 (by unfold kdN; rw [if_pos c3]) | exact q1 1 (by unfold kdN; rw [if_neg c3, if_pos c13]) | exact q1 2 (by unfold kdN; rw [if_neg c3, if_neg c13, if_pos c23]) | exact q1 3 (by unfold kdN; rw [if_neg c3, if_neg c13, if_neg c23, if_pos c33]) | exact q1 4 (by unfold kdN; rw [if_neg c3, if_neg c13, if_neg c23, if_neg c33, if_pos c43]) | exact q2 (by unfold kdN; rw [if_neg c3, if_neg c13, if_neg c23, if_neg c33, if_neg c43])
        · refine AW.iconst (v := nI 3) dX12_kindBy_36 (by decide) ?_
          refine AW.goto (tgt := 51) dX12_kindBy_37 (by decide) ?_
          refine AW.iret dX12_kindBy_51 ⟨_, rfl, rfl⟩ (Nat.zero_le _) (Nat.zero_le _) ⟨_, rfl, ?_⟩
          first | exact q1 0 (by unfold kdN; rw [if_pos c3]) | exact q1 1 (by unfold kdN; rw [if_neg c3, if_pos c13]) | exact q1 2 (by unfold kdN; rw [if_neg c3, if_neg c13, if_pos c23]) | exact q1 3 (by unfold kdN; rw [if_neg c3, if_neg c13, if_neg c23, if_pos c33]) | exact q1 4 (by unfold kdN; rw [if_neg c3, if_neg c13, if_neg c23, if_neg c33, if_pos c43]) | exact q2 (by unfold kdN; rw [if_neg c3, if_neg c13, if_neg c23, if_neg c33, if_neg c43])
      · refine AW.iconst (v := nI 2) dX12_kindBy_26 (by decide) ?_
        refine AW.goto (tgt := 51) dX12_kindBy_27 (by decide) ?_
        refine AW.iret dX12_kindBy_51 ⟨_, rfl, rfl⟩ (Nat.zero_le _) (Nat.zero_le _) ⟨_, rfl, ?_⟩
        first | exact q1 0 (by unfold kdN; rw [if_pos c3]) | exact q1 1 (by unfold kdN; rw [if_neg c3, if_pos c13]) | exact q1 2 (by unfold kdN; rw [if_neg c3, if_neg c13, if_pos c23]) | exact q1 3 (by unfold kdN; rw [if_neg c3, if_neg c13, if_neg c23, if_pos c33]) | exact q1 4 (by unfold kdN; rw [if_neg c3, if_neg c13, if_neg c23, if_neg c33, if_pos c43]) | exact q2 (by unfold kdN; rw [if_neg c3, if_neg c13, if_neg c23, if_neg c33, if_neg c43])
    · refine AW.iconst (v := nI 1) dX12_kindBy_16 (by decide) ?_
      refine AW.goto (tgt := 51) dX12_kindBy_17 (by decide) ?_
      refine AW.iret dX12_kindBy_51 ⟨_, rfl, rfl⟩ (Nat.zero_le _) (Nat.zero_le _) ⟨_, rfl, ?_⟩
      first | exact q1 0 (by unfold kdN; rw [if_pos c3]) | exact q1 1 (by unfold kdN; rw [if_neg c3, if_pos c13]) | exact q1 2 (by unfold kdN; rw [if_neg c3, if_neg c13, if_pos c23]) | exact q1 3 (by unfold kdN; rw [if_neg c3, if_neg c13, if_neg c23, if_pos c33]) | exact q1 4 (by unfold kdN; rw [if_neg c3, if_neg c13, if_neg c23, if_neg c33, if_pos c43]) | exact q2 (by unfold kdN; rw [if_neg c3, if_neg c13, if_neg c23, if_neg c33, if_neg c43])
  · refine AW.iconst (v := nI 0) dX12_kindBy_6 (by decide) ?_
    refine AW.goto (tgt := 51) dX12_kindBy_7 (by decide) ?_
    refine AW.iret dX12_kindBy_51 ⟨_, rfl, rfl⟩ (Nat.zero_le _) (Nat.zero_le _) ⟨_, rfl, ?_⟩
    first | exact q1 0 (by unfold kdN; rw [if_pos c3]) | exact q1 1 (by unfold kdN; rw [if_neg c3, if_pos c13]) | exact q1 2 (by unfold kdN; rw [if_neg c3, if_neg c13, if_pos c23]) | exact q1 3 (by unfold kdN; rw [if_neg c3, if_neg c13, if_neg c23, if_pos c33]) | exact q1 4 (by unfold kdN; rw [if_neg c3, if_neg c13, if_neg c23, if_neg c33, if_pos c43]) | exact q2 (by unfold kdN; rw [if_neg c3, if_neg c13, if_neg c23, if_neg c33, if_neg c43])
theorem s_X12_isSleeperItem {Q : Int32 → sd_S → Prop} (hN : RDa I N) (h5 : N 36 < 5) (hV : TPV f L) (hT : TM I f L) (hP : I 170 5 = nI p) (hp : p ≤ L) (q1 : ∀ I' N', (rdS f L p N).2 = some N' → FM I I' → I' 170 5 = nI (rdS f L p N).1 → RDa I' N' → Q (nI 1) (sk0, X, I', J)) (q2 : ∀ I', (rdS f L p N).2 = none → FM I I' → I' 170 5 = nI (rdS f L p N).1 → Q (nI 0) (sk0, X, I', J)) : AWi muX12_isSleeperItem [.ref 170] (sk0, X, I, J) Q := by
  have hle := rdD_le (f := f) (lo := 0) (hi := 3) hp
  have hle2 := rdC_le (f := f) (c := 58) hle
  show AW muX12_isSleeperItem 0 0 0 [.ref 170, .null] [] _ _
  refine AW.aload_n dX12_isSleeperItem_0 rfl rfl ?_
  refine AW.iconst (v := nI 0) dX12_isSleeperItem_1 (by decide) ?_
  refine AW.iconst (v := nI 3) dX12_isSleeperItem_2 (by decide) ?_
  refine cs_X12_isSleeperItem_3 (by first | exact k0_170) (by decide) (by decide) (Nat.le_of_ble_eq_true rfl) (s_X12_isDigit (lo := 0) (hi := 3) (by decide) (by decide) hV hT hP hp (fun I1 r e1 h1 n1 => ?_) (fun I1 e1 h1 => ?_))
  · refine AW.ifne1 (tgt := 11) dX12_isSleeperItem_6 (by decide) ?_
    refine AW.aload_n dX12_isSleeperItem_11 rfl rfl ?_
    refine g12_6 dX12_isSleeperItem_12 wF_X12_87 (by first | assumption | rfl | (unfold is12; omega)) ?_
    refine AW.top (n1) ?_
    refine AW.istore_n dX12_isSleeperItem_15 rfl (by decide) rfl rfl ?_
    show AW muX12_isSleeperItem _ _ 16 _ _ _ _
    refine AW.aload_n dX12_isSleeperItem_16 rfl rfl ?_
    refine AW.bipush (v := nI 58) dX12_isSleeperItem_17 (by decide) ?_
    refine cs_X12_isSleeperItem_19 (by first | exact k0_170) (by decide) (by decide) (Nat.le_of_ble_eq_true rfl) (s_X12_isSign (c := 58) (by decide) (by decide) hV (hT.pm e1.fm) e1.2.2 hle (fun I2 e2 h2 => ?_) (fun I2 e2 h2 => ?_))
    · refine AW.ifeq1 (tgt := 32) dX12_isSleeperItem_22 (by decide) ?_
      refine AW.aload_n dX12_isSleeperItem_25 rfl rfl ?_
      refine cs_X12_isSleeperItem_26 (by first | exact k0_170) (by decide) (by decide) (Nat.le_of_ble_eq_true rfl) (s_X12_isNumber hV (hT.pm (e1.tr e2).fm) e2.2.2 hle2 (fun I3 b e3 h3 n3 => ?_) (fun I3 e3 h3 => ?_))
      · refine AW.ifne1 (tgt := 34) dX12_isSleeperItem_29 (by decide) ?_
        refine AW.aload_n dX12_isSleeperItem_34 rfl rfl ?_
        refine g12_9 dX12_isSleeperItem_35 wF_X12_29 (by first | assumption | rfl | (unfold is12; omega)) ?_
        refine AW.iload_n dX12_isSleeperItem_38 rfl rfl ?_
        show AW muX12_isSleeperItem _ _ 39 _ _ _ _
        refine AW.aload_n dX12_isSleeperItem_39 rfl rfl ?_
        refine g12_6 dX12_isSleeperItem_40 wF_X12_87 (by first | assumption | rfl | (unfold is12; omega)) ?_
        refine AW.top (n3) ?_
        refine cs_X12_isSleeperItem_43 (by decide) (by decide) (Nat.le_of_ble_eq_true rfl) (s_X12_addSleeper isA_177 (by decide) (AS.rf (hN.pm ((e1.tr e2).tr e3))) h5 (fun I4 h4 => ?_))
        refine AW.pop dX12_isSleeperItem_46 rfl ?_
        refine AW.iconst (v := nI 1) dX12_isSleeperItem_47 (by decide) ?_
        refine AW.iret dX12_isSleeperItem_48 ⟨_, rfl, by decide⟩ (Nat.zero_le _) (Nat.zero_le _) ⟨_, rfl, ?_⟩
        have hs : rdS f L p N = ((rdN f L (rdC f L 58 (rdD f L 0 3 p).1).1).1, some (addS N r b)) := by unfold rdS; simp only [h1, h2, h3]
        exact q1 I4 _ (by rw [hs]) (FM.a h4 ((e1.tr e2).tr e3).fm) (by rw [hs, h4.f 170 (by omega)]; exact e3.2.2) h4.2
      · refine AW.ifne0 (tgt := 34) dX12_isSleeperItem_29 (by decide) ?_
        refine AW.iconst (v := nI 0) dX12_isSleeperItem_32 (by decide) ?_
        show AW muX12_isSleeperItem _ _ 33 _ _ _ _
        refine AW.iret dX12_isSleeperItem_33 ⟨_, rfl, by decide⟩ (Nat.zero_le _) (Nat.zero_le _) ⟨_, rfl, ?_⟩
        first | exact q2 I3 (by unfold rdS; simp only [h1, h2, h3]) ((e1.tr e2).tr e3).fm (by unfold rdS; simp only [h1, h2, h3]; exact e3.2.2) | exact q2 I2 (by unfold rdS; simp only [h1, h2]) (e1.tr e2).fm (by unfold rdS; simp only [h1, h2]; exact e2.2.2)
    · refine AW.ifeq0 (tgt := 32) dX12_isSleeperItem_22 (by decide) ?_
      refine AW.iconst (v := nI 0) dX12_isSleeperItem_32 (by decide) ?_
      refine AW.iret dX12_isSleeperItem_33 ⟨_, rfl, by decide⟩ (Nat.zero_le _) (Nat.zero_le _) ⟨_, rfl, ?_⟩
      first | exact q2 I3 (by unfold rdS; simp only [h1, h2, h3]) ((e1.tr e2).tr e3).fm (by unfold rdS; simp only [h1, h2, h3]; exact e3.2.2) | exact q2 I2 (by unfold rdS; simp only [h1, h2]) (e1.tr e2).fm (by unfold rdS; simp only [h1, h2]; exact e2.2.2)
  · refine AW.ifne0 (tgt := 11) dX12_isSleeperItem_6 (by decide) ?_
    refine AW.iconst (v := nI 0) dX12_isSleeperItem_9 (by decide) ?_
    refine AW.iret dX12_isSleeperItem_10 ⟨_, rfl, by decide⟩ (Nat.zero_le _) (Nat.zero_le _) ⟨_, rfl, ?_⟩
    exact q2 I1 (by unfold rdS; simp only [h1]) e1.fm (by unfold rdS; simp only [h1]; exact e1.2.2)
theorem s_X12_isThingItem {Q : Int32 → sd_S → Prop} (hN : RDa I N) (h8 : N 47 < 8) (hV : TPV f L) (hT : TM I f L) (hP : I 170 5 = nI p) (hp : p ≤ L) (q1 : ∀ I' N', (rdT f L p N).2 = some N' → FM I I' → I' 170 5 = nI (rdT f L p N).1 → RDa I' N' → Q (nI 1) (sk0, X, I', J)) (q2 : ∀ I', (rdT f L p N).2 = none → FM I I' → I' 170 5 = nI (rdT f L p N).1 → Q (nI 0) (sk0, X, I', J)) : AWi muX12_isThingItem [.ref 170] (sk0, X, I, J) Q := by
  have hk := pkk_le (p := p) hV
  have hle := rdK_le (f := f) hp
  have hle2 := rdD_le (f := f) (lo := 0) (hi := 9) hle
  have hle3 := rdD_le (f := f) (lo := 1) (hi := 9) hle2
  have hkn : ∀ k, kdN (if skp f L p < L then f (skp f L p) else 0) = some k → rdK f L p = (skp f L p + 1, some k) := fun k h => by
    unfold rdK
    by_cases hl : skp f L p < L
    · rw [if_pos hl] at h; rw [if_pos hl]; simp only [h]
    · rw [if_neg hl, show kdN 0 = none by decide] at h; cases h
  have hkz : kdN (if skp f L p < L then f (skp f L p) else 0) = none → rdK f L p = (skp f L p, none) := fun h => by
    unfold rdK
    by_cases hl : skp f L p < L
    · rw [if_pos hl] at h; rw [if_pos hl]; simp only [h]
    · rw [if_neg hl]
  have hlp := skp_le (f := f) hp
  have h80 := hV.1
  show AW muX12_isThingItem 0 0 0 [.ref 170, .null, .null, .null] [] _ _
  generalize hg : (if skp f L p < L then f (skp f L p) else 0) = g at hk hkn hkz
  refine AW.aload_n dX12_isThingItem_0 rfl rfl ?_
  refine cs_X12_isThingItem_1 (by first | exact k0_170) (by decide) (by decide) (Nat.le_of_ble_eq_true rfl) (s_X12_peek hV hT hP hp (fun I1 e1 => ?_))
  rw [hg]
  refine cs_X12_isThingItem_4 (by decide) (by decide) (Nat.le_of_ble_eq_true rfl) (s_X12_kindBy hk (fun k hk1 => ?_) (fun hk1 => ?_))
  · refine AW.istore_n dX12_isThingItem_7 rfl (by decide) rfl rfl ?_
    have h1 := hkn k hk1
    have hk5 := kdN_lt hk1
    refine AW.iload_n dX12_isThingItem_8 rfl rfl ?_
    refine AW.if_geN (tgt := 14) dX12_isThingItem_9 (by decide) (by omega) ?_
    refine AW.aload_n dX12_isThingItem_14 rfl rfl ?_
    refine AW.dup dX12_isThingItem_15 rfl ?_
    show AW muX12_isThingItem _ _ 16 _ _ _ _
    refine g12_5 dX12_isThingItem_16 wF_X12_80 (by first | assumption | rfl | (unfold is12; omega)) ?_
    refine AW.top (e1.2.2) ?_
    refine AW.iconst (v := nI 1) dX12_isThingItem_19 (by decide) ?_
    first | refine AW.iaddN dX12_isThingItem_20 ?_ | refine AW.iadd dX12_isThingItem_20 ?_
    refine p12_5 dX12_isThingItem_21 wF_X12_80 (by first | assumption | rfl | (unfold is12; omega)) ?_
    have e12 : PM I (sd_u I1 170 5 (nI (skp f L p + 1))) (rdK f L p).1 := by rw [h1]; exact e1.tr PM.u
    generalize sd_u I1 170 5 (nI (skp f L p + 1)) = Ik at e12 ⊢
    have h1' : (rdK f L p).2 = some k := by rw [h1]
    refine AW.aload_n dX12_isThingItem_24 rfl rfl ?_
    refine AW.iconst (v := nI 0) dX12_isThingItem_25 (by decide) ?_
    show AW muX12_isThingItem _ _ 26 _ _ _ _
    refine AW.bipush (v := nI 9) dX12_isThingItem_26 (by decide) ?_
    refine cs_X12_isThingItem_28 (by first | exact k0_170) (by decide) (by decide) (Nat.le_of_ble_eq_true rfl) (s_X12_isDigit (lo := 0) (hi := 9) (by decide) (by decide) hV (hT.pm e12.fm) e12.2.2 hle (fun I2 g' e2 h2 n2 => ?_) (fun I2 e2 h2 => ?_))
    · refine AW.ifne1 (tgt := 36) dX12_isThingItem_31 (by decide) ?_
      have e13 := e12.tr e2
      refine AW.aload_n dX12_isThingItem_36 rfl rfl ?_
      refine g12_6 dX12_isThingItem_37 wF_X12_87 (by first | assumption | rfl | (unfold is12; omega)) ?_
      refine AW.top (n2) ?_
      refine AW.istore_n dX12_isThingItem_40 rfl (by decide) rfl rfl ?_
      refine AW.aload_n dX12_isThingItem_41 rfl rfl ?_
      refine AW.iconst (v := nI 1) dX12_isThingItem_42 (by decide) ?_
      show AW muX12_isThingItem _ _ 43 _ _ _ _
      refine AW.bipush (v := nI 9) dX12_isThingItem_43 (by decide) ?_
      refine cs_X12_isThingItem_45 (by first | exact k0_170) (by decide) (by decide) (Nat.le_of_ble_eq_true rfl) (s_X12_isDigit (lo := 1) (hi := 9) (by decide) (by decide) hV (hT.pm e13.fm) e13.2.2 hle2 (fun I3 d e3 h3 n3 => ?_) (fun I3 e3 h3 => ?_))
      · refine AW.ifne1 (tgt := 53) dX12_isThingItem_48 (by decide) ?_
        have e14 := e13.tr e3
        have hd3 := rdD_pos h3
        refine AW.aload_n dX12_isThingItem_53 rfl rfl ?_
        refine g12_6 dX12_isThingItem_54 wF_X12_87 (by first | assumption | rfl | (unfold is12; omega)) ?_
        refine AW.top (n3) ?_
        refine AW.istore_n dX12_isThingItem_57 rfl (by decide) rfl rfl ?_
        refine AW.aload_n dX12_isThingItem_58 rfl rfl ?_
        refine AW.iconst (v := nI 0) dX12_isThingItem_59 (by decide) ?_
        show AW muX12_isThingItem _ _ 60 _ _ _ _
        refine AW.iconst (v := nI 3) dX12_isThingItem_60 (by decide) ?_
        refine cs_X12_isThingItem_61 (by first | exact k0_170) (by decide) (by decide) (Nat.le_of_ble_eq_true rfl) (s_X12_isDigit (lo := 0) (hi := 3) (by decide) (by decide) hV (hT.pm e14.fm) e14.2.2 hle3 (fun I4 r e4 h4 n4 => ?_) (fun I4 e4 h4 => ?_))
        · refine AW.ifne1 (tgt := 69) dX12_isThingItem_64 (by decide) ?_
          refine AW.aload_n dX12_isThingItem_69 rfl rfl ?_
          refine g12_9 dX12_isThingItem_70 wF_X12_29 (by first | assumption | rfl | (unfold is12; omega)) ?_
          refine AW.iload_n dX12_isThingItem_73 rfl rfl ?_
          refine AW.iload_n dX12_isThingItem_74 rfl rfl ?_
          refine AW.iload_n dX12_isThingItem_75 rfl rfl ?_
          show AW muX12_isThingItem _ _ 76 _ _ _ _
          refine AW.aload_n dX12_isThingItem_76 rfl rfl ?_
          refine g12_6 dX12_isThingItem_77 wF_X12_87 (by first | assumption | rfl | (unfold is12; omega)) ?_
          refine AW.top (n4) ?_
          refine cs_X12_isThingItem_80 (by decide) (by decide) (Nat.le_of_ble_eq_true rfl) (s_X12_addThing isA_177 (by decide) (AS.rf (hN.pm (e14.tr e4))) h8 (by omega) (fun I5 h5 => ?_))
          refine AW.pop dX12_isThingItem_83 rfl ?_
          refine AW.iconst (v := nI 1) dX12_isThingItem_84 (by decide) ?_
          refine AW.iret dX12_isThingItem_85 ⟨_, rfl, by decide⟩ (Nat.zero_le _) (Nat.zero_le _) ⟨_, rfl, ?_⟩
          have hs : rdT f L p N = ((rdD f L 0 3 (rdD f L 1 9 (rdD f L 0 9 (rdK f L p).1).1).1).1, some (addT N k g' d r)) := by unfold rdT rdT3 rdT2 rdT1; simp only [h1', h2, h3, h4]
          exact q1 I5 _ (by rw [hs]) (FM.a h5 (e14.tr e4).fm) (by rw [hs, h5.f 170 (by omega)]; exact e4.2.2) h5.2
        · refine AW.ifne0 (tgt := 69) dX12_isThingItem_64 (by decide) ?_
          refine AW.iconst (v := nI 0) dX12_isThingItem_67 (by decide) ?_
          show AW muX12_isThingItem _ _ 68 _ _ _ _
          refine AW.iret dX12_isThingItem_68 ⟨_, rfl, by decide⟩ (Nat.zero_le _) (Nat.zero_le _) ⟨_, rfl, ?_⟩
          exact q2 I4 (by unfold rdT rdT3 rdT2 rdT1; simp only [h1', h2, h3, h4]) (e14.tr e4).fm (by unfold rdT rdT3 rdT2 rdT1; simp only [h1', h2, h3, h4]; exact e4.2.2)
      · refine AW.ifne0 (tgt := 53) dX12_isThingItem_48 (by decide) ?_
        refine AW.iconst (v := nI 0) dX12_isThingItem_51 (by decide) ?_
        refine AW.iret dX12_isThingItem_52 ⟨_, rfl, by decide⟩ (Nat.zero_le _) (Nat.zero_le _) ⟨_, rfl, ?_⟩
        exact q2 I3 (by unfold rdT rdT3 rdT2; simp only [h1', h2, h3]) (e13.tr e3).fm (by unfold rdT rdT3 rdT2; simp only [h1', h2, h3]; exact e3.2.2)
    · refine AW.ifne0 (tgt := 36) dX12_isThingItem_31 (by decide) ?_
      refine AW.iconst (v := nI 0) dX12_isThingItem_34 (by decide) ?_
      refine AW.iret dX12_isThingItem_35 ⟨_, rfl, by decide⟩ (Nat.zero_le _) (Nat.zero_le _) ⟨_, rfl, ?_⟩
      exact q2 I2 (by unfold rdT rdT3; simp only [h1', h2]) (e12.tr e2).fm (by unfold rdT rdT3; simp only [h1', h2]; exact e2.2.2)
  · have h1 := hkz hk1
    refine AW.istore_n dX12_isThingItem_7 rfl (by decide) rfl rfl ?_
    refine AW.iload_n dX12_isThingItem_8 rfl rfl ?_
    refine AW.neg1 (tgt := 14) dX12_isThingItem_9 (by decide) ?_
    refine AW.iconst (v := nI 0) dX12_isThingItem_12 (by decide) ?_
    exact AW.iret dX12_isThingItem_13 ⟨_, rfl, by decide⟩ (Nat.zero_le _) (Nat.zero_le _) ⟨_, rfl, q2 I1 (by unfold rdT; simp only [h1]) e1.fm (by unfold rdT; simp only [h1]; exact e1.2.2)⟩
theorem lp1_X12_isHouse (hV : TPV f L) {Q : Option Int32 → sd_S → Prop} : ∀ (m p : Nat) (N : Nat → Nat) (I : sd_I), 5 - N 36 < m → N 36 < 5 → N 47 = 0 → RDa I N → TM I f L → I 170 5 = nI p → p ≤ L → (∀ I', (rdL f L (rdS f L) (5 - N 36) p N).2 = none → FM I I' → I' 170 5 = nI (rdL f L (rdS f L) (5 - N 36) p N).1 → Q (some (nI 0)) (sk0, X, I', J)) → (∀ I' N', (rdL f L (rdS f L) (5 - N 36) p N).2 = some N' → FM I I' → I' 170 5 = nI (rdL f L (rdS f L) (5 - N 36) p N).1 → RDa I' N' → AW muX12_isHouse 0 0 44 [.ref 170, .int (nI 0)] [] (sk0, X, I', J) Q) → AW muX12_isHouse 0 0 2 [.ref 170, .int (nI 1)] [] (sk0, X, I, J) Q := by
  intro m
  induction m with
  | zero => intros; omega
  | succ m ih =>
    intro p N I hm hlt hin hN hT hP hp K1 K2
    have hle := rdS_le (f := f) (N := N) hp
    have hle2 := rdC_le (f := f) (c := 44) hle
    rw [show 5 - N 36 = (5 - N 36 - 1) + 1 by omega] at K1 K2
    refine AW.iload_n dX12_isHouse_2 rfl rfl ?_
    refine AW.ifeq1 (tgt := 44) dX12_isHouse_3 (by decide) ?_
    refine AW.aload_n dX12_isHouse_6 rfl rfl ?_
    refine cs_X12_isHouse_7 (by first | exact k0_170) (by decide) (by decide) (Nat.le_of_ble_eq_true rfl) (s_X12_isSleeperItem hN hlt hV hT hP hp (fun I1 N1 h1 f1 p1 r1 => ?_) (fun I1 h1 f1 p1 => ?_))
    · refine AW.ifne1 (tgt := 15) dX12_isHouse_10 (by decide) ?_
      obtain ⟨hi0, hi1⟩ : N1 36 = N 36 + 1 ∧ N1 47 = 0 := by obtain ⟨r, b, _, _, rfl⟩ := rdS_v h1; exact ⟨addS_36, by rw [addS_47 hlt]; exact hin⟩
      refine AW.aload_n dX12_isHouse_15 rfl rfl ?_
      refine g12_9 dX12_isHouse_16 wF_X12_29 (by first | assumption | rfl | (unfold is12; omega)) ?_
      refine AW.bipush (v := nI 36) dX12_isHouse_19 (by decide) ?_
      refine AW.iald dX12_isHouse_21 (by first | exact k0_177) _ (by first | rfl | assumption) (by omega) (by first | decide | omega) ?_
      refine AW.top (r1 _ (by decide)) ?_
      show AW muX12_isHouse _ _ 22 _ _ _ _
      refine AW.iconst (v := nI 5) dX12_isHouse_22 (by decide) ?_
      first | refine AW.icmp_geN (tgt := 39) dX12_isHouse_23 (by decide) (by omega) (by omega) (fun c23 => ?_) (fun c23 => ?_) | refine AW.icmp_ge (tgt := 39) dX12_isHouse_23 (by decide) (fun c23 => ?_) (fun c23 => ?_)
      · first
          | (have fin := K2 I2 N1 (by rw [rdL_no h1 (by omega) h2]) (f1.tr e2.fm) (by rw [rdL_no h1 (by omega) h2]; exact e2.2.2) (r1.pm e2)
             refine AW.iconst (v := nI 0) dX12_isHouse_39 (by decide) ?_
             refine AW.istore_n dX12_isHouse_40 rfl (by decide) rfl rfl ?_
             refine AW.goto (tgt := 2) dX12_isHouse_41 (by decide) ?_
             refine AW.iload_n dX12_isHouse_2 rfl rfl ?_
             refine AW.ifeq0 (tgt := 44) dX12_isHouse_3 (by decide) ?_
             exact fin)
          | (have fin := K2 I1 N1 (by rw [rdL_end h1 (by omega)]) f1 (by rw [rdL_end h1 (by omega)]; exact p1) r1
             refine AW.iconst (v := nI 0) dX12_isHouse_39 (by decide) ?_
             refine AW.istore_n dX12_isHouse_40 rfl (by decide) rfl rfl ?_
             refine AW.goto (tgt := 2) dX12_isHouse_41 (by decide) ?_
             refine AW.iload_n dX12_isHouse_2 rfl rfl ?_
             refine AW.ifeq0 (tgt := 44) dX12_isHouse_3 (by decide) ?_
             exact fin)
      · refine AW.aload_n dX12_isHouse_26 rfl rfl ?_
        refine AW.bipush (v := nI 44) dX12_isHouse_27 (by decide) ?_
        refine cs_X12_isHouse_29 (by first | exact k0_170) (by decide) (by decide) (Nat.le_of_ble_eq_true rfl) (s_X12_isSign (c := 44) (by decide) (by decide) hV (hT.pm f1) p1 hle (fun I2 e2 h2 => ?_) (fun I2 e2 h2 => ?_))
        · refine AW.ifeq1 (tgt := 39) dX12_isHouse_32 (by decide) ?_
          refine AW.iconst (v := nI 1) dX12_isHouse_35 (by decide) ?_
          refine AW.goto (tgt := 40) dX12_isHouse_36 (by decide) ?_
          refine AW.istore_n dX12_isHouse_40 rfl (by decide) rfl rfl ?_
          refine AW.goto (tgt := 2) dX12_isHouse_41 (by decide) ?_
          have hq := rdL_more (n := 5 - N 36 - 1) h1 (by omega) h2
          refine ih _ N1 I2 (by omega) (by omega) hi1 (r1.pm e2) ((hT.pm f1).pm e2.fm) e2.2.2 hle2 (fun I' a1 a2 a3 => ?_) (fun I' N' a1 a2 a3 a4 => ?_)
          · rw [show 5 - N1 36 = 5 - N 36 - 1 by omega] at a1 a3
            exact K1 I' (by rw [hq]; exact a1) ((f1.tr e2.fm).tr a2) (by rw [hq]; exact a3)
          · rw [show 5 - N1 36 = 5 - N 36 - 1 by omega] at a1 a3
            exact K2 I' N' (by rw [hq]; exact a1) ((f1.tr e2.fm).tr a2) (by rw [hq]; exact a3) a4
        · refine AW.ifeq0 (tgt := 39) dX12_isHouse_32 (by decide) ?_
          first
            | (have fin := K2 I2 N1 (by rw [rdL_no h1 (by omega) h2]) (f1.tr e2.fm) (by rw [rdL_no h1 (by omega) h2]; exact e2.2.2) (r1.pm e2)
               refine AW.iconst (v := nI 0) dX12_isHouse_39 (by decide) ?_
               refine AW.istore_n dX12_isHouse_40 rfl (by decide) rfl rfl ?_
               refine AW.goto (tgt := 2) dX12_isHouse_41 (by decide) ?_
               refine AW.iload_n dX12_isHouse_2 rfl rfl ?_
               refine AW.ifeq0 (tgt := 44) dX12_isHouse_3 (by decide) ?_
               exact fin)
            | (have fin := K2 I1 N1 (by rw [rdL_end h1 (by omega)]) f1 (by rw [rdL_end h1 (by omega)]; exact p1) r1
               refine AW.iconst (v := nI 0) dX12_isHouse_39 (by decide) ?_
               refine AW.istore_n dX12_isHouse_40 rfl (by decide) rfl rfl ?_
               refine AW.goto (tgt := 2) dX12_isHouse_41 (by decide) ?_
               refine AW.iload_n dX12_isHouse_2 rfl rfl ?_
               refine AW.ifeq0 (tgt := 44) dX12_isHouse_3 (by decide) ?_
               exact fin)
    · refine AW.ifne0 (tgt := 15) dX12_isHouse_10 (by decide) ?_
      refine AW.iconst (v := nI 0) dX12_isHouse_13 (by decide) ?_
      refine AW.iret dX12_isHouse_14 ⟨_, rfl, by decide⟩ (Nat.zero_le _) (Nat.zero_le _) ?_
      exact K1 I1 (by rw [rdL_bad h1]) f1 (by rw [rdL_bad h1]; exact p1)
theorem lp2_X12_isHouse (hV : TPV f L) {Q : Option Int32 → sd_S → Prop} : ∀ (m p : Nat) (N : Nat → Nat) (I : sd_I), 8 - N 47 < m → N 47 < 8 → N 36 ≤ 5 → RDa I N → TM I f L → I 170 5 = nI p → p ≤ L → (∀ I', (rdL f L (rdT f L) (8 - N 47) p N).2 = none → FM I I' → I' 170 5 = nI (rdL f L (rdT f L) (8 - N 47) p N).1 → Q (some (nI 0)) (sk0, X, I', J)) → (∀ I' N', (rdL f L (rdT f L) (8 - N 47) p N).2 = some N' → FM I I' → I' 170 5 = nI (rdL f L (rdT f L) (8 - N 47) p N).1 → RDa I' N' → AW muX12_isHouse 0 0 94 [.ref 170, .int (nI 0)] [] (sk0, X, I', J) Q) → AW muX12_isHouse 0 0 51 [.ref 170, .int (nI 1)] [] (sk0, X, I, J) Q := by
  intro m
  induction m with
  | zero => intros; omega
  | succ m ih =>
    intro p N I hm hlt hin hN hT hP hp K1 K2
    have hle := rdT_le (f := f) (N := N) hp
    have hle2 := rdC_le (f := f) (c := 44) hle
    rw [show 8 - N 47 = (8 - N 47 - 1) + 1 by omega] at K1 K2
    refine AW.iload_n dX12_isHouse_51 rfl rfl ?_
    refine AW.ifeq1 (tgt := 94) dX12_isHouse_52 (by decide) ?_
    refine AW.aload_n dX12_isHouse_55 rfl rfl ?_
    refine cs_X12_isHouse_56 (by first | exact k0_170) (by decide) (by decide) (Nat.le_of_ble_eq_true rfl) (s_X12_isThingItem hN hlt hV hT hP hp (fun I1 N1 h1 f1 p1 r1 => ?_) (fun I1 h1 f1 p1 => ?_))
    · refine AW.ifne1 (tgt := 64) dX12_isHouse_59 (by decide) ?_
      obtain ⟨hi0, hi1⟩ : N1 47 = N 47 + 1 ∧ N1 36 ≤ 5 := by obtain ⟨k, g, d, r, _, _, _, _, _, rfl⟩ := rdT_v h1; exact ⟨addT_47, by rw [addT_36 hlt]; exact hin⟩
      refine AW.aload_n dX12_isHouse_64 rfl rfl ?_
      refine g12_9 dX12_isHouse_65 wF_X12_29 (by first | assumption | rfl | (unfold is12; omega)) ?_
      refine AW.bipush (v := nI 47) dX12_isHouse_68 (by decide) ?_
      refine AW.iald dX12_isHouse_70 (by first | exact k0_177) _ (by first | rfl | assumption) (by omega) (by first | decide | omega) ?_
      refine AW.top (r1 _ (by decide)) ?_
      show AW muX12_isHouse _ _ 71 _ _ _ _
      refine AW.bipush (v := nI 8) dX12_isHouse_71 (by decide) ?_
      first | refine AW.icmp_geN (tgt := 89) dX12_isHouse_73 (by decide) (by omega) (by omega) (fun c73 => ?_) (fun c73 => ?_) | refine AW.icmp_ge (tgt := 89) dX12_isHouse_73 (by decide) (fun c73 => ?_) (fun c73 => ?_)
      · first
          | (have fin := K2 I2 N1 (by rw [rdL_no h1 (by omega) h2]) (f1.tr e2.fm) (by rw [rdL_no h1 (by omega) h2]; exact e2.2.2) (r1.pm e2)
             refine AW.iconst (v := nI 0) dX12_isHouse_89 (by decide) ?_
             refine AW.istore_n dX12_isHouse_90 rfl (by decide) rfl rfl ?_
             refine AW.goto (tgt := 51) dX12_isHouse_91 (by decide) ?_
             refine AW.iload_n dX12_isHouse_51 rfl rfl ?_
             refine AW.ifeq0 (tgt := 94) dX12_isHouse_52 (by decide) ?_
             exact fin)
          | (have fin := K2 I1 N1 (by rw [rdL_end h1 (by omega)]) f1 (by rw [rdL_end h1 (by omega)]; exact p1) r1
             refine AW.iconst (v := nI 0) dX12_isHouse_89 (by decide) ?_
             refine AW.istore_n dX12_isHouse_90 rfl (by decide) rfl rfl ?_
             refine AW.goto (tgt := 51) dX12_isHouse_91 (by decide) ?_
             refine AW.iload_n dX12_isHouse_51 rfl rfl ?_
             refine AW.ifeq0 (tgt := 94) dX12_isHouse_52 (by decide) ?_
             exact fin)
      · refine AW.aload_n dX12_isHouse_76 rfl rfl ?_
        refine AW.bipush (v := nI 44) dX12_isHouse_77 (by decide) ?_
        refine cs_X12_isHouse_79 (by first | exact k0_170) (by decide) (by decide) (Nat.le_of_ble_eq_true rfl) (s_X12_isSign (c := 44) (by decide) (by decide) hV (hT.pm f1) p1 hle (fun I2 e2 h2 => ?_) (fun I2 e2 h2 => ?_))
        · refine AW.ifeq1 (tgt := 89) dX12_isHouse_82 (by decide) ?_
          refine AW.iconst (v := nI 1) dX12_isHouse_85 (by decide) ?_
          refine AW.goto (tgt := 90) dX12_isHouse_86 (by decide) ?_
          refine AW.istore_n dX12_isHouse_90 rfl (by decide) rfl rfl ?_
          refine AW.goto (tgt := 51) dX12_isHouse_91 (by decide) ?_
          have hq := rdL_more (n := 8 - N 47 - 1) h1 (by omega) h2
          refine ih _ N1 I2 (by omega) (by omega) hi1 (r1.pm e2) ((hT.pm f1).pm e2.fm) e2.2.2 hle2 (fun I' a1 a2 a3 => ?_) (fun I' N' a1 a2 a3 a4 => ?_)
          · rw [show 8 - N1 47 = 8 - N 47 - 1 by omega] at a1 a3
            exact K1 I' (by rw [hq]; exact a1) ((f1.tr e2.fm).tr a2) (by rw [hq]; exact a3)
          · rw [show 8 - N1 47 = 8 - N 47 - 1 by omega] at a1 a3
            exact K2 I' N' (by rw [hq]; exact a1) ((f1.tr e2.fm).tr a2) (by rw [hq]; exact a3) a4
        · refine AW.ifeq0 (tgt := 89) dX12_isHouse_82 (by decide) ?_
          first
            | (have fin := K2 I2 N1 (by rw [rdL_no h1 (by omega) h2]) (f1.tr e2.fm) (by rw [rdL_no h1 (by omega) h2]; exact e2.2.2) (r1.pm e2)
               refine AW.iconst (v := nI 0) dX12_isHouse_89 (by decide) ?_
               refine AW.istore_n dX12_isHouse_90 rfl (by decide) rfl rfl ?_
               refine AW.goto (tgt := 51) dX12_isHouse_91 (by decide) ?_
               refine AW.iload_n dX12_isHouse_51 rfl rfl ?_
               refine AW.ifeq0 (tgt := 94) dX12_isHouse_52 (by decide) ?_
               exact fin)
            | (have fin := K2 I1 N1 (by rw [rdL_end h1 (by omega)]) f1 (by rw [rdL_end h1 (by omega)]; exact p1) r1
               refine AW.iconst (v := nI 0) dX12_isHouse_89 (by decide) ?_
               refine AW.istore_n dX12_isHouse_90 rfl (by decide) rfl rfl ?_
               refine AW.goto (tgt := 51) dX12_isHouse_91 (by decide) ?_
               refine AW.iload_n dX12_isHouse_51 rfl rfl ?_
               refine AW.ifeq0 (tgt := 94) dX12_isHouse_52 (by decide) ?_
               exact fin)
    · refine AW.ifne0 (tgt := 64) dX12_isHouse_59 (by decide) ?_
      refine AW.iconst (v := nI 0) dX12_isHouse_62 (by decide) ?_
      refine AW.iret dX12_isHouse_63 ⟨_, rfl, by decide⟩ (Nat.zero_le _) (Nat.zero_le _) ?_
      exact K1 I1 (by rw [rdL_bad h1]) f1 (by rw [rdL_bad h1]; exact p1)
theorem ih_94 {Q : Int32 → sd_S → Prop} {v1 : Int32} (hV : TPV f L) (hT : TM I f L) (hP : I 170 5 = nI p) (hp : p ≤ L) (q1 : ∀ I', PM I I' (skp f L p) → skp f L p = L → Q (nI 1) (sk0, X, I', J)) (q2 : ∀ I', PM I I' (skp f L p) → skp f L p ≠ L → Q (nI 0) (sk0, X, I', J)) : AW muX12_isHouse 0 0 94 [.ref 170, .int v1] [] (sk0, X, I, J) (fun r σ' => ∃ v, r = some v ∧ Q v σ') := by
  have hk := pkk_le (p := p) hV
  have hle := skp_le (f := f) hp
  have hz : (if skp f L p < L then f (skp f L p) else 0) = 0 ↔ skp f L p = L := by
    by_cases h : skp f L p < L
    · rw [if_pos h]; have := (hV.2 _ h).1; omega
    · rw [if_neg h]; omega
  generalize hg : (if skp f L p < L then f (skp f L p) else 0) = g at hk hz
  refine AW.aload_n dX12_isHouse_94 rfl rfl ?_
  refine cs_X12_isHouse_95 (by first | exact k0_170) (by decide) (by decide) (Nat.le_of_ble_eq_true rfl) (s_X12_peek hV hT hP hp (fun I1 e1 => ?_))
  rw [hg]
  first | refine AW.if_neN (tgt := 105) dX12_isHouse_98 (by decide) (by omega) (fun c98 => ?_) (fun c98 => ?_) | refine AW.if_ne (tgt := 105) dX12_isHouse_98 (by decide) (fun c98 => ?_) (fun c98 => ?_)
  · refine AW.iconst (v := nI 0) dX12_isHouse_105 (by decide) ?_
    refine AW.iret dX12_isHouse_106 ⟨_, rfl, by decide⟩ (Nat.zero_le _) (Nat.zero_le _) ⟨_, rfl, ?_⟩
    exact q2 I1 e1 (fun h => c98 (hz.mpr h))
  · refine AW.iconst (v := nI 1) dX12_isHouse_101 (by decide) ?_
    refine AW.goto (tgt := 106) dX12_isHouse_102 (by decide) ?_
    refine AW.iret dX12_isHouse_106 ⟨_, rfl, by decide⟩ (Nat.zero_le _) (Nat.zero_le _) ⟨_, rfl, ?_⟩
    exact q1 I1 e1 (hz.mp c98)
theorem s_X12_isHouse {Q : Int32 → sd_S → Prop} (hN : RDa I N) (hz : N 36 = 0 ∧ N 47 = 0) (hV : TPV f L) (hT : TM I f L) (hP : I 170 5 = nI 0) (q1 : ∀ I' N', (rdH f L N).2 = some N' → FM I I' → I' 170 5 = nI (rdH f L N).1 → RDa I' N' → Q (nI 1) (sk0, X, I', J)) (q2 : ∀ I', (rdH f L N).2 = none → FM I I' → I' 170 5 = nI (rdH f L N).1 → Q (nI 0) (sk0, X, I', J)) : AWi muX12_isHouse [.ref 170] (sk0, X, I, J) Q := by
  have hle := rdL_le (f := f) (fun p N => rdS_le (f := f) (p := p) (N := N)) 5 0 N (Nat.zero_le L)
  have hle2 := rdC_le (f := f) (c := 59) hle
  show AW muX12_isHouse 0 0 0 [.ref 170, .null] [] _ _
  refine AW.iconst (v := nI 1) dX12_isHouse_0 (by decide) ?_
  refine AW.istore_n dX12_isHouse_1 rfl (by decide) rfl rfl ?_
  refine lp1_X12_isHouse hV 6 0 N I (by omega) (by omega) hz.2 hN hT hP (Nat.zero_le _) (fun I1 h1 f1 p1 => ?_) (fun I1 N1 h1 f1 p1 r1 => ?_)
  · rw [hz.1] at h1 p1
    exact ⟨_, rfl, q2 I1 (by unfold rdH; simp only [h1]) f1 (by unfold rdH; simp only [h1]; exact p1)⟩
  · rw [hz.1] at h1 p1
    have hN1 := rdLS_36 hz.1 hz.2 h1
    refine AW.aload_n dX12_isHouse_44 rfl rfl ?_
    refine AW.bipush (v := nI 59) dX12_isHouse_45 (by decide) ?_
    refine cs_X12_isHouse_47 (by first | exact k0_170) (by decide) (by decide) (Nat.le_of_ble_eq_true rfl) (s_X12_isSign (c := 59) (by decide) (by decide) hV (hT.pm f1) p1 hle (fun I2 e2 h2 => ?_) (fun I2 e2 h2 => ?_))
    · refine AW.istore_n dX12_isHouse_50 rfl (by decide) rfl rfl ?_
      have hle3 := rdL_le (f := f) (fun p N => rdT_le (f := f) (p := p) (N := N)) 8 _ N1 hle2
      refine lp2_X12_isHouse hV 9 _ N1 I2 (by omega) (by omega) hN1.1 (r1.pm e2) ((hT.pm f1).pm e2.fm) e2.2.2 hle2 (fun I3 h3 f3 p3 => ?_) (fun I3 N3 h3 f3 p3 r3 => ?_)
      · rw [hN1.2] at h3 p3
        exact ⟨_, rfl, q2 I3 (by unfold rdH; simp only [h1]; unfold rdH2; simp only [h2, h3]) ((f1.tr e2.fm).tr f3) (by unfold rdH; simp only [h1]; unfold rdH2; simp only [h2, h3]; exact p3)⟩
      · rw [hN1.2] at h3 p3
        have ew : rdH f L N = rdE f L (rdL f L (rdT f L) 8 (rdC f L 59 (rdL f L (rdS f L) 5 0 N).1).1 N1).1 N3 := by unfold rdH; simp only [h1]; unfold rdH2; simp only [h2, h3]
        exact ih_94 hV (((hT.pm f1).pm e2.fm).pm f3) p3 hle3 (fun I' g1 g2 => q1 I' N3 (by rw [ew]; unfold rdE; simp only [g2, if_true]) (((f1.tr e2.fm).tr f3).tr g1.fm) (by rw [ew]; exact g1.2.2) (r3.pm g1)) (fun I' g1 g2 => q2 I' (by rw [ew]; unfold rdE; simp only [g2, if_false]) (((f1.tr e2.fm).tr f3).tr g1.fm) (by rw [ew]; exact g1.2.2))
    · refine AW.istore_n dX12_isHouse_50 rfl (by decide) rfl rfl ?_
      refine AW.iload_n dX12_isHouse_51 rfl rfl ?_
      refine AW.ifeq0 (tgt := 94) dX12_isHouse_52 (by decide) ?_
      have ew : rdH f L N = rdE f L (rdC f L 59 (rdL f L (rdS f L) 5 0 N).1).1 N1 := by unfold rdH; simp only [h1]; unfold rdH2; simp only [h2]
      exact ih_94 hV ((hT.pm f1).pm e2.fm) e2.2.2 hle2 (fun I' g1 g2 => q1 I' N1 (by rw [ew]; unfold rdE; simp only [g2, if_true]) ((f1.tr e2.fm).tr g1.fm) (by rw [ew]; exact g1.2.2) ((r1.pm e2).pm g1)) (fun I' g1 g2 => q2 I' (by rw [ew]; unfold rdE; simp only [g2, if_false]) ((f1.tr e2.fm).tr g1.fm) (by rw [ew]; exact g1.2.2))
theorem lp_X12_house {Q : Option Int32 → sd_S → Prop} {I0 : sd_I} (K : ∀ I', AS I0 I' 177 353 (fun _ => 0) → AW muX12_house 0 0 22 [.ref 170, .int (nI 353)] [] (sk0, X, I', J) Q) : ∀ (m k : Nat) (I : sd_I), 353 - k < m → k ≤ 353 → AS I0 I 177 k (fun _ => 0) → AW muX12_house 0 0 2 [.ref 170, .int (nI k)] [] (sk0, X, I, J) Q := by
  intro m
  induction m with
  | zero => intros; omega
  | succ m ih =>
    intro k I hm hk hA
    refine AW.iload_n dX12_house_2 rfl rfl ?_
    refine AW.sipush (v := nI 353) dX12_house_3 (by decide) ?_
    first | refine AW.icmp_geN (tgt := 22) dX12_house_6 (by decide) (by omega) (by omega) (fun c6 => ?_) (fun c6 => ?_) | refine AW.icmp_ge (tgt := 22) dX12_house_6 (by decide) (fun c6 => ?_) (fun c6 => ?_)
    · obtain rfl : k = 353 := by omega
      exact K I hA
    · refine AW.aload_n dX12_house_9 rfl rfl ?_
      refine g12_9 dX12_house_10 wF_X12_29 (by first | assumption | rfl | (unfold is12; omega)) ?_
      refine AW.iload_n dX12_house_13 rfl rfl ?_
      refine AW.iconst (v := nI 0) dX12_house_14 (by decide) ?_
      show AW muX12_house _ _ 15 _ _ _ _
      refine AW.iast dX12_house_15 (by first | exact k0_177) _ (by first | rfl | assumption) (by omega) (by first | decide | omega) ?_
      first | refine AW.iincN dX12_house_16 rfl (by decide) rfl rfl ?_ | refine AW.iinc dX12_house_16 rfl rfl (by decide) rfl rfl ?_
      refine AW.goto (tgt := 2) dX12_house_19 (by decide) ?_
      refine ih (k + 1) _ (by omega) (by omega) ⟨hA.1.up (Nat.le_refl _) (Nat.le_refl _), fun j hj => ?_⟩
      rw [sd_u_eq]; dsimp only
      by_cases e : j = k
      · rw [if_pos e]
      · rw [if_neg e]; exact hA.2 j (by omega)
theorem m_house {Q : Int32 → sd_S → Prop} (hV : TPV f L) (hT : TM I f L) (hM : MD I N) (q1 : (rdH f L (zrN (N 1))).2 = none → ∀ I', (∀ c, c ≠ 170 → c ≠ 177 → I' c = I c) → (∀ k, k ≠ 3 → k ≠ 5 → k ≠ 6 → I' 170 k = I 170 k) → I' 170 3 = nI 0 → Q (-20 - nI (rdH f L (zrN (N 1))).1) (sk0, X, I', J)) (q2 : ∀ N', (rdH f L (zrN (N 1))).2 = some N' → ∀ I', (∀ c, c ≠ 170 → c ≠ 177 → c ≠ 175 → I' c = I c) → (∀ k, k ≠ 3 → k ≠ 5 → k ≠ 6 → I' 170 k = I 170 k) → I' 170 3 = nI 0 → MD I' N' → Q (nI (N' 36)) (sk0, X, I', J)) : AWi muX12_house [.ref 170] (sk0, X, I, J) Q := by
  show AW muX12_house 0 0 0 [.ref 170, .null] [] _ _
  refine AW.iconst (v := nI 0) dX12_house_0 (by decide) ?_
  refine AW.istore_n dX12_house_1 rfl (by decide) rfl rfl ?_
  refine lp_X12_house (fun I1 h1 => ?_) 354 0 I (by omega) (by omega) ⟨Fr.rf, fun j hj => absurd hj (by omega)⟩
  refine AW.aload_n dX12_house_22 rfl rfl ?_
  refine g12_9 dX12_house_23 wF_X12_29 (by first | assumption | rfl | (unfold is12; omega)) ?_
  refine AW.iconst (v := nI 1) dX12_house_26 (by decide) ?_
  refine AW.aload_n dX12_house_27 rfl rfl ?_
  show AW muX12_house _ _ 28 _ _ _ _
  refine g12_7 dX12_house_28 wF_X12_23 (by first | assumption | rfl | (unfold is12; omega)) ?_
  refine AW.iconst (v := nI 1) dX12_house_31 (by decide) ?_
  refine AW.iald dX12_house_32 (by first | exact k0_175) _ (by first | rfl | assumption) (by omega) (by first | decide | omega) ?_
  refine AW.top (show _ = nI (N 1) by rw [h1.f 175 (by omega)]; exact hM 1 (by decide)) ?_
  refine AW.ast dX12_house_33 (by first | exact isA_175 | exact isA_176 | exact isA_177 | assumption) (by assumption) (by omega) (fun I33 hA33 => ?_)
  have h2 : AS I I33 177 353 (zrN (N 1)) := hA33.to (fun k _ => by
    unfold zrN clrN
    by_cases e1 : k = 1
    · subst e1; rw [upN_eq, upN_eq]
    · rw [upN_ne e1, upN_ne e1]
      unfold upN
      split
      · rfl
      · split
        · rfl
        · split <;> rfl)
  refine AW.aload_n dX12_house_34 rfl rfl ?_
  refine AW.iconst (v := nI 0) dX12_house_35 (by decide) ?_
  show AW muX12_house _ _ 36 _ _ _ _
  refine p12_5 dX12_house_36 wF_X12_80 (by first | assumption | rfl | (unfold is12; omega)) ?_
  have e3 : PM I33 (sd_u I33 170 5 (nI 0)) 0 := PM.u
  have g3 : FM I (sd_u I33 170 5 (nI 0)) := (FM.a h2 FM.rf).tr e3.fm
  have r3 : RDa (sd_u I33 170 5 (nI 0)) (zrN (N 1)) := RDa.pm (I := I33) h2.2 e3
  have p3 := e3.2.2
  generalize sd_u I33 170 5 (nI 0) = I3 at g3 r3 p3 ⊢
  refine AW.aload_n dX12_house_39 rfl rfl ?_
  refine cs_X12_house_40 (by first | exact k0_170) (by decide) (by decide) (Nat.le_of_ble_eq_true rfl) (s_X12_isHouse r3 ⟨by unfold zrN clrN; (repeat first | rw [ru_ne (by omega)] | rw [ru_j] | rw [ru_ij (by omega)] | rw [upN_ne (by omega)] | rw [upN_eq] | rw [rr_ne (by omega)] | rw [rr_eq] | rw [sb_cpy0 (by omega)]), by unfold zrN clrN; (repeat first | rw [ru_ne (by omega)] | rw [ru_j] | rw [ru_ij (by omega)] | rw [upN_ne (by omega)] | rw [upN_eq] | rw [rr_ne (by omega)] | rw [rr_eq] | rw [sb_cpy0 (by omega)])⟩ hV (hT.pm g3) p3 (fun I4 N4 h4 f4 p4 r4 => ?_) (fun I4 h4 f4 p4 => ?_))
  · refine AW.istore_n dX12_house_43 rfl (by decide) rfl rfl ?_
    have g5 := g3.tr f4
    refine AW.aload_n dX12_house_44 rfl rfl ?_
    refine AW.iconst (v := nI 0) dX12_house_45 (by decide) ?_
    refine p12_3 dX12_house_46 wF_X12_76 (by first | assumption | rfl | (unfold is12; omega)) ?_
    show AW muX12_house _ _ 49 _ _ _ _
    have u1 : ∀ c, c ≠ 170 → c ≠ 177 → sd_u I4 170 3 (nI 0) c = I c := fun c h1 h2 => (sd_u_ne h1).trans (g5.1 c h1 h2)
    have u2 : ∀ k, k ≠ 3 → k ≠ 5 → k ≠ 6 → sd_u I4 170 3 (nI 0) 170 k = I 170 k := fun k h1 h2 h3 => by rw [← g5.2 k h2 h3]; (repeat first | rw [ru_ne (by omega)] | rw [ru_j] | rw [ru_ij (by omega)] | rw [upN_ne (by omega)] | rw [upN_eq] | rw [rr_ne (by omega)] | rw [rr_eq] | rw [sb_cpy0 (by omega)])
    have u3 : sd_u I4 170 3 (nI 0) 170 3 = nI 0 := by (repeat first | rw [ru_ne (by omega)] | rw [ru_j] | rw [ru_ij (by omega)] | rw [upN_ne (by omega)] | rw [upN_eq] | rw [rr_ne (by omega)] | rw [rr_eq] | rw [sb_cpy0 (by omega)])
    have u4 : RDa (sd_u I4 170 3 (nI 0)) N4 := fun k hk => by rw [sd_u_ne (by decide)]; exact r4 k hk
    generalize sd_u I4 170 3 (nI 0) = I5 at u1 u2 u3 u4 ⊢
    refine AW.iload_n dX12_house_49 rfl rfl ?_
    refine AW.ifne1 (tgt := 61) dX12_house_50 (by decide) ?_
    refine AW.aload_n dX12_house_61 rfl rfl ?_
    refine g12_9 dX12_house_62 wF_X12_29 (by first | assumption | rfl | (unfold is12; omega)) ?_
    refine AW.iconst (v := nI 0) dX12_house_65 (by decide) ?_
    refine AW.aload_n dX12_house_66 rfl rfl ?_
    refine g12_7 dX12_house_67 wF_X12_23 (by first | assumption | rfl | (unfold is12; omega)) ?_
    show AW muX12_house _ _ 70 _ _ _ _
    refine AW.iconst (v := nI 0) dX12_house_70 (by decide) ?_
    refine AW.sipush (v := nI 353) dX12_house_71 (by decide) ?_
    refine cs_X12_house_74 (by decide) (by decide) (Nat.le_of_ble_eq_true rfl) (s_X12_bringD (i := 0) (j := 0) (n := 353) (A := N4) isA_177 isA_175 (by decide) (by decide) (by decide) (fun q hq => by rw [Nat.zero_add]; exact u4 q hq) (fun I6 w1 w2 w3 => ?_))
    have w4 : MD I6 N4 := fun k hk => by have := w2 k hk; rw [Nat.zero_add] at this; exact this
    refine AW.aload_n dX12_house_77 rfl rfl ?_
    refine g12_7 dX12_house_78 wF_X12_23 (by first | assumption | rfl | (unfold is12; omega)) ?_
    refine AW.bipush (v := nI 36) dX12_house_81 (by decide) ?_
    show AW muX12_house _ _ 83 _ _ _ _
    refine AW.iald dX12_house_83 (by first | exact k0_175) _ (by first | rfl | assumption) (by omega) (by first | decide | omega) ?_
    refine AW.top (w4 36 (by decide)) ?_
    refine AW.iret dX12_house_84 ⟨_, rfl, rfl⟩ (Nat.zero_le _) (Nat.zero_le _) ⟨_, rfl, ?_⟩
    exact q2 N4 h4 I6 (fun c h1 h2 h3 => (w1 c (by omega)).trans (u1 c h1 h2)) (fun k h1 h2 h3 => by rw [w1 170 (by omega)]; exact u2 k h1 h2 h3) (by rw [w1 170 (by omega)]; exact u3) w4
  · refine AW.istore_n dX12_house_43 rfl (by decide) rfl rfl ?_
    refine AW.aload_n dX12_house_44 rfl rfl ?_
    refine AW.iconst (v := nI 0) dX12_house_45 (by decide) ?_
    refine p12_3 dX12_house_46 wF_X12_76 rfl ?_
    refine AW.iload_n dX12_house_49 rfl rfl ?_
    refine AW.ifne0 (tgt := 61) dX12_house_50 (by decide) ?_
    refine AW.bipush (v := (-20)) dX12_house_53 (by decide) ?_
    refine AW.aload_n dX12_house_55 rfl rfl ?_
    refine g12_5 dX12_house_56 wF_X12_80 rfl ?_
    refine AW.top (show _ = nI (rdH f L (zrN (N 1))).1 by (repeat first | rw [ru_ne (by omega)] | rw [ru_j] | rw [ru_ij (by omega)] | rw [upN_ne (by omega)] | rw [upN_eq] | rw [rr_ne (by omega)] | rw [rr_eq] | rw [sb_cpy0 (by omega)]); exact p4) ?_
    refine AW.isub dX12_house_59 ?_
    have g5 := g3.tr f4
    exact AW.iret dX12_house_60 ⟨_, rfl, rfl⟩ (Nat.zero_le _) (Nat.zero_le _) ⟨_, rfl, q1 h4 _ (fun c h1 h2 => (sd_u_ne h1).trans (g5.1 c h1 h2)) (fun k h1 h2 h3 => by rw [← g5.2 k h2 h3]; (repeat first | rw [ru_ne (by omega)] | rw [ru_j] | rw [ru_ij (by omega)] | rw [upN_ne (by omega)] | rw [upN_eq] | rw [rr_ne (by omega)] | rw [rr_eq] | rw [sb_cpy0 (by omega)])) (by (repeat first | rw [ru_ne (by omega)] | rw [ru_j] | rw [ru_ij (by omega)] | rw [upN_ne (by omega)] | rw [upN_eq] | rw [rr_ne (by omega)] | rw [rr_eq] | rw [sb_cpy0 (by omega)]))⟩
theorem m_type {Q : Int32 → sd_S → Prop} {x : Int32} (hV : TPV f L) (hT : TM I f L) (q1 : ¬ inR x 32 127 → Q (-1) (sk0, X, I, J)) (q2 : inR x 32 127 → L = 80 → Q (-3) (sk0, X, I, J)) (q3 : ∀ c, 32 ≤ c → c < 127 → x = nI c → L < 80 → ∀ I', (∀ c, c ≠ 170 → c ≠ 174 → I' c = I c) → (∀ k, k ≠ 3 → I' 170 k = I 170 k) → TM I' (upN f L c) (L + 1) → Q (nI (L + 1)) (sk0, X, I', J)) : AWi muX12_type [.ref 170, .int x] (sk0, X, I, J) Q := by
  have h80 := hV.1
  show AW muX12_type 0 0 0 [.ref 170, .int x] [] _ _
  refine AW.iload_n dX12_type_0 rfl rfl ?_
  refine AW.bipush (v := nI 32) dX12_type_1 (by decide) ?_
  refine AW.bipush (v := nI 126) dX12_type_3 (by decide) ?_
  refine cs_X12_type_5 (by decide) (by decide) (Nat.le_of_ble_eq_true rfl) (s_X12_in (lo := 32) (hi := 127) (by decide) (by decide) (by decide) (fun c hc1 hc2 ec => ?_) (fun hn => ?_))
  · refine AW.ifne1 (tgt := 13) dX12_type_8 (by decide) ?_
    subst ec
    refine AW.aload_n dX12_type_13 rfl rfl ?_
    refine g12_3 dX12_type_14 wF_X12_76 (by first | assumption | rfl | (unfold is12; omega)) ?_
    first | refine AW.top (by first | exact hT.1 | (show _ = nI L; (repeat first | rw [ru_ne (by omega)] | rw [ru_j] | rw [ru_ij (by omega)] | rw [upN_ne (by omega)] | rw [upN_eq] | rw [rr_ne (by omega)] | rw [rr_eq] | rw [sb_cpy0 (by omega)]); exact hT.1) | (show _ = nI (L + 1); (repeat first | rw [ru_ne (by omega)] | rw [ru_j] | rw [ru_ij (by omega)] | rw [upN_ne (by omega)] | rw [upN_eq] | rw [rr_ne (by omega)] | rw [rr_eq] | rw [sb_cpy0 (by omega)]))) ?_ | skip
    refine AW.bipush (v := nI 80) dX12_type_17 (by decide) ?_
    show AW muX12_type _ _ 19 _ _ _ _
    first | refine AW.icmp_neN (tgt := 25) dX12_type_19 (by decide) (by omega) (by omega) (fun c19 => ?_) (fun c19 => ?_) | refine AW.icmp_ne (tgt := 25) dX12_type_19 (by decide) (fun c19 => ?_) (fun c19 => ?_)
    · refine AW.aload_n dX12_type_25 rfl rfl ?_
      refine g12_4 dX12_type_26 wF_X12_20 (by first | assumption | rfl | (unfold is12; omega)) ?_
      refine AW.aload_n dX12_type_29 rfl rfl ?_
      refine g12_3 dX12_type_30 wF_X12_76 (by first | assumption | rfl | (unfold is12; omega)) ?_
      first | refine AW.top (by first | exact hT.1 | (show _ = nI L; (repeat first | rw [ru_ne (by omega)] | rw [ru_j] | rw [ru_ij (by omega)] | rw [upN_ne (by omega)] | rw [upN_eq] | rw [rr_ne (by omega)] | rw [rr_eq] | rw [sb_cpy0 (by omega)]); exact hT.1) | (show _ = nI (L + 1); (repeat first | rw [ru_ne (by omega)] | rw [ru_j] | rw [ru_ij (by omega)] | rw [upN_ne (by omega)] | rw [upN_eq] | rw [rr_ne (by omega)] | rw [rr_eq] | rw [sb_cpy0 (by omega)]))) ?_ | skip
      refine AW.iload_n dX12_type_33 rfl rfl ?_
      refine AW.iast dX12_type_34 (by first | exact k0_174) _ (by first | rfl | assumption) (by omega) (by first | decide | omega) ?_
      show AW muX12_type _ _ 35 _ _ _ _
      refine AW.aload_n dX12_type_35 rfl rfl ?_
      refine AW.dup dX12_type_36 rfl ?_
      refine g12_3 dX12_type_37 wF_X12_76 (by first | assumption | rfl | (unfold is12; omega)) ?_
      first | refine AW.top (by first | exact hT.1 | (show _ = nI L; (repeat first | rw [ru_ne (by omega)] | rw [ru_j] | rw [ru_ij (by omega)] | rw [upN_ne (by omega)] | rw [upN_eq] | rw [rr_ne (by omega)] | rw [rr_eq] | rw [sb_cpy0 (by omega)]); exact hT.1) | (show _ = nI (L + 1); (repeat first | rw [ru_ne (by omega)] | rw [ru_j] | rw [ru_ij (by omega)] | rw [upN_ne (by omega)] | rw [upN_eq] | rw [rr_ne (by omega)] | rw [rr_eq] | rw [sb_cpy0 (by omega)]))) ?_ | skip
      refine AW.iconst (v := nI 1) dX12_type_40 (by decide) ?_
      first | refine AW.iaddN dX12_type_41 ?_ | refine AW.iadd dX12_type_41 ?_
      refine p12_3 dX12_type_42 wF_X12_76 (by first | assumption | rfl | (unfold is12; omega)) ?_
      show AW muX12_type _ _ 45 _ _ _ _
      refine AW.aload_n dX12_type_45 rfl rfl ?_
      refine g12_3 dX12_type_46 wF_X12_76 (by first | assumption | rfl | (unfold is12; omega)) ?_
      first | refine AW.top (by first | exact hT.1 | (show _ = nI L; (repeat first | rw [ru_ne (by omega)] | rw [ru_j] | rw [ru_ij (by omega)] | rw [upN_ne (by omega)] | rw [upN_eq] | rw [rr_ne (by omega)] | rw [rr_eq] | rw [sb_cpy0 (by omega)]); exact hT.1) | (show _ = nI (L + 1); (repeat first | rw [ru_ne (by omega)] | rw [ru_j] | rw [ru_ij (by omega)] | rw [upN_ne (by omega)] | rw [upN_eq] | rw [rr_ne (by omega)] | rw [rr_eq] | rw [sb_cpy0 (by omega)]))) ?_ | skip
      refine AW.iret dX12_type_49 ⟨_, rfl, rfl⟩ (Nat.zero_le _) (Nat.zero_le _) ⟨_, rfl, ?_⟩
      refine q3 c hc1 hc2 rfl (by omega) _ (fun q h1 h2 => (sd_u_ne h1).trans (sd_u_ne h2)) (fun k hk => by (repeat first | rw [ru_ne (by omega)] | rw [ru_j] | rw [ru_ij (by omega)] | rw [upN_ne (by omega)] | rw [upN_eq] | rw [rr_ne (by omega)] | rw [rr_eq] | rw [sb_cpy0 (by omega)])) ⟨by (repeat first | rw [ru_ne (by omega)] | rw [ru_j] | rw [ru_ij (by omega)] | rw [upN_ne (by omega)] | rw [upN_eq] | rw [rr_ne (by omega)] | rw [rr_eq] | rw [sb_cpy0 (by omega)]), fun k hk => ?_⟩
      by_cases hkL : k = L
      · subst hkL; rw [upN_eq]; (repeat first | rw [ru_ne (by omega)] | rw [ru_j] | rw [ru_ij (by omega)] | rw [upN_ne (by omega)] | rw [upN_eq] | rw [rr_ne (by omega)] | rw [rr_eq] | rw [sb_cpy0 (by omega)])
      · rw [upN_ne hkL, ← hT.2 k (by omega)]; (repeat first | rw [ru_ne (by omega)] | rw [ru_j] | rw [ru_ij (by omega)] | rw [upN_ne (by omega)] | rw [upN_eq] | rw [rr_ne (by omega)] | rw [rr_eq] | rw [sb_cpy0 (by omega)])
    · refine AW.bipush (v := (-3)) dX12_type_22 (by decide) ?_
      refine AW.iret dX12_type_24 ⟨_, rfl, rfl⟩ (Nat.zero_le _) (Nat.zero_le _) ⟨_, rfl, ?_⟩
      exact q2 ⟨c, hc1, hc2, rfl⟩ (by omega)
  · refine AW.ifne0 (tgt := 13) dX12_type_8 (by decide) ?_
    refine AW.iconst (v := (-1)) dX12_type_11 (by decide) ?_
    refine AW.iret dX12_type_12 ⟨_, rfl, rfl⟩ (Nat.zero_le _) (Nat.zero_le _) ⟨_, rfl, ?_⟩
    exact q1 hn
end Mod7
