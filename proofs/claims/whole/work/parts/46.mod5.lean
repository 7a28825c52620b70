-- the model's own calls: sheets
def SHM (I : sd_I) (J : sd_J) (sh : Nat → Nat × Nat × Nat × (Nat → Int64)) : Prop := ∀ s, s < 4 → I 171 s = (if (sh s).1 = 0 then -1 else nI (sh s).2.1) ∧ I 172 s = nI (sh s).2.2.1 ∧ ∀ i, i < 24 → J 173 (24 * s + i) = (sh s).2.2.2 i
section Mod5
variable {X : Nat × (Nat → Int32)} {I : sd_I} {J : sd_J} {N : Nat → Nat} {sh : Nat → Nat × Nat × Nat × (Nat → Int64)} {Q : Int32 → sd_S → Prop}
theorem s_X12_isPart {C : List sd_C} {x y : Int32} {len : Nat} (hl : len ≤ 24) (hT : ∀ i k, x = nI i → y = nI k → i + k ≤ len → Q (nI 1) (C, X, I, J)) (hF : ¬ spanP x y len → Q (nI 0) (C, X, I, J)) : AWi muX12_isPart [.int x, .int y, .int (nI len)] (C, X, I, J) Q := by
  show AW muX12_isPart 0 0 0 [.int x, .int y, .int (nI len)] [] _ _
  refine AW.iload_n dX12_isPart_0 rfl rfl ?_
  refine AW.if_lt (tgt := 24) dX12_isPart_1 (by decide) (fun c1 => ?_) (fun c1 => ?_)
  · refine AW.iconst (v := nI 0) dX12_isPart_24 (by decide) ?_
    refine AW.iret dX12_isPart_25 ⟨_, rfl, by decide⟩ (Nat.zero_le _) (Nat.zero_le _) ⟨_, rfl, ?_⟩
    refine hF ?_
    rintro ⟨i', k', e1, e2, h⟩
    first | (subst e2; exact absurd c1 (nI_pos (by omega))) | (subst e1; exact absurd c5 (nI_pos (by omega))) | (have g1 := (nI_eq hi (by omega)).mp e1; have g2 := (nI_eq hk (by omega)).mp e2; omega) | (have g2 := (nI_eq hk (by omega)).mp e2; omega)
  · obtain ⟨k, hk, rfl⟩ := nI_of c1
    refine AW.iload_n dX12_isPart_4 rfl rfl ?_
    refine AW.if_lt (tgt := 24) dX12_isPart_5 (by decide) (fun c5 => ?_) (fun c5 => ?_)
    · refine AW.iconst (v := nI 0) dX12_isPart_24 (by decide) ?_
      refine AW.iret dX12_isPart_25 ⟨_, rfl, by decide⟩ (Nat.zero_le _) (Nat.zero_le _) ⟨_, rfl, ?_⟩
      refine hF ?_
      rintro ⟨i', k', e1, e2, h⟩
      first | (subst e2; exact absurd c1 (nI_pos (by omega))) | (subst e1; exact absurd c5 (nI_pos (by omega))) | (have g1 := (nI_eq hi (by omega)).mp e1; have g2 := (nI_eq hk (by omega)).mp e2; omega) | (have g2 := (nI_eq hk (by omega)).mp e2; omega)
    · obtain ⟨i, hi, rfl⟩ := nI_of c5
      refine AW.iload_n dX12_isPart_8 rfl rfl ?_
      refine AW.iload_n dX12_isPart_9 rfl rfl ?_
      show AW muX12_isPart _ _ 10 _ _ _ _
      first | refine AW.icmp_gtN (tgt := 24) dX12_isPart_10 (by decide) (by omega) (by omega) (fun c10 => ?_) (fun c10 => ?_) | refine AW.icmp_gt (tgt := 24) dX12_isPart_10 (by decide) (fun c10 => ?_) (fun c10 => ?_)
      · refine AW.iconst (v := nI 0) dX12_isPart_24 (by decide) ?_
        refine AW.iret dX12_isPart_25 ⟨_, rfl, by decide⟩ (Nat.zero_le _) (Nat.zero_le _) ⟨_, rfl, ?_⟩
        refine hF ?_
        rintro ⟨i', k', e1, e2, h⟩
        first | (subst e2; exact absurd c1 (nI_pos (by omega))) | (subst e1; exact absurd c5 (nI_pos (by omega))) | (have g1 := (nI_eq hi (by omega)).mp e1; have g2 := (nI_eq hk (by omega)).mp e2; omega) | (have g2 := (nI_eq hk (by omega)).mp e2; omega)
      · refine AW.iload_n dX12_isPart_13 rfl rfl ?_
        refine AW.iload_n dX12_isPart_14 rfl rfl ?_
        refine AW.iload_n dX12_isPart_15 rfl rfl ?_
        first | refine AW.isubN dX12_isPart_16 (by omega) ?_ | refine AW.isub dX12_isPart_16 ?_
        first | refine AW.icmp_gtN (tgt := 24) dX12_isPart_17 (by decide) (by omega) (by omega) (fun c17 => ?_) (fun c17 => ?_) | refine AW.icmp_gt (tgt := 24) dX12_isPart_17 (by decide) (fun c17 => ?_) (fun c17 => ?_)
        · refine AW.iconst (v := nI 0) dX12_isPart_24 (by decide) ?_
          show AW muX12_isPart _ _ 25 _ _ _ _
          refine AW.iret dX12_isPart_25 ⟨_, rfl, by decide⟩ (Nat.zero_le _) (Nat.zero_le _) ⟨_, rfl, ?_⟩
          refine hF ?_
          rintro ⟨i', k', e1, e2, h⟩
          first | (subst e2; exact absurd c1 (nI_pos (by omega))) | (subst e1; exact absurd c5 (nI_pos (by omega))) | (have g1 := (nI_eq hi (by omega)).mp e1; have g2 := (nI_eq hk (by omega)).mp e2; omega) | (have g2 := (nI_eq hk (by omega)).mp e2; omega)
        · refine AW.iconst (v := nI 1) dX12_isPart_20 (by decide) ?_
          refine AW.goto (tgt := 25) dX12_isPart_21 (by decide) ?_
          refine AW.iret dX12_isPart_25 ⟨_, rfl, by decide⟩ (Nat.zero_le _) (Nat.zero_le _) ⟨_, rfl, ?_⟩
          exact hT i k rfl rfl (by omega)
theorem s_X12_wrong {x y : Int32} {s l : Nat} (hS : SHM I J sh) (hSV : SHV sh) (hs : s < 4) (hl4 : l < 4) (q1 : (sh s).1 = 0 → Q (-11) (sk0, X, I, J)) (q2 : (sh s).1 ≠ 0 → (sh s).2.1 ≠ l → Q (-12) (sk0, X, I, J)) (q3 : (sh s).1 ≠ 0 → (sh s).2.1 = l → ¬ spanP x y (sh s).2.2.1 → Q (-13) (sk0, X, I, J)) (q4 : (sh s).1 ≠ 0 → (sh s).2.1 = l → ∀ i k, x = nI i → y = nI k → i + k ≤ (sh s).2.2.1 → Q (nI 0) (sk0, X, I, J)) : AWi muX12_wrong [.ref 170, .int (nI s), .int (nI l), .int x, .int y] (sk0, X, I, J) Q := by
  obtain ⟨s1, s2, s3⟩ := hS s hs
  obtain ⟨v1, v2, v3⟩ := hSV s hs
  show AW muX12_wrong 0 0 0 [.ref 170, .int (nI s), .int (nI l), .int x, .int y] [] _ _
  by_cases hp : (sh s).1 = 0
  · rw [if_pos hp] at s1
    refine AW.aload_n dX12_wrong_0 rfl rfl ?_
    refine g12_0 dX12_wrong_1 wF_X12_7 (by first | assumption | rfl | (unfold is12; omega)) ?_
    refine AW.iload_n dX12_wrong_4 rfl rfl ?_
    refine AW.iald dX12_wrong_5 (by first | exact k0_171) _ (by first | rfl | assumption) (by omega) (by first | decide | omega) ?_
    refine AW.top (s1) ?_
    refine AW.if_ge (tgt := 14) dX12_wrong_6 (by decide) (fun c => absurd c (by decide)) (fun _ => ?_)
    refine AW.bipush (v := (-11)) dX12_wrong_9 (by decide) ?_
    refine AW.goto (tgt := 50) dX12_wrong_11 (by decide) ?_
    refine AW.iret dX12_wrong_50 ⟨_, rfl, rfl⟩ (Nat.zero_le _) (Nat.zero_le _) ⟨_, rfl, ?_⟩
    exact q1 hp
  · rw [if_neg hp] at s1
    refine AW.aload_n dX12_wrong_0 rfl rfl ?_
    refine g12_0 dX12_wrong_1 wF_X12_7 (by first | assumption | rfl | (unfold is12; omega)) ?_
    refine AW.iload_n dX12_wrong_4 rfl rfl ?_
    refine AW.iald dX12_wrong_5 (by first | exact k0_171) _ (by first | rfl | assumption) (by omega) (by first | decide | omega) ?_
    refine AW.top (s1) ?_
    refine AW.if_geN (tgt := 14) dX12_wrong_6 (by decide) (by omega) ?_
    refine AW.aload_n dX12_wrong_14 rfl rfl ?_
    refine g12_0 dX12_wrong_15 wF_X12_7 (by first | assumption | rfl | (unfold is12; omega)) ?_
    show AW muX12_wrong _ _ 18 _ _ _ _
    refine AW.iload_n dX12_wrong_18 rfl rfl ?_
    refine AW.iald dX12_wrong_19 (by first | exact k0_171) _ (by first | rfl | assumption) (by omega) (by first | decide | omega) ?_
    refine AW.top (s1) ?_
    refine AW.iload_n dX12_wrong_20 rfl rfl ?_
    first | refine AW.icmp_eqN (tgt := 29) dX12_wrong_21 (by decide) (by omega) (by omega) (fun c21 => ?_) (fun c21 => ?_) | refine AW.icmp_eq (tgt := 29) dX12_wrong_21 (by decide) (fun c21 => ?_) (fun c21 => ?_)
    · refine AW.iload_n dX12_wrong_29 rfl rfl ?_
      refine AW.iload dX12_wrong_30 rfl ?_
      refine AW.aload_n dX12_wrong_32 rfl rfl ?_
      show AW muX12_wrong _ _ 33 _ _ _ _
      refine g12_1 dX12_wrong_33 wF_X12_13 (by first | assumption | rfl | (unfold is12; omega)) ?_
      refine AW.iload_n dX12_wrong_36 rfl rfl ?_
      refine AW.iald dX12_wrong_37 (by first | exact k0_172) _ (by first | rfl | assumption) (by omega) (by first | decide | omega) ?_
      refine AW.top (s2) ?_
      refine cs_X12_wrong_38 (by decide) (by decide) (Nat.le_of_ble_eq_true rfl) (s_X12_isPart v3 (fun i k e1 e2 e3 => ?_) (fun hn => ?_))
      · refine AW.ifeq1 (tgt := 48) dX12_wrong_41 (by decide) ?_
        refine AW.iconst (v := nI 0) dX12_wrong_44 (by decide) ?_
        refine AW.goto (tgt := 50) dX12_wrong_45 (by decide) ?_
        refine AW.iret dX12_wrong_50 ⟨_, rfl, rfl⟩ (Nat.zero_le _) (Nat.zero_le _) ⟨_, rfl, ?_⟩
        exact q4 hp c21 i k e1 e2 e3
      · refine AW.ifeq0 (tgt := 48) dX12_wrong_41 (by decide) ?_
        refine AW.bipush (v := (-13)) dX12_wrong_48 (by decide) ?_
        refine AW.iret dX12_wrong_50 ⟨_, rfl, rfl⟩ (Nat.zero_le _) (Nat.zero_le _) ⟨_, rfl, ?_⟩
        first | exact q2 hp c21 | exact q3 hp c21 hn
    · refine AW.bipush (v := (-12)) dX12_wrong_24 (by decide) ?_
      show AW muX12_wrong _ _ 26 _ _ _ _
      refine AW.goto (tgt := 50) dX12_wrong_26 (by decide) ?_
      refine AW.iret dX12_wrong_50 ⟨_, rfl, rfl⟩ (Nat.zero_le _) (Nat.zero_le _) ⟨_, rfl, ?_⟩
      first | exact q2 hp c21 | exact q3 hp c21 hn
theorem m_sheet {x y z : Int32} (q1 : ¬ (inR x 0 4 ∧ inR y 0 4 ∧ z ≤ nI 24) → Q (-1) (sk0, X, I, J)) (q2 : inR x 0 4 → inR y 0 4 → z < 0 → Q (-14) (sk0, X, I, J)) (q3 : ∀ s l n, s < 4 → l < 4 → n ≤ 24 → x = nI s → y = nI l → z = nI n → ∀ I' J', Fr I I' 171 172 → I' 171 s = nI l → I' 172 s = nI n → (∀ q, q ≠ s → I' 171 q = I 171 q ∧ I' 172 q = I 172 q) → (∀ b, b ≠ 173 → J' b = J b) → (∀ j, j < 24 → J' 173 (24 * s + j) = lN 0) → (∀ q j, q < 4 → q ≠ s → j < 24 → J' 173 (24 * q + j) = J 173 (24 * q + j)) → Q (nI n) (sk0, X, I', J')) : AWi muX12_sheet [.ref 170, .int x, .int y, .int z] (sk0, X, I, J) Q := by
  have lp : ∀ (s l n : Nat) (I1 : sd_I), s < 4 → (∀ J', (∀ b, b ≠ 173 → J' b = J b) → (∀ j, j < 24 → J' 173 (24 * s + j) = lN 0) → (∀ q j, q < 4 → q ≠ s → j < 24 → J' 173 (24 * q + j) = J 173 (24 * q + j)) → Q (nI n) (sk0, X, I1, J')) → ∀ (m k : Nat) (J1 : sd_J), 24 - k < m → k ≤ 24 → (∀ b, b ≠ 173 → J1 b = J b) → (∀ j, j < k → J1 173 (24 * s + j) = lN 0) → (∀ q j, q < 4 → q ≠ s → j < 24 → J1 173 (24 * q + j) = J 173 (24 * q + j)) → AW muX12_sheet 0 0 48 [.ref 170, .int (nI s), .int (nI l), .int (nI n), .int (nI k)] [] (sk0, X, I1, J1) (fun r σ' => ∃ v, r = some v ∧ Q v σ') := by
    intro s l n I1 hs K m
    induction m with
    | zero => intros; omega
    | succ m ih =>
      intro k J1 hm hk f1 f2 f3
      refine AW.iload dX12_sheet_48 rfl ?_
      refine AW.bipush (v := nI 24) dX12_sheet_50 (by decide) ?_
      first | refine AW.icmp_geN (tgt := 74) dX12_sheet_52 (by decide) (by omega) (by omega) (fun c52 => ?_) (fun c52 => ?_) | refine AW.icmp_ge (tgt := 74) dX12_sheet_52 (by decide) (fun c52 => ?_) (fun c52 => ?_)
      · refine AW.iload_n dX12_sheet_74 rfl rfl ?_
        refine AW.iret dX12_sheet_75 ⟨_, rfl, rfl⟩ (Nat.zero_le _) (Nat.zero_le _) ⟨_, rfl, ?_⟩
        obtain rfl : k = 24 := by omega
        exact K J1 f1 f2 f3
      · refine AW.aload_n dX12_sheet_55 rfl rfl ?_
        refine g12_2 dX12_sheet_56 wF_X12_16 (by first | assumption | rfl | (unfold is12; omega)) ?_
        refine AW.bipush (v := nI 24) dX12_sheet_59 (by decide) ?_
        show AW muX12_sheet _ _ 61 _ _ _ _
        refine AW.iload_n dX12_sheet_61 rfl rfl ?_
        first | refine AW.imulN dX12_sheet_62 ?_ | refine AW.imul dX12_sheet_62 ?_
        refine AW.iload dX12_sheet_63 rfl ?_
        first | refine AW.iaddN dX12_sheet_65 ?_ | refine AW.iadd dX12_sheet_65 ?_
        refine AW.lconst (v := lN 0) dX12_sheet_66 (by decide) ?_
        refine AW.last dX12_sheet_67 (by first | exact k0_173) _ (by first | rfl | assumption) (by omega) (by first | decide | omega) ?_
        show AW muX12_sheet _ _ 68 _ _ _ _
        first | refine AW.iincN dX12_sheet_68 rfl (by decide) rfl rfl ?_ | refine AW.iinc dX12_sheet_68 rfl rfl (by decide) rfl rfl ?_
        refine AW.goto (tgt := 48) dX12_sheet_71 (by decide) ?_
        refine ih (k + 1) _ (by omega) (by omega) (fun b hb => (sd_u_ne hb).trans (f1 b hb)) (fun j hj => ?_) (fun q j hq hqs hj => ?_)
        · rw [sd_u_eq]; dsimp only
          by_cases e : j = k
          · subst e; rw [if_pos rfl]
          · rw [if_neg (by omega)]; exact f2 j (by omega)
        · rw [sd_u_eq]; dsimp only; rw [if_neg (by omega)]; exact f3 q j hq hqs hj
  show AW muX12_sheet 0 0 0 [.ref 170, .int x, .int y, .int z, .null] [] _ _
  refine AW.iload_n dX12_sheet_0 rfl rfl ?_
  refine cs_X12_sheet_1 (by decide) (by decide) (Nat.le_of_ble_eq_true rfl) (s_X12_isSheet (fun s hs ex => ?_) (fun hn => ?_))
  · refine AW.ifeq1 (tgt := 22) dX12_sheet_4 (by decide) ?_
    refine AW.iload_n dX12_sheet_7 rfl rfl ?_
    refine AW.iconst (v := nI 0) dX12_sheet_8 (by decide) ?_
    refine AW.iconst (v := nI 3) dX12_sheet_9 (by decide) ?_
    refine cs_X12_sheet_10 (by decide) (by decide) (Nat.le_of_ble_eq_true rfl) (s_X12_in (lo := 0) (hi := 4) (by decide) (by decide) (by decide) (fun l _ hl ey => ?_) (fun hn => ?_))
    · refine AW.ifeq1 (tgt := 22) dX12_sheet_13 (by decide) ?_
      refine AW.iload_n dX12_sheet_16 rfl rfl ?_
      refine AW.bipush (v := nI 24) dX12_sheet_17 (by decide) ?_
      show AW muX12_sheet _ _ 19 _ _ _ _
      refine AW.icmp_le (tgt := 24) dX12_sheet_19 (by decide) (fun c19 => ?_) (fun c19 => ?_)
      · refine AW.iload_n dX12_sheet_24 rfl rfl ?_
        refine AW.if_ge (tgt := 31) dX12_sheet_25 (by decide) (fun c25 => ?_) (fun c25 => ?_)
        · obtain ⟨n, hn, rfl⟩ := nI_of (x := z) (Int32.not_lt.mpr c25)
          have hn24 : n ≤ 24 := (nI_leI hn (by decide)).mp c19
          subst ex; subst ey
          refine AW.aload_n dX12_sheet_31 rfl rfl ?_
          refine g12_0 dX12_sheet_32 wF_X12_7 (by first | assumption | rfl | (unfold is12; omega)) ?_
          refine AW.iload_n dX12_sheet_35 rfl rfl ?_
          refine AW.iload_n dX12_sheet_36 rfl rfl ?_
          refine AW.iast dX12_sheet_37 (by first | exact k0_171) _ (by first | rfl | assumption) (by omega) (by first | decide | omega) ?_
          show AW muX12_sheet _ _ 38 _ _ _ _
          refine AW.aload_n dX12_sheet_38 rfl rfl ?_
          refine g12_1 dX12_sheet_39 wF_X12_13 (by first | assumption | rfl | (unfold is12; omega)) ?_
          refine AW.iload_n dX12_sheet_42 rfl rfl ?_
          refine AW.iload_n dX12_sheet_43 rfl rfl ?_
          refine AW.iast dX12_sheet_44 (by first | exact k0_172) _ (by first | rfl | assumption) (by omega) (by first | decide | omega) ?_
          refine AW.iconst (v := nI 0) dX12_sheet_45 (by decide) ?_
          show AW muX12_sheet _ _ 46 _ _ _ _
          refine AW.istore dX12_sheet_46 (by decide) rfl rfl ?_
          refine lp s l n _ hs (fun J' g1 g2 g3 => q3 s l n hs hl hn24 rfl rfl rfl _ J' ((Fr.u (by omega) (by omega)).up (by omega) (by omega)) (by (repeat first | rw [ru_ne (by omega)] | rw [ru_j] | rw [ru_ij (by omega)] | rw [upN_ne (by omega)] | rw [upN_eq] | rw [rr_ne (by omega)] | rw [rr_eq] | rw [sb_cpy0 (by omega)])) (by (repeat first | rw [ru_ne (by omega)] | rw [ru_j] | rw [ru_ij (by omega)] | rw [upN_ne (by omega)] | rw [upN_eq] | rw [rr_ne (by omega)] | rw [rr_eq] | rw [sb_cpy0 (by omega)])) (fun q hq => ⟨by (repeat first | rw [ru_ne (by omega)] | rw [ru_j] | rw [ru_ij (by omega)] | rw [upN_ne (by omega)] | rw [upN_eq] | rw [rr_ne (by omega)] | rw [rr_eq] | rw [sb_cpy0 (by omega)]), by (repeat first | rw [ru_ne (by omega)] | rw [ru_j] | rw [ru_ij (by omega)] | rw [upN_ne (by omega)] | rw [upN_eq] | rw [rr_ne (by omega)] | rw [rr_eq] | rw [sb_cpy0 (by omega)])⟩) g1 g2 g3) 25 0 J (by omega) (by omega) (fun _ _ => rfl) (fun j hj => absurd hj (by omega)) (fun _ _ _ _ _ => rfl)
        · refine AW.bipush (v := (-14)) dX12_sheet_28 (by decide) ?_
          refine AW.iret dX12_sheet_30 ⟨_, rfl, rfl⟩ (Nat.zero_le _) (Nat.zero_le _) ⟨_, rfl, ?_⟩
          exact q2 ⟨s, by omega, hs, ex⟩ ⟨l, by omega, hl, ey⟩ (Int32.not_le.mp c25)
      · refine AW.iconst (v := (-1)) dX12_sheet_22 (by decide) ?_
        refine AW.iret dX12_sheet_23 ⟨_, rfl, rfl⟩ (Nat.zero_le _) (Nat.zero_le _) ⟨_, rfl, ?_⟩
        first | exact q1 (fun h => hn h.1) | exact q1 (fun h => hn h.2.1) | exact q1 (fun h => c19 h.2.2)
    · refine AW.ifeq0 (tgt := 22) dX12_sheet_13 (by decide) ?_
      refine AW.iconst (v := (-1)) dX12_sheet_22 (by decide) ?_
      refine AW.iret dX12_sheet_23 ⟨_, rfl, rfl⟩ (Nat.zero_le _) (Nat.zero_le _) ⟨_, rfl, ?_⟩
      first | exact q1 (fun h => hn h.1) | exact q1 (fun h => hn h.2.1) | exact q1 (fun h => c19 h.2.2)
  · refine AW.ifeq0 (tgt := 22) dX12_sheet_4 (by decide) ?_
    refine AW.iconst (v := (-1)) dX12_sheet_22 (by decide) ?_
    refine AW.iret dX12_sheet_23 ⟨_, rfl, rfl⟩ (Nat.zero_le _) (Nat.zero_le _) ⟨_, rfl, ?_⟩
    first | exact q1 (fun h => hn h.1) | exact q1 (fun h => hn h.2.1) | exact q1 (fun h => c19 h.2.2)
theorem m_drop {x : Int32} (hS : SHM I J sh) (hSV : SHV sh) (q1 : ¬ inR x 0 4 → Q (-1) (sk0, X, I, J)) (q2 : ∀ s, s < 4 → x = nI s → (sh s).1 = 0 → Q (-11) (sk0, X, I, J)) (q3 : ∀ s, s < 4 → x = nI s → (sh s).1 ≠ 0 → ∀ I', I' = sd_u I 171 s (-1) → Q (nI (sh s).2.2.1) (sk0, X, I', J)) : AWi muX12_drop [.ref 170, .int x] (sk0, X, I, J) Q := by
  show AW muX12_drop 0 0 0 [.ref 170, .int x] [] _ _
  refine AW.iload_n dX12_drop_0 rfl rfl ?_
  refine cs_X12_drop_1 (by decide) (by decide) (Nat.le_of_ble_eq_true rfl) (s_X12_isSheet (fun s hs ex => ?_) (fun hn => ?_))
  · subst ex
    obtain ⟨s1, s2, s3⟩ := hS s hs
    obtain ⟨v1, v2, v3⟩ := hSV s hs
    refine AW.ifne1 (tgt := 9) dX12_drop_4 (by decide) ?_
    by_cases hp : (sh s).1 = 0
    · rw [if_pos hp] at s1
      refine AW.aload_n dX12_drop_9 rfl rfl ?_
      refine g12_0 dX12_drop_10 wF_X12_7 (by first | assumption | rfl | (unfold is12; omega)) ?_
      refine AW.iload_n dX12_drop_13 rfl rfl ?_
      refine AW.iald dX12_drop_14 (by first | exact k0_171) _ (by first | rfl | assumption) (by omega) (by first | decide | omega) ?_
      refine AW.top (s1) ?_
      refine AW.if_ge (tgt := 21) dX12_drop_15 (by decide) (fun c => absurd c (by decide)) (fun _ => ?_)
      refine AW.bipush (v := (-11)) dX12_drop_18 (by decide) ?_
      refine AW.iret dX12_drop_20 ⟨_, rfl, rfl⟩ (Nat.zero_le _) (Nat.zero_le _) ⟨_, rfl, ?_⟩
      exact q2 s hs rfl hp
    · rw [if_neg hp] at s1
      refine AW.aload_n dX12_drop_9 rfl rfl ?_
      refine g12_0 dX12_drop_10 wF_X12_7 (by first | assumption | rfl | (unfold is12; omega)) ?_
      refine AW.iload_n dX12_drop_13 rfl rfl ?_
      refine AW.iald dX12_drop_14 (by first | exact k0_171) _ (by first | rfl | assumption) (by omega) (by first | decide | omega) ?_
      refine AW.top (s1) ?_
      refine AW.if_geN (tgt := 21) dX12_drop_15 (by decide) (by omega) ?_
      refine AW.aload_n dX12_drop_21 rfl rfl ?_
      refine g12_0 dX12_drop_22 wF_X12_7 (by first | assumption | rfl | (unfold is12; omega)) ?_
      show AW muX12_drop _ _ 25 _ _ _ _
      refine AW.iload_n dX12_drop_25 rfl rfl ?_
      refine AW.iconst (v := (-1)) dX12_drop_26 (by decide) ?_
      refine AW.iast dX12_drop_27 (by first | exact k0_171) _ (by first | rfl | assumption) (by omega) (by first | decide | omega) ?_
      refine AW.aload_n dX12_drop_28 rfl rfl ?_
      refine g12_1 dX12_drop_29 wF_X12_13 (by first | assumption | rfl | (unfold is12; omega)) ?_
      refine AW.iload_n dX12_drop_32 rfl rfl ?_
      show AW muX12_drop _ _ 33 _ _ _ _
      refine AW.iald dX12_drop_33 (by first | exact k0_172) _ (by first | rfl | assumption) (by omega) (by first | decide | omega) ?_
      refine AW.top (show _ = nI (sh s).2.2.1 by (repeat first | rw [ru_ne (by omega)] | rw [ru_j] | rw [ru_ij (by omega)] | rw [upN_ne (by omega)] | rw [upN_eq] | rw [rr_ne (by omega)] | rw [rr_eq] | rw [sb_cpy0 (by omega)]); exact s2) ?_
      refine AW.iret dX12_drop_34 ⟨_, rfl, rfl⟩ (Nat.zero_le _) (Nat.zero_le _) ⟨_, rfl, ?_⟩
      exact q3 s hs rfl hp _ rfl
  · skip
    refine AW.ifne0 (tgt := 9) dX12_drop_4 (by decide) ?_
    refine AW.iconst (v := (-1)) dX12_drop_7 (by decide) ?_
    refine AW.iret dX12_drop_8 ⟨_, rfl, rfl⟩ (Nat.zero_le _) (Nat.zero_le _) ⟨_, rfl, ?_⟩
    exact q1 hn
theorem m_item {x y z : Int32} {v : Int64} (hS : SHM I J sh) (hSV : SHV sh) (q1 : ¬ (inR x 0 4 ∧ inR y 0 4) → Q (-1) (sk0, X, I, J)) (q2 : ∀ s l, s < 4 → l < 4 → x = nI s → y = nI l → (sh s).1 = 0 → Q (-11) (sk0, X, I, J)) (q3 : ∀ s l, s < 4 → l < 4 → x = nI s → y = nI l → (sh s).1 ≠ 0 → (sh s).2.1 ≠ l → Q (-12) (sk0, X, I, J)) (q4 : ∀ s l, s < 4 → l < 4 → x = nI s → y = nI l → (sh s).1 ≠ 0 → (sh s).2.1 = l → ¬ spanP z (nI 1) (sh s).2.2.1 → Q (-13) (sk0, X, I, J)) (q5 : ∀ s l i, s < 4 → l < 4 → x = nI s → y = nI l → z = nI i → (sh s).1 ≠ 0 → (sh s).2.1 = l → i + 1 ≤ (sh s).2.2.1 → Q (nI 1) (sk0, X, I, sd_u J 173 (24 * s + i) (cutL l v))) : AWi muX12_item [.ref 170, .int x, .int y, .int z, .long v] (sk0, X, I, J) Q := by
  show AW muX12_item 0 0 0 [.ref 170, .int x, .int y, .int z, .long v, .null, .null] [] _ _
  refine AW.iload_n dX12_item_0 rfl rfl ?_
  refine cs_X12_item_1 (by decide) (by decide) (Nat.le_of_ble_eq_true rfl) (s_X12_isSheet (fun s hs ex => ?_) (fun hn => ?_))
  · refine AW.ifeq1 (tgt := 16) dX12_item_4 (by decide) ?_
    refine AW.iload_n dX12_item_7 rfl rfl ?_
    refine AW.iconst (v := nI 0) dX12_item_8 (by decide) ?_
    refine AW.iconst (v := nI 3) dX12_item_9 (by decide) ?_
    refine cs_X12_item_10 (by decide) (by decide) (Nat.le_of_ble_eq_true rfl) (s_X12_in (lo := 0) (hi := 4) (by decide) (by decide) (by decide) (fun l _ hl ey => ?_) (fun hn => ?_))
    · refine AW.ifne1 (tgt := 18) dX12_item_13 (by decide) ?_
      subst ex; subst ey
      obtain ⟨v1, v2, v3⟩ := hSV s hs
      refine AW.aload_n dX12_item_18 rfl rfl ?_
      refine AW.iload_n dX12_item_19 rfl rfl ?_
      show AW muX12_item _ _ 20 _ _ _ _
      refine AW.iload_n dX12_item_20 rfl rfl ?_
      refine AW.iload_n dX12_item_21 rfl rfl ?_
      refine AW.iconst (v := nI 1) dX12_item_22 (by decide) ?_
      refine cs_X12_item_23 (by first | exact k0_170) (by decide) (by decide) (Nat.le_of_ble_eq_true rfl) (s_X12_wrong hS hSV hs hl (fun h1 => ?_) (fun h1 h2 => ?_) (fun h1 h2 h3 => ?_) (fun h1 h2 i k e1 e2 e3 => ?_))
      · refine AW.istore dX12_item_26 (by decide) rfl rfl ?_
        refine AW.iload dX12_item_28 rfl ?_
        refine AW.if_eq (tgt := 36) dX12_item_30 (by decide) (fun c => absurd c (by decide)) (fun _ => ?_)
        refine AW.iload dX12_item_33 rfl ?_
        exact AW.iret dX12_item_35 ⟨_, rfl, rfl⟩ (Nat.zero_le _) (Nat.zero_le _) ⟨_, rfl, q2 s l hs hl rfl rfl h1⟩
      · refine AW.istore dX12_item_26 (by decide) rfl rfl ?_
        refine AW.iload dX12_item_28 rfl ?_
        refine AW.if_eq (tgt := 36) dX12_item_30 (by decide) (fun c => absurd c (by decide)) (fun _ => ?_)
        refine AW.iload dX12_item_33 rfl ?_
        exact AW.iret dX12_item_35 ⟨_, rfl, rfl⟩ (Nat.zero_le _) (Nat.zero_le _) ⟨_, rfl, q3 s l hs hl rfl rfl h1 h2⟩
      · refine AW.istore dX12_item_26 (by decide) rfl rfl ?_
        refine AW.iload dX12_item_28 rfl ?_
        refine AW.if_eq (tgt := 36) dX12_item_30 (by decide) (fun c => absurd c (by decide)) (fun _ => ?_)
        refine AW.iload dX12_item_33 rfl ?_
        exact AW.iret dX12_item_35 ⟨_, rfl, rfl⟩ (Nat.zero_le _) (Nat.zero_le _) ⟨_, rfl, q4 s l hs hl rfl rfl h1 h2 h3⟩
      · refine AW.istore dX12_item_26 (by decide) rfl rfl ?_
        refine AW.iload dX12_item_28 rfl ?_
        show AW muX12_item _ _ 30 _ _ _ _
        refine AW.ifeq0 (tgt := 36) dX12_item_30 (by decide) ?_
        obtain rfl : k = 1 := (nI_eq (by omega) (by decide)).mp e2.symm
        subst e1
        have hq := q5 s l i hs hl rfl rfl rfl h1 h2 e3
        unfold cutL at hq
        refine AW.aload_n dX12_item_36 rfl rfl ?_
        refine g12_2 dX12_item_37 wF_X12_16 (by first | assumption | rfl | (unfold is12; omega)) ?_
        refine AW.bipush (v := nI 24) dX12_item_40 (by decide) ?_
        refine AW.iload_n dX12_item_42 rfl rfl ?_
        first | refine AW.imulN dX12_item_43 ?_ | refine AW.imul dX12_item_43 ?_
        refine AW.iload_n dX12_item_44 rfl rfl ?_
        show AW muX12_item _ _ 45 _ _ _ _
        first | refine AW.iaddN dX12_item_45 ?_ | refine AW.iadd dX12_item_45 ?_
        refine AW.iload_n dX12_item_46 rfl rfl ?_
        first | refine AW.if_neN (tgt := 58) dX12_item_47 (by decide) (by omega) (fun c47 => ?_) (fun c47 => ?_) | refine AW.if_ne (tgt := 58) dX12_item_47 (by decide) (fun c47 => ?_) (fun c47 => ?_)
        · refine AW.iload_n dX12_item_58 rfl rfl ?_
          refine AW.iconst (v := nI 1) dX12_item_59 (by decide) ?_
          first | refine AW.icmp_neN (tgt := 71) dX12_item_60 (by decide) (by omega) (by omega) (fun c60 => ?_) (fun c60 => ?_) | refine AW.icmp_ne (tgt := 71) dX12_item_60 (by decide) (fun c60 => ?_) (fun c60 => ?_)
          · refine AW.iload_n dX12_item_71 rfl rfl ?_
            refine AW.iconst (v := nI 2) dX12_item_72 (by decide) ?_
            show AW muX12_item _ _ 73 _ _ _ _
            first | refine AW.icmp_neN (tgt := 83) dX12_item_73 (by decide) (by omega) (by omega) (fun c73 => ?_) (fun c73 => ?_) | refine AW.icmp_ne (tgt := 83) dX12_item_73 (by decide) (fun c73 => ?_) (fun c73 => ?_)
            · refine AW.lload dX12_item_83 rfl ?_
              refine AW.last dX12_item_85 (by first | exact k0_173) _ (by first | rfl | assumption) (by omega) (by first | decide | omega) ?_
              refine AW.iconst (v := nI 1) dX12_item_86 (by decide) ?_
              refine AW.iret dX12_item_87 ⟨_, rfl, rfl⟩ (Nat.zero_le _) (Nat.zero_le _) ⟨_, rfl, ?_⟩
              first | (rw [if_pos c47] at hq; exact hq) | (rw [if_neg c47, if_pos c60] at hq; exact hq) | (rw [if_neg c47, if_neg c60, if_pos c73] at hq; exact hq) | (rw [if_neg c47, if_neg c60, if_neg c73] at hq; exact hq)
            · refine AW.lload dX12_item_76 rfl ?_
              refine AW.l2i dX12_item_78 ?_
              refine AW.i2l dX12_item_79 ?_
              show AW muX12_item _ _ 80 _ _ _ _
              refine AW.goto (tgt := 85) dX12_item_80 (by decide) ?_
              refine AW.last dX12_item_85 (by first | exact k0_173) _ (by first | rfl | assumption) (by omega) (by first | decide | omega) ?_
              refine AW.iconst (v := nI 1) dX12_item_86 (by decide) ?_
              refine AW.iret dX12_item_87 ⟨_, rfl, rfl⟩ (Nat.zero_le _) (Nat.zero_le _) ⟨_, rfl, ?_⟩
              first | (rw [if_pos c47] at hq; exact hq) | (rw [if_neg c47, if_pos c60] at hq; exact hq) | (rw [if_neg c47, if_neg c60, if_pos c73] at hq; exact hq) | (rw [if_neg c47, if_neg c60, if_neg c73] at hq; exact hq)
          · refine AW.lload dX12_item_63 rfl ?_
            refine AW.l2i dX12_item_65 ?_
            refine AW.i2s dX12_item_66 ?_
            refine AW.i2l dX12_item_67 ?_
            show AW muX12_item _ _ 68 _ _ _ _
            refine AW.goto (tgt := 85) dX12_item_68 (by decide) ?_
            refine AW.last dX12_item_85 (by first | exact k0_173) _ (by first | rfl | assumption) (by omega) (by first | decide | omega) ?_
            refine AW.iconst (v := nI 1) dX12_item_86 (by decide) ?_
            refine AW.iret dX12_item_87 ⟨_, rfl, rfl⟩ (Nat.zero_le _) (Nat.zero_le _) ⟨_, rfl, ?_⟩
            first | (rw [if_pos c47] at hq; exact hq) | (rw [if_neg c47, if_pos c60] at hq; exact hq) | (rw [if_neg c47, if_neg c60, if_pos c73] at hq; exact hq) | (rw [if_neg c47, if_neg c60, if_neg c73] at hq; exact hq)
        · refine AW.lload dX12_item_50 rfl ?_
          refine AW.l2i dX12_item_52 ?_
          refine AW.i2b dX12_item_53 ?_
          refine AW.i2l dX12_item_54 ?_
          show AW muX12_item _ _ 55 _ _ _ _
          refine AW.goto (tgt := 85) dX12_item_55 (by decide) ?_
          refine AW.last dX12_item_85 (by first | exact k0_173) _ (by first | rfl | assumption) (by omega) (by first | decide | omega) ?_
          refine AW.iconst (v := nI 1) dX12_item_86 (by decide) ?_
          refine AW.iret dX12_item_87 ⟨_, rfl, rfl⟩ (Nat.zero_le _) (Nat.zero_le _) ⟨_, rfl, ?_⟩
          first | (rw [if_pos c47] at hq; exact hq) | (rw [if_neg c47, if_pos c60] at hq; exact hq) | (rw [if_neg c47, if_neg c60, if_pos c73] at hq; exact hq) | (rw [if_neg c47, if_neg c60, if_neg c73] at hq; exact hq)
    · refine AW.ifne0 (tgt := 18) dX12_item_13 (by decide) ?_
      refine AW.iconst (v := (-1)) dX12_item_16 (by decide) ?_
      refine AW.iret dX12_item_17 ⟨_, rfl, rfl⟩ (Nat.zero_le _) (Nat.zero_le _) ⟨_, rfl, ?_⟩
      first | exact q1 (fun h => hn h.1) | exact q1 (fun h => hn h.2)
  · refine AW.ifeq0 (tgt := 16) dX12_item_4 (by decide) ?_
    refine AW.iconst (v := (-1)) dX12_item_16 (by decide) ?_
    refine AW.iret dX12_item_17 ⟨_, rfl, rfl⟩ (Nat.zero_le _) (Nat.zero_le _) ⟨_, rfl, ?_⟩
    first | exact q1 (fun h => hn h.1) | exact q1 (fun h => hn h.2)
/-- the items of a copy so far: a to b of it are copied -/
def cpI (f g : Nat → Int64) (i j a b : Nat) : Nat → Int64 := fun q => if j + a ≤ q ∧ q < j + b then f (i + (q - j)) else g q
theorem lpA_X12_copy {f t i j n : Nat} {sf st : Nat → Int64} (hf : f < 4) (ht : t < 4) (hi : i + n ≤ 24) (hj : j + n ≤ 24) (hsf : ∀ q, q < 24 → J 173 (24 * f + q) = sf q) (hst : ∀ q, q < 24 → J 173 (24 * t + q) = st q) (hft : f = t → j ≤ i) (K : ∀ J', (∀ b, b ≠ 173 → J' b = J b) → (∀ q, q < 24 → J' 173 (24 * t + q) = cpI sf st i j 0 n q) → (∀ s q, s < 4 → s ≠ t → q < 24 → J' 173 (24 * s + q) = J 173 (24 * s + q)) → Q (nI n) (sk0, X, I, J')) : ∀ (m k : Nat) (J1 : sd_J) (v8 : Value), v8.category = 1 → n - k < m → k ≤ n → (∀ b, b ≠ 173 → J1 b = J b) → (∀ q, q < 24 → J1 173 (24 * t + q) = cpI sf st i j 0 k q) → (∀ s q, s < 4 → s ≠ t → q < 24 → J1 173 (24 * s + q) = J 173 (24 * s + q)) → AW muX12_copy 0 0 110 [.ref 170, .int (nI f), .int (nI i), .int (nI t), .int (nI j), .int (nI n), .int (nI 0), .int (nI k), v8] [] (sk0, X, I, J1) (fun r σ' => ∃ v, r = some v ∧ Q v σ') := by
  intro m
  induction m with
  | zero => intros; omega
  | succ m ih =>
    intro k J1 v8 hv8 hm hk f1 f2 f3
    have hrd : k < n → J1 173 (24 * f + i + k) = sf (i + k) := fun hkn => by
      rw [show 24 * f + i + k = 24 * f + (i + k) by omega]
      by_cases e : f = t
      · subst e
        rw [f2 (i + k) (by omega)]
        have := hft rfl
        unfold cpI
        rw [if_neg (by omega), ← hst (i + k) (by omega)]
        exact hsf (i + k) (by omega)
      · rw [f3 f (i + k) hf e (by omega)]; exact hsf (i + k) (by omega)
    refine AW.iload dX12_copy_110 rfl ?_
    refine AW.iload dX12_copy_112 rfl ?_
    first | refine AW.icmp_geN (tgt := 171) dX12_copy_114 (by decide) (by omega) (by omega) (fun c114 => ?_) (fun c114 => ?_) | refine AW.icmp_ge (tgt := 171) dX12_copy_114 (by decide) (fun c114 => ?_) (fun c114 => ?_)
    · refine AW.iload dX12_copy_171 rfl ?_
      refine AW.iret dX12_copy_173 ⟨_, rfl, rfl⟩ (Nat.zero_le _) (Nat.zero_le _) ⟨_, rfl, ?_⟩
      obtain rfl : k = n := by omega
      exact K J1 f1 f2 f3
    · refine AW.iload dX12_copy_117 rfl ?_
      refine AW.ifeq0 (tgt := 132) dX12_copy_119 (by decide) ?_
      refine AW.iload dX12_copy_132 rfl ?_
      refine AW.istore dX12_copy_134 (by decide) rfl rfl ?_
      show AW muX12_copy _ _ 136 _ _ _ _
      refine AW.aload_n dX12_copy_136 rfl rfl ?_
      refine g12_2 dX12_copy_137 wF_X12_16 (by first | assumption | rfl | (unfold is12; omega)) ?_
      refine AW.bipush (v := nI 24) dX12_copy_140 (by decide) ?_
      refine AW.iload_n dX12_copy_142 rfl rfl ?_
      first | refine AW.imulN dX12_copy_143 ?_ | refine AW.imul dX12_copy_143 ?_
      refine AW.iload dX12_copy_144 rfl ?_
      show AW muX12_copy _ _ 146 _ _ _ _
      first | refine AW.iaddN dX12_copy_146 ?_ | refine AW.iadd dX12_copy_146 ?_
      refine AW.iload dX12_copy_147 rfl ?_
      first | refine AW.iaddN dX12_copy_149 ?_ | refine AW.iadd dX12_copy_149 ?_
      refine AW.aload_n dX12_copy_150 rfl rfl ?_
      refine g12_2 dX12_copy_151 wF_X12_16 (by first | assumption | rfl | (unfold is12; omega)) ?_
      refine AW.bipush (v := nI 24) dX12_copy_154 (by decide) ?_
      show AW muX12_copy _ _ 156 _ _ _ _
      refine AW.iload_n dX12_copy_156 rfl rfl ?_
      first | refine AW.imulN dX12_copy_157 ?_ | refine AW.imul dX12_copy_157 ?_
      refine AW.iload_n dX12_copy_158 rfl rfl ?_
      first | refine AW.iaddN dX12_copy_159 ?_ | refine AW.iadd dX12_copy_159 ?_
      refine AW.iload dX12_copy_160 rfl ?_
      first | refine AW.iaddN dX12_copy_162 ?_ | refine AW.iadd dX12_copy_162 ?_
      show AW muX12_copy _ _ 163 _ _ _ _
      refine AW.lald dX12_copy_163 (by first | exact k0_173) _ (by first | rfl | assumption) (by omega) (by first | decide | omega) ?_
      refine AW.topL (hrd c114) ?_
      refine AW.last dX12_copy_164 (by first | exact k0_173) _ (by first | rfl | assumption) (by omega) (by first | decide | omega) ?_
      first | refine AW.iincN dX12_copy_165 rfl (by decide) rfl rfl ?_ | refine AW.iinc dX12_copy_165 rfl rfl (by decide) rfl rfl ?_
      refine AW.goto (tgt := 110) dX12_copy_168 (by decide) ?_
      refine ih (k + 1) _ _ rfl (by omega) (by omega) (fun b hb => (sd_u_ne hb).trans (f1 b hb)) (fun q hq => ?_) (fun s q hs hst' hq => ?_)
      · rw [sd_u_eq]; dsimp only
        by_cases e : q = j + k
        · subst e; rw [if_pos (by omega)]; unfold cpI; rw [if_pos (by omega), show i + (j + k - j) = i + k by omega]
        · rw [if_neg (by omega), f2 q hq]; unfold cpI
          by_cases e2 : j + 0 ≤ q ∧ q < j + k
          · rw [if_pos e2, if_pos (by omega)]
          · rw [if_neg e2, if_neg (by omega)]
      · rw [sd_u_eq]; dsimp only; rw [if_neg (by omega)]; exact f3 s q hs hst' hq
theorem lpD_X12_copy {f t i j n : Nat} {sf st : Nat → Int64} (hf : f < 4) (ht : t < 4) (hi : i + n ≤ 24) (hj : j + n ≤ 24) (hsf : ∀ q, q < 24 → J 173 (24 * f + q) = sf q) (hst : ∀ q, q < 24 → J 173 (24 * t + q) = st q) (hft : f = t ∧ i < j) (K : ∀ J', (∀ b, b ≠ 173 → J' b = J b) → (∀ q, q < 24 → J' 173 (24 * t + q) = cpI sf st i j 0 n q) → (∀ s q, s < 4 → s ≠ t → q < 24 → J' 173 (24 * s + q) = J 173 (24 * s + q)) → Q (nI n) (sk0, X, I, J')) : ∀ (m k : Nat) (J1 : sd_J) (v8 : Value), v8.category = 1 → n - k < m → k ≤ n → (∀ b, b ≠ 173 → J1 b = J b) → (∀ q, q < 24 → J1 173 (24 * t + q) = cpI sf st i j (n - k) n q) → (∀ s q, s < 4 → s ≠ t → q < 24 → J1 173 (24 * s + q) = J 173 (24 * s + q)) → AW muX12_copy 0 0 110 [.ref 170, .int (nI f), .int (nI i), .int (nI t), .int (nI j), .int (nI n), .int (nI 1), .int (nI k), v8] [] (sk0, X, I, J1) (fun r σ' => ∃ v, r = some v ∧ Q v σ') := by
  obtain ⟨rfl, hij⟩ := hft
  intro m
  induction m with
  | zero => intros; omega
  | succ m ih =>
    intro k J1 v8 hv8 hm hk f1 f2 f3
    have hrd : k < n → J1 173 (24 * f + i + (n - 1 - k)) = sf (i + (n - 1 - k)) := fun hkn => by
      rw [show 24 * f + i + (n - 1 - k) = 24 * f + (i + (n - 1 - k)) by omega, f2 (i + (n - 1 - k)) (by omega)]
      unfold cpI
      rw [if_neg (by omega), ← hst (i + (n - 1 - k)) (by omega)]
      exact hsf _ (by omega)
    refine AW.iload dX12_copy_110 rfl ?_
    refine AW.iload dX12_copy_112 rfl ?_
    first | refine AW.icmp_geN (tgt := 171) dX12_copy_114 (by decide) (by omega) (by omega) (fun c114 => ?_) (fun c114 => ?_) | refine AW.icmp_ge (tgt := 171) dX12_copy_114 (by decide) (fun c114 => ?_) (fun c114 => ?_)
    · refine AW.iload dX12_copy_171 rfl ?_
      refine AW.iret dX12_copy_173 ⟨_, rfl, rfl⟩ (Nat.zero_le _) (Nat.zero_le _) ⟨_, rfl, ?_⟩
      obtain rfl : k = n := by omega
      rw [Nat.sub_self] at f2
      exact K J1 f1 f2 f3
    · refine AW.iload dX12_copy_117 rfl ?_
      refine AW.ifeq1 (tgt := 132) dX12_copy_119 (by decide) ?_
      refine AW.iload dX12_copy_122 rfl ?_
      refine AW.iconst (v := nI 1) dX12_copy_124 (by decide) ?_
      show AW muX12_copy _ _ 125 _ _ _ _
      first | refine AW.isubN dX12_copy_125 (by omega) ?_ | refine AW.isub dX12_copy_125 ?_
      refine AW.iload dX12_copy_126 rfl ?_
      first | refine AW.isubN dX12_copy_128 (by omega) ?_ | refine AW.isub dX12_copy_128 ?_
      refine AW.goto (tgt := 134) dX12_copy_129 (by decide) ?_
      refine AW.istore dX12_copy_134 (by decide) rfl rfl ?_
      refine AW.aload_n dX12_copy_136 rfl rfl ?_
      refine g12_2 dX12_copy_137 wF_X12_16 (by first | assumption | rfl | (unfold is12; omega)) ?_
      show AW muX12_copy _ _ 140 _ _ _ _
      refine AW.bipush (v := nI 24) dX12_copy_140 (by decide) ?_
      refine AW.iload_n dX12_copy_142 rfl rfl ?_
      first | refine AW.imulN dX12_copy_143 ?_ | refine AW.imul dX12_copy_143 ?_
      refine AW.iload dX12_copy_144 rfl ?_
      first | refine AW.iaddN dX12_copy_146 ?_ | refine AW.iadd dX12_copy_146 ?_
      refine AW.iload dX12_copy_147 rfl ?_
      show AW muX12_copy _ _ 149 _ _ _ _
      first | refine AW.iaddN dX12_copy_149 ?_ | refine AW.iadd dX12_copy_149 ?_
      refine AW.aload_n dX12_copy_150 rfl rfl ?_
      refine g12_2 dX12_copy_151 wF_X12_16 (by first | assumption | rfl | (unfold is12; omega)) ?_
      refine AW.bipush (v := nI 24) dX12_copy_154 (by decide) ?_
      refine AW.iload_n dX12_copy_156 rfl rfl ?_
      first | refine AW.imulN dX12_copy_157 ?_ | refine AW.imul dX12_copy_157 ?_
      show AW muX12_copy _ _ 158 _ _ _ _
      refine AW.iload_n dX12_copy_158 rfl rfl ?_
      first | refine AW.iaddN dX12_copy_159 ?_ | refine AW.iadd dX12_copy_159 ?_
      refine AW.iload dX12_copy_160 rfl ?_
      first | refine AW.iaddN dX12_copy_162 ?_ | refine AW.iadd dX12_copy_162 ?_
      refine AW.lald dX12_copy_163 (by first | exact k0_173) _ (by first | rfl | assumption) (by omega) (by first | decide | omega) ?_
      refine AW.topL (hrd c114) ?_
      refine AW.last dX12_copy_164 (by first | exact k0_173) _ (by first | rfl | assumption) (by omega) (by first | decide | omega) ?_
      show AW muX12_copy _ _ 165 _ _ _ _
      first | refine AW.iincN dX12_copy_165 rfl (by decide) rfl rfl ?_ | refine AW.iinc dX12_copy_165 rfl rfl (by decide) rfl rfl ?_
      refine AW.goto (tgt := 110) dX12_copy_168 (by decide) ?_
      refine ih (k + 1) _ _ rfl (by omega) (by omega) (fun b hb => (sd_u_ne hb).trans (f1 b hb)) (fun q hq => ?_) (fun s q hs hst' hq => ?_)
      · rw [sd_u_eq]; dsimp only
        by_cases e : q = j + (n - 1 - k)
        · subst e; rw [if_pos (by omega)]; unfold cpI; rw [if_pos (by omega), show i + (j + (n - 1 - k) - j) = i + (n - 1 - k) by omega]
        · rw [if_neg (by omega), f2 q hq]; unfold cpI
          by_cases e2 : j + (n - k) ≤ q ∧ q < j + n
          · rw [if_pos e2, if_pos (by omega)]
          · rw [if_neg e2, if_neg (by omega)]
      · rw [sd_u_eq]; dsimp only; rw [if_neg (by omega)]; exact f3 s q hs hst' hq
theorem m_copy {x y z u v : Int32} (hS : SHM I J sh) (hSV : SHV sh) (q1 : ¬ (inR x 0 4 ∧ inR z 0 4) → Q (-1) (sk0, X, I, J)) (q2 : ∀ f t, f < 4 → t < 4 → x = nI f → z = nI t → ((sh f).1 = 0 ∨ (sh t).1 = 0) → Q (-11) (sk0, X, I, J)) (q3 : ∀ f t, f < 4 → t < 4 → x = nI f → z = nI t → (sh f).1 ≠ 0 → (sh t).1 ≠ 0 → (sh f).2.1 ≠ (sh t).2.1 → Q (-12) (sk0, X, I, J)) (q4 : ∀ f t, f < 4 → t < 4 → x = nI f → z = nI t → (sh f).1 ≠ 0 → (sh t).1 ≠ 0 → (sh f).2.1 = (sh t).2.1 → ¬ (spanP y v (sh f).2.2.1 ∧ spanP u v (sh t).2.2.1) → Q (-13) (sk0, X, I, J)) (q5 : ∀ f t i j n, f < 4 → t < 4 → x = nI f → y = nI i → z = nI t → u = nI j → v = nI n → (sh f).1 ≠ 0 → (sh t).1 ≠ 0 → (sh f).2.1 = (sh t).2.1 → i + n ≤ (sh f).2.2.1 → j + n ≤ (sh t).2.2.1 → ∀ J', (∀ b, b ≠ 173 → J' b = J b) → (∀ q, q < 24 → J' 173 (24 * t + q) = cpI (sh f).2.2.2 (sh t).2.2.2 i j 0 n q) → (∀ s q, s < 4 → s ≠ t → q < 24 → J' 173 (24 * s + q) = J 173 (24 * s + q)) → Q (nI n) (sk0, X, I, J')) : AWi muX12_copy [.ref 170, .int x, .int y, .int z, .int u, .int v] (sk0, X, I, J) Q := by
  show AW muX12_copy 0 0 0 [.ref 170, .int x, .int y, .int z, .int u, .int v, .null, .null, .null] [] _ _
  refine AW.iload_n dX12_copy_0 rfl rfl ?_
  refine cs_X12_copy_1 (by decide) (by decide) (Nat.le_of_ble_eq_true rfl) (s_X12_isSheet (fun f hf ex => ?_) (fun hn => ?_))
  · refine AW.ifeq1 (tgt := 14) dX12_copy_4 (by decide) ?_
    refine AW.iload_n dX12_copy_7 rfl rfl ?_
    refine cs_X12_copy_8 (by decide) (by decide) (Nat.le_of_ble_eq_true rfl) (s_X12_isSheet (fun t ht ez => ?_) (fun hn => ?_))
    · refine AW.ifne1 (tgt := 16) dX12_copy_11 (by decide) ?_
      subst ex; subst ez
      obtain ⟨s1, s2, s3⟩ := hS f hf
      obtain ⟨v1, v2, v3⟩ := hSV f hf
      obtain ⟨t1, t2, t3⟩ := hS t ht
      obtain ⟨w1, w2, w3⟩ := hSV t ht
      refine AW.aload_n dX12_copy_16 rfl rfl ?_
      refine g12_0 dX12_copy_17 wF_X12_7 rfl ?_
      refine AW.iload_n dX12_copy_20 rfl rfl ?_
      refine AW.iald dX12_copy_21 k0_171 f rfl hf (by decide) ?_
      by_cases hpf : (sh f).1 = 0
      · rw [s1, if_pos hpf]
        refine AW.if_lt (tgt := 34) dX12_copy_22 (by decide) (fun _ => ?_) (fun c => absurd (by decide) c)
        refine AW.bipush (v := (-11)) dX12_copy_34 (by decide) ?_
        exact AW.iret dX12_copy_36 ⟨_, rfl, rfl⟩ (Nat.zero_le _) (Nat.zero_le _) ⟨_, rfl, q2 f t hf ht rfl rfl (Or.inl hpf)⟩
      rw [if_neg hpf] at s1
      rw [s1]
      refine AW.if_ltN (tgt := 34) dX12_copy_22 (by decide) (by omega) ?_
      refine AW.aload_n dX12_copy_25 rfl rfl ?_
      refine g12_0 dX12_copy_26 wF_X12_7 rfl ?_
      refine AW.iload_n dX12_copy_29 rfl rfl ?_
      refine AW.iald dX12_copy_30 k0_171 t rfl ht (by decide) ?_
      by_cases hpt : (sh t).1 = 0
      · rw [t1, if_pos hpt]
        refine AW.if_ge (tgt := 37) dX12_copy_31 (by decide) (fun c => absurd c (by decide)) (fun _ => ?_)
        refine AW.bipush (v := (-11)) dX12_copy_34 (by decide) ?_
        exact AW.iret dX12_copy_36 ⟨_, rfl, rfl⟩ (Nat.zero_le _) (Nat.zero_le _) ⟨_, rfl, q2 f t hf ht rfl rfl (Or.inr hpt)⟩
      rw [if_neg hpt] at t1
      rw [t1]
      refine AW.if_geN (tgt := 37) dX12_copy_31 (by decide) (by omega) ?_
      refine AW.aload_n dX12_copy_37 rfl rfl ?_
      refine g12_0 dX12_copy_38 wF_X12_7 (by first | assumption | rfl | (unfold is12; omega)) ?_
      refine AW.iload_n dX12_copy_41 rfl rfl ?_
      refine AW.iald dX12_copy_42 (by first | exact k0_171) _ (by first | rfl | assumption) (by omega) (by first | decide | omega) ?_
      refine AW.top (s1) ?_
      show AW muX12_copy _ _ 43 _ _ _ _
      refine AW.aload_n dX12_copy_43 rfl rfl ?_
      refine g12_0 dX12_copy_44 wF_X12_7 (by first | assumption | rfl | (unfold is12; omega)) ?_
      refine AW.iload_n dX12_copy_47 rfl rfl ?_
      refine AW.iald dX12_copy_48 (by first | exact k0_171) _ (by first | rfl | assumption) (by omega) (by first | decide | omega) ?_
      refine AW.top (t1) ?_
      first | refine AW.icmp_eqN (tgt := 55) dX12_copy_49 (by decide) (by omega) (by omega) (fun c49 => ?_) (fun c49 => ?_) | refine AW.icmp_eq (tgt := 55) dX12_copy_49 (by decide) (fun c49 => ?_) (fun c49 => ?_)
      · refine AW.iload_n dX12_copy_55 rfl rfl ?_
        refine AW.iload dX12_copy_56 rfl ?_
        show AW muX12_copy _ _ 58 _ _ _ _
        refine AW.aload_n dX12_copy_58 rfl rfl ?_
        refine g12_1 dX12_copy_59 wF_X12_13 (by first | assumption | rfl | (unfold is12; omega)) ?_
        refine AW.iload_n dX12_copy_62 rfl rfl ?_
        refine AW.iald dX12_copy_63 (by first | exact k0_172) _ (by first | rfl | assumption) (by omega) (by first | decide | omega) ?_
        refine AW.top (s2) ?_
        refine cs_X12_copy_64 (by decide) (by decide) (Nat.le_of_ble_eq_true rfl) (s_X12_isPart v3 (fun i n e1 e2 e3 => ?_) (fun hn => ?_))
        · refine AW.ifeq1 (tgt := 86) dX12_copy_67 (by decide) ?_
          refine AW.iload dX12_copy_70 rfl ?_
          refine AW.iload dX12_copy_72 rfl ?_
          show AW muX12_copy _ _ 74 _ _ _ _
          refine AW.aload_n dX12_copy_74 rfl rfl ?_
          refine g12_1 dX12_copy_75 wF_X12_13 (by first | assumption | rfl | (unfold is12; omega)) ?_
          refine AW.iload_n dX12_copy_78 rfl rfl ?_
          refine AW.iald dX12_copy_79 (by first | exact k0_172) _ (by first | rfl | assumption) (by omega) (by first | decide | omega) ?_
          refine AW.top (t2) ?_
          refine cs_X12_copy_80 (by decide) (by decide) (Nat.le_of_ble_eq_true rfl) (s_X12_isPart w3 (fun j n' e4 e5 e6 => ?_) (fun hn => ?_))
          · refine AW.ifne1 (tgt := 89) dX12_copy_83 (by decide) ?_
            subst e1; subst e2; subst e4
            obtain rfl : n = n' := (nI_eq (by omega) (by omega)).mp e5
            refine AW.iload_n dX12_copy_89 rfl rfl ?_
            refine AW.iload_n dX12_copy_90 rfl rfl ?_
            show AW muX12_copy _ _ 91 _ _ _ _
            first | refine AW.icmp_neN (tgt := 104) dX12_copy_91 (by decide) (by omega) (by omega) (fun c91 => ?_) (fun c91 => ?_) | refine AW.icmp_ne (tgt := 104) dX12_copy_91 (by decide) (fun c91 => ?_) (fun c91 => ?_)
            · refine AW.iconst (v := nI 0) dX12_copy_104 (by decide) ?_
              refine AW.istore dX12_copy_105 (by decide) rfl rfl ?_
              refine AW.iconst (v := nI 0) dX12_copy_107 (by decide) ?_
              refine AW.istore dX12_copy_108 (by decide) rfl rfl ?_
              first
                | exact lpA_X12_copy hf ht (by omega) (by omega) s3 t3 (fun h => absurd h c91) (fun J' a1 a2 a3 => q5 f t i j n hf ht rfl rfl rfl rfl rfl hpf hpt c49 e3 e6 J' a1 a2 a3) (n + 1) 0 J .null rfl (by omega) (by omega) (fun _ _ => rfl) (fun q hq => by unfold cpI; rw [if_neg (by omega)]; exact t3 q hq) (fun _ _ _ _ _ => rfl)
                | exact lpA_X12_copy hf ht (by omega) (by omega) s3 t3 (fun h => by omega) (fun J' a1 a2 a3 => q5 f t i j n hf ht rfl rfl rfl rfl rfl hpf hpt c49 e3 e6 J' a1 a2 a3) (n + 1) 0 J .null rfl (by omega) (by omega) (fun _ _ => rfl) (fun q hq => by unfold cpI; rw [if_neg (by omega)]; exact t3 q hq) (fun _ _ _ _ _ => rfl)
                | exact lpD_X12_copy hf ht (by omega) (by omega) s3 t3 ⟨c91, by omega⟩ (fun J' a1 a2 a3 => q5 f t i j n hf ht rfl rfl rfl rfl rfl hpf hpt c49 e3 e6 J' a1 a2 a3) (n + 1) 0 J .null rfl (by omega) (by omega) (fun _ _ => rfl) (fun q hq => by unfold cpI; rw [if_neg (by omega)]; exact t3 q hq) (fun _ _ _ _ _ => rfl)
            · refine AW.iload dX12_copy_94 rfl ?_
              refine AW.iload_n dX12_copy_96 rfl rfl ?_
              show AW muX12_copy _ _ 97 _ _ _ _
              first | refine AW.icmp_leN (tgt := 104) dX12_copy_97 (by decide) (by omega) (by omega) (fun c97 => ?_) (fun c97 => ?_) | refine AW.icmp_le (tgt := 104) dX12_copy_97 (by decide) (fun c97 => ?_) (fun c97 => ?_)
              · refine AW.iconst (v := nI 0) dX12_copy_104 (by decide) ?_
                refine AW.istore dX12_copy_105 (by decide) rfl rfl ?_
                refine AW.iconst (v := nI 0) dX12_copy_107 (by decide) ?_
                refine AW.istore dX12_copy_108 (by decide) rfl rfl ?_
                first
                  | exact lpA_X12_copy hf ht (by omega) (by omega) s3 t3 (fun h => absurd h c91) (fun J' a1 a2 a3 => q5 f t i j n hf ht rfl rfl rfl rfl rfl hpf hpt c49 e3 e6 J' a1 a2 a3) (n + 1) 0 J .null rfl (by omega) (by omega) (fun _ _ => rfl) (fun q hq => by unfold cpI; rw [if_neg (by omega)]; exact t3 q hq) (fun _ _ _ _ _ => rfl)
                  | exact lpA_X12_copy hf ht (by omega) (by omega) s3 t3 (fun h => by omega) (fun J' a1 a2 a3 => q5 f t i j n hf ht rfl rfl rfl rfl rfl hpf hpt c49 e3 e6 J' a1 a2 a3) (n + 1) 0 J .null rfl (by omega) (by omega) (fun _ _ => rfl) (fun q hq => by unfold cpI; rw [if_neg (by omega)]; exact t3 q hq) (fun _ _ _ _ _ => rfl)
                  | exact lpD_X12_copy hf ht (by omega) (by omega) s3 t3 ⟨c91, by omega⟩ (fun J' a1 a2 a3 => q5 f t i j n hf ht rfl rfl rfl rfl rfl hpf hpt c49 e3 e6 J' a1 a2 a3) (n + 1) 0 J .null rfl (by omega) (by omega) (fun _ _ => rfl) (fun q hq => by unfold cpI; rw [if_neg (by omega)]; exact t3 q hq) (fun _ _ _ _ _ => rfl)
              · refine AW.iconst (v := nI 1) dX12_copy_100 (by decide) ?_
                refine AW.goto (tgt := 105) dX12_copy_101 (by decide) ?_
                refine AW.istore dX12_copy_105 (by decide) rfl rfl ?_
                show AW muX12_copy _ _ 107 _ _ _ _
                refine AW.iconst (v := nI 0) dX12_copy_107 (by decide) ?_
                refine AW.istore dX12_copy_108 (by decide) rfl rfl ?_
                first
                  | exact lpA_X12_copy hf ht (by omega) (by omega) s3 t3 (fun h => absurd h c91) (fun J' a1 a2 a3 => q5 f t i j n hf ht rfl rfl rfl rfl rfl hpf hpt c49 e3 e6 J' a1 a2 a3) (n + 1) 0 J .null rfl (by omega) (by omega) (fun _ _ => rfl) (fun q hq => by unfold cpI; rw [if_neg (by omega)]; exact t3 q hq) (fun _ _ _ _ _ => rfl)
                  | exact lpA_X12_copy hf ht (by omega) (by omega) s3 t3 (fun h => by omega) (fun J' a1 a2 a3 => q5 f t i j n hf ht rfl rfl rfl rfl rfl hpf hpt c49 e3 e6 J' a1 a2 a3) (n + 1) 0 J .null rfl (by omega) (by omega) (fun _ _ => rfl) (fun q hq => by unfold cpI; rw [if_neg (by omega)]; exact t3 q hq) (fun _ _ _ _ _ => rfl)
                  | exact lpD_X12_copy hf ht (by omega) (by omega) s3 t3 ⟨c91, by omega⟩ (fun J' a1 a2 a3 => q5 f t i j n hf ht rfl rfl rfl rfl rfl hpf hpt c49 e3 e6 J' a1 a2 a3) (n + 1) 0 J .null rfl (by omega) (by omega) (fun _ _ => rfl) (fun q hq => by unfold cpI; rw [if_neg (by omega)]; exact t3 q hq) (fun _ _ _ _ _ => rfl)
          · refine AW.ifne0 (tgt := 89) dX12_copy_83 (by decide) ?_
            refine AW.bipush (v := (-13)) dX12_copy_86 (by decide) ?_
            refine AW.iret dX12_copy_88 ⟨_, rfl, rfl⟩ (Nat.zero_le _) (Nat.zero_le _) ⟨_, rfl, ?_⟩
            first | exact q4 f t hf ht rfl rfl hpf hpt c49 (fun h => hn h.1) | exact q4 f t hf ht rfl rfl hpf hpt c49 (fun h => hn h.2)
        · refine AW.ifeq0 (tgt := 86) dX12_copy_67 (by decide) ?_
          refine AW.bipush (v := (-13)) dX12_copy_86 (by decide) ?_
          refine AW.iret dX12_copy_88 ⟨_, rfl, rfl⟩ (Nat.zero_le _) (Nat.zero_le _) ⟨_, rfl, ?_⟩
          first | exact q4 f t hf ht rfl rfl hpf hpt c49 (fun h => hn h.1) | exact q4 f t hf ht rfl rfl hpf hpt c49 (fun h => hn h.2)
      · refine AW.bipush (v := (-12)) dX12_copy_52 (by decide) ?_
        refine AW.iret dX12_copy_54 ⟨_, rfl, rfl⟩ (Nat.zero_le _) (Nat.zero_le _) ⟨_, rfl, ?_⟩
        exact q3 f t hf ht rfl rfl hpf hpt c49
    · refine AW.ifne0 (tgt := 16) dX12_copy_11 (by decide) ?_
      refine AW.iconst (v := (-1)) dX12_copy_14 (by decide) ?_
      show AW muX12_copy _ _ 15 _ _ _ _
      refine AW.iret dX12_copy_15 ⟨_, rfl, rfl⟩ (Nat.zero_le _) (Nat.zero_le _) ⟨_, rfl, ?_⟩
      first | exact q1 (fun h => hn h.1) | exact q1 (fun h => hn h.2)
  · refine AW.ifeq0 (tgt := 14) dX12_copy_4 (by decide) ?_
    refine AW.iconst (v := (-1)) dX12_copy_14 (by decide) ?_
    refine AW.iret dX12_copy_15 ⟨_, rfl, rfl⟩ (Nat.zero_le _) (Nat.zero_le _) ⟨_, rfl, ?_⟩
    first | exact q1 (fun h => hn h.1) | exact q1 (fun h => hn h.2)
theorem lp_X12_film {t n s i : Nat} {l v6 : Int32} {I0 : sd_I} {it : Nat → Int64} {Q : Option Int32 → sd_S → Prop} {J0 : sd_J} (hV : NV N) (h9 : N 0 ≤ 9999) (ht : t < N 47) (hs : s < 4) (hin : i + n ≤ 24) (K : ∀ I' J', Fr I0 I' 176 176 → (∀ b, b ≠ 173 → J' b = J0 b) → (∀ j, j < 24 → J' 173 (24 * s + j) = fmI it N t i n j) → (∀ q j, q < 4 → q ≠ s → j < 24 → J' 173 (24 * q + j) = J0 173 (24 * q + j)) → Q (some (nI n)) (sk0, X, I', J')) : ∀ (m k : Nat) (I : sd_I) (J : sd_J), n - k < m → k ≤ n → AS I0 I 176 64 (goK N k) → (∀ b, b ≠ 173 → J b = J0 b) → (∀ j, j < 24 → J 173 (24 * s + j) = fmI it N t i k j) → (∀ q j, q < 4 → q ≠ s → j < 24 → J 173 (24 * q + j) = J0 173 (24 * q + j)) → AW muX12_film 0 0 64 [.ref 170, .int (nI t), .int (nI n), .int (nI s), .int l, .int (nI i), .int v6, .int (nI k)] [] (sk0, X, I, J) Q := by
  have h8 := hV.t8
  have hlf := hV.lf ht
  intro m
  induction m with
  | zero => intros; omega
  | succ m ih =>
    intro k I J hm hk hA f1 f2 f3
    have hi := (goK_inv hV k (by omega)).1
    have hle2 := lk_le (N := N) (t := t) (k + 1)
    refine AW.iload dX12_film_64 rfl ?_
    refine AW.iload_n dX12_film_66 rfl rfl ?_
    first | refine AW.icmp_geN (tgt := 108) dX12_film_67 (by decide) (by omega) (by omega) (fun c67 => ?_) (fun c67 => ?_) | refine AW.icmp_ge (tgt := 108) dX12_film_67 (by decide) (fun c67 => ?_) (fun c67 => ?_)
    · refine AW.iload_n dX12_film_108 rfl rfl ?_
      refine AW.iret dX12_film_109 ⟨_, rfl, rfl⟩ (Nat.zero_le _) (Nat.zero_le _) ?_
      obtain rfl : k = n := by omega
      exact K I J hA.f f1 f2 f3
    · refine AW.aload_n dX12_film_70 rfl rfl ?_
      refine g12_8 dX12_film_71 wF_X12_26 (by first | assumption | rfl | (unfold is12; omega)) ?_
      refine cs_X12_film_74 (by decide) (by decide) (Nat.le_of_ble_eq_true rfl) (s_X12_goBy isA_176 (by decide) hi hA (fun I1 hA1 => ?_))
      show AW muX12_film _ _ 77 _ _ _ _
      rw [← goK_succ] at hA1
      refine AW.aload_n dX12_film_77 rfl rfl ?_
      refine g12_2 dX12_film_78 wF_X12_16 (by first | assumption | rfl | (unfold is12; omega)) ?_
      refine AW.bipush (v := nI 24) dX12_film_81 (by decide) ?_
      refine AW.iload_n dX12_film_83 rfl rfl ?_
      first | refine AW.imulN dX12_film_84 ?_ | refine AW.imul dX12_film_84 ?_
      refine AW.iload dX12_film_85 rfl ?_
      show AW muX12_film _ _ 87 _ _ _ _
      first | refine AW.iaddN dX12_film_87 ?_ | refine AW.iadd dX12_film_87 ?_
      refine AW.iload dX12_film_88 rfl ?_
      first | refine AW.iaddN dX12_film_90 ?_ | refine AW.iadd dX12_film_90 ?_
      refine AW.aload_n dX12_film_91 rfl rfl ?_
      refine g12_8 dX12_film_92 wF_X12_26 (by first | assumption | rfl | (unfold is12; omega)) ?_
      refine AW.bipush (v := nI 18) dX12_film_95 (by decide) ?_
      show AW muX12_film _ _ 97 _ _ _ _
      refine AW.iload_n dX12_film_97 rfl rfl ?_
      first | refine AW.iaddN dX12_film_98 ?_ | refine AW.iadd dX12_film_98 ?_
      refine AW.iald dX12_film_99 (by first | exact k0_176) _ (by first | rfl | assumption) (by omega) (by first | decide | omega) ?_
      refine AW.top ((hA1.g (by omega)).trans (congrArg nI (goK_lk hV ht (k + 1) (by omega)))) ?_
      refine AW.i2l dX12_film_100 ?_
      refine AW.topL (nI_l (by omega)) ?_
      refine AW.last dX12_film_101 (by first | exact k0_173) _ (by first | rfl | assumption) (by omega) (by first | decide | omega) ?_
      first | refine AW.iincN dX12_film_102 rfl (by decide) rfl rfl ?_ | refine AW.iinc dX12_film_102 rfl rfl (by decide) rfl rfl ?_
      show AW muX12_film _ _ 105 _ _ _ _
      refine AW.goto (tgt := 64) dX12_film_105 (by decide) ?_
      refine ih (k + 1) _ _ (by omega) (by omega) hA1 (fun b hb => (sd_u_ne hb).trans (f1 b hb)) (fun j hj => ?_) (fun q j hq hqs hj => ?_)
      · rw [sd_u_eq]; dsimp only
        by_cases e : j = i + k
        · subst e; rw [if_pos (by omega)]; unfold fmI; rw [if_pos (by omega), Nat.add_sub_cancel_left]
        · rw [if_neg (by omega), f2 j hj]; unfold fmI
          by_cases e2 : i ≤ j ∧ j < i + k
          · rw [if_pos e2, if_pos (by omega)]
          · rw [if_neg e2, if_neg (by omega)]
      · rw [sd_u_eq]; dsimp only; rw [if_neg (by omega)]; exact f3 q j hq hqs hj
theorem m_film {x y z u v : Int32} (hV : NV N) (h9 : N 0 ≤ 9999) (hM : MD I N) (hS : SHM I J sh) (hSV : SHV sh) (q1 : ¬ (inR x 0 (N 47) ∧ inR y 1 25 ∧ inR z 0 4 ∧ inR u 0 4) → Q (-1) (sk0, X, I, J)) (q2 : ∀ s l n, s < 4 → l < 4 → 1 ≤ n → n < 25 → inR x 0 (N 47) → y = nI n → z = nI s → u = nI l → (sh s).1 = 0 → Q (-11) (sk0, X, I, J)) (q3 : ∀ s l n, s < 4 → l < 4 → 1 ≤ n → n < 25 → inR x 0 (N 47) → y = nI n → z = nI s → u = nI l → (sh s).1 ≠ 0 → (sh s).2.1 ≠ l → Q (-12) (sk0, X, I, J)) (q4 : ∀ s l n, s < 4 → l < 4 → 1 ≤ n → n < 25 → inR x 0 (N 47) → y = nI n → z = nI s → u = nI l → (sh s).1 ≠ 0 → (sh s).2.1 = l → ¬ spanP v y (sh s).2.2.1 → Q (-13) (sk0, X, I, J)) (q5 : ∀ t s l i n, t < N 47 → s < 4 → l < 4 → 1 ≤ n → n < 25 → x = nI t → y = nI n → z = nI s → u = nI l → v = nI i → (sh s).1 ≠ 0 → (sh s).2.1 = l → i + n ≤ (sh s).2.2.1 → ∀ I' J', Fr I I' 176 176 → (∀ b, b ≠ 173 → J' b = J b) → (∀ j, j < 24 → J' 173 (24 * s + j) = fmI (sh s).2.2.2 N t i n j) → (∀ q j, q < 4 → q ≠ s → j < 24 → J' 173 (24 * q + j) = J 173 (24 * q + j)) → Q (nI n) (sk0, X, I', J')) : AWi muX12_film [.ref 170, .int x, .int y, .int z, .int u, .int v] (sk0, X, I, J) Q := by
  have h8 := hV.t8
  show AW muX12_film 0 0 0 [.ref 170, .int x, .int y, .int z, .int u, .int v, .null, .null] [] _ _
  refine AW.aload_n dX12_film_0 rfl rfl ?_
  refine AW.iload_n dX12_film_1 rfl rfl ?_
  refine cs_X12_film_2 (by first | exact k0_170) (by decide) (by decide) (Nat.le_of_ble_eq_true rfl) (s_X12_isThing (hM 47 (by decide)) (by omega) (fun t ht ex => ?_) (fun hn => ?_))
  · refine AW.ifeq1 (tgt := 35) dX12_film_5 (by decide) ?_
    refine AW.iload_n dX12_film_8 rfl rfl ?_
    refine AW.iconst (v := nI 1) dX12_film_9 (by decide) ?_
    refine AW.bipush (v := nI 24) dX12_film_10 (by decide) ?_
    refine cs_X12_film_12 (by decide) (by decide) (Nat.le_of_ble_eq_true rfl) (s_X12_in (lo := 1) (hi := 25) (by decide) (by decide) (by decide) (fun n hn1 hn2 ey => ?_) (fun hn => ?_))
    · refine AW.ifeq1 (tgt := 35) dX12_film_15 (by decide) ?_
      refine AW.iload_n dX12_film_18 rfl rfl ?_
      show AW muX12_film _ _ 19 _ _ _ _
      refine cs_X12_film_19 (by decide) (by decide) (Nat.le_of_ble_eq_true rfl) (s_X12_isSheet (fun s hs ez => ?_) (fun hn => ?_))
      · refine AW.ifeq1 (tgt := 35) dX12_film_22 (by decide) ?_
        refine AW.iload dX12_film_25 rfl ?_
        refine AW.iconst (v := nI 0) dX12_film_27 (by decide) ?_
        refine AW.iconst (v := nI 3) dX12_film_28 (by decide) ?_
        refine cs_X12_film_29 (by decide) (by decide) (Nat.le_of_ble_eq_true rfl) (s_X12_in (lo := 0) (hi := 4) (by decide) (by decide) (by decide) (fun l _ hl eu => ?_) (fun hn => ?_))
        · refine AW.ifne1 (tgt := 37) dX12_film_32 (by decide) ?_
          subst ex; subst ey; subst ez; subst eu
          obtain ⟨s1, s2, s3⟩ := hS s hs
          obtain ⟨v1, v2, v3⟩ := hSV s hs
          refine AW.aload_n dX12_film_37 rfl rfl ?_
          refine AW.iload_n dX12_film_38 rfl rfl ?_
          refine AW.iload dX12_film_39 rfl ?_
          show AW muX12_film _ _ 41 _ _ _ _
          refine AW.iload dX12_film_41 rfl ?_
          refine AW.iload_n dX12_film_43 rfl rfl ?_
          refine cs_X12_film_44 (by first | exact k0_170) (by decide) (by decide) (Nat.le_of_ble_eq_true rfl) (s_X12_wrong hS hSV hs hl (fun h1 => ?_) (fun h1 h2 => ?_) (fun h1 h2 h3 => ?_) (fun h1 h2 i k e1 e2 e3 => ?_))
          · refine AW.istore dX12_film_47 (by decide) rfl rfl ?_
            refine AW.iload dX12_film_49 rfl ?_
            refine AW.if_eq (tgt := 57) dX12_film_51 (by decide) (fun c => absurd c (by decide)) (fun _ => ?_)
            refine AW.iload dX12_film_54 rfl ?_
            exact AW.iret dX12_film_56 ⟨_, rfl, rfl⟩ (Nat.zero_le _) (Nat.zero_le _) ⟨_, rfl, q2 s l n hs hl hn1 hn2 ⟨t, by omega, ht, rfl⟩ rfl rfl rfl h1⟩
          · refine AW.istore dX12_film_47 (by decide) rfl rfl ?_
            refine AW.iload dX12_film_49 rfl ?_
            refine AW.if_eq (tgt := 57) dX12_film_51 (by decide) (fun c => absurd c (by decide)) (fun _ => ?_)
            refine AW.iload dX12_film_54 rfl ?_
            exact AW.iret dX12_film_56 ⟨_, rfl, rfl⟩ (Nat.zero_le _) (Nat.zero_le _) ⟨_, rfl, q3 s l n hs hl hn1 hn2 ⟨t, by omega, ht, rfl⟩ rfl rfl rfl h1 h2⟩
          · refine AW.istore dX12_film_47 (by decide) rfl rfl ?_
            refine AW.iload dX12_film_49 rfl ?_
            refine AW.if_eq (tgt := 57) dX12_film_51 (by decide) (fun c => absurd c (by decide)) (fun _ => ?_)
            refine AW.iload dX12_film_54 rfl ?_
            exact AW.iret dX12_film_56 ⟨_, rfl, rfl⟩ (Nat.zero_le _) (Nat.zero_le _) ⟨_, rfl, q4 s l n hs hl hn1 hn2 ⟨t, by omega, ht, rfl⟩ rfl rfl rfl h1 h2 h3⟩
          · refine AW.istore dX12_film_47 (by decide) rfl rfl ?_
            refine AW.iload dX12_film_49 rfl ?_
            refine AW.ifeq0 (tgt := 57) dX12_film_51 (by decide) ?_
            obtain rfl : k = n := (nI_eq (by omega) (by omega)).mp e2.symm
            subst e1
            refine AW.aload_n dX12_film_57 rfl rfl ?_
            show AW muX12_film _ _ 58 _ _ _ _
            refine cs_X12_film_58 (by first | exact k0_170) (by decide) (by decide) (Nat.le_of_ble_eq_true rfl) (s_X12_begin (N := N) (fun k hk => hM k (by omega)) (fun I1 g1 => ?_))
            refine AW.iconst (v := nI 0) dX12_film_61 (by decide) ?_
            refine AW.istore dX12_film_62 (by decide) rfl rfl ?_
            exact lp_X12_film hV h9 ht hs (by omega) (fun I' J' a1 a2 a3 a4 => ⟨_, rfl, q5 t s l i k ht hs hl hn1 hn2 rfl rfl rfl rfl rfl h1 h2 e3 I' J' a1 a2 a3 a4⟩) (k + 1) 0 I1 J (by omega) (by omega) (by rw [goK_zero]; exact g1) (fun _ _ => rfl) (fun j hj => by rw [s3 j hj]; unfold fmI; rw [if_neg (by omega)]) (fun _ _ _ _ _ => rfl)
        · refine AW.ifne0 (tgt := 37) dX12_film_32 (by decide) ?_
          refine AW.iconst (v := (-1)) dX12_film_35 (by decide) ?_
          refine AW.iret dX12_film_36 ⟨_, rfl, rfl⟩ (Nat.zero_le _) (Nat.zero_le _) ⟨_, rfl, ?_⟩
          first | exact q1 (fun h => hn h.1) | exact q1 (fun h => hn h.2.1) | exact q1 (fun h => hn h.2.2.1) | exact q1 (fun h => hn h.2.2.2)
      · refine AW.ifeq0 (tgt := 35) dX12_film_22 (by decide) ?_
        refine AW.iconst (v := (-1)) dX12_film_35 (by decide) ?_
        refine AW.iret dX12_film_36 ⟨_, rfl, rfl⟩ (Nat.zero_le _) (Nat.zero_le _) ⟨_, rfl, ?_⟩
        first | exact q1 (fun h => hn h.1) | exact q1 (fun h => hn h.2.1) | exact q1 (fun h => hn h.2.2.1) | exact q1 (fun h => hn h.2.2.2)
    · refine AW.ifeq0 (tgt := 35) dX12_film_15 (by decide) ?_
      refine AW.iconst (v := (-1)) dX12_film_35 (by decide) ?_
      show AW muX12_film _ _ 36 _ _ _ _
      refine AW.iret dX12_film_36 ⟨_, rfl, rfl⟩ (Nat.zero_le _) (Nat.zero_le _) ⟨_, rfl, ?_⟩
      first | exact q1 (fun h => hn h.1) | exact q1 (fun h => hn h.2.1) | exact q1 (fun h => hn h.2.2.1) | exact q1 (fun h => hn h.2.2.2)
  · refine AW.ifeq0 (tgt := 35) dX12_film_5 (by decide) ?_
    refine AW.iconst (v := (-1)) dX12_film_35 (by decide) ?_
    refine AW.iret dX12_film_36 ⟨_, rfl, rfl⟩ (Nat.zero_le _) (Nat.zero_le _) ⟨_, rfl, ?_⟩
    first | exact q1 (fun h => hn h.1) | exact q1 (fun h => hn h.2.1) | exact q1 (fun h => hn h.2.2.1) | exact q1 (fun h => hn h.2.2.2)
end Mod5
