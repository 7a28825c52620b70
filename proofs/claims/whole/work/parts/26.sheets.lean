-- the class Sheet
def spanP (x y : Int32) (len : Nat) : Prop := ∃ i k, x = nI i ∧ y = nI k ∧ i + k ≤ len
def cutL (ln : Nat) (v : Int64) : Int64 := if ln = 0 then v.toInt32.toInt8.toInt32.toInt64 else if ln = 1 then v.toInt32.toInt16.toInt32.toInt64 else if ln = 2 then v.toInt32.toInt64 else v
section Sheets
variable {X : Nat × (Nat → Int32)} {I : sd_I} {J : sd_J} {a : Nat}
theorem s_X9_spans {Q : Int32 → sd_S → Prop} {x y : Int32} {len : Nat} (ha : is9 a) (h3 : I a 3 = nI len) (hl : len ≤ 24) (hT : ∀ i k, x = nI i → y = nI k → i + k ≤ len → Q (nI 1) (sk0, X, I, J)) (hF : ¬ spanP x y len → Q (nI 0) (sk0, X, I, J)) : AWi muX9_spans [.ref a, .int x, .int y] (sk0, X, I, J) Q := by
  show AW muX9_spans 0 0 0 [.ref a, .int x, .int y] [] _ _
  refine AW.iload_n dX9_spans_0 rfl rfl ?_
  refine AW.if_lt (tgt := 30) dX9_spans_1 (by decide) (fun c1 => ?_) (fun c1 => ?_)
  · refine AW.iconst (v := nI 0) dX9_spans_30 (by decide) ?_
    refine AW.iret dX9_spans_31 ⟨_, rfl, by decide⟩ (Nat.zero_le _) (Nat.zero_le _) ⟨_, rfl, ?_⟩
    refine hF ?_
    rintro ⟨i', k', e1, e2, h⟩
    first | (subst e1; exact absurd c1 (nI_pos (by omega))) | (subst e2; exact absurd c5 (nI_pos (by omega))) | (have g1 := (nI_eq hi (by omega)).mp e1; have g2 := (nI_eq hk (by omega)).mp e2; omega)
  · obtain ⟨i, hi, rfl⟩ := nI_of c1
    refine AW.iload_n dX9_spans_4 rfl rfl ?_
    refine AW.if_lt (tgt := 30) dX9_spans_5 (by decide) (fun c5 => ?_) (fun c5 => ?_)
    · refine AW.iconst (v := nI 0) dX9_spans_30 (by decide) ?_
      refine AW.iret dX9_spans_31 ⟨_, rfl, by decide⟩ (Nat.zero_le _) (Nat.zero_le _) ⟨_, rfl, ?_⟩
      refine hF ?_
      rintro ⟨i', k', e1, e2, h⟩
      first | (subst e1; exact absurd c1 (nI_pos (by omega))) | (subst e2; exact absurd c5 (nI_pos (by omega))) | (have g1 := (nI_eq hi (by omega)).mp e1; have g2 := (nI_eq hk (by omega)).mp e2; omega)
    · obtain ⟨k, hk, rfl⟩ := nI_of c5
      refine AW.iload_n dX9_spans_8 rfl rfl ?_
      refine AW.aload_n dX9_spans_9 rfl rfl ?_
      show AW muX9_spans _ _ 10 _ _ _ _
      refine g9_3 dX9_spans_10 wF_X9_23 (by first | assumption | rfl | (unfold is9; omega)) ?_
      refine AW.top (h3) ?_
      first | refine AW.icmp_gtN (tgt := 30) dX9_spans_13 (by decide) (by omega) (by omega) (fun c13 => ?_) (fun c13 => ?_) | refine AW.icmp_gt (tgt := 30) dX9_spans_13 (by decide) (fun c13 => ?_) (fun c13 => ?_)
      · refine AW.iconst (v := nI 0) dX9_spans_30 (by decide) ?_
        refine AW.iret dX9_spans_31 ⟨_, rfl, by decide⟩ (Nat.zero_le _) (Nat.zero_le _) ⟨_, rfl, ?_⟩
        refine hF ?_
        rintro ⟨i', k', e1, e2, h⟩
        first | (subst e1; exact absurd c1 (nI_pos (by omega))) | (subst e2; exact absurd c5 (nI_pos (by omega))) | (have g1 := (nI_eq hi (by omega)).mp e1; have g2 := (nI_eq hk (by omega)).mp e2; omega)
      · refine AW.iload_n dX9_spans_16 rfl rfl ?_
        refine AW.aload_n dX9_spans_17 rfl rfl ?_
        refine g9_3 dX9_spans_18 wF_X9_23 (by first | assumption | rfl | (unfold is9; omega)) ?_
        refine AW.top (h3) ?_
        refine AW.iload_n dX9_spans_21 rfl rfl ?_
        show AW muX9_spans _ _ 22 _ _ _ _
        first | refine AW.isubN dX9_spans_22 (by omega) ?_ | refine AW.isub dX9_spans_22 ?_
        first | refine AW.icmp_gtN (tgt := 30) dX9_spans_23 (by decide) (by omega) (by omega) (fun c23 => ?_) (fun c23 => ?_) | refine AW.icmp_gt (tgt := 30) dX9_spans_23 (by decide) (fun c23 => ?_) (fun c23 => ?_)
        · refine AW.iconst (v := nI 0) dX9_spans_30 (by decide) ?_
          refine AW.iret dX9_spans_31 ⟨_, rfl, by decide⟩ (Nat.zero_le _) (Nat.zero_le _) ⟨_, rfl, ?_⟩
          refine hF ?_
          rintro ⟨i', k', e1, e2, h⟩
          first | (subst e1; exact absurd c1 (nI_pos (by omega))) | (subst e2; exact absurd c5 (nI_pos (by omega))) | (have g1 := (nI_eq hi (by omega)).mp e1; have g2 := (nI_eq hk (by omega)).mp e2; omega)
        · refine AW.iconst (v := nI 1) dX9_spans_26 (by decide) ?_
          refine AW.goto (tgt := 31) dX9_spans_27 (by decide) ?_
          refine AW.iret dX9_spans_31 ⟨_, rfl, by decide⟩ (Nat.zero_le _) (Nat.zero_le _) ⟨_, rfl, ?_⟩
          exact hT i k rfl rfl (by omega)
theorem s_X9_refusal {Q : Int32 → sd_S → Prop} {x y : Int32} {pr ln len l : Nat} (ha : is9 a) (h1 : I a 1 = nI pr) (h2 : I a 2 = nI ln) (h3 : I a 3 = nI len) (hpr : pr < 2) (hln : ln < 4) (hl4 : l < 4) (hl : len ≤ 24) (q1 : pr = 0 → Q (-11) (sk0, X, I, J)) (q2 : pr ≠ 0 → ln ≠ l → Q (-12) (sk0, X, I, J)) (q3 : pr ≠ 0 → ln = l → ¬ spanP x y len → Q (-13) (sk0, X, I, J)) (q4 : pr ≠ 0 → ln = l → ∀ i k, x = nI i → y = nI k → i + k ≤ len → Q (nI 0) (sk0, X, I, J)) : AWi muX9_refusal [.ref a, .int (nI l), .int x, .int y] (sk0, X, I, J) Q := by
  show AW muX9_refusal 0 0 0 [.ref a, .int (nI l), .int x, .int y] [] _ _
  refine AW.aload_n dX9_refusal_0 rfl rfl ?_
  refine g9_1 dX9_refusal_1 wF_X9_15 (by first | assumption | rfl | (unfold is9; omega)) ?_
  refine AW.top (h1) ?_
  first | refine AW.if_neN (tgt := 10) dX9_refusal_4 (by decide) (by omega) (fun c4 => ?_) (fun c4 => ?_) | refine AW.if_ne (tgt := 10) dX9_refusal_4 (by decide) (fun c4 => ?_) (fun c4 => ?_)
  · refine AW.aload_n dX9_refusal_10 rfl rfl ?_
    refine g9_2 dX9_refusal_11 wF_X9_19 (by first | assumption | rfl | (unfold is9; omega)) ?_
    refine AW.top (h2) ?_
    refine AW.iload_n dX9_refusal_14 rfl rfl ?_
    first | refine AW.icmp_eqN (tgt := 21) dX9_refusal_15 (by decide) (by omega) (by omega) (fun c15 => ?_) (fun c15 => ?_) | refine AW.icmp_eq (tgt := 21) dX9_refusal_15 (by decide) (fun c15 => ?_) (fun c15 => ?_)
    · refine AW.aload_n dX9_refusal_21 rfl rfl ?_
      show AW muX9_refusal _ _ 22 _ _ _ _
      refine AW.iload_n dX9_refusal_22 rfl rfl ?_
      refine AW.iload_n dX9_refusal_23 rfl rfl ?_
      refine cs_X9_refusal_24 (by first | exact is9.a0 ha) (by decide) (by decide) (Nat.le_of_ble_eq_true rfl) (s_X9_spans ha h3 hl (fun i k e1 e2 e3 => ?_) (fun hn => ?_))
      · refine AW.ifeq1 (tgt := 34) dX9_refusal_27 (by decide) ?_
        refine AW.iconst (v := nI 0) dX9_refusal_30 (by decide) ?_
        refine AW.goto (tgt := 36) dX9_refusal_31 (by decide) ?_
        refine AW.iret dX9_refusal_36 ⟨_, rfl, rfl⟩ (Nat.zero_le _) (Nat.zero_le _) ⟨_, rfl, ?_⟩
        exact q4 c4 c15 i k e1 e2 e3
      · refine AW.ifeq0 (tgt := 34) dX9_refusal_27 (by decide) ?_
        refine AW.bipush (v := (-13)) dX9_refusal_34 (by decide) ?_
        refine AW.iret dX9_refusal_36 ⟨_, rfl, rfl⟩ (Nat.zero_le _) (Nat.zero_le _) ⟨_, rfl, ?_⟩
        exact q3 c4 c15 hn
    · refine AW.bipush (v := (-12)) dX9_refusal_18 (by decide) ?_
      refine AW.iret dX9_refusal_20 ⟨_, rfl, rfl⟩ (Nat.zero_le _) (Nat.zero_le _) ⟨_, rfl, ?_⟩
      exact q2 c4 c15
  · refine AW.bipush (v := (-11)) dX9_refusal_7 (by decide) ?_
    show AW muX9_refusal _ _ 9 _ _ _ _
    refine AW.iret dX9_refusal_9 ⟨_, rfl, rfl⟩ (Nat.zero_le _) (Nat.zero_le _) ⟨_, rfl, ?_⟩
    exact q1 c4
theorem s_X9_put {Q : sd_S → Prop} {i ln : Nat} {v : Int64} (ha : is9 a) (h2 : I a 2 = nI ln) (hln : ln < 4) (hi : i < 24) (hQ : Q (sk0, X, I, sd_u J (a + 1) i (cutL ln v))) : AWv muX9_put [.ref a, .int (nI i), .long v] (sk0, X, I, J) Q := by
  show AW muX9_put 0 0 0 [.ref a, .int (nI i), .long v, .null] [] _ _
  refine AW.aload_n dX9_put_0 rfl rfl ?_
  refine g9_2 dX9_put_1 wF_X9_19 (by first | assumption | rfl | (unfold is9; omega)) ?_
  refine AW.top (h2) ?_
  rcases (show ln = 0 ∨ ln = 1 ∨ ln = 2 ∨ ln = 3 by omega) with rfl | rfl | rfl | rfl
  · refine AW.tableIn (tgt := 32) dX9_put_4 (by decide) (by decide) rfl (by decide) ?_
    refine AW.aload_n dX9_put_32 rfl rfl ?_
    refine g9_0 dX9_put_33 wF_X9_9 (by first | assumption | rfl | (unfold is9; omega)) ?_
    refine AW.iload_n dX9_put_36 rfl rfl ?_
    refine AW.lload_n dX9_put_37 rfl rfl ?_
    show AW muX9_put _ _ 38 _ _ _ _
    refine AW.l2i dX9_put_38 ?_
    refine AW.i2b dX9_put_39 ?_
    refine AW.i2l dX9_put_40 ?_
    refine AW.last dX9_put_41 (by first | exact is9.a1 ha) _ (by first | rfl | assumption) (by omega) (by first | decide | omega) ?_
    refine AW.goto (tgt := 77) dX9_put_42 (by decide) ?_
    refine AW.ret dX9_put_77 rfl (Nat.zero_le _) (Nat.zero_le _) ⟨rfl, ?_⟩
    exact hQ
  · refine AW.tableIn (tgt := 45) dX9_put_4 (by decide) (by decide) rfl (by decide) ?_
    refine AW.aload_n dX9_put_45 rfl rfl ?_
    refine g9_0 dX9_put_46 wF_X9_9 (by first | assumption | rfl | (unfold is9; omega)) ?_
    show AW muX9_put _ _ 49 _ _ _ _
    refine AW.iload_n dX9_put_49 rfl rfl ?_
    refine AW.lload_n dX9_put_50 rfl rfl ?_
    refine AW.l2i dX9_put_51 ?_
    refine AW.i2s dX9_put_52 ?_
    refine AW.i2l dX9_put_53 ?_
    refine AW.last dX9_put_54 (by first | exact is9.a1 ha) _ (by first | rfl | assumption) (by omega) (by first | decide | omega) ?_
    show AW muX9_put _ _ 55 _ _ _ _
    refine AW.goto (tgt := 77) dX9_put_55 (by decide) ?_
    refine AW.ret dX9_put_77 rfl (Nat.zero_le _) (Nat.zero_le _) ⟨rfl, ?_⟩
    exact hQ
  · refine AW.tableIn (tgt := 58) dX9_put_4 (by decide) (by decide) rfl (by decide) ?_
    refine AW.aload_n dX9_put_58 rfl rfl ?_
    refine g9_0 dX9_put_59 wF_X9_9 (by first | assumption | rfl | (unfold is9; omega)) ?_
    refine AW.iload_n dX9_put_62 rfl rfl ?_
    refine AW.lload_n dX9_put_63 rfl rfl ?_
    refine AW.l2i dX9_put_64 ?_
    refine AW.i2l dX9_put_65 ?_
    show AW muX9_put _ _ 66 _ _ _ _
    refine AW.last dX9_put_66 (by first | exact is9.a1 ha) _ (by first | rfl | assumption) (by omega) (by first | decide | omega) ?_
    refine AW.goto (tgt := 77) dX9_put_67 (by decide) ?_
    refine AW.ret dX9_put_77 rfl (Nat.zero_le _) (Nat.zero_le _) ⟨rfl, ?_⟩
    exact hQ
  · refine AW.tableOut (tgt := 70) dX9_put_4 (by decide) (by decide) ?_
    refine AW.aload_n dX9_put_70 rfl rfl ?_
    refine g9_0 dX9_put_71 wF_X9_9 (by first | assumption | rfl | (unfold is9; omega)) ?_
    refine AW.iload_n dX9_put_74 rfl rfl ?_
    refine AW.lload_n dX9_put_75 rfl rfl ?_
    refine AW.last dX9_put_76 (by first | exact is9.a1 ha) _ (by first | rfl | assumption) (by omega) (by first | decide | omega) ?_
    show AW muX9_put _ _ 77 _ _ _ _
    refine AW.ret dX9_put_77 rfl (Nat.zero_le _) (Nat.zero_le _) ⟨rfl, ?_⟩
    exact hQ
theorem lp_X9_renew (ha : is9 a) {l n : Int32} {Q : Option Int32 → sd_S → Prop} : ∀ (m i : Nat) (J : sd_J), 24 - i < m → i ≤ 24 → (∀ q, q < i → J (a + 1) q = lN 0) → (∀ J', (∀ b, b ≠ a + 1 → J' b = J b) → (∀ q, q < 24 → J' (a + 1) q = lN 0) → Q none (sk0, X, I, J')) → AW muX9_renew 0 0 17 [.ref a, .int l, .int n, .int (nI i)] [] (sk0, X, I, J) Q := by
  intro m
  induction m with
  | zero => intros; omega
  | succ m ih =>
    intro i J hm hi hz K
    refine AW.iload_n dX9_renew_17 rfl rfl ?_
    refine AW.bipush (v := nI 24) dX9_renew_18 (by decide) ?_
    first | refine AW.icmp_geN (tgt := 36) dX9_renew_20 (by decide) (by omega) (by omega) (fun c20 => ?_) (fun c20 => ?_) | refine AW.icmp_ge (tgt := 36) dX9_renew_20 (by decide) (fun c20 => ?_) (fun c20 => ?_)
    · refine AW.ret dX9_renew_36 rfl (Nat.zero_le _) (Nat.zero_le _) ?_
      obtain rfl : i = 24 := by omega
      exact K J (fun _ _ => rfl) hz
    · refine AW.aload_n dX9_renew_23 rfl rfl ?_
      refine g9_0 dX9_renew_24 wF_X9_9 (by first | assumption | rfl | (unfold is9; omega)) ?_
      refine AW.iload_n dX9_renew_27 rfl rfl ?_
      refine AW.lconst (v := lN 0) dX9_renew_28 (by decide) ?_
      show AW muX9_renew _ _ 29 _ _ _ _
      refine AW.last dX9_renew_29 (by first | exact is9.a1 ha) _ (by first | rfl | assumption) (by omega) (by first | decide | omega) ?_
      first | refine AW.iincN dX9_renew_30 rfl (by decide) rfl rfl ?_ | refine AW.iinc dX9_renew_30 rfl rfl (by decide) rfl rfl ?_
      refine AW.goto (tgt := 17) dX9_renew_33 (by decide) ?_
      refine ih (i + 1) _ (by omega) (by omega) (fun q hq => ?_) (fun J' f e => K J' (fun b hb => (f b hb).trans (sd_u_ne hb)) e)
      rw [sd_u_eq]
      by_cases e : q = i
      · simp [e]
      · simp only [e, if_false]; exact hz q (by omega)
theorem s_X9_renew {Q : sd_S → Prop} {l n : Int32} (ha : is9 a) (hQ : ∀ J', (∀ b, b ≠ a + 1 → J' b = J b) → (∀ q, q < 24 → J' (a + 1) q = lN 0) → Q (sk0, X, sd_u (sd_u (sd_u I a 1 (nI 1)) a 2 l) a 3 n, J')) : AWv muX9_renew [.ref a, .int l, .int n] (sk0, X, I, J) Q := by
  show AW muX9_renew 0 0 0 [.ref a, .int l, .int n, .null] [] _ _
  refine AW.aload_n dX9_renew_0 rfl rfl ?_
  refine AW.iconst (v := nI 1) dX9_renew_1 (by decide) ?_
  refine p9_1 dX9_renew_2 wF_X9_15 (by first | assumption | rfl | (unfold is9; omega)) (by decide) (by decide) ?_
  refine AW.aload_n dX9_renew_5 rfl rfl ?_
  refine AW.iload_n dX9_renew_6 rfl rfl ?_
  refine p9_2 dX9_renew_7 wF_X9_19 (by first | assumption | rfl | (unfold is9; omega)) ?_
  show AW muX9_renew _ _ 10 _ _ _ _
  refine AW.aload_n dX9_renew_10 rfl rfl ?_
  refine AW.iload_n dX9_renew_11 rfl rfl ?_
  refine p9_3 dX9_renew_12 wF_X9_23 (by first | assumption | rfl | (unfold is9; omega)) ?_
  refine AW.iconst (v := nI 0) dX9_renew_15 (by decide) ?_
  refine AW.istore_n dX9_renew_16 rfl (by decide) rfl rfl ?_
  exact lp_X9_renew ha 25 0 J (by omega) (by omega) (fun q hq => absurd hq (by omega)) (fun J' f e => ⟨rfl, hQ J' f e⟩)
end Sheets
