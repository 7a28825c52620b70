-- the draw
theorem lN_and31 (n : Nat) : lN n &&& lN 2147483647 = lN (n % 2147483648) := by
  apply Int64.toBitVec_inj.mp
  show (lN n).toBitVec &&& (lN 2147483647).toBitVec = (lN (n % 2147483648)).toBitVec
  have hb : ∀ k, (lN k).toBitVec = BitVec.ofNat 64 k := fun k => rfl
  rw [hb, hb, hb, ← BitVec.ofNat_and]
  congr 1
  exact Nat.and_two_pow_sub_one_eq_mod n 31
def drawD (d : Nat) : Nat := (d * 1103515245 + 12345) % 2147483648
theorem drawD_lt (d : Nat) : drawD d < 2147483648 := Nat.mod_lt _ (by decide)
/-- the draw, and what is moved by it -/
def drawN (N : Nat → Nat) : Nat → Nat := if drawD (N 1) / 65536 % 3 = 0 ∧ 0 < N 47 then upN (upN N 1 (drawD (N 1))) (2 + drawD (N 1) / 65536 % N 47) (drawD (N 1) / 128 % 4) else upN N 1 (drawD (N 1))
theorem s_X2_moveByDraw {X : Nat × (Nat → Int32)} {I : sd_I} {J : sd_J} {h : Nat} {N : Nat → Nat} {Q : sd_S → Prop} (hh : is2 h) (hR : HR I h N) (hV : NV N) (hQ : ∀ I', Fr I I' h (h + 17) → HR I' h (drawN N) → Q (sk0, X, I', J)) : AWv muX2_moveByDraw [.ref h] (sk0, X, I, J) Q := by
  have h5 := hV.s5
  have h8 := hV.t8
  have hd := hV.dw
  have hD := drawD_lt (N 1)
  have hR1 : HR (sd_u I (h + 12) 6 (nI (drawD (N 1)))) h (upN N 1 (drawD (N 1))) := HR.up hR h5 h8 HT.dw (by omega) (by omega)
  have hth : sd_u I (h + 12) 6 (nI (drawD (N 1))) h 8 = nI (N 47) := by (repeat first | rw [ru_ne (by omega)] | rw [ru_j] | rw [ru_ij (by omega)] | rw [upN_ne (by omega)] | rw [upN_eq] | rw [rr_ne (by omega)] | rw [rr_eq] | rw [sb_cpy0 (by omega)]); exact hR.th
  have hF1 : Fr I (sd_u I (h + 12) 6 (nI (drawD (N 1)))) h (h + 17) := Fr.u (by omega) (by omega)
  have hdd : sd_u I (h + 12) 6 (nI (drawD (N 1))) (h + 12) 6 = nI (drawD (N 1)) := by (repeat first | rw [ru_ne (by omega)] | rw [ru_j] | rw [ru_ij (by omega)] | rw [upN_ne (by omega)] | rw [upN_eq] | rw [rr_ne (by omega)] | rw [rr_eq] | rw [sb_cpy0 (by omega)])
  have hmod : 0 < N 47 → drawD (N 1) / 65536 % N 47 < N 47 := fun h => Nat.mod_lt _ h
  show AW muX2_moveByDraw 0 0 0 [.ref h, .null] [] _ _
  refine AW.aload_n dX2_moveByDraw_0 rfl rfl ?_
  refine g2_6 dX2_moveByDraw_1 wF_X2_49 (by first | assumption | rfl | (unfold is2; omega)) ?_
  refine AW.aload_n dX2_moveByDraw_4 rfl rfl ?_
  refine g2_6 dX2_moveByDraw_5 wF_X2_49 (by first | assumption | rfl | (unfold is2; omega)) ?_
  refine g4_6 dX2_moveByDraw_8 wF_X2_73 (by first | assumption | exact is2.m (by assumption) | rfl | (unfold is4; omega) | exact is6.m (by assumption) (by omega)) ?_
  refine AW.top (hR.m.dw) ?_
  refine AW.i2l dX2_moveByDraw_11 ?_
  refine AW.topL (nI_l hd) ?_
  show AW muX2_moveByDraw _ _ 12 _ _ _ _
  refine AW.ldc2 (v := lN 1103515245) dX2_moveByDraw_12 wKL_X2_131 ?_
  refine AW.lmul dX2_moveByDraw_15 ?_
  refine AW.topL (lN_mul _ _) ?_
  refine AW.ldc2 (v := lN 12345) dX2_moveByDraw_16 wKL_X2_133 ?_
  refine AW.ladd dX2_moveByDraw_19 ?_
  refine AW.topL (lN_add _ _) ?_
  refine AW.ldc2 (v := lN 2147483647) dX2_moveByDraw_20 wKL_X2_135 ?_
  refine AW.land dX2_moveByDraw_23 ?_
  refine AW.topL (lN_and31 _) ?_
  show AW muX2_moveByDraw _ _ 24 _ _ _ _
  refine AW.l2i dX2_moveByDraw_24 ?_
  refine AW.top (lN_i _) ?_
  refine p4_6 dX2_moveByDraw_25 wF_X2_73 (by first | assumption | exact is2.m (by assumption) | rfl | (unfold is4; omega) | exact is6.m (by assumption) (by omega)) ?_
  refine AW.aload_n dX2_moveByDraw_28 rfl rfl ?_
  refine g2_6 dX2_moveByDraw_29 wF_X2_49 (by first | assumption | rfl | (unfold is2; omega)) ?_
  refine g4_6 dX2_moveByDraw_32 wF_X2_73 (by first | assumption | exact is2.m (by assumption) | rfl | (unfold is4; omega) | exact is6.m (by assumption) (by omega)) ?_
  refine AW.top (hdd) ?_
  refine AW.ldc (v := nI 65536) dX2_moveByDraw_35 wK_X2_137 ?_
  show AW muX2_moveByDraw _ _ 37 _ _ _ _
  first | refine AW.idivN dX2_moveByDraw_37 (by omega) (by omega) (by omega) ?_ | refine AW.idiv dX2_moveByDraw_37 (by first | assumption | decide) ?_
  refine AW.istore_n dX2_moveByDraw_38 rfl (by decide) rfl rfl ?_
  refine AW.iload_n dX2_moveByDraw_39 rfl rfl ?_
  refine AW.iconst (v := nI 3) dX2_moveByDraw_40 (by decide) ?_
  first | refine AW.iremN dX2_moveByDraw_41 (by omega) (by omega) (by omega) ?_ | refine AW.irem dX2_moveByDraw_41 (by first | assumption | decide) ?_
  first | refine AW.if_neN (tgt := 79) dX2_moveByDraw_42 (by decide) (by omega) (fun c42 => ?_) (fun c42 => ?_) | refine AW.if_ne (tgt := 79) dX2_moveByDraw_42 (by decide) (fun c42 => ?_) (fun c42 => ?_)
  · refine AW.ret dX2_moveByDraw_79 rfl (Nat.zero_le _) (Nat.zero_le _) ⟨rfl, ?_⟩
    first | (refine hQ _ hF1 ?_; unfold drawN; rw [if_neg (by omega)]; exact hR1) | (refine hQ _ (hF1.up (by omega) (by omega)) ?_; unfold drawN; rw [if_pos (by omega)]; exact HR.up hR1 (by rw [upN_ne (by omega)]; exact h5) (by rw [upN_ne (by omega)]; exact h8) (HT.pl (by rw [upN_ne (by omega)]; exact hmod (by omega))) (by have := hmod (by omega); omega) (by have := hmod (by omega); omega))
  · refine AW.aload_n dX2_moveByDraw_45 rfl rfl ?_
    show AW muX2_moveByDraw _ _ 46 _ _ _ _
    refine g2_8 dX2_moveByDraw_46 wF_X2_67 (by first | assumption | rfl | (unfold is2; omega)) ?_
    refine AW.top (hth) ?_
    first | refine AW.if_leN (tgt := 79) dX2_moveByDraw_49 (by decide) (by omega) (fun c49 => ?_) (fun c49 => ?_) | refine AW.if_le (tgt := 79) dX2_moveByDraw_49 (by decide) (fun c49 => ?_) (fun c49 => ?_)
    · refine AW.ret dX2_moveByDraw_79 rfl (Nat.zero_le _) (Nat.zero_le _) ⟨rfl, ?_⟩
      first | (refine hQ _ hF1 ?_; unfold drawN; rw [if_neg (by omega)]; exact hR1) | (refine hQ _ (hF1.up (by omega) (by omega)) ?_; unfold drawN; rw [if_pos (by omega)]; exact HR.up hR1 (by rw [upN_ne (by omega)]; exact h5) (by rw [upN_ne (by omega)]; exact h8) (HT.pl (by rw [upN_ne (by omega)]; exact hmod (by omega))) (by have := hmod (by omega); omega) (by have := hmod (by omega); omega))
    · refine AW.aload_n dX2_moveByDraw_52 rfl rfl ?_
      refine g2_6 dX2_moveByDraw_53 wF_X2_49 (by first | assumption | rfl | (unfold is2; omega)) ?_
      refine g4_0 dX2_moveByDraw_56 wF_X2_85 (by first | assumption | exact is2.m (by assumption) | rfl | (unfold is4; omega) | exact is6.m (by assumption) (by omega)) ?_
      refine AW.iload_n dX2_moveByDraw_59 rfl rfl ?_
      refine AW.aload_n dX2_moveByDraw_60 rfl rfl ?_
      show AW muX2_moveByDraw _ _ 61 _ _ _ _
      refine g2_8 dX2_moveByDraw_61 wF_X2_67 (by first | assumption | rfl | (unfold is2; omega)) ?_
      refine AW.top (hth) ?_
      first | refine AW.iremN dX2_moveByDraw_64 (by omega) (by omega) (by omega) ?_ | refine AW.irem dX2_moveByDraw_64 (by first | assumption | decide) ?_
      refine AW.aload_n dX2_moveByDraw_65 rfl rfl ?_
      refine g2_6 dX2_moveByDraw_66 wF_X2_49 (by first | assumption | rfl | (unfold is2; omega)) ?_
      refine g4_6 dX2_moveByDraw_69 wF_X2_73 (by first | assumption | exact is2.m (by assumption) | rfl | (unfold is4; omega) | exact is6.m (by assumption) (by omega)) ?_
      refine AW.top (hdd) ?_
      refine AW.sipush (v := nI 128) dX2_moveByDraw_72 (by decide) ?_
      show AW muX2_moveByDraw _ _ 75 _ _ _ _
      first | refine AW.idivN dX2_moveByDraw_75 (by omega) (by omega) (by omega) ?_ | refine AW.idiv dX2_moveByDraw_75 (by first | assumption | decide) ?_
      refine AW.iconst (v := nI 4) dX2_moveByDraw_76 (by decide) ?_
      first | refine AW.iremN dX2_moveByDraw_77 (by omega) (by omega) (by omega) ?_ | refine AW.irem dX2_moveByDraw_77 (by first | assumption | decide) ?_
      refine AW.iast dX2_moveByDraw_78 (by first | exact is4.a1 (is2.m hh)) _ (by first | rfl | assumption) (by have := hmod (by omega); omega) (by first | decide | omega) ?_
      refine AW.ret dX2_moveByDraw_79 rfl (Nat.zero_le _) (Nat.zero_le _) ⟨rfl, ?_⟩
      first | (refine hQ _ hF1 ?_; unfold drawN; rw [if_neg (by omega)]; exact hR1) | (refine hQ _ (hF1.up (by omega) (by omega)) ?_; unfold drawN; rw [if_pos (by omega)]; exact HR.up hR1 (by rw [upN_ne (by omega)]; exact h5) (by rw [upN_ne (by omega)]; exact h8) (HT.pl (by rw [upN_ne (by omega)]; exact hmod (by omega))) (by have := hmod (by omega); omega) (by have := hmod (by omega); omega))
