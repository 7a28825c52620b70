-- the class's own calls: change, backs
def ush (i k : Int32) : Int32 := (i.toUInt32 >>> (k.toUInt32 &&& Int32.toUInt32 31)).toInt32
def bc1 (i : Int32) : Int32 := i - (ush i (nI 1) &&& nI 1431655765)
def bc2 (i : Int32) : Int32 := (i &&& nI 858993459) + (ush i (nI 2) &&& nI 858993459)
def bc3 (i : Int32) : Int32 := (i + ush i (nI 4)) &&& nI 252645135
def bc4 (i : Int32) : Int32 := i + ush i (nI 8)
def bc5 (i : Int32) : Int32 := i + ush i (nI 16)
def popc (w : Nat) : Nat := sumN 10 (fun k => if w.testBit k then 1 else 0)
theorem bitc : ∀ w : Fin 256, bc5 (bc4 (bc3 (bc2 (bc1 (nI w.val))))) &&& nI 63 = nI (popc w.val) := by decide +kernel
def chS (W : Nat → Nat → Nat) (i j : Nat) (st : Int32 × Nat) : Int32 × Nat := if W i j < st.2 then (nI (10 * i + j), W i j) else st
def chJ (W : Nat → Nat → Nat) (i : Nat) : Nat → Nat → Int32 × Nat → Int32 × Nat
  | 0, _, st => st
  | m + 1, j, st => chJ W i m (j + 1) (chS W i j st)
def chI (W : Nat → Nat → Nat) : Nat → Nat → Int32 × Nat → Int32 × Nat
  | 0, _, st => st
  | m + 1, i, st => chI W m (i + 1) (chJ W i (3 - i) (i + 1) st)
theorem chJ_succ {W : Nat → Nat → Nat} {i m j : Nat} {st : Int32 × Nat} : chJ W i (m + 1) j st = chJ W i m (j + 1) (chS W i j st) := by rw [chJ]
theorem chI_succ {W : Nat → Nat → Nat} {i m : Nat} {st : Int32 × Nat} : chI W (m + 1) i st = chI W m (i + 1) (chJ W i (3 - i) (i + 1) st) := by rw [chI]
def chW (N : Nat → Nat) (n i j : Nat) : Nat := oWs N (fun q => sw i j (N (2 + q))) n
theorem sw_lt {i j r : Nat} (hi : i < 4) (hj : j < 4) (hr : r < 4) : sw i j r < 4 := by unfold sw; split; exact hj; split; exact hi; exact hr
section Pub3
variable {X : Nat × (Nat → Int32)} {I : sd_I} {J : sd_J} {N : Nat → Nat} {Q : Int32 → sd_S → Prop}
theorem s_J6_bitCount {C : List sd_C} {w : Nat} (hw : w < 256) (hQ : Q (nI (popc w)) (C, X, I, J)) : AWi muJ6_bitCount_0f7a4 [.int (nI w)] (C, X, I, J) Q := by
  show AW muJ6_bitCount_0f7a4 0 0 0 [.int (nI w)] [] _ _
  refine AW.iload_n dJ6_bitCount_0f7a4_0 rfl rfl ?_
  refine AW.iload_n dJ6_bitCount_0f7a4_1 rfl rfl ?_
  refine AW.iconst (v := nI 1) dJ6_bitCount_0f7a4_2 (by decide) ?_
  refine AW.iushr dJ6_bitCount_0f7a4_3 ?_
  refine AW.ldcw (v := nI 1431655765) dJ6_bitCount_0f7a4_4 wK_J6_265 ?_
  refine AW.iand dJ6_bitCount_0f7a4_7 ?_
  show AW muJ6_bitCount_0f7a4 _ _ 8 _ _ _ _
  refine AW.isub dJ6_bitCount_0f7a4_8 ?_
  refine AW.top (show _ = bc1 (nI w) from rfl) ?_
  refine AW.istore_n dJ6_bitCount_0f7a4_9 rfl (by decide) rfl rfl ?_
  refine AW.iload_n dJ6_bitCount_0f7a4_10 rfl rfl ?_
  refine AW.ldcw (v := nI 858993459) dJ6_bitCount_0f7a4_11 wK_J6_266 ?_
  refine AW.iand dJ6_bitCount_0f7a4_14 ?_
  refine AW.iload_n dJ6_bitCount_0f7a4_15 rfl rfl ?_
  show AW muJ6_bitCount_0f7a4 _ _ 16 _ _ _ _
  refine AW.iconst (v := nI 2) dJ6_bitCount_0f7a4_16 (by decide) ?_
  refine AW.iushr dJ6_bitCount_0f7a4_17 ?_
  refine AW.ldcw (v := nI 858993459) dJ6_bitCount_0f7a4_18 wK_J6_266 ?_
  refine AW.iand dJ6_bitCount_0f7a4_21 ?_
  refine AW.iadd dJ6_bitCount_0f7a4_22 ?_
  refine AW.top (show _ = bc2 (bc1 (nI w)) from rfl) ?_
  refine AW.istore_n dJ6_bitCount_0f7a4_23 rfl (by decide) rfl rfl ?_
  show AW muJ6_bitCount_0f7a4 _ _ 24 _ _ _ _
  refine AW.iload_n dJ6_bitCount_0f7a4_24 rfl rfl ?_
  refine AW.iload_n dJ6_bitCount_0f7a4_25 rfl rfl ?_
  refine AW.iconst (v := nI 4) dJ6_bitCount_0f7a4_26 (by decide) ?_
  refine AW.iushr dJ6_bitCount_0f7a4_27 ?_
  refine AW.iadd dJ6_bitCount_0f7a4_28 ?_
  refine AW.ldcw (v := nI 252645135) dJ6_bitCount_0f7a4_29 wK_J6_267 ?_
  show AW muJ6_bitCount_0f7a4 _ _ 32 _ _ _ _
  refine AW.iand dJ6_bitCount_0f7a4_32 ?_
  refine AW.top (show _ = bc3 (bc2 (bc1 (nI w))) from rfl) ?_
  refine AW.istore_n dJ6_bitCount_0f7a4_33 rfl (by decide) rfl rfl ?_
  refine AW.iload_n dJ6_bitCount_0f7a4_34 rfl rfl ?_
  refine AW.iload_n dJ6_bitCount_0f7a4_35 rfl rfl ?_
  refine AW.bipush (v := nI 8) dJ6_bitCount_0f7a4_36 (by decide) ?_
  refine AW.iushr dJ6_bitCount_0f7a4_38 ?_
  show AW muJ6_bitCount_0f7a4 _ _ 39 _ _ _ _
  refine AW.iadd dJ6_bitCount_0f7a4_39 ?_
  refine AW.top (show _ = bc4 (bc3 (bc2 (bc1 (nI w)))) from rfl) ?_
  refine AW.istore_n dJ6_bitCount_0f7a4_40 rfl (by decide) rfl rfl ?_
  refine AW.iload_n dJ6_bitCount_0f7a4_41 rfl rfl ?_
  refine AW.iload_n dJ6_bitCount_0f7a4_42 rfl rfl ?_
  refine AW.bipush (v := nI 16) dJ6_bitCount_0f7a4_43 (by decide) ?_
  refine AW.iushr dJ6_bitCount_0f7a4_45 ?_
  show AW muJ6_bitCount_0f7a4 _ _ 46 _ _ _ _
  refine AW.iadd dJ6_bitCount_0f7a4_46 ?_
  refine AW.top (show _ = bc5 (bc4 (bc3 (bc2 (bc1 (nI w))))) from rfl) ?_
  refine AW.istore_n dJ6_bitCount_0f7a4_47 rfl (by decide) rfl rfl ?_
  refine AW.iload_n dJ6_bitCount_0f7a4_48 rfl rfl ?_
  refine AW.bipush (v := nI 63) dJ6_bitCount_0f7a4_49 (by decide) ?_
  refine AW.iand dJ6_bitCount_0f7a4_51 ?_
  refine AW.top (bitc ⟨w, hw⟩) ?_
  refine AW.iret dJ6_bitCount_0f7a4_52 ⟨_, rfl, rfl⟩ (Nat.zero_le _) (Nat.zero_le _) ⟨_, rfl, ?_⟩
  exact hQ
theorem lpJ_X11_change {n w i : Nat} (hV : NV N) (hn : n ≤ 40) (hi : i < 4) {Q : Option Int32 → sd_S → Prop} : ∀ (m j : Nat) (I : sd_I) (pl : Nat → Nat) (st : Int32 × Nat) (v7 : Value), 4 - j < m → j ≤ 4 → HR I 1 N → OL I N n pl → st.2 ≤ 200 → (∀ I' pl' v6 v7, Fr I I' 157 160 → OL I' N n pl' → (chJ (chW N n) i (4 - j) j st).2 ≤ 200 → AW muX11_change 0 0 124 [.ref 0, .int (nI n), .int (nI w), .int (chJ (chW N n) i (4 - j) j st).1, .int (nI (chJ (chW N n) i (4 - j) j st).2), .int (nI i), v6, v7] [] (sk0, X, I', J) Q) → AW muX11_change 0 0 64 [.ref 0, .int (nI n), .int (nI w), .int st.1, .int (nI st.2), .int (nI i), .int (nI j), v7] [] (sk0, X, I, J) Q := by
  have h5 := hV.s5
  intro m
  induction m with
  | zero => intros; omega
  | succ m ih =>
    intro j I pl st v7 hm hj hR hO hst K
    have hWj : chW N n i j ≤ 200 := Nat.le_trans (oWs_le h5 n) (by omega)
    refine AW.iload dX11_change_64 rfl ?_
    refine AW.iconst (v := nI 4) dX11_change_66 (by decide) ?_
    first | refine AW.icmp_geN (tgt := 124) dX11_change_67 (by decide) (by omega) (by omega) (fun c67 => ?_) (fun c67 => ?_) | refine AW.icmp_ge (tgt := 124) dX11_change_67 (by decide) (fun c67 => ?_) (fun c67 => ?_)
    · obtain rfl : j = 4 := by omega
      have := K I pl (.int (nI 4)) v7 Fr.rf hO
      rw [Nat.sub_self, chJ] at this
      exact this hst
    · refine AW.aload_n dX11_change_70 rfl rfl ?_
      refine g11_7 dX11_change_71 wF_X11_42 (by first | assumption | rfl | (unfold is11; omega)) ?_
      refine AW.aload_n dX11_change_74 rfl rfl ?_
      refine g11_0 dX11_change_75 wF_X11_10 (by first | assumption | rfl | (unfold is11; omega)) ?_
      show AW muX11_change _ _ 78 _ _ _ _
      refine AW.iload dX11_change_78 rfl ?_
      refine AW.iload dX11_change_80 rfl ?_
      refine cs_X11_change_82 (by first | exact k0_157) (by decide) (by decide) (Nat.le_of_ble_eq_true rfl) (s_X5_swapRooms i2_1 hR hV hO hi (by omega) (fun I1 f1 O1 => ?_))
      refine AW.aload_n dX11_change_85 rfl rfl ?_
      refine g11_7 dX11_change_86 wF_X11_42 (by first | assumption | rfl | (unfold is11; omega)) ?_
      refine AW.aload_n dX11_change_89 rfl rfl ?_
      show AW muX11_change _ _ 90 _ _ _ _
      refine g11_0 dX11_change_90 wF_X11_10 (by first | assumption | rfl | (unfold is11; omega)) ?_
      refine cs_X11_change_93 (by first | exact k0_157) (by decide) (by decide) (Nat.le_of_ble_eq_true rfl) (s_X5_wakings (pl := fun q => sw i j (N (2 + q))) i2_1 hV (hR.of (fun b b1 b2 b3 => f1 b (by omega))) O1 (by omega) (fun t ht => sw_lt hi (by omega) (hV.pl ht)) (fun I2 f2 => ?_))
      show AW muX11_change 0 0 96 _ [.int (nI (chW N n i j))] _ _
      refine AW.istore dX11_change_96 (by decide) rfl rfl ?_
      refine AW.iload dX11_change_98 rfl ?_
      refine AW.iload dX11_change_100 rfl ?_
      first | refine AW.icmp_geN (tgt := 118) dX11_change_102 (by decide) (by omega) (by omega) (fun c102 => ?_) (fun c102 => ?_) | refine AW.icmp_ge (tgt := 118) dX11_change_102 (by decide) (fun c102 => ?_) (fun c102 => ?_)
      · first | refine AW.iincN dX11_change_118 rfl (by decide) rfl rfl ?_ | refine AW.iinc dX11_change_118 rfl rfl (by decide) rfl rfl ?_
        show AW muX11_change _ _ 121 _ _ _ _
        refine AW.goto (tgt := 64) dX11_change_121 (by decide) ?_
        have hss : 4 - j = (4 - (j + 1)) + 1 := by omega
        rw [hss, chJ_succ] at K
        have := ih (j + 1) I2 _ (chS (chW N n) i j st) (.int (nI (chW N n i j))) (by omega) (by omega) (hR.of (fun b b1 b2 b3 => by rw [f2 b (by omega), f1 b (by omega)])) (O1.of (fun b b1 b2 => f2 b (by omega))) (by unfold chS; split <;> first | exact hWj | exact hst) (fun I' pl' v6 v7 f => K I' pl' v6 v7 (f1.tr ((f2.w (by omega) (by omega)).tr f)))
        unfold chS at this
        first | (rw [if_pos (show chW N n i j < st.2 by omega)] at this; exact this) | (rw [if_neg (show ¬ chW N n i j < st.2 by omega)] at this; exact this)
      · refine AW.bipush (v := nI 10) dX11_change_105 (by decide) ?_
        refine AW.iload dX11_change_107 rfl ?_
        first | refine AW.imulN dX11_change_109 ?_ | refine AW.imul dX11_change_109 ?_
        refine AW.iload dX11_change_110 rfl ?_
        first | refine AW.iaddN dX11_change_112 ?_ | refine AW.iadd dX11_change_112 ?_
        refine AW.istore_n dX11_change_113 rfl (by decide) rfl rfl ?_
        show AW muX11_change _ _ 114 _ _ _ _
        refine AW.iload dX11_change_114 rfl ?_
        refine AW.istore dX11_change_116 (by decide) rfl rfl ?_
        first | refine AW.iincN dX11_change_118 rfl (by decide) rfl rfl ?_ | refine AW.iinc dX11_change_118 rfl rfl (by decide) rfl rfl ?_
        refine AW.goto (tgt := 64) dX11_change_121 (by decide) ?_
        have hss : 4 - j = (4 - (j + 1)) + 1 := by omega
        rw [hss, chJ_succ] at K
        have := ih (j + 1) I2 _ (chS (chW N n) i j st) (.int (nI (chW N n i j))) (by omega) (by omega) (hR.of (fun b b1 b2 b3 => by rw [f2 b (by omega), f1 b (by omega)])) (O1.of (fun b b1 b2 => f2 b (by omega))) (by unfold chS; split <;> first | exact hWj | exact hst) (fun I' pl' v6 v7 f => K I' pl' v6 v7 (f1.tr ((f2.w (by omega) (by omega)).tr f)))
        unfold chS at this
        first | (rw [if_pos (show chW N n i j < st.2 by omega)] at this; exact this) | (rw [if_neg (show ¬ chW N n i j < st.2 by omega)] at this; exact this)
theorem lpI_X11_change {n w : Nat} (hV : NV N) (hn : n ≤ 40) {Q : Option Int32 → sd_S → Prop} : ∀ (m i : Nat) (I : sd_I) (pl : Nat → Nat) (st : Int32 × Nat) (v6 v7 : Value), 4 - i < m → i ≤ 4 → HR I 1 N → OL I N n pl → st.2 ≤ 200 → (∀ I' v5 v6 v7, Fr I I' 157 160 → (chI (chW N n) (4 - i) i st).2 ≤ 200 → AW muX11_change 0 0 130 [.ref 0, .int (nI n), .int (nI w), .int (chI (chW N n) (4 - i) i st).1, .int (nI (chI (chW N n) (4 - i) i st).2), v5, v6, v7] [] (sk0, X, I', J) Q) → AW muX11_change 0 0 52 [.ref 0, .int (nI n), .int (nI w), .int st.1, .int (nI st.2), .int (nI i), v6, v7] [] (sk0, X, I, J) Q := by
  intro m
  induction m with
  | zero => intros; omega
  | succ m ih =>
    intro i I pl st v6 v7 hm hi hR hO hst K
    refine AW.iload dX11_change_52 rfl ?_
    refine AW.iconst (v := nI 4) dX11_change_54 (by decide) ?_
    first | refine AW.icmp_geN (tgt := 130) dX11_change_55 (by decide) (by omega) (by omega) (fun c55 => ?_) (fun c55 => ?_) | refine AW.icmp_ge (tgt := 130) dX11_change_55 (by decide) (fun c55 => ?_) (fun c55 => ?_)
    · obtain rfl : i = 4 := by omega
      have := K I (.int (nI 4)) v6 v7 Fr.rf
      rw [Nat.sub_self, chI] at this
      exact this hst
    · refine AW.iload dX11_change_58 rfl ?_
      refine AW.iconst (v := nI 1) dX11_change_60 (by decide) ?_
      first | refine AW.iaddN dX11_change_61 ?_ | refine AW.iadd dX11_change_61 ?_
      refine AW.istore dX11_change_62 (by decide) rfl rfl ?_
      show AW muX11_change _ _ 64 _ _ _ _
      refine lpJ_X11_change hV hn (by omega) 5 (i + 1) I pl st v7 (by omega) (by omega) hR hO hst (fun I' pl' v6 v7 f O' hs' => ?_)
      have hss : 4 - i = (4 - (i + 1)) + 1 := by omega
      rw [hss, chI_succ] at K
      have e3 : 4 - (i + 1) = 3 - i := by omega
      rw [e3] at hs' ⊢
      refine AW.iincN dX11_change_124 rfl (by decide) rfl rfl ?_
      refine AW.goto (tgt := 52) dX11_change_127 (by decide) ?_
      exact ih (i + 1) I' pl' (chJ (chW N n) i (3 - i) (i + 1) st) v6 v7 (by omega) (by omega) (hR.of (fun b b1 b2 b3 => f b (by omega))) O' hs' (fun I'' v5 v6 v7 f' => K I'' v5 v6 v7 (f.tr f'))
theorem c_change {x y : Int32} (hV : NV N) (hR : HR I 1 N) (q1 : ¬ (inR x 1 41 ∧ inR y 0 2) → Q (-1) (sk0, X, I, J)) (q2 : ∀ n w, 1 ≤ n → n < 41 → w < 2 → x = nI n → y = nI w → ∀ I', Fr I I' 157 160 → Q (if (chI (chW N n) 4 0 (-4, oWs N (pl0 N) n)).1 = -4 ∨ w = 0 then (chI (chW N n) 4 0 (-4, oWs N (pl0 N) n)).1 else nI (chI (chW N n) 4 0 (-4, oWs N (pl0 N) n)).2) (sk0, X, I', J)) : AWi muX11_change [.ref 0, .int x, .int y] (sk0, X, I, J) Q := by
  have h5 := hV.s5
  show AW muX11_change 0 0 0 [.ref 0, .int x, .int y, .null, .null, .null, .null, .null] [] _ _
  refine AW.iload_n dX11_change_0 rfl rfl ?_
  refine AW.iconst (v := nI 1) dX11_change_1 (by decide) ?_
  refine AW.bipush (v := nI 40) dX11_change_2 (by decide) ?_
  refine cs_X11_change_4 (by decide) (by decide) (Nat.le_of_ble_eq_true rfl) (s_X11_within (lo := 1) (hi := 41) (by decide) (by decide) (by decide) (fun n hn1 hn ex => ?_) (fun hn => ?_))
  · refine AW.ifeq1 (tgt := 19) dX11_change_7 (by decide) ?_
    refine AW.iload_n dX11_change_10 rfl rfl ?_
    refine AW.iconst (v := nI 0) dX11_change_11 (by decide) ?_
    refine AW.iconst (v := nI 1) dX11_change_12 (by decide) ?_
    show AW muX11_change _ _ 13 _ _ _ _
    refine cs_X11_change_13 (by decide) (by decide) (Nat.le_of_ble_eq_true rfl) (s_X11_within (lo := 0) (hi := 2) (by decide) (by decide) (by decide) (fun w hw1 hw ey => ?_) (fun hn => ?_))
    · refine AW.ifne1 (tgt := 21) dX11_change_16 (by decide) ?_
      subst ex; subst ey
      refine AW.aload_n dX11_change_21 rfl rfl ?_
      refine g11_7 dX11_change_22 wF_X11_42 (by first | assumption | rfl | (unfold is11; omega)) ?_
      refine AW.aload_n dX11_change_25 rfl rfl ?_
      refine g11_0 dX11_change_26 wF_X11_10 (by first | assumption | rfl | (unfold is11; omega)) ?_
      refine AW.iload_n dX11_change_29 rfl rfl ?_
      refine cs_X11_change_30 (by first | exact k0_157) (by decide) (by decide) (Nat.le_of_ble_eq_true rfl) (s_X5_look i2_1 hR hV (by omega) (fun I1 f1 O1 => ?_))
      show AW muX11_change _ _ 33 _ _ _ _
      refine AW.bipush (v := (-4)) dX11_change_33 (by decide) ?_
      refine AW.istore_n dX11_change_35 rfl (by decide) rfl rfl ?_
      refine AW.aload_n dX11_change_36 rfl rfl ?_
      refine g11_7 dX11_change_37 wF_X11_42 (by first | assumption | rfl | (unfold is11; omega)) ?_
      refine AW.aload_n dX11_change_40 rfl rfl ?_
      refine g11_0 dX11_change_41 wF_X11_10 (by first | assumption | rfl | (unfold is11; omega)) ?_
      show AW muX11_change _ _ 44 _ _ _ _
      refine cs_X11_change_44 (by first | exact k0_157) (by decide) (by decide) (Nat.le_of_ble_eq_true rfl) (s_X5_wakings (pl := pl0 N) i2_1 hV (hR.of (fun b b1 b2 b3 => f1 b (by omega))) O1 (by omega) (fun t ht => hV.pl ht) (fun I2 f2 => ?_))
      refine AW.istore dX11_change_47 (by decide) rfl rfl ?_
      refine AW.iconst (v := nI 0) dX11_change_49 (by decide) ?_
      refine AW.istore dX11_change_50 (by decide) rfl rfl ?_
      refine lpI_X11_change hV (by omega) 5 0 I2 (pl0 N) (-4, oWs N (pl0 N) n) .null .null (by omega) (by omega) (hR.of (fun b b1 b2 b3 => by rw [f2 b (by omega), f1 b (by omega)])) (OL.of O1 (fun b b1 b2 => f2 b (by omega))) (Nat.le_trans (oWs_le h5 n) (by omega)) (fun I3 v5 v6 v7 f3 hs3 => ?_)
      have hq := q2 n w hn1 hn hw rfl rfl I3 (f1.tr ((f2.w (by omega) (by omega)).tr f3))
      show AW muX11_change 0 0 130 [.ref 0, .int (nI n), .int (nI w), .int (chI (chW N n) 4 0 (-4, oWs N (pl0 N) n)).1, .int (nI (chI (chW N n) 4 0 (-4, oWs N (pl0 N) n)).2), v5, v6, v7] [] _ _
      generalize chI (chW N n) 4 0 (-4, oWs N (pl0 N) n) = R at hq
      refine AW.iload_n dX11_change_130 rfl rfl ?_
      refine AW.bipush (v := (-4)) dX11_change_131 (by decide) ?_
      show AW muX11_change _ _ 133 _ _ _ _
      refine AW.icmp_eq (tgt := 140) dX11_change_133 (by decide) (fun c133 => ?_) (fun c133 => ?_)
      · refine AW.iload_n dX11_change_140 rfl rfl ?_
        refine AW.goto (tgt := 146) dX11_change_141 (by decide) ?_
        refine AW.iret dX11_change_146 ⟨_, rfl, rfl⟩ (Nat.zero_le _) (Nat.zero_le _) ⟨_, rfl, ?_⟩
        first | (rw [if_pos (Or.inl c133)] at hq; exact hq) | (rw [if_pos (Or.inr c137)] at hq; exact hq) | (rw [if_neg (fun e => e.elim c133 c137)] at hq; exact hq)
      · refine AW.iload_n dX11_change_136 rfl rfl ?_
        first | refine AW.if_neN (tgt := 144) dX11_change_137 (by decide) (by omega) (fun c137 => ?_) (fun c137 => ?_) | refine AW.if_ne (tgt := 144) dX11_change_137 (by decide) (fun c137 => ?_) (fun c137 => ?_)
        · refine AW.iload dX11_change_144 rfl ?_
          refine AW.iret dX11_change_146 ⟨_, rfl, rfl⟩ (Nat.zero_le _) (Nat.zero_le _) ⟨_, rfl, ?_⟩
          first | (rw [if_pos (Or.inl c133)] at hq; exact hq) | (rw [if_pos (Or.inr c137)] at hq; exact hq) | (rw [if_neg (fun e => e.elim c133 c137)] at hq; exact hq)
        · refine AW.iload_n dX11_change_140 rfl rfl ?_
          refine AW.goto (tgt := 146) dX11_change_141 (by decide) ?_
          refine AW.iret dX11_change_146 ⟨_, rfl, rfl⟩ (Nat.zero_le _) (Nat.zero_le _) ⟨_, rfl, ?_⟩
          first | (rw [if_pos (Or.inl c133)] at hq; exact hq) | (rw [if_pos (Or.inr c137)] at hq; exact hq) | (rw [if_neg (fun e => e.elim c133 c137)] at hq; exact hq)
    · refine AW.ifne0 (tgt := 21) dX11_change_16 (by decide) ?_
      refine AW.iconst (v := (-1)) dX11_change_19 (by decide) ?_
      refine AW.iret dX11_change_20 ⟨_, rfl, rfl⟩ (Nat.zero_le _) (Nat.zero_le _) ⟨_, rfl, ?_⟩
      first | exact q1 (fun h => hn h.1) | exact q1 (fun h => hn h.2)
  · refine AW.ifeq0 (tgt := 19) dX11_change_7 (by decide) ?_
    refine AW.iconst (v := (-1)) dX11_change_19 (by decide) ?_
    show AW muX11_change _ _ 20 _ _ _ _
    refine AW.iret dX11_change_20 ⟨_, rfl, rfl⟩ (Nat.zero_le _) (Nat.zero_le _) ⟨_, rfl, ?_⟩
    first | exact q1 (fun h => hn h.1) | exact q1 (fun h => hn h.2)
def quietP (N : Nat → Nat) (n w : Nat) : Prop := ∀ q, q < n → oW N (pl0 N) w q (N 36) = 0
/-- w is the least of the quiet sets with the fewest bits -/
def leastP (N : Nat → Nat) (n w : Nat) : Prop := w < 2 ^ N 47 ∧ quietP N n w ∧ ∀ u, u < 2 ^ N 47 → quietP N n u → popc w < popc u ∨ (popc u = popc w ∧ w ≤ u)
theorem popc_le (w : Nat) : popc w ≤ 10 := by
  have h : popc w ≤ 10 * 1 := sumN_le (fun t _ => by split <;> omega)
  omega
theorem lpS_X11_backs {n w z : Nat} (hV : NV N) (hn : n ≤ 40) (hz : z ≤ N 47) {Q : Option Int32 → sd_S → Prop} : ∀ (m u : Nat) (I : sd_I), 2 ^ N 47 - u < m → u ≤ 2 ^ N 47 → HR I 1 N → OL I N n (pl0 N) → (∀ v, v < u → popc v = z → ¬ quietP N n v) → (∀ I' v4, Fr I I' 160 160 → (∀ v, v < 2 ^ N 47 → popc v = z → ¬ quietP N n v) → AW muX11_backs 0 0 105 [.ref 0, .int (nI n), .int (nI w), .int (nI z), v4] [] (sk0, X, I', J) Q) → (∀ I' u, Fr I I' 160 160 → u < 2 ^ N 47 → popc u = z → quietP N n u → (∀ v, v < u → popc v = z → ¬ quietP N n v) → Q (some (nI (if w = 0 then z else u))) (sk0, X, I', J)) → (w < 2) → AW muX11_backs 0 0 49 [.ref 0, .int (nI n), .int (nI w), .int (nI z), .int (nI u)] [] (sk0, X, I, J) Q := by
  have h5 := hV.s5
  have h8 := hV.t8
  have hp : 2 ^ N 47 ≤ 2 ^ 8 := Nat.pow_le_pow_right (by decide) h8
  intro m
  induction m with
  | zero => intros; omega
  | succ m ih =>
    intro u I hm hu hR hO hno K1 K2 hw
    have hpc := popc_le u
    refine AW.iload dX11_backs_49 rfl ?_
    refine AW.iconst (v := nI 1) dX11_backs_51 (by decide) ?_
    refine AW.aload_n dX11_backs_52 rfl rfl ?_
    refine g11_0 dX11_backs_53 wF_X11_10 (by first | assumption | rfl | (unfold is11; omega)) ?_
    refine g2_8 dX11_backs_56 wF_X11_75 (by first | assumption | rfl | (unfold is2; omega)) ?_
    refine AW.top (hR.th) ?_
    refine AW.ishl dX11_backs_59 ?_
    refine AW.top (nI_shl1 (by omega)) ?_
    show AW muX11_backs _ _ 60 _ _ _ _
    first | refine AW.icmp_geN (tgt := 105) dX11_backs_60 (by decide) (by omega) (by omega) (fun c60 => ?_) (fun c60 => ?_) | refine AW.icmp_ge (tgt := 105) dX11_backs_60 (by decide) (fun c60 => ?_) (fun c60 => ?_)
    · obtain rfl : u = 2 ^ N 47 := by omega
      exact K1 I _ Fr.rf hno
    · refine AW.iload dX11_backs_63 rfl ?_
      refine cs_X11_backs_65 (by decide) (by decide) (Nat.le_of_ble_eq_true rfl) (s_J6_bitCount (by omega) ?_)
      refine AW.iload_n dX11_backs_68 rfl rfl ?_
      first | refine AW.icmp_neN (tgt := 99) dX11_backs_69 (by decide) (by omega) (by omega) (fun c69 => ?_) (fun c69 => ?_) | refine AW.icmp_ne (tgt := 99) dX11_backs_69 (by decide) (fun c69 => ?_) (fun c69 => ?_)
      · first | refine AW.iincN dX11_backs_99 rfl (by decide) rfl rfl ?_ | refine AW.iinc dX11_backs_99 rfl rfl (by decide) rfl rfl ?_
        refine AW.goto (tgt := 49) dX11_backs_102 (by decide) ?_
        first | exact ih (u + 1) I1 (by omega) (by omega) (hR.of (fun b b1 b2 b3 => f1 b (by omega))) (hO.of (fun b b1 b2 => f1 b (by omega))) (fun v hv hpv => by by_cases e : v = u; (subst e; exact e1); exact hno v (by omega) hpv) (fun I' v4 f => K1 I' v4 (f1.tr f)) (fun I' q f => K2 I' q (f1.tr f)) hw | exact ih (u + 1) I (by omega) (by omega) hR hO (fun v hv hpv => by by_cases e : v = u; (subst e; exact absurd hpv c69); exact hno v (by omega) hpv) K1 K2 hw
      · refine AW.aload_n dX11_backs_72 rfl rfl ?_
        refine g11_7 dX11_backs_73 wF_X11_42 (by first | assumption | rfl | (unfold is11; omega)) ?_
        show AW muX11_backs _ _ 76 _ _ _ _
        refine AW.aload_n dX11_backs_76 rfl rfl ?_
        refine g11_0 dX11_backs_77 wF_X11_10 (by first | assumption | rfl | (unfold is11; omega)) ?_
        refine AW.iload dX11_backs_80 rfl ?_
        refine cs_X11_backs_82 (by first | exact k0_157) (by decide) (by decide) (Nat.le_of_ble_eq_true rfl) (s_X5_isQuietWithout (pl := pl0 N) i2_1 hV hR hO (by omega) (by omega) (fun t ht => hV.pl ht) (fun I1 f1 e1 => ?_) (fun I1 f1 e1 => ?_))
        · refine AW.ifeq1 (tgt := 99) dX11_backs_85 (by decide) ?_
          refine AW.iload_n dX11_backs_88 rfl rfl ?_
          first | refine AW.if_neN (tgt := 96) dX11_backs_89 (by decide) (by omega) (fun c89 => ?_) (fun c89 => ?_) | refine AW.if_ne (tgt := 96) dX11_backs_89 (by decide) (fun c89 => ?_) (fun c89 => ?_)
          · refine AW.iload dX11_backs_96 rfl ?_
            refine AW.iret dX11_backs_98 ⟨_, rfl, rfl⟩ (Nat.zero_le _) (Nat.zero_le _) ?_
            have hq := K2 I1 u f1 (by omega) c69 e1 hno
            first | (rw [if_pos c89] at hq; exact hq) | (rw [if_neg c89] at hq; exact hq)
          · refine AW.iload_n dX11_backs_92 rfl rfl ?_
            show AW muX11_backs _ _ 93 _ _ _ _
            refine AW.goto (tgt := 98) dX11_backs_93 (by decide) ?_
            refine AW.iret dX11_backs_98 ⟨_, rfl, rfl⟩ (Nat.zero_le _) (Nat.zero_le _) ?_
            have hq := K2 I1 u f1 (by omega) c69 e1 hno
            first | (rw [if_pos c89] at hq; exact hq) | (rw [if_neg c89] at hq; exact hq)
        · refine AW.ifeq0 (tgt := 99) dX11_backs_85 (by decide) ?_
          first | refine AW.iincN dX11_backs_99 rfl (by decide) rfl rfl ?_ | refine AW.iinc dX11_backs_99 rfl rfl (by decide) rfl rfl ?_
          refine AW.goto (tgt := 49) dX11_backs_102 (by decide) ?_
          first | exact ih (u + 1) I1 (by omega) (by omega) (hR.of (fun b b1 b2 b3 => f1 b (by omega))) (hO.of (fun b b1 b2 => f1 b (by omega))) (fun v hv hpv => by by_cases e : v = u; (subst e; exact e1); exact hno v (by omega) hpv) (fun I' v4 f => K1 I' v4 (f1.tr f)) (fun I' q f => K2 I' q (f1.tr f)) hw | exact ih (u + 1) I (by omega) (by omega) hR hO (fun v hv hpv => by by_cases e : v = u; (subst e; exact absurd hpv c69); exact hno v (by omega) hpv) K1 K2 hw
theorem lpZ_X11_backs {n w : Nat} (hV : NV N) (hn : n ≤ 40) (hw : w < 2) {Q : Option Int32 → sd_S → Prop} : ∀ (m z : Nat) (I : sd_I) (v4 : Value), N 47 + 1 - z < m → z ≤ N 47 + 1 → HR I 1 N → OL I N n (pl0 N) → (∀ v, v < 2 ^ N 47 → popc v < z → ¬ quietP N n v) → (∀ I', Fr I I' 160 160 → (∀ v, v < 2 ^ N 47 → popc v ≤ N 47 → ¬ quietP N n v) → Q (some (-4)) (sk0, X, I', J)) → (∀ I' u, Fr I I' 160 160 → leastP N n u → Q (some (nI (if w = 0 then popc u else u))) (sk0, X, I', J)) → AW muX11_backs 0 0 35 [.ref 0, .int (nI n), .int (nI w), .int (nI z), v4] [] (sk0, X, I, J) Q := by
  have h8 := hV.t8
  intro m
  induction m with
  | zero => intros; omega
  | succ m ih =>
    intro z I v4 hm hz hR hO hno K1 K2
    refine AW.iload_n dX11_backs_35 rfl rfl ?_
    refine AW.aload_n dX11_backs_36 rfl rfl ?_
    refine g11_0 dX11_backs_37 wF_X11_10 (by first | assumption | rfl | (unfold is11; omega)) ?_
    refine g2_8 dX11_backs_40 wF_X11_75 (by first | assumption | rfl | (unfold is2; omega)) ?_
    refine AW.top (hR.th) ?_
    first | refine AW.icmp_gtN (tgt := 111) dX11_backs_43 (by decide) (by omega) (by omega) (fun c43 => ?_) (fun c43 => ?_) | refine AW.icmp_gt (tgt := 111) dX11_backs_43 (by decide) (fun c43 => ?_) (fun c43 => ?_)
    · refine AW.bipush (v := (-4)) dX11_backs_111 (by decide) ?_
      refine AW.iret dX11_backs_113 ⟨_, rfl, rfl⟩ (Nat.zero_le _) (Nat.zero_le _) ?_
      exact K1 I Fr.rf (fun v hv hp => hno v hv (by omega))
    · refine AW.iconst (v := nI 0) dX11_backs_46 (by decide) ?_
      show AW muX11_backs _ _ 47 _ _ _ _
      refine AW.istore dX11_backs_47 (by decide) rfl rfl ?_
      refine lpS_X11_backs hV hn (by omega) (2 ^ N 47 + 1) 0 I (Nat.lt_succ_self _) (Nat.zero_le _) hR hO (fun v hv => absurd hv (by omega)) (fun I1 v4 f1 e1 => ?_) (fun I1 u f1 h1 h2 h3 h4 => ?_) hw
      · refine AW.iincN dX11_backs_105 rfl (by decide) rfl rfl ?_
        refine AW.goto (tgt := 35) dX11_backs_108 (by decide) ?_
        refine ih (z + 1) I1 v4 (by omega) (by omega) (hR.of (fun b b1 b2 b3 => f1 b (by omega))) (hO.of (fun b b1 b2 => f1 b (by omega))) (fun v hv hp => ?_) (fun I' f => K1 I' (f1.tr f)) (fun I' u f => K2 I' u (f1.tr f))
        by_cases e : popc v = z
        · exact e1 v hv e
        · exact hno v hv (by omega)
      · subst h2
        refine K2 I1 u f1 ⟨h1, h3, fun v hv hqv => ?_⟩
        by_cases e : popc v = popc u
        · by_cases e2 : v < u
          · exact absurd hqv (h4 v e2 e)
          · exact Or.inr ⟨e, by omega⟩
        · by_cases e2 : popc v < popc u
          · exact absurd hqv (hno v hv e2)
          · exact Or.inl (by omega)
theorem c_backs {x y : Int32} (hV : NV N) (hR : HR I 1 N) (q1 : ¬ (inR x 1 41 ∧ inR y 0 2) → Q (-1) (sk0, X, I, J)) (q2 : ∀ n w, 1 ≤ n → n < 41 → w < 2 → x = nI n → y = nI w → (∀ v, v < 2 ^ N 47 → popc v ≤ N 47 → ¬ quietP N n v) → ∀ I', Fr I I' 157 160 → Q (-4) (sk0, X, I', J)) (q3 : ∀ n w u, 1 ≤ n → n < 41 → w < 2 → x = nI n → y = nI w → leastP N n u → ∀ I', Fr I I' 157 160 → Q (nI (if w = 0 then popc u else u)) (sk0, X, I', J)) : AWi muX11_backs [.ref 0, .int x, .int y] (sk0, X, I, J) Q := by
  show AW muX11_backs 0 0 0 [.ref 0, .int x, .int y, .null, .null] [] _ _
  refine AW.iload_n dX11_backs_0 rfl rfl ?_
  refine AW.iconst (v := nI 1) dX11_backs_1 (by decide) ?_
  refine AW.bipush (v := nI 40) dX11_backs_2 (by decide) ?_
  refine cs_X11_backs_4 (by decide) (by decide) (Nat.le_of_ble_eq_true rfl) (s_X11_within (lo := 1) (hi := 41) (by decide) (by decide) (by decide) (fun n hn1 hn ex => ?_) (fun hn => ?_))
  · refine AW.ifeq1 (tgt := 19) dX11_backs_7 (by decide) ?_
    refine AW.iload_n dX11_backs_10 rfl rfl ?_
    refine AW.iconst (v := nI 0) dX11_backs_11 (by decide) ?_
    refine AW.iconst (v := nI 1) dX11_backs_12 (by decide) ?_
    show AW muX11_backs _ _ 13 _ _ _ _
    refine cs_X11_backs_13 (by decide) (by decide) (Nat.le_of_ble_eq_true rfl) (s_X11_within (lo := 0) (hi := 2) (by decide) (by decide) (by decide) (fun w hw1 hw ey => ?_) (fun hn => ?_))
    · refine AW.ifne1 (tgt := 21) dX11_backs_16 (by decide) ?_
      subst ex; subst ey
      refine AW.aload_n dX11_backs_21 rfl rfl ?_
      refine g11_7 dX11_backs_22 wF_X11_42 (by first | assumption | rfl | (unfold is11; omega)) ?_
      refine AW.aload_n dX11_backs_25 rfl rfl ?_
      refine g11_0 dX11_backs_26 wF_X11_10 (by first | assumption | rfl | (unfold is11; omega)) ?_
      refine AW.iload_n dX11_backs_29 rfl rfl ?_
      refine cs_X11_backs_30 (by first | exact k0_157) (by decide) (by decide) (Nat.le_of_ble_eq_true rfl) (s_X5_look i2_1 hR hV (by omega) (fun I1 f1 O1 => ?_))
      show AW muX11_backs _ _ 33 _ _ _ _
      refine AW.iconst (v := nI 0) dX11_backs_33 (by decide) ?_
      refine AW.istore_n dX11_backs_34 rfl (by decide) rfl rfl ?_
      exact lpZ_X11_backs hV (by omega) hw (N 47 + 2) 0 I1 .null (by omega) (by omega) (hR.of (fun b b1 b2 b3 => f1 b (by omega))) O1 (fun v hv hp => absurd hp (by omega)) (fun I' f e => ⟨_, rfl, q2 n w hn1 hn hw rfl rfl e I' (f1.tr (f.w (by omega) (by omega)))⟩) (fun I' u f e => ⟨_, rfl, q3 n w u hn1 hn hw rfl rfl e I' (f1.tr (f.w (by omega) (by omega)))⟩)
    · refine AW.ifne0 (tgt := 21) dX11_backs_16 (by decide) ?_
      refine AW.iconst (v := (-1)) dX11_backs_19 (by decide) ?_
      refine AW.iret dX11_backs_20 ⟨_, rfl, rfl⟩ (Nat.zero_le _) (Nat.zero_le _) ⟨_, rfl, ?_⟩
      first | exact q1 (fun h => hn h.1) | exact q1 (fun h => hn h.2)
  · refine AW.ifeq0 (tgt := 19) dX11_backs_7 (by decide) ?_
    refine AW.iconst (v := (-1)) dX11_backs_19 (by decide) ?_
    refine AW.iret dX11_backs_20 ⟨_, rfl, rfl⟩ (Nat.zero_le _) (Nat.zero_le _) ⟨_, rfl, ?_⟩
    first | exact q1 (fun h => hn h.1) | exact q1 (fun h => hn h.2)
end Pub3
