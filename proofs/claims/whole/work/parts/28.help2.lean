-- helpers of the class ThankingGifts: odds, what is heard
def waysN (w u c : Nat) : Nat → Nat
  | 0 => 1
  | t + 1 => waysN w u c t * (if w.testBit t then (if u.testBit t then c else 10 - c) else 1)
theorem waysN_succ {w u c t : Nat} : waysN w u c (t + 1) = waysN w u c t * (if w.testBit t then (if u.testBit t then c else 10 - c) else 1) := by rw [waysN]
def eu : Nat → Nat → Nat → Nat
  | 0, a, _ => a
  | n + 1, a, b => if b = 0 then a else eu n b (a % b)
theorem eu_gcd : ∀ (k n a b : Nat), b < 2 ^ k → 2 * k ≤ n → eu n a b = Nat.gcd b a := by
  intro k
  induction k with
  | zero =>
    intro n a b hb hn
    obtain rfl : b = 0 := by simpa using hb
    cases n with
    | zero => simp [eu]
    | succ n => simp [eu]
  | succ k ih =>
    intro n a b hb hn
    match n, hn with
    | n + 2, hn =>
      rw [eu]
      by_cases h0 : b = 0
      · rw [if_pos h0, h0]; simp
      · rw [if_neg h0, eu]
        by_cases h1 : a % b = 0
        · rw [if_pos h1, Nat.gcd_rec, h1]; simp
        · rw [if_neg h1, ih n (a % b) (b % (a % b)) ?_ (by omega), Nat.gcd_rec b a, Nat.gcd_rec (a % b) b]
          have hlt : a % b < b := Nat.mod_lt _ (by omega)
          have hlt2 : b % (a % b) < a % b := Nat.mod_lt _ (by omega)
          have hle : b % (a % b) + a % b ≤ b := by
            have h3 := Nat.div_add_mod b (a % b)
            have h4 : 1 ≤ b / (a % b) := (Nat.one_le_div_iff (by omega)).mpr (by omega)
            have h5 : a % b * 1 ≤ a % b * (b / (a % b)) := Nat.mul_le_mul_left _ h4
            omega
          rw [Nat.pow_succ] at hb
          omega
/-- what is left of it, by kind, dear, from night n on, behind k nights -/
def lg (kd d l n : Nat) : Nat → Nat
  | 0 => l
  | k + 1 => mB kd d (lg kd d l n k) (n + k)
theorem lg_le {kd d l n : Nat} (k : Nat) : lg kd d l n k ≤ l := by
  induction k with
  | zero => exact Nat.le_refl _
  | succ k ih => exact Nat.le_trans mB_le ih
theorem lg_succ {kd d l n k : Nat} : lg kd d l n (k + 1) = mB kd d (lg kd d l n k) (n + k) := by rw [lg]
section Help2
variable {X : Nat × (Nat → Int32)} {I : sd_I} {J : sd_J} {N : Nat → Nat}
theorem lp_X11_ways {w u c : Nat} (hw : w < 2 ^ 31) (hu : u < 2 ^ 31) (hc : c ≤ 10) {Q : Option Int32 → sd_S → Prop} (K : Q (some (nI (waysN w u c 8))) (sk0, X, I, J)) : ∀ (m t : Nat), 8 - t < m → t ≤ 8 → AW muX11_ways 0 0 6 [.ref 0, .int (nI w), .int (nI u), .int (nI c), .int (nI (waysN w u c t)), .int (nI t)] [] (sk0, X, I, J) Q := by
  intro m
  induction m with
  | zero => intros; omega
  | succ m ih =>
    intro t hm ht
    refine AW.iload dX11_ways_6 rfl ?_
    refine AW.bipush (v := nI 8) dX11_ways_8 (by decide) ?_
    first | refine AW.icmp_geN (tgt := 50) dX11_ways_10 (by decide) (by omega) (by omega) (fun c10 => ?_) (fun c10 => ?_) | refine AW.icmp_ge (tgt := 50) dX11_ways_10 (by decide) (fun c10 => ?_) (fun c10 => ?_)
    · refine AW.iload dX11_ways_50 rfl ?_
      refine AW.iret dX11_ways_52 ⟨_, rfl, rfl⟩ (Nat.zero_le _) (Nat.zero_le _) ?_
      obtain rfl : t = 8 := by omega
      exact K
    · refine AW.iload_n dX11_ways_13 rfl rfl ?_
      refine AW.iload dX11_ways_14 rfl ?_
      refine cs_X11_ways_16 (by decide) (by decide) (Nat.le_of_ble_eq_true rfl) (s_X11_isIn hw (by omega) (fun hb => ?_) (fun hb => ?_))
      · refine AW.ifeq1 (tgt := 44) dX11_ways_19 (by decide) ?_
        refine AW.iload dX11_ways_22 rfl ?_
        show AW muX11_ways _ _ 24 _ _ _ _
        refine AW.iload_n dX11_ways_24 rfl rfl ?_
        refine AW.iload dX11_ways_25 rfl ?_
        refine cs_X11_ways_27 (by decide) (by decide) (Nat.le_of_ble_eq_true rfl) (s_X11_isIn hu (by omega) (fun hb2 => ?_) (fun hb2 => ?_))
        · refine AW.ifeq1 (tgt := 37) dX11_ways_30 (by decide) ?_
          refine AW.iload_n dX11_ways_33 rfl rfl ?_
          refine AW.goto (tgt := 41) dX11_ways_34 (by decide) ?_
          first | refine AW.imulN dX11_ways_41 ?_ | refine AW.imul dX11_ways_41 ?_
          refine AW.istore dX11_ways_42 (by decide) rfl rfl ?_
          first | refine AW.iincN dX11_ways_44 rfl (by decide) rfl rfl ?_ | refine AW.iinc dX11_ways_44 rfl rfl (by decide) rfl rfl ?_
          show AW muX11_ways _ _ 47 _ _ _ _
          refine AW.goto (tgt := 6) dX11_ways_47 (by decide) ?_
          have := ih (t + 1) (by omega) (by omega)
          first | (rw [waysN_succ, if_pos hb, if_pos hb2] at this; exact this) | (rw [waysN_succ, if_pos hb, hb2, if_neg (by decide)] at this; exact this) | (rw [waysN_succ, hb, if_neg (by decide), Nat.mul_one] at this; exact this)
        · refine AW.ifeq0 (tgt := 37) dX11_ways_30 (by decide) ?_
          refine AW.bipush (v := nI 10) dX11_ways_37 (by decide) ?_
          refine AW.iload_n dX11_ways_39 rfl rfl ?_
          first | refine AW.isubN dX11_ways_40 (by omega) ?_ | refine AW.isub dX11_ways_40 ?_
          first | refine AW.imulN dX11_ways_41 ?_ | refine AW.imul dX11_ways_41 ?_
          refine AW.istore dX11_ways_42 (by decide) rfl rfl ?_
          first | refine AW.iincN dX11_ways_44 rfl (by decide) rfl rfl ?_ | refine AW.iinc dX11_ways_44 rfl rfl (by decide) rfl rfl ?_
          show AW muX11_ways _ _ 47 _ _ _ _
          refine AW.goto (tgt := 6) dX11_ways_47 (by decide) ?_
          have := ih (t + 1) (by omega) (by omega)
          first | (rw [waysN_succ, if_pos hb, if_pos hb2] at this; exact this) | (rw [waysN_succ, if_pos hb, hb2, if_neg (by decide)] at this; exact this) | (rw [waysN_succ, hb, if_neg (by decide), Nat.mul_one] at this; exact this)
      · refine AW.ifeq0 (tgt := 44) dX11_ways_19 (by decide) ?_
        first | refine AW.iincN dX11_ways_44 rfl (by decide) rfl rfl ?_ | refine AW.iinc dX11_ways_44 rfl rfl (by decide) rfl rfl ?_
        refine AW.goto (tgt := 6) dX11_ways_47 (by decide) ?_
        have := ih (t + 1) (by omega) (by omega)
        first | (rw [waysN_succ, if_pos hb, if_pos hb2] at this; exact this) | (rw [waysN_succ, if_pos hb, hb2, if_neg (by decide)] at this; exact this) | (rw [waysN_succ, hb, if_neg (by decide), Nat.mul_one] at this; exact this)
theorem s_X11_ways {Q : Int32 → sd_S → Prop} {w u c : Nat} (hw : w < 2 ^ 31) (hu : u < 2 ^ 31) (hc : c ≤ 10) (hQ : Q (nI (waysN w u c 8)) (sk0, X, I, J)) : AWi muX11_ways [.ref 0, .int (nI w), .int (nI u), .int (nI c)] (sk0, X, I, J) Q := by
  show AW muX11_ways 0 0 0 [.ref 0, .int (nI w), .int (nI u), .int (nI c), .null, .null] [] _ _
  refine AW.iconst (v := nI 1) dX11_ways_0 (by decide) ?_
  refine AW.istore dX11_ways_1 (by decide) rfl rfl ?_
  refine AW.iconst (v := nI 0) dX11_ways_3 (by decide) ?_
  refine AW.istore dX11_ways_4 (by decide) rfl rfl ?_
  exact lp_X11_ways hw hu hc ⟨_, rfl, hQ⟩ 9 0 (by omega) (by omega)
theorem lp_X11_gcd {C : List sd_C} {v1 v2 : Int32} {Q : Option Int32 → sd_S → Prop} : ∀ (m step a b : Nat) (v5 : Value), 100 - step < m → step ≤ 100 → a < 2 ^ 31 → b < 2 ^ 31 → (∀ v3 v4 v5, AW muX11_greatestCommon 0 0 34 [.int v1, .int v2, .int (nI (eu (100 - step) a b)), v3, v4, v5] [] (C, X, I, J) Q) → AW muX11_greatestCommon 0 0 7 [.int v1, .int v2, .int (nI a), .int (nI b), .int (nI step), v5] [] (C, X, I, J) Q := by
  intro m
  induction m with
  | zero => intros; omega
  | succ m ih =>
    intro step a b v5 hm hs ha hb K
    refine AW.iload dX11_greatestCommon_7 rfl ?_
    refine AW.bipush (v := nI 100) dX11_greatestCommon_9 (by decide) ?_
    first | refine AW.icmp_geN (tgt := 34) dX11_greatestCommon_11 (by decide) (by omega) (by omega) (fun c11 => ?_) (fun c11 => ?_) | refine AW.icmp_ge (tgt := 34) dX11_greatestCommon_11 (by decide) (fun c11 => ?_) (fun c11 => ?_)
    · rcases Nat.lt_or_ge step 100 with hlt | hge
      · have := K (.int (nI b)) (.int (nI step)) v5
        rw [show 100 - step = (100 - step - 1) + 1 by omega, eu] at this
        first | (rw [if_pos c15] at this; exact this) | omega
      · have := K (.int (nI b)) (.int (nI step)) v5
        rw [show 100 - step = 0 by omega, eu] at this
        exact this
    · refine AW.iload_n dX11_greatestCommon_14 rfl rfl ?_
      first | refine AW.if_eqN (tgt := 34) dX11_greatestCommon_15 (by decide) (by omega) (fun c15 => ?_) (fun c15 => ?_) | refine AW.if_eq (tgt := 34) dX11_greatestCommon_15 (by decide) (fun c15 => ?_) (fun c15 => ?_)
      · rcases Nat.lt_or_ge step 100 with hlt | hge
        · have := K (.int (nI b)) (.int (nI step)) v5
          rw [show 100 - step = (100 - step - 1) + 1 by omega, eu] at this
          first | (rw [if_pos c15] at this; exact this) | omega
        · have := K (.int (nI b)) (.int (nI step)) v5
          rw [show 100 - step = 0 by omega, eu] at this
          exact this
      · refine AW.iload_n dX11_greatestCommon_18 rfl rfl ?_
        refine AW.iload_n dX11_greatestCommon_19 rfl rfl ?_
        first | refine AW.iremN dX11_greatestCommon_20 (by omega) (by omega) (by omega) ?_ | refine AW.irem dX11_greatestCommon_20 (by first | assumption | decide) ?_
        show AW muX11_greatestCommon _ _ 21 _ _ _ _
        refine AW.istore dX11_greatestCommon_21 (by decide) rfl rfl ?_
        refine AW.iload_n dX11_greatestCommon_23 rfl rfl ?_
        refine AW.istore_n dX11_greatestCommon_24 rfl (by decide) rfl rfl ?_
        refine AW.iload dX11_greatestCommon_25 rfl ?_
        refine AW.istore_n dX11_greatestCommon_27 rfl (by decide) rfl rfl ?_
        first | refine AW.iincN dX11_greatestCommon_28 rfl (by decide) rfl rfl ?_ | refine AW.iinc dX11_greatestCommon_28 rfl rfl (by decide) rfl rfl ?_
        show AW muX11_greatestCommon _ _ 31 _ _ _ _
        refine AW.goto (tgt := 7) dX11_greatestCommon_31 (by decide) ?_
        refine ih (step + 1) b (a % b) _ (by omega) (by omega) hb (Nat.lt_of_lt_of_le (Nat.mod_lt _ (by omega)) (Nat.le_of_lt hb)) (fun v3 v4 v5 => ?_)
        have := K v3 v4 v5
        rw [show 100 - step = (100 - (step + 1)) + 1 by omega, eu, if_neg c15] at this
        exact this
theorem s_X11_greatestCommon {C : List sd_C} {Q : Int32 → sd_S → Prop} {a b : Nat} (ha : 0 < a) (ha2 : a < 2 ^ 31) (hb : b < 2 ^ 31) (hQ : Q (nI (Nat.gcd b a)) (C, X, I, J)) : AWi muX11_greatestCommon [.int (nI b), .int (nI a)] (C, X, I, J) Q := by
  have hg : 0 < Nat.gcd b a := Nat.gcd_pos_of_pos_right _ ha
  have hg2 : Nat.gcd b a ≤ a := Nat.gcd_le_right _ ha
  show AW muX11_greatestCommon 0 0 0 [.int (nI b), .int (nI a), .null, .null, .null, .null] [] _ _
  refine AW.iload_n dX11_greatestCommon_0 rfl rfl ?_
  refine AW.istore_n dX11_greatestCommon_1 rfl (by decide) rfl rfl ?_
  refine AW.iload_n dX11_greatestCommon_2 rfl rfl ?_
  refine AW.istore_n dX11_greatestCommon_3 rfl (by decide) rfl rfl ?_
  refine AW.iconst (v := nI 0) dX11_greatestCommon_4 (by decide) ?_
  refine AW.istore dX11_greatestCommon_5 (by decide) rfl rfl ?_
  show AW muX11_greatestCommon _ _ 7 _ _ _ _
  refine lp_X11_gcd 101 0 a b _ (by omega) (by omega) ha2 hb (fun v3 v4 v5 => ?_)
  rw [eu_gcd 31 100 a b hb (by omega)]
  refine AW.iload_n dX11_greatestCommon_34 rfl rfl ?_
  first | refine AW.if_neN (tgt := 42) dX11_greatestCommon_35 (by decide) (by omega) (fun c35 => ?_) (fun c35 => ?_) | refine AW.if_ne (tgt := 42) dX11_greatestCommon_35 (by decide) (fun c35 => ?_) (fun c35 => ?_)
  · refine AW.iload_n dX11_greatestCommon_42 rfl rfl ?_
    refine AW.iret dX11_greatestCommon_43 ⟨_, rfl, rfl⟩ (Nat.zero_le _) (Nat.zero_le _) ⟨_, rfl, ?_⟩
    first | omega | exact hQ
  · refine AW.iconst (v := nI 1) dX11_greatestCommon_38 (by decide) ?_
    refine AW.goto (tgt := 43) dX11_greatestCommon_39 (by decide) ?_
    refine AW.iret dX11_greatestCommon_43 ⟨_, rfl, rfl⟩ (Nat.zero_le _) (Nat.zero_le _) ⟨_, rfl, ?_⟩
    first | omega | exact hQ
/-- a row tells what is left of it -/
def heardP (J : sd_J) (a i kd d l n m : Nat) : Prop := ∀ k, k < m → J a (i + k) = lN (lg kd d l n (k + 1))
theorem lp_X11_isHeardAs {a i n kd d l : Nat} (ha : is9 a) (hR : HR I 1 N) (hV : NV N) (hn : i + n ≤ 24) (hkd : kd < 5) (hd : d < 1000) (hl : l ≤ 99) {v1 v2 v3 : Value} {Q : Option Int32 → sd_S → Prop} (K1 : heardP J (a + 1) i kd d l (N 0) n → Q (some (nI 1)) (sk0, X, I, J)) (K0 : ¬ heardP J (a + 1) i kd d l (N 0) n → Q (some (nI 0)) (sk0, X, I, J)) : ∀ (m k : Nat), n - k < m → k ≤ n → heardP J (a + 1) i kd d l (N 0) k → AW muX11_isHeardAs 0 0 6 [.ref 0, .int (nI kd), .int (nI d), v3, .ref a, .int (nI i), .int (nI n), .int (nI (lg kd d l (N 0) k)), .int (nI k)] [] (sk0, X, I, J) Q := by
  have hni := hV.ni
  intro m
  induction m with
  | zero => intros; omega
  | succ m ih =>
    intro k hm hk hH
    have hle := lg_le (kd := kd) (d := d) (l := l) (n := N 0) k
    have hle2 := lg_le (kd := kd) (d := d) (l := l) (n := N 0) (k + 1)
    refine AW.iload dX11_isHeardAs_6 rfl ?_
    refine AW.iload dX11_isHeardAs_8 rfl ?_
    first | refine AW.icmp_geN (tgt := 54) dX11_isHeardAs_10 (by decide) (by omega) (by omega) (fun c10 => ?_) (fun c10 => ?_) | refine AW.icmp_ge (tgt := 54) dX11_isHeardAs_10 (by decide) (fun c10 => ?_) (fun c10 => ?_)
    · refine AW.iconst (v := nI 1) dX11_isHeardAs_54 (by decide) ?_
      refine AW.iret dX11_isHeardAs_55 ⟨_, rfl, by decide⟩ (Nat.zero_le _) (Nat.zero_le _) ?_
      obtain rfl : k = n := by omega
      exact K1 hH
    · refine AW.aload_n dX11_isHeardAs_13 rfl rfl ?_
      refine g11_0 dX11_isHeardAs_14 wF_X11_10 (by first | assumption | rfl | (unfold is11; omega)) ?_
      refine AW.iload_n dX11_isHeardAs_17 rfl rfl ?_
      show AW muX11_isHeardAs _ _ 18 _ _ _ _
      refine AW.iload_n dX11_isHeardAs_18 rfl rfl ?_
      refine AW.iload dX11_isHeardAs_19 rfl ?_
      refine AW.iload dX11_isHeardAs_21 rfl ?_
      refine cs_X11_isHeardAs_23 (by first | exact k0_1 | exact is9.a1 ha) (by decide) (by decide) (Nat.le_of_ble_eq_true rfl) (s_X2_leftBehind (N := N) i2_1 hR.m.ni hni hkd hd (by omega) (by omega) ?_)
      rw [← lg_succ]
      refine AW.istore dX11_isHeardAs_26 (by decide) rfl rfl ?_
      refine AW.aload dX11_isHeardAs_28 rfl ?_
      show AW muX11_isHeardAs _ _ 30 _ _ _ _
      refine g9_0 dX11_isHeardAs_30 wF_X11_292 (by first | assumption | rfl | (unfold is9; omega)) ?_
      refine AW.iload dX11_isHeardAs_33 rfl ?_
      refine AW.iload dX11_isHeardAs_35 rfl ?_
      first | refine AW.iaddN dX11_isHeardAs_37 ?_ | refine AW.iadd dX11_isHeardAs_37 ?_
      refine AW.lald dX11_isHeardAs_38 (by first | exact k0_1 | exact is9.a1 ha) _ (by first | rfl | assumption) (by omega) (by first | decide | omega) ?_
      refine AW.iload dX11_isHeardAs_39 rfl ?_
      show AW muX11_isHeardAs _ _ 41 _ _ _ _
      refine AW.i2l dX11_isHeardAs_41 ?_
      refine AW.topL (nI_l (by omega)) ?_
      refine AW.lcmp dX11_isHeardAs_42 ?_
      refine AW.if_eq (tgt := 48) dX11_isHeardAs_43 (by decide) (fun c43 => ?_) (fun c43 => ?_)
      · first | refine AW.iincN dX11_isHeardAs_48 rfl (by decide) rfl rfl ?_ | refine AW.iinc dX11_isHeardAs_48 rfl rfl (by decide) rfl rfl ?_
        refine AW.goto (tgt := 6) dX11_isHeardAs_51 (by decide) ?_
        refine ih (k + 1) (by omega) (by omega) (fun q hq => ?_)
        by_cases e : q = k
        · subst e; exact (lg_cmp_eq _ _).mp c43
        · exact hH q (by omega)
      · refine AW.iconst (v := nI 0) dX11_isHeardAs_46 (by decide) ?_
        refine AW.iret dX11_isHeardAs_47 ⟨_, rfl, by decide⟩ (Nat.zero_le _) (Nat.zero_le _) ?_
        refine K0 (fun h => ?_)
        exact c43 ((lg_cmp_eq _ _).mpr (h k (by omega)))
theorem s_X11_isHeardAs {Q : Int32 → sd_S → Prop} {a i n kd d l : Nat} (ha : is9 a) (hR : HR I 1 N) (hV : NV N) (hn : i + n ≤ 24) (hkd : kd < 5) (hd : d < 1000) (hl : l ≤ 99) (hT : heardP J (a + 1) i kd d l (N 0) n → Q (nI 1) (sk0, X, I, J)) (hF : ¬ heardP J (a + 1) i kd d l (N 0) n → Q (nI 0) (sk0, X, I, J)) : AWi muX11_isHeardAs [.ref 0, .int (nI kd), .int (nI d), .int (nI l), .ref a, .int (nI i), .int (nI n)] (sk0, X, I, J) Q := by
  show AW muX11_isHeardAs 0 0 0 [.ref 0, .int (nI kd), .int (nI d), .int (nI l), .ref a, .int (nI i), .int (nI n), .null, .null] [] _ _
  refine AW.iload_n dX11_isHeardAs_0 rfl rfl ?_
  refine AW.istore dX11_isHeardAs_1 (by decide) rfl rfl ?_
  refine AW.iconst (v := nI 0) dX11_isHeardAs_3 (by decide) ?_
  refine AW.istore dX11_isHeardAs_4 (by decide) rfl rfl ?_
  exact lp_X11_isHeardAs (v1 := .null) (v2 := .null) ha hR hV hn hkd hd hl (fun h => ⟨_, rfl, hT h⟩) (fun h => ⟨_, rfl, hF h⟩) (n + 1) 0 (by omega) (by omega) (fun q hq => absurd hq (by omega))
theorem lp_X11_kindsHeard {a i n t : Nat} {P : Nat → Bool} (ha : is9 a) (hR : HR I 1 N) (hV : NV N) (ht : t < N 47) (hn : i + n ≤ 24) (hP : ∀ kd, kd < 5 → (P kd = true ↔ heardP J (a + 1) i kd (N (56 + t)) (N (18 + t)) (N 0) n)) {Q : Option Int32 → sd_S → Prop} (K : Q (some (nI (setN 5 P))) (sk0, X, I, J)) : ∀ (m k : Nat), 5 - k < m → k ≤ 5 → AW muX11_kindsHeard 0 0 6 [.ref 0, .int (nI t), .ref a, .int (nI i), .int (nI n), .int (nI (setN k P)), .int (nI k)] [] (sk0, X, I, J) Q := by
  have h8 := hV.t8
  have hd := hV.dr ht
  have hl := hV.lf ht
  intro m
  induction m with
  | zero => intros; omega
  | succ m ih =>
    intro k hm hk
    have hlt := setN_lt k P
    refine AW.iload dX11_kindsHeard_6 rfl ?_
    refine AW.iconst (v := nI 5) dX11_kindsHeard_8 (by decide) ?_
    first | refine AW.icmp_geN (tgt := 61) dX11_kindsHeard_9 (by decide) (by omega) (by omega) (fun c9 => ?_) (fun c9 => ?_) | refine AW.icmp_ge (tgt := 61) dX11_kindsHeard_9 (by decide) (fun c9 => ?_) (fun c9 => ?_)
    · refine AW.iload dX11_kindsHeard_61 rfl ?_
      refine AW.iret dX11_kindsHeard_63 ⟨_, rfl, rfl⟩ (Nat.zero_le _) (Nat.zero_le _) ?_
      obtain rfl : k = 5 := by omega
      exact K
    · refine AW.aload_n dX11_kindsHeard_12 rfl rfl ?_
      refine AW.iload dX11_kindsHeard_13 rfl ?_
      refine AW.aload_n dX11_kindsHeard_15 rfl rfl ?_
      show AW muX11_kindsHeard _ _ 16 _ _ _ _
      refine g11_0 dX11_kindsHeard_16 wF_X11_10 (by first | assumption | rfl | (unfold is11; omega)) ?_
      refine g2_4 dX11_kindsHeard_19 wF_X11_119 (by first | assumption | rfl | (unfold is2; omega)) ?_
      refine AW.iload_n dX11_kindsHeard_22 rfl rfl ?_
      refine AW.iald dX11_kindsHeard_23 (by first | exact k0_0 | exact is2.a10 i2_1 | exact is4.a3 (is2.m i2_1)) _ (by first | rfl | assumption) (by omega) (by first | decide | omega) ?_
      refine AW.top (hR.dr ht) ?_
      refine AW.aload_n dX11_kindsHeard_24 rfl rfl ?_
      refine g11_0 dX11_kindsHeard_25 wF_X11_10 (by first | assumption | rfl | (unfold is11; omega)) ?_
      show AW muX11_kindsHeard _ _ 28 _ _ _ _
      refine g2_6 dX11_kindsHeard_28 wF_X11_92 (by first | assumption | rfl | (unfold is2; omega)) ?_
      refine g4_2 dX11_kindsHeard_31 wF_X11_125 (by first | assumption | exact is2.m (by assumption) | rfl | (unfold is4; omega) | exact is6.m (by assumption) (by omega)) ?_
      refine AW.iload_n dX11_kindsHeard_34 rfl rfl ?_
      refine AW.iald dX11_kindsHeard_35 (by first | exact k0_0 | exact is2.a10 i2_1 | exact is4.a3 (is2.m i2_1)) _ (by first | rfl | assumption) (by omega) (by first | decide | omega) ?_
      refine AW.top (hR.m.lf ht) ?_
      refine AW.aload_n dX11_kindsHeard_36 rfl rfl ?_
      refine AW.iload_n dX11_kindsHeard_37 rfl rfl ?_
      show AW muX11_kindsHeard _ _ 38 _ _ _ _
      refine AW.iload dX11_kindsHeard_38 rfl ?_
      refine cs_X11_kindsHeard_40 (by first | exact k0_0 | exact is2.a10 i2_1 | exact is4.a3 (is2.m i2_1)) (by decide) (by decide) (Nat.le_of_ble_eq_true rfl) (s_X11_isHeardAs ha hR hV hn (by omega) (by omega) hl (fun hh => ?_) (fun hh => ?_))
      · refine AW.ifeq1 (tgt := 55) dX11_kindsHeard_43 (by decide) ?_
        refine AW.iload dX11_kindsHeard_46 rfl ?_
        refine AW.iconst (v := nI 1) dX11_kindsHeard_48 (by decide) ?_
        refine AW.iload dX11_kindsHeard_49 rfl ?_
        refine AW.ishl dX11_kindsHeard_51 ?_
        refine AW.top (nI_shl1 (by omega)) ?_
        refine AW.ior dX11_kindsHeard_52 ?_
        refine AW.top (nI_or hlt) ?_
        show AW muX11_kindsHeard _ _ 53 _ _ _ _
        refine AW.istore dX11_kindsHeard_53 (by decide) rfl rfl ?_
        first | refine AW.iincN dX11_kindsHeard_55 rfl (by decide) rfl rfl ?_ | refine AW.iinc dX11_kindsHeard_55 rfl rfl (by decide) rfl rfl ?_
        refine AW.goto (tgt := 6) dX11_kindsHeard_58 (by decide) ?_
        have := ih (k + 1) (by omega) (by omega)
        first | (rw [setN, if_pos ((hP k (by omega)).mpr hh)] at this; exact this) | (rw [setN, if_neg (fun e => hh ((hP k (by omega)).mp e)), Nat.add_zero] at this; exact this)
      · refine AW.ifeq0 (tgt := 55) dX11_kindsHeard_43 (by decide) ?_
        first | refine AW.iincN dX11_kindsHeard_55 rfl (by decide) rfl rfl ?_ | refine AW.iinc dX11_kindsHeard_55 rfl rfl (by decide) rfl rfl ?_
        refine AW.goto (tgt := 6) dX11_kindsHeard_58 (by decide) ?_
        have := ih (k + 1) (by omega) (by omega)
        first | (rw [setN, if_pos ((hP k (by omega)).mpr hh)] at this; exact this) | (rw [setN, if_neg (fun e => hh ((hP k (by omega)).mp e)), Nat.add_zero] at this; exact this)
theorem s_X11_kindsHeard {Q : Int32 → sd_S → Prop} {a i n t : Nat} {P : Nat → Bool} (ha : is9 a) (hR : HR I 1 N) (hV : NV N) (ht : t < N 47) (hn : i + n ≤ 24) (hP : ∀ kd, kd < 5 → (P kd = true ↔ heardP J (a + 1) i kd (N (56 + t)) (N (18 + t)) (N 0) n)) (hQ : Q (nI (setN 5 P)) (sk0, X, I, J)) : AWi muX11_kindsHeard [.ref 0, .int (nI t), .ref a, .int (nI i), .int (nI n)] (sk0, X, I, J) Q := by
  show AW muX11_kindsHeard 0 0 0 [.ref 0, .int (nI t), .ref a, .int (nI i), .int (nI n), .null, .null] [] _ _
  refine AW.iconst (v := nI 0) dX11_kindsHeard_0 (by decide) ?_
  refine AW.istore dX11_kindsHeard_1 (by decide) rfl rfl ?_
  refine AW.iconst (v := nI 0) dX11_kindsHeard_3 (by decide) ?_
  refine AW.istore dX11_kindsHeard_4 (by decide) rfl rfl ?_
  exact lp_X11_kindsHeard ha hR hV ht hn hP ⟨_, rfl, hQ⟩ 6 0 (by omega) (by omega)
theorem lp_X11_dearsHeard {a i n t : Nat} {P : Nat → Bool} (ha : is9 a) (hR : HR I 1 N) (hV : NV N) (ht : t < N 47) (hn : i + n ≤ 24) (hP : ∀ d, 1 ≤ d → d < 10 → (P d = true ↔ heardP J (a + 1) i (N (48 + t)) d (N (18 + t)) (N 0) n)) {Q : Option Int32 → sd_S → Prop} (K : Q (some (nI (setN 10 P))) (sk0, X, I, J)) : ∀ (m k : Nat), 10 - k < m → 1 ≤ k → k ≤ 10 → AW muX11_dearsHeard 0 0 6 [.ref 0, .int (nI t), .ref a, .int (nI i), .int (nI n), .int (nI (setN k P)), .int (nI k)] [] (sk0, X, I, J) Q := by
  have h8 := hV.t8
  have hd := hV.kd ht
  have hl := hV.lf ht
  intro m
  induction m with
  | zero => intros; omega
  | succ m ih =>
    intro k hm hk1 hk
    have hlt := setN_lt k P
    refine AW.iload dX11_dearsHeard_6 rfl ?_
    refine AW.bipush (v := nI 9) dX11_dearsHeard_8 (by decide) ?_
    first | refine AW.icmp_gtN (tgt := 62) dX11_dearsHeard_10 (by decide) (by omega) (by omega) (fun c10 => ?_) (fun c10 => ?_) | refine AW.icmp_gt (tgt := 62) dX11_dearsHeard_10 (by decide) (fun c10 => ?_) (fun c10 => ?_)
    · refine AW.iload dX11_dearsHeard_62 rfl ?_
      refine AW.iret dX11_dearsHeard_64 ⟨_, rfl, rfl⟩ (Nat.zero_le _) (Nat.zero_le _) ?_
      obtain rfl : k = 10 := by omega
      exact K
    · refine AW.aload_n dX11_dearsHeard_13 rfl rfl ?_
      refine AW.aload_n dX11_dearsHeard_14 rfl rfl ?_
      refine g11_0 dX11_dearsHeard_15 wF_X11_10 (by first | assumption | rfl | (unfold is11; omega)) ?_
      show AW muX11_dearsHeard _ _ 18 _ _ _ _
      refine g2_3 dX11_dearsHeard_18 wF_X11_113 (by first | assumption | rfl | (unfold is2; omega)) ?_
      refine AW.iload_n dX11_dearsHeard_21 rfl rfl ?_
      refine AW.iald dX11_dearsHeard_22 (by first | exact k0_0 | exact is2.a9 i2_1 | exact is4.a3 (is2.m i2_1)) _ (by first | rfl | assumption) (by omega) (by first | decide | omega) ?_
      refine AW.top (hR.kd ht) ?_
      refine AW.iload dX11_dearsHeard_23 rfl ?_
      refine AW.aload_n dX11_dearsHeard_25 rfl rfl ?_
      refine g11_0 dX11_dearsHeard_26 wF_X11_10 (by first | assumption | rfl | (unfold is11; omega)) ?_
      show AW muX11_dearsHeard _ _ 29 _ _ _ _
      refine g2_6 dX11_dearsHeard_29 wF_X11_92 (by first | assumption | rfl | (unfold is2; omega)) ?_
      refine g4_2 dX11_dearsHeard_32 wF_X11_125 (by first | assumption | exact is2.m (by assumption) | rfl | (unfold is4; omega) | exact is6.m (by assumption) (by omega)) ?_
      refine AW.iload_n dX11_dearsHeard_35 rfl rfl ?_
      refine AW.iald dX11_dearsHeard_36 (by first | exact k0_0 | exact is2.a9 i2_1 | exact is4.a3 (is2.m i2_1)) _ (by first | rfl | assumption) (by omega) (by first | decide | omega) ?_
      refine AW.top (hR.m.lf ht) ?_
      refine AW.aload_n dX11_dearsHeard_37 rfl rfl ?_
      refine AW.iload_n dX11_dearsHeard_38 rfl rfl ?_
      show AW muX11_dearsHeard _ _ 39 _ _ _ _
      refine AW.iload dX11_dearsHeard_39 rfl ?_
      refine cs_X11_dearsHeard_41 (by first | exact k0_0 | exact is2.a9 i2_1 | exact is4.a3 (is2.m i2_1)) (by decide) (by decide) (Nat.le_of_ble_eq_true rfl) (s_X11_isHeardAs ha hR hV hn hd (by omega) hl (fun hh => ?_) (fun hh => ?_))
      · refine AW.ifeq1 (tgt := 56) dX11_dearsHeard_44 (by decide) ?_
        refine AW.iload dX11_dearsHeard_47 rfl ?_
        refine AW.iconst (v := nI 1) dX11_dearsHeard_49 (by decide) ?_
        refine AW.iload dX11_dearsHeard_50 rfl ?_
        refine AW.ishl dX11_dearsHeard_52 ?_
        refine AW.top (nI_shl1 (by omega)) ?_
        refine AW.ior dX11_dearsHeard_53 ?_
        refine AW.top (nI_or hlt) ?_
        show AW muX11_dearsHeard _ _ 54 _ _ _ _
        refine AW.istore dX11_dearsHeard_54 (by decide) rfl rfl ?_
        first | refine AW.iincN dX11_dearsHeard_56 rfl (by decide) rfl rfl ?_ | refine AW.iinc dX11_dearsHeard_56 rfl rfl (by decide) rfl rfl ?_
        refine AW.goto (tgt := 6) dX11_dearsHeard_59 (by decide) ?_
        have := ih (k + 1) (by omega) (by omega) (by omega)
        first | (rw [setN, if_pos ((hP k hk1 (by omega)).mpr hh)] at this; exact this) | (rw [setN, if_neg (fun e => hh ((hP k hk1 (by omega)).mp e)), Nat.add_zero] at this; exact this)
      · refine AW.ifeq0 (tgt := 56) dX11_dearsHeard_44 (by decide) ?_
        first | refine AW.iincN dX11_dearsHeard_56 rfl (by decide) rfl rfl ?_ | refine AW.iinc dX11_dearsHeard_56 rfl rfl (by decide) rfl rfl ?_
        refine AW.goto (tgt := 6) dX11_dearsHeard_59 (by decide) ?_
        have := ih (k + 1) (by omega) (by omega) (by omega)
        first | (rw [setN, if_pos ((hP k hk1 (by omega)).mpr hh)] at this; exact this) | (rw [setN, if_neg (fun e => hh ((hP k hk1 (by omega)).mp e)), Nat.add_zero] at this; exact this)
theorem s_X11_dearsHeard {Q : Int32 → sd_S → Prop} {a i n t : Nat} {P : Nat → Bool} (ha : is9 a) (hR : HR I 1 N) (hV : NV N) (ht : t < N 47) (hn : i + n ≤ 24) (hP0 : P 0 = false) (hP : ∀ d, 1 ≤ d → d < 10 → (P d = true ↔ heardP J (a + 1) i (N (48 + t)) d (N (18 + t)) (N 0) n)) (hQ : Q (nI (setN 10 P)) (sk0, X, I, J)) : AWi muX11_dearsHeard [.ref 0, .int (nI t), .ref a, .int (nI i), .int (nI n)] (sk0, X, I, J) Q := by
  have e1 : setN 1 P = 0 := by simp [setN, hP0]
  show AW muX11_dearsHeard 0 0 0 [.ref 0, .int (nI t), .ref a, .int (nI i), .int (nI n), .null, .null] [] _ _
  refine AW.iconst (v := nI 0) dX11_dearsHeard_0 (by decide) ?_
  refine AW.istore dX11_dearsHeard_1 (by decide) rfl rfl ?_
  refine AW.iconst (v := nI 1) dX11_dearsHeard_3 (by decide) ?_
  refine AW.istore dX11_dearsHeard_4 (by decide) rfl rfl ?_
  have := lp_X11_dearsHeard ha hR hV ht hn hP (Q := fun r σ' => ∃ v, r = some v ∧ Q v σ') ⟨_, rfl, hQ⟩ 10 1 (by omega) (by omega) (by omega)
  rw [e1] at this
  exact this
end Help2
