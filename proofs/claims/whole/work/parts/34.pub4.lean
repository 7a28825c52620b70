-- the class's own calls: sheets
theorem shD {s : Nat} (hs : s < 4) : ([some 162, some 164, some 166, some 168] : List (Option Nat)).getD s none = some (162 + 2 * s) := by
  rcases (show s = 0 ∨ s = 1 ∨ s = 2 ∨ s = 3 by omega) with rfl | rfl | rfl | rfl <;> rfl
theorem is9_s {s : Nat} (hs : s < 4) : is9 (162 + 2 * s) := by unfold is9; omega
def SHC (I : sd_I) (J : sd_J) (sh : Nat → Nat × Nat × Nat × (Nat → Int64)) : Prop := ∀ s, s < 4 → I (162 + 2 * s) 1 = nI (sh s).1 ∧ I (162 + 2 * s) 2 = nI (sh s).2.1 ∧ I (162 + 2 * s) 3 = nI (sh s).2.2.1 ∧ ∀ i, i < 24 → J (162 + 2 * s + 1) i = (sh s).2.2.2 i
def SHV (sh : Nat → Nat × Nat × Nat × (Nat → Int64)) : Prop := ∀ s, s < 4 → (sh s).1 < 2 ∧ (sh s).2.1 < 4 ∧ (sh s).2.2.1 ≤ 24
def hdB (f : Nat → Int64) (i kd d l n : Nat) : Nat → Bool
  | 0 => true
  | m + 1 => hdB f i kd d l n m && decide (f (i + m) = lN (lg kd d l n (m + 1)))
theorem hdB_iff {f : Nat → Int64} {i kd d l n : Nat} (m : Nat) : hdB f i kd d l n m = true ↔ ∀ k, k < m → f (i + k) = lN (lg kd d l n (k + 1)) := by
  induction m with
  | zero => simp [hdB]
  | succ m ih =>
    rw [hdB, Bool.and_eq_true, ih, decide_eq_true_eq]
    constructor
    · rintro ⟨h1, h2⟩ k hk
      by_cases e : k = m
      · subst e; exact h2
      · exact h1 k (by omega)
    · intro h; exact ⟨fun k hk => h k (by omega), h m (by omega)⟩
theorem cutL_small {ln v : Nat} (hv : v ≤ 99) : cutL ln (lN v) = lN v := by
  have key : ∀ v : Fin 100, (lN v.val).toInt32.toInt8.toInt32.toInt64 = lN v.val ∧ (lN v.val).toInt32.toInt16.toInt32.toInt64 = lN v.val ∧ (lN v.val).toInt32.toInt64 = lN v.val := by decide +kernel
  obtain ⟨h1, h2, h3⟩ := key ⟨v, by omega⟩
  unfold cutL
  split
  · exact h1
  · split
    · exact h2
    · split
      · exact h3
      · rfl
theorem lk_lg {N : Nat → Nat} {t : Nat} (k : Nat) : lk N t k = lg (N (48 + t)) (N (56 + t)) (N (18 + t)) (N 0) k := by
  induction k with
  | zero => rfl
  | succ k ih => rw [lk, lg, ih]
section Pub4
variable {X : Nat × (Nat → Int32)} {I : sd_I} {J : sd_J} {N : Nat → Nat} {Q : Int32 → sd_S → Prop} {sh : Nat → Nat × Nat × Nat × (Nat → Int64)}
theorem c_heard {x y z u v w' : Int32} (hV : NV N) (hR : HR I 1 N) (hS : SHC I J sh) (hSV : SHV sh) (q1 : ¬ (inR x 0 (N 47) ∧ inR y 0 4 ∧ inR z 0 4 ∧ inR v 1 9 ∧ inR w' 0 2) → Q (-1) (sk0, X, I, J)) (q2 : ∀ s l n, s < 4 → l < 4 → 1 ≤ n → n < 9 → inR x 0 (N 47) → y = nI s → z = nI l → v = nI n → inR w' 0 2 → (sh s).1 = 0 → Q (-11) (sk0, X, I, J)) (q3 : ∀ s l n, s < 4 → l < 4 → 1 ≤ n → n < 9 → inR x 0 (N 47) → y = nI s → z = nI l → v = nI n → inR w' 0 2 → (sh s).1 ≠ 0 → (sh s).2.1 ≠ l → Q (-12) (sk0, X, I, J)) (q4 : ∀ s l n, s < 4 → l < 4 → 1 ≤ n → n < 9 → inR x 0 (N 47) → y = nI s → z = nI l → v = nI n → inR w' 0 2 → (sh s).1 ≠ 0 → (sh s).2.1 = l → ¬ spanP u v (sh s).2.2.1 → Q (-13) (sk0, X, I, J)) (q5 : ∀ t s l i n w, t < N 47 → s < 4 → l < 4 → 1 ≤ n → n < 9 → w < 2 → x = nI t → y = nI s → z = nI l → u = nI i → v = nI n → w' = nI w → (sh s).1 ≠ 0 → (sh s).2.1 = l → i + n ≤ (sh s).2.2.1 → Q (nI (if w = 0 then setN 5 (fun kd => hdB (sh s).2.2.2 i kd (N (56 + t)) (N (18 + t)) (N 0) n) else setN 10 (fun d => decide (1 ≤ d) && hdB (sh s).2.2.2 i (N (48 + t)) d (N (18 + t)) (N 0) n))) (sk0, X, I, J)) : AWi muX11_heard [.ref 0, .int x, .int y, .int z, .int u, .int v, .int w'] (sk0, X, I, J) Q := by
  have h8 := hV.t8
  show AW muX11_heard 0 0 0 [.ref 0, .int x, .int y, .int z, .int u, .int v, .int w', .null] [] _ _
  refine AW.aload_n dX11_heard_0 rfl rfl ?_
  refine g11_0 dX11_heard_1 wF_X11_10 (by first | assumption | rfl | (unfold is11; omega)) ?_
  refine AW.iload_n dX11_heard_4 rfl rfl ?_
  refine cs_X11_heard_5 (by first | exact k0_1 | exact k0_0 | exact is9.a0 (is9_s hs)) (by decide) (by decide) (Nat.le_of_ble_eq_true rfl) (s_X2_hasThing i2_1 hR.th (by omega) (fun t ht ex => ?_) (fun hn => ?_))
  · refine AW.ifeq1 (tgt := 46) dX11_heard_8 (by decide) ?_
    refine AW.iload_n dX11_heard_11 rfl rfl ?_
    refine cs_X11_heard_12 (by decide) (by decide) (Nat.le_of_ble_eq_true rfl) (s_X11_isSheet (fun s hs ey => ?_) (fun hn => ?_))
    · refine AW.ifeq1 (tgt := 46) dX11_heard_15 (by decide) ?_
      refine AW.iload_n dX11_heard_18 rfl rfl ?_
      refine cs_X11_heard_19 (by decide) (by decide) (Nat.le_of_ble_eq_true rfl) (s_X11_isLane (fun l hl ez => ?_) (fun hn => ?_))
      · refine AW.ifeq1 (tgt := 46) dX11_heard_22 (by decide) ?_
        refine AW.iload dX11_heard_25 rfl ?_
        show AW muX11_heard _ _ 27 _ _ _ _
        refine AW.iconst (v := nI 1) dX11_heard_27 (by decide) ?_
        refine AW.bipush (v := nI 8) dX11_heard_28 (by decide) ?_
        refine cs_X11_heard_30 (by decide) (by decide) (Nat.le_of_ble_eq_true rfl) (s_X11_within (lo := 1) (hi := 9) (by decide) (by decide) (by decide) (fun n hn1 hn2 ev => ?_) (fun hn => ?_))
        · refine AW.ifeq1 (tgt := 46) dX11_heard_33 (by decide) ?_
          refine AW.iload dX11_heard_36 rfl ?_
          refine AW.iconst (v := nI 0) dX11_heard_38 (by decide) ?_
          refine AW.iconst (v := nI 1) dX11_heard_39 (by decide) ?_
          refine cs_X11_heard_40 (by decide) (by decide) (Nat.le_of_ble_eq_true rfl) (s_X11_within (lo := 0) (hi := 2) (by decide) (by decide) (by decide) (fun w hw1 hw ew => ?_) (fun hn => ?_))
          · refine AW.ifne1 (tgt := 48) dX11_heard_43 (by decide) ?_
            subst ex; subst ey; subst ez; subst ev; subst ew
            obtain ⟨s1, s2, s3, s4⟩ := hS s hs
            obtain ⟨v1, v2, v3⟩ := hSV s hs
            refine AW.aload_n dX11_heard_48 rfl rfl ?_
            show AW muX11_heard _ _ 49 _ _ _ _
            refine g11_8 dX11_heard_49 wF_X11_49 (by first | assumption | rfl | (unfold is11; omega)) ?_
            refine AW.iload_n dX11_heard_52 rfl rfl ?_
            refine AW.aald dX11_heard_53 (Or.inr (Or.inr rfl)) k0_161 _ rfl hs (by decide) (shD hs) (by omega) ?_
            refine AW.iload_n dX11_heard_54 rfl rfl ?_
            refine AW.iload dX11_heard_55 rfl ?_
            refine AW.iload dX11_heard_57 rfl ?_
            show AW muX11_heard _ _ 59 _ _ _ _
            refine cs_X11_heard_59 (by first | exact k0_1 | exact k0_0 | exact is9.a0 (is9_s hs)) (by decide) (by decide) (Nat.le_of_ble_eq_true rfl) (s_X9_refusal (is9_s hs) s1 s2 s3 v1 v2 hl v3 (fun h1 => ?_) (fun h1 h2 => ?_) (fun h1 h2 h3 => ?_) (fun h1 h2 i k e1 e2 e3 => ?_))
            · refine AW.istore dX11_heard_62 (by decide) rfl rfl ?_
              refine AW.iload dX11_heard_64 rfl ?_
              refine AW.if_eq (tgt := 72) dX11_heard_66 (by decide) (fun c => absurd c (by decide)) (fun _ => ?_)
              refine AW.iload dX11_heard_69 rfl ?_
              exact AW.iret dX11_heard_71 ⟨_, rfl, rfl⟩ (Nat.zero_le _) (Nat.zero_le _) ⟨_, rfl, q2 s l n hs hl hn1 hn2 ⟨t, by omega, ht, rfl⟩ rfl rfl rfl ⟨w, by omega, hw, rfl⟩ h1⟩
            · refine AW.istore dX11_heard_62 (by decide) rfl rfl ?_
              refine AW.iload dX11_heard_64 rfl ?_
              refine AW.if_eq (tgt := 72) dX11_heard_66 (by decide) (fun c => absurd c (by decide)) (fun _ => ?_)
              refine AW.iload dX11_heard_69 rfl ?_
              exact AW.iret dX11_heard_71 ⟨_, rfl, rfl⟩ (Nat.zero_le _) (Nat.zero_le _) ⟨_, rfl, q3 s l n hs hl hn1 hn2 ⟨t, by omega, ht, rfl⟩ rfl rfl rfl ⟨w, by omega, hw, rfl⟩ h1 h2⟩
            · refine AW.istore dX11_heard_62 (by decide) rfl rfl ?_
              refine AW.iload dX11_heard_64 rfl ?_
              refine AW.if_eq (tgt := 72) dX11_heard_66 (by decide) (fun c => absurd c (by decide)) (fun _ => ?_)
              refine AW.iload dX11_heard_69 rfl ?_
              exact AW.iret dX11_heard_71 ⟨_, rfl, rfl⟩ (Nat.zero_le _) (Nat.zero_le _) ⟨_, rfl, q4 s l n hs hl hn1 hn2 ⟨t, by omega, ht, rfl⟩ rfl rfl rfl ⟨w, by omega, hw, rfl⟩ h1 h2 h3⟩
            · refine AW.istore dX11_heard_62 (by decide) rfl rfl ?_
              refine AW.iload dX11_heard_64 rfl ?_
              first | refine AW.if_eqN (tgt := 72) dX11_heard_66 (by decide) (by omega) (fun c66 => ?_) (fun c66 => ?_) | refine AW.if_eq (tgt := 72) dX11_heard_66 (by decide) (fun c66 => ?_) (fun c66 => ?_)
              · obtain rfl : k = n := (nI_eq (by omega) (by omega)).mp e2.symm
                subst e1
                have hq := q5 t s l i k w ht hs hl hn1 hn2 hw rfl rfl rfl rfl rfl rfl h1 h2 e3
                have hib : ∀ kd d, hdB (sh s).2.2.2 i kd d (N (18 + t)) (N 0) k = true ↔ heardP J (162 + 2 * s + 1) i kd d (N (18 + t)) (N 0) k := fun kd d => by
                  rw [hdB_iff]; unfold heardP
                  constructor
                  · intro h q hq; rw [s4 (i + q) (by omega)]; exact h q hq
                  · intro h q hq; rw [← s4 (i + q) (by omega)]; exact h q hq
                refine AW.iload dX11_heard_72 rfl ?_
                first | refine AW.if_neN (tgt := 95) dX11_heard_74 (by decide) (by omega) (fun c74 => ?_) (fun c74 => ?_) | refine AW.if_ne (tgt := 95) dX11_heard_74 (by decide) (fun c74 => ?_) (fun c74 => ?_)
                · refine AW.aload_n dX11_heard_95 rfl rfl ?_
                  refine AW.iload_n dX11_heard_96 rfl rfl ?_
                  show AW muX11_heard _ _ 97 _ _ _ _
                  refine AW.aload_n dX11_heard_97 rfl rfl ?_
                  refine g11_8 dX11_heard_98 wF_X11_49 (by first | assumption | rfl | (unfold is11; omega)) ?_
                  refine AW.iload_n dX11_heard_101 rfl rfl ?_
                  refine AW.aald dX11_heard_102 (Or.inr (Or.inr rfl)) k0_161 _ rfl hs (by decide) (shD hs) (by omega) ?_
                  refine AW.iload dX11_heard_103 rfl ?_
                  refine AW.iload dX11_heard_105 rfl ?_
                  show AW muX11_heard _ _ 107 _ _ _ _
                  refine cs_X11_heard_107 (by first | exact k0_1 | exact k0_0 | exact is9.a0 (is9_s hs)) (by decide) (by decide) (Nat.le_of_ble_eq_true rfl) (s_X11_dearsHeard (P := fun d => decide (1 ≤ d) && hdB (sh s).2.2.2 i (N (48 + t)) d (N (18 + t)) (N 0) k) (is9_s hs) hR hV ht (by omega) rfl (fun d hd _ => by simp only [hd, decide_true, Bool.true_and]; exact hib _ d) ?_)
                  refine AW.iret dX11_heard_110 ⟨_, rfl, rfl⟩ (Nat.zero_le _) (Nat.zero_le _) ⟨_, rfl, ?_⟩
                  first | (rw [if_pos c74] at hq; exact hq) | (rw [if_neg c74] at hq; exact hq)
                · refine AW.aload_n dX11_heard_77 rfl rfl ?_
                  refine AW.iload_n dX11_heard_78 rfl rfl ?_
                  refine AW.aload_n dX11_heard_79 rfl rfl ?_
                  refine g11_8 dX11_heard_80 wF_X11_49 (by first | assumption | rfl | (unfold is11; omega)) ?_
                  refine AW.iload_n dX11_heard_83 rfl rfl ?_
                  show AW muX11_heard _ _ 84 _ _ _ _
                  refine AW.aald dX11_heard_84 (Or.inr (Or.inr rfl)) k0_161 _ rfl hs (by decide) (shD hs) (by omega) ?_
                  refine AW.iload dX11_heard_85 rfl ?_
                  refine AW.iload dX11_heard_87 rfl ?_
                  refine cs_X11_heard_89 (by first | exact k0_1 | exact k0_0 | exact is9.a0 (is9_s hs)) (by decide) (by decide) (Nat.le_of_ble_eq_true rfl) (s_X11_kindsHeard (P := fun kd => hdB (sh s).2.2.2 i kd (N (56 + t)) (N (18 + t)) (N 0) k) (is9_s hs) hR hV ht (by omega) (fun kd _ => hib kd _) ?_)
                  refine AW.goto (tgt := 110) dX11_heard_92 (by decide) ?_
                  refine AW.iret dX11_heard_110 ⟨_, rfl, rfl⟩ (Nat.zero_le _) (Nat.zero_le _) ⟨_, rfl, ?_⟩
                  first | (rw [if_pos c74] at hq; exact hq) | (rw [if_neg c74] at hq; exact hq)
              · exact absurd rfl c66
          · refine AW.ifne0 (tgt := 48) dX11_heard_43 (by decide) ?_
            refine AW.iconst (v := (-1)) dX11_heard_46 (by decide) ?_
            refine AW.iret dX11_heard_47 ⟨_, rfl, rfl⟩ (Nat.zero_le _) (Nat.zero_le _) ⟨_, rfl, ?_⟩
            first | exact q1 (fun h => hn h.1) | exact q1 (fun h => hn h.2.1) | exact q1 (fun h => hn h.2.2.1) | exact q1 (fun h => hn h.2.2.2.1) | exact q1 (fun h => hn h.2.2.2.2)
        · refine AW.ifeq0 (tgt := 46) dX11_heard_33 (by decide) ?_
          refine AW.iconst (v := (-1)) dX11_heard_46 (by decide) ?_
          show AW muX11_heard _ _ 47 _ _ _ _
          refine AW.iret dX11_heard_47 ⟨_, rfl, rfl⟩ (Nat.zero_le _) (Nat.zero_le _) ⟨_, rfl, ?_⟩
          first | exact q1 (fun h => hn h.1) | exact q1 (fun h => hn h.2.1) | exact q1 (fun h => hn h.2.2.1) | exact q1 (fun h => hn h.2.2.2.1) | exact q1 (fun h => hn h.2.2.2.2)
      · refine AW.ifeq0 (tgt := 46) dX11_heard_22 (by decide) ?_
        refine AW.iconst (v := (-1)) dX11_heard_46 (by decide) ?_
        refine AW.iret dX11_heard_47 ⟨_, rfl, rfl⟩ (Nat.zero_le _) (Nat.zero_le _) ⟨_, rfl, ?_⟩
        first | exact q1 (fun h => hn h.1) | exact q1 (fun h => hn h.2.1) | exact q1 (fun h => hn h.2.2.1) | exact q1 (fun h => hn h.2.2.2.1) | exact q1 (fun h => hn h.2.2.2.2)
    · refine AW.ifeq0 (tgt := 46) dX11_heard_15 (by decide) ?_
      refine AW.iconst (v := (-1)) dX11_heard_46 (by decide) ?_
      refine AW.iret dX11_heard_47 ⟨_, rfl, rfl⟩ (Nat.zero_le _) (Nat.zero_le _) ⟨_, rfl, ?_⟩
      first | exact q1 (fun h => hn h.1) | exact q1 (fun h => hn h.2.1) | exact q1 (fun h => hn h.2.2.1) | exact q1 (fun h => hn h.2.2.2.1) | exact q1 (fun h => hn h.2.2.2.2)
  · refine AW.ifeq0 (tgt := 46) dX11_heard_8 (by decide) ?_
    refine AW.iconst (v := (-1)) dX11_heard_46 (by decide) ?_
    refine AW.iret dX11_heard_47 ⟨_, rfl, rfl⟩ (Nat.zero_le _) (Nat.zero_le _) ⟨_, rfl, ?_⟩
    first | exact q1 (fun h => hn h.1) | exact q1 (fun h => hn h.2.1) | exact q1 (fun h => hn h.2.2.1) | exact q1 (fun h => hn h.2.2.2.1) | exact q1 (fun h => hn h.2.2.2.2)
/-- the items of a film -/
def fmI (it : Nat → Int64) (N : Nat → Nat) (t i n : Nat) : Nat → Int64 := fun j => if i ≤ j ∧ j < i + n then lN (lk N t (j - i + 1)) else it j
theorem lp_X11_film {t n s i ln : Nat} {v4 v6 : Int32} (hV : NV N) (hR : HR I 1 N) (ht : t < N 47) (hs : s < 4) (hin : i + n ≤ 24) (hl : I (162 + 2 * s) 2 = nI ln) (hln : ln < 4) (it : Nat → Int64) {Q : Option Int32 → sd_S → Prop} : ∀ (m k : Nat) (J : sd_J), n - k < m → k ≤ n → (∀ j, j < 24 → J (162 + 2 * s + 1) j = fmI it N t i k j) → (∀ J', (∀ b, b ≠ 162 + 2 * s + 1 → J' b = J b) → (∀ j, j < 24 → J' (162 + 2 * s + 1) j = fmI it N t i n j) → Q (some (nI n)) (sk0, X, I, J')) → AW muX11_film 0 0 79 [.ref 0, .int (nI t), .int (nI n), .int (nI s), .int v4, .int (nI i), .int v6, .int (nI (lk N t k)), .int (nI k)] [] (sk0, X, I, J) Q := by
  have h8 := hV.t8
  have hlf := hV.lf ht
  intro m
  induction m with
  | zero => intros; omega
  | succ m ih =>
    intro k J hm hk hJ K
    have hle := lk_le (N := N) (t := t) k
    have hle2 := lk_le (N := N) (t := t) (k + 1)
    have hsu : lk N t (k + 1) = mB (N (48 + t)) (N (56 + t)) (lk N t k) (N 0 + k) := by rw [lk]
    refine AW.iload dX11_film_79 rfl ?_
    refine AW.iload_n dX11_film_81 rfl rfl ?_
    first | refine AW.icmp_geN (tgt := 139) dX11_film_82 (by decide) (by omega) (by omega) (fun c82 => ?_) (fun c82 => ?_) | refine AW.icmp_ge (tgt := 139) dX11_film_82 (by decide) (fun c82 => ?_) (fun c82 => ?_)
    · refine AW.iload_n dX11_film_139 rfl rfl ?_
      refine AW.iret dX11_film_140 ⟨_, rfl, rfl⟩ (Nat.zero_le _) (Nat.zero_le _) ?_
      obtain rfl : k = n := by omega
      exact K J (fun _ _ => rfl) hJ
    · refine AW.aload_n dX11_film_85 rfl rfl ?_
      refine g11_0 dX11_film_86 wF_X11_10 (by first | assumption | rfl | (unfold is11; omega)) ?_
      refine AW.aload_n dX11_film_89 rfl rfl ?_
      show AW muX11_film _ _ 90 _ _ _ _
      refine g11_0 dX11_film_90 wF_X11_10 (by first | assumption | rfl | (unfold is11; omega)) ?_
      refine g2_3 dX11_film_93 wF_X11_113 (by first | assumption | rfl | (unfold is2; omega)) ?_
      refine AW.iload_n dX11_film_96 rfl rfl ?_
      refine AW.iald dX11_film_97 (by first | exact k0_1 | exact is2.a9 i2_1 | exact is2.a10 i2_1 | exact is9.a0 (is9_s hs)) _ (by first | rfl | assumption) (by omega) (by first | decide | omega) ?_
      refine AW.top (hR.kd ht) ?_
      refine AW.aload_n dX11_film_98 rfl rfl ?_
      refine g11_0 dX11_film_99 wF_X11_10 (by first | assumption | rfl | (unfold is11; omega)) ?_
      show AW muX11_film _ _ 102 _ _ _ _
      refine g2_4 dX11_film_102 wF_X11_119 (by first | assumption | rfl | (unfold is2; omega)) ?_
      refine AW.iload_n dX11_film_105 rfl rfl ?_
      refine AW.iald dX11_film_106 (by first | exact k0_1 | exact is2.a9 i2_1 | exact is2.a10 i2_1 | exact is9.a0 (is9_s hs)) _ (by first | rfl | assumption) (by omega) (by first | decide | omega) ?_
      refine AW.top (hR.dr ht) ?_
      refine AW.iload dX11_film_107 rfl ?_
      refine AW.iload dX11_film_109 rfl ?_
      refine cs_X11_film_111 (by first | exact k0_1 | exact is2.a9 i2_1 | exact is2.a10 i2_1 | exact is9.a0 (is9_s hs)) (by decide) (by decide) (Nat.le_of_ble_eq_true rfl) (s_X2_leftBehind (N := N) i2_1 hR.m.ni hV.ni (hV.kd ht) (by have := hV.dr ht; omega) (by omega) (by omega) ?_)
      show AW muX11_film _ _ 114 _ _ _ _
      rw [← hsu]
      refine AW.istore dX11_film_114 (by decide) rfl rfl ?_
      refine AW.aload_n dX11_film_116 rfl rfl ?_
      refine g11_8 dX11_film_117 wF_X11_49 (by first | assumption | rfl | (unfold is11; omega)) ?_
      refine AW.iload_n dX11_film_120 rfl rfl ?_
      refine AW.aald dX11_film_121 (Or.inr (Or.inr rfl)) k0_161 _ rfl hs (by decide) (shD hs) (by omega) ?_
      refine AW.iload dX11_film_122 rfl ?_
      show AW muX11_film _ _ 124 _ _ _ _
      refine AW.iload dX11_film_124 rfl ?_
      first | refine AW.iaddN dX11_film_126 ?_ | refine AW.iadd dX11_film_126 ?_
      refine AW.iload dX11_film_127 rfl ?_
      refine AW.i2l dX11_film_129 ?_
      refine AW.topL (nI_l (by omega)) ?_
      refine cs_X11_film_130 (by first | exact k0_1 | exact is2.a9 i2_1 | exact is2.a10 i2_1 | exact is9.a0 (is9_s hs)) (by decide) (by decide) (Nat.le_of_ble_eq_true rfl) (s_X9_put (is9_s hs) hl hln (by omega) ?_)
      first | refine AW.iincN dX11_film_133 rfl (by decide) rfl rfl ?_ | refine AW.iinc dX11_film_133 rfl rfl (by decide) rfl rfl ?_
      show AW muX11_film _ _ 136 _ _ _ _
      refine AW.goto (tgt := 79) dX11_film_136 (by decide) ?_
      rw [cutL_small (by omega)]
      refine ih (k + 1) _ (by omega) (by omega) (fun j hj => ?_) (fun J' f e => K J' (fun b hb => (f b hb).trans (sd_u_ne hb)) e)
      rw [sd_u_eq]
      by_cases e : j = i + k
      · subst e
        simp only [if_true]
        unfold fmI; rw [if_pos (by omega), Nat.add_sub_cancel_left]
      · simp only [e, if_false]
        rw [hJ j hj]; unfold fmI
        by_cases e2 : i ≤ j ∧ j < i + k
        · rw [if_pos e2, if_pos (by omega)]
        · rw [if_neg e2, if_neg (by omega)]
theorem c_film {x y z u v : Int32} (hV : NV N) (hR : HR I 1 N) (hS : SHC I J sh) (hSV : SHV sh) (q1 : ¬ (inR x 0 (N 47) ∧ inR y 1 25 ∧ inR z 0 4 ∧ inR u 0 4) → Q (-1) (sk0, X, I, J)) (q2 : ∀ s l n, s < 4 → l < 4 → 1 ≤ n → n < 25 → inR x 0 (N 47) → y = nI n → z = nI s → u = nI l → (sh s).1 = 0 → Q (-11) (sk0, X, I, J)) (q3 : ∀ s l n, s < 4 → l < 4 → 1 ≤ n → n < 25 → inR x 0 (N 47) → y = nI n → z = nI s → u = nI l → (sh s).1 ≠ 0 → (sh s).2.1 ≠ l → Q (-12) (sk0, X, I, J)) (q4 : ∀ s l n, s < 4 → l < 4 → 1 ≤ n → n < 25 → inR x 0 (N 47) → y = nI n → z = nI s → u = nI l → (sh s).1 ≠ 0 → (sh s).2.1 = l → ¬ spanP v y (sh s).2.2.1 → Q (-13) (sk0, X, I, J)) (q5 : ∀ t s l i n, t < N 47 → s < 4 → l < 4 → 1 ≤ n → n < 25 → x = nI t → y = nI n → z = nI s → u = nI l → v = nI i → (sh s).1 ≠ 0 → (sh s).2.1 = l → i + n ≤ (sh s).2.2.1 → ∀ J', (∀ b, b ≠ 162 + 2 * s + 1 → J' b = J b) → (∀ j, j < 24 → J' (162 + 2 * s + 1) j = fmI (sh s).2.2.2 N t i n j) → Q (nI n) (sk0, X, I, J')) : AWi muX11_film [.ref 0, .int x, .int y, .int z, .int u, .int v] (sk0, X, I, J) Q := by
  have h8 := hV.t8
  show AW muX11_film 0 0 0 [.ref 0, .int x, .int y, .int z, .int u, .int v, .null, .null, .null] [] _ _
  refine AW.aload_n dX11_film_0 rfl rfl ?_
  refine g11_0 dX11_film_1 wF_X11_10 (by first | assumption | rfl | (unfold is11; omega)) ?_
  refine AW.iload_n dX11_film_4 rfl rfl ?_
  refine cs_X11_film_5 (by first | exact k0_1 | exact is9.a0 (is9_s hs) | exact is4.a3 (is2.m i2_1)) (by decide) (by decide) (Nat.le_of_ble_eq_true rfl) (s_X2_hasThing i2_1 hR.th (by omega) (fun t ht ex => ?_) (fun hn => ?_))
  · refine AW.ifeq1 (tgt := 36) dX11_film_8 (by decide) ?_
    refine AW.iload_n dX11_film_11 rfl rfl ?_
    refine AW.iconst (v := nI 1) dX11_film_12 (by decide) ?_
    refine AW.bipush (v := nI 24) dX11_film_13 (by decide) ?_
    show AW muX11_film _ _ 15 _ _ _ _
    refine cs_X11_film_15 (by decide) (by decide) (Nat.le_of_ble_eq_true rfl) (s_X11_within (lo := 1) (hi := 25) (by decide) (by decide) (by decide) (fun n hn1 hn2 ey => ?_) (fun hn => ?_))
    · refine AW.ifeq1 (tgt := 36) dX11_film_18 (by decide) ?_
      refine AW.iload_n dX11_film_21 rfl rfl ?_
      refine cs_X11_film_22 (by decide) (by decide) (Nat.le_of_ble_eq_true rfl) (s_X11_isSheet (fun s hs ez => ?_) (fun hn => ?_))
      · refine AW.ifeq1 (tgt := 36) dX11_film_25 (by decide) ?_
        refine AW.iload dX11_film_28 rfl ?_
        refine cs_X11_film_30 (by decide) (by decide) (Nat.le_of_ble_eq_true rfl) (s_X11_isLane (fun l hl eu => ?_) (fun hn => ?_))
        · refine AW.ifne1 (tgt := 38) dX11_film_33 (by decide) ?_
          subst ex; subst ey; subst ez; subst eu
          obtain ⟨s1, s2, s3, s4⟩ := hS s hs
          obtain ⟨v1, v2, v3⟩ := hSV s hs
          refine AW.aload_n dX11_film_38 rfl rfl ?_
          refine g11_8 dX11_film_39 wF_X11_49 (by first | assumption | rfl | (unfold is11; omega)) ?_
          refine AW.iload_n dX11_film_42 rfl rfl ?_
          refine AW.aald dX11_film_43 (Or.inr (Or.inr rfl)) k0_161 _ rfl hs (by decide) (shD hs) (by omega) ?_
          show AW muX11_film _ _ 44 _ _ _ _
          refine AW.iload dX11_film_44 rfl ?_
          refine AW.iload dX11_film_46 rfl ?_
          refine AW.iload_n dX11_film_48 rfl rfl ?_
          refine cs_X11_film_49 (by first | exact k0_1 | exact is9.a0 (is9_s hs) | exact is4.a3 (is2.m i2_1)) (by decide) (by decide) (Nat.le_of_ble_eq_true rfl) (s_X9_refusal (is9_s hs) s1 s2 s3 v1 v2 hl v3 (fun h1 => ?_) (fun h1 h2 => ?_) (fun h1 h2 h3 => ?_) (fun h1 h2 i k e1 e2 e3 => ?_))
          · refine AW.istore dX11_film_52 (by decide) rfl rfl ?_
            refine AW.iload dX11_film_54 rfl ?_
            refine AW.if_eq (tgt := 62) dX11_film_56 (by decide) (fun c => absurd c (by decide)) (fun _ => ?_)
            refine AW.iload dX11_film_59 rfl ?_
            exact AW.iret dX11_film_61 ⟨_, rfl, rfl⟩ (Nat.zero_le _) (Nat.zero_le _) ⟨_, rfl, q2 s l n hs hl hn1 hn2 ⟨t, by omega, ht, rfl⟩ rfl rfl rfl h1⟩
          · refine AW.istore dX11_film_52 (by decide) rfl rfl ?_
            refine AW.iload dX11_film_54 rfl ?_
            refine AW.if_eq (tgt := 62) dX11_film_56 (by decide) (fun c => absurd c (by decide)) (fun _ => ?_)
            refine AW.iload dX11_film_59 rfl ?_
            exact AW.iret dX11_film_61 ⟨_, rfl, rfl⟩ (Nat.zero_le _) (Nat.zero_le _) ⟨_, rfl, q3 s l n hs hl hn1 hn2 ⟨t, by omega, ht, rfl⟩ rfl rfl rfl h1 h2⟩
          · refine AW.istore dX11_film_52 (by decide) rfl rfl ?_
            refine AW.iload dX11_film_54 rfl ?_
            refine AW.if_eq (tgt := 62) dX11_film_56 (by decide) (fun c => absurd c (by decide)) (fun _ => ?_)
            refine AW.iload dX11_film_59 rfl ?_
            exact AW.iret dX11_film_61 ⟨_, rfl, rfl⟩ (Nat.zero_le _) (Nat.zero_le _) ⟨_, rfl, q4 s l n hs hl hn1 hn2 ⟨t, by omega, ht, rfl⟩ rfl rfl rfl h1 h2 h3⟩
          · refine AW.istore dX11_film_52 (by decide) rfl rfl ?_
            refine AW.iload dX11_film_54 rfl ?_
            show AW muX11_film _ _ 56 _ _ _ _
            first | refine AW.if_eqN (tgt := 62) dX11_film_56 (by decide) (by omega) (fun c56 => ?_) (fun c56 => ?_) | refine AW.if_eq (tgt := 62) dX11_film_56 (by decide) (fun c56 => ?_) (fun c56 => ?_)
            · obtain rfl : k = n := (nI_eq (by omega) (by omega)).mp e2.symm
              subst e1
              refine AW.aload_n dX11_film_62 rfl rfl ?_
              refine g11_0 dX11_film_63 wF_X11_10 (by first | assumption | rfl | (unfold is11; omega)) ?_
              refine g2_6 dX11_film_66 wF_X11_92 (by first | assumption | rfl | (unfold is2; omega)) ?_
              refine g4_2 dX11_film_69 wF_X11_125 (by first | assumption | exact is2.m (by assumption) | rfl | (unfold is4; omega) | exact is6.m (by assumption) (by omega)) ?_
              refine AW.iload_n dX11_film_72 rfl rfl ?_
              refine AW.iald dX11_film_73 (by first | exact k0_1 | exact is9.a0 (is9_s hs) | exact is4.a3 (is2.m i2_1)) _ (by first | rfl | assumption) (by omega) (by first | decide | omega) ?_
              refine AW.top (hR.m.lf ht) ?_
              show AW muX11_film _ _ 74 _ _ _ _
              refine AW.istore dX11_film_74 (by decide) rfl rfl ?_
              refine AW.iconst (v := nI 0) dX11_film_76 (by decide) ?_
              refine AW.istore dX11_film_77 (by decide) rfl rfl ?_
              refine lp_X11_film hV hR ht hs (by omega) s2 v2 (sh s).2.2.2 (k + 1) 0 J (by omega) (by omega) (fun j hj => ?_) (fun J' f e => ⟨_, rfl, q5 t s l i k ht hs hl hn1 hn2 rfl rfl rfl rfl rfl h1 h2 e3 J' f e⟩)
              rw [s4 j hj]; unfold fmI; rw [if_neg (by omega)]
            · exact absurd rfl c56
        · refine AW.ifne0 (tgt := 38) dX11_film_33 (by decide) ?_
          refine AW.iconst (v := (-1)) dX11_film_36 (by decide) ?_
          refine AW.iret dX11_film_37 ⟨_, rfl, rfl⟩ (Nat.zero_le _) (Nat.zero_le _) ⟨_, rfl, ?_⟩
          first | exact q1 (fun h => hn h.1) | exact q1 (fun h => hn h.2.1) | exact q1 (fun h => hn h.2.2.1) | exact q1 (fun h => hn h.2.2.2)
      · refine AW.ifeq0 (tgt := 36) dX11_film_25 (by decide) ?_
        refine AW.iconst (v := (-1)) dX11_film_36 (by decide) ?_
        refine AW.iret dX11_film_37 ⟨_, rfl, rfl⟩ (Nat.zero_le _) (Nat.zero_le _) ⟨_, rfl, ?_⟩
        first | exact q1 (fun h => hn h.1) | exact q1 (fun h => hn h.2.1) | exact q1 (fun h => hn h.2.2.1) | exact q1 (fun h => hn h.2.2.2)
    · refine AW.ifeq0 (tgt := 36) dX11_film_18 (by decide) ?_
      refine AW.iconst (v := (-1)) dX11_film_36 (by decide) ?_
      show AW muX11_film _ _ 37 _ _ _ _
      refine AW.iret dX11_film_37 ⟨_, rfl, rfl⟩ (Nat.zero_le _) (Nat.zero_le _) ⟨_, rfl, ?_⟩
      first | exact q1 (fun h => hn h.1) | exact q1 (fun h => hn h.2.1) | exact q1 (fun h => hn h.2.2.1) | exact q1 (fun h => hn h.2.2.2)
  · refine AW.ifeq0 (tgt := 36) dX11_film_8 (by decide) ?_
    refine AW.iconst (v := (-1)) dX11_film_36 (by decide) ?_
    refine AW.iret dX11_film_37 ⟨_, rfl, rfl⟩ (Nat.zero_le _) (Nat.zero_le _) ⟨_, rfl, ?_⟩
    first | exact q1 (fun h => hn h.1) | exact q1 (fun h => hn h.2.1) | exact q1 (fun h => hn h.2.2.1) | exact q1 (fun h => hn h.2.2.2)
theorem c_sheet {x y z : Int32} (q1 : ¬ (inR x 0 4 ∧ inR y 0 4 ∧ z ≤ nI 24) → Q (-1) (sk0, X, I, J)) (q2 : inR x 0 4 → inR y 0 4 → z < 0 → Q (-14) (sk0, X, I, J)) (q3 : ∀ s l n, s < 4 → l < 4 → n ≤ 24 → x = nI s → y = nI l → z = nI n → ∀ I' J', Fr I I' (162 + 2 * s) (162 + 2 * s) → I' (162 + 2 * s) 1 = nI 1 → I' (162 + 2 * s) 2 = nI l → I' (162 + 2 * s) 3 = nI n → (∀ b, b ≠ 162 + 2 * s + 1 → J' b = J b) → (∀ j, j < 24 → J' (162 + 2 * s + 1) j = lN 0) → Q (nI n) (sk0, X, I', J')) : AWi muX11_sheet [.ref 0, .int x, .int y, .int z] (sk0, X, I, J) Q := by
  show AW muX11_sheet 0 0 0 [.ref 0, .int x, .int y, .int z] [] _ _
  refine AW.iload_n dX11_sheet_0 rfl rfl ?_
  refine cs_X11_sheet_1 (by decide) (by decide) (Nat.le_of_ble_eq_true rfl) (s_X11_isSheet (fun s hs ex => ?_) (fun hn => ?_))
  · refine AW.ifeq1 (tgt := 20) dX11_sheet_4 (by decide) ?_
    refine AW.iload_n dX11_sheet_7 rfl rfl ?_
    refine cs_X11_sheet_8 (by decide) (by decide) (Nat.le_of_ble_eq_true rfl) (s_X11_isLane (fun l hl ey => ?_) (fun hn => ?_))
    · refine AW.ifeq1 (tgt := 20) dX11_sheet_11 (by decide) ?_
      refine AW.iload_n dX11_sheet_14 rfl rfl ?_
      refine AW.bipush (v := nI 24) dX11_sheet_15 (by decide) ?_
      refine AW.icmp_le (tgt := 22) dX11_sheet_17 (by decide) (fun c17 => ?_) (fun c17 => ?_)
      · refine AW.iload_n dX11_sheet_22 rfl rfl ?_
        refine AW.if_ge (tgt := 29) dX11_sheet_23 (by decide) (fun c23 => ?_) (fun c23 => ?_)
        · obtain ⟨n, hn, rfl⟩ := nI_of (x := z) (Int32.not_lt.mpr c23)
          have hn24 : n ≤ 24 := (nI_leI hn (by decide)).mp c17
          subst ex; subst ey
          refine AW.aload_n dX11_sheet_29 rfl rfl ?_
          show AW muX11_sheet _ _ 30 _ _ _ _
          refine g11_8 dX11_sheet_30 wF_X11_49 (by first | assumption | rfl | (unfold is11; omega)) ?_
          refine AW.iload_n dX11_sheet_33 rfl rfl ?_
          refine AW.aald dX11_sheet_34 (Or.inr (Or.inr rfl)) k0_161 _ rfl hs (by decide) (shD hs) (by omega) ?_
          refine AW.iload_n dX11_sheet_35 rfl rfl ?_
          refine AW.iload_n dX11_sheet_36 rfl rfl ?_
          refine cs_X11_sheet_37 (by first | exact is9.a0 (is9_s hs)) (by decide) (by decide) (Nat.le_of_ble_eq_true rfl) (s_X9_renew (is9_s hs) (fun J1 f1 e1 => ?_))
          show AW muX11_sheet _ _ 40 _ _ _ _
          refine AW.iload_n dX11_sheet_40 rfl rfl ?_
          refine AW.iret dX11_sheet_41 ⟨_, rfl, rfl⟩ (Nat.zero_le _) (Nat.zero_le _) ⟨_, rfl, ?_⟩
          exact q3 s l n hs hl hn24 rfl rfl rfl _ J1 (((Fr.u (by omega) (by omega)).up (by omega) (by omega)).up (by omega) (by omega)) (by (repeat first | rw [ru_ne (by omega)] | rw [ru_j] | rw [ru_ij (by omega)] | rw [upN_ne (by omega)] | rw [upN_eq] | rw [rr_ne (by omega)] | rw [rr_eq] | rw [sb_cpy0 (by omega)])) (by (repeat first | rw [ru_ne (by omega)] | rw [ru_j] | rw [ru_ij (by omega)] | rw [upN_ne (by omega)] | rw [upN_eq] | rw [rr_ne (by omega)] | rw [rr_eq] | rw [sb_cpy0 (by omega)])) (by (repeat first | rw [ru_ne (by omega)] | rw [ru_j] | rw [ru_ij (by omega)] | rw [upN_ne (by omega)] | rw [upN_eq] | rw [rr_ne (by omega)] | rw [rr_eq] | rw [sb_cpy0 (by omega)])) f1 e1
        · refine AW.bipush (v := (-14)) dX11_sheet_26 (by decide) ?_
          refine AW.iret dX11_sheet_28 ⟨_, rfl, rfl⟩ (Nat.zero_le _) (Nat.zero_le _) ⟨_, rfl, ?_⟩
          exact q2 ⟨s, by omega, hs, ex⟩ ⟨l, by omega, hl, ey⟩ (Int32.not_le.mp c23)
      · refine AW.iconst (v := (-1)) dX11_sheet_20 (by decide) ?_
        refine AW.iret dX11_sheet_21 ⟨_, rfl, rfl⟩ (Nat.zero_le _) (Nat.zero_le _) ⟨_, rfl, ?_⟩
        first | exact q1 (fun h => hn h.1) | exact q1 (fun h => hn h.2.1) | exact q1 (fun h => c17 h.2.2)
    · refine AW.ifeq0 (tgt := 20) dX11_sheet_11 (by decide) ?_
      refine AW.iconst (v := (-1)) dX11_sheet_20 (by decide) ?_
      refine AW.iret dX11_sheet_21 ⟨_, rfl, rfl⟩ (Nat.zero_le _) (Nat.zero_le _) ⟨_, rfl, ?_⟩
      first | exact q1 (fun h => hn h.1) | exact q1 (fun h => hn h.2.1) | exact q1 (fun h => c17 h.2.2)
  · refine AW.ifeq0 (tgt := 20) dX11_sheet_4 (by decide) ?_
    refine AW.iconst (v := (-1)) dX11_sheet_20 (by decide) ?_
    refine AW.iret dX11_sheet_21 ⟨_, rfl, rfl⟩ (Nat.zero_le _) (Nat.zero_le _) ⟨_, rfl, ?_⟩
    first | exact q1 (fun h => hn h.1) | exact q1 (fun h => hn h.2.1) | exact q1 (fun h => c17 h.2.2)
theorem c_drop {x : Int32} (hS : SHC I J sh) (hSV : SHV sh) (q1 : ¬ inR x 0 4 → Q (-1) (sk0, X, I, J)) (q2 : ∀ s, s < 4 → x = nI s → (sh s).1 = 0 → Q (-11) (sk0, X, I, J)) (q3 : ∀ s, s < 4 → x = nI s → (sh s).1 ≠ 0 → ∀ I', I' = sd_u I (162 + 2 * s) 1 (nI 0) → Q (nI (sh s).2.2.1) (sk0, X, I', J)) : AWi muX11_drop [.ref 0, .int x] (sk0, X, I, J) Q := by
  show AW muX11_drop 0 0 0 [.ref 0, .int x] [] _ _
  refine AW.iload_n dX11_drop_0 rfl rfl ?_
  refine cs_X11_drop_1 (by decide) (by decide) (Nat.le_of_ble_eq_true rfl) (s_X11_isSheet (fun s hs ex => ?_) (fun hn => ?_))
  · refine AW.ifne1 (tgt := 9) dX11_drop_4 (by decide) ?_
    subst ex
    obtain ⟨s1, s2, s3, s4⟩ := hS s hs
    obtain ⟨v1, v2, v3⟩ := hSV s hs
    refine AW.aload_n dX11_drop_9 rfl rfl ?_
    refine g11_8 dX11_drop_10 wF_X11_49 (by first | assumption | rfl | (unfold is11; omega)) ?_
    refine AW.iload_n dX11_drop_13 rfl rfl ?_
    refine AW.aald dX11_drop_14 (Or.inr (Or.inr rfl)) k0_161 _ rfl hs (by decide) (shD hs) (by omega) ?_
    refine g9_1 dX11_drop_15 wF_X11_282 (is9_s hs) ?_
    refine AW.top (s1) ?_
    show AW muX11_drop _ _ 18 _ _ _ _
    first | refine AW.if_neN (tgt := 24) dX11_drop_18 (by decide) (by omega) (fun c18 => ?_) (fun c18 => ?_) | refine AW.if_ne (tgt := 24) dX11_drop_18 (by decide) (fun c18 => ?_) (fun c18 => ?_)
    · refine AW.aload_n dX11_drop_24 rfl rfl ?_
      refine g11_8 dX11_drop_25 wF_X11_49 (by first | assumption | rfl | (unfold is11; omega)) ?_
      refine AW.iload_n dX11_drop_28 rfl rfl ?_
      refine AW.aald dX11_drop_29 (Or.inr (Or.inr rfl)) k0_161 _ rfl hs (by decide) (shD hs) (by omega) ?_
      refine AW.iconst (v := nI 0) dX11_drop_30 (by decide) ?_
      refine p9_1 dX11_drop_31 wF_X11_282 (is9_s hs) (by decide) (by decide) ?_
      show AW muX11_drop _ _ 34 _ _ _ _
      refine AW.aload_n dX11_drop_34 rfl rfl ?_
      refine g11_8 dX11_drop_35 wF_X11_49 (by first | assumption | rfl | (unfold is11; omega)) ?_
      refine AW.iload_n dX11_drop_38 rfl rfl ?_
      refine AW.aald dX11_drop_39 (Or.inr (Or.inr rfl)) k0_161 _ rfl hs (by decide) (shD hs) (by omega) ?_
      refine g9_3 dX11_drop_40 wF_X11_285 (is9_s hs) ?_
      refine AW.top (show _ = nI (sh s).2.2.1 by (repeat first | rw [ru_ne (by omega)] | rw [ru_j] | rw [ru_ij (by omega)] | rw [upN_ne (by omega)] | rw [upN_eq] | rw [rr_ne (by omega)] | rw [rr_eq] | rw [sb_cpy0 (by omega)]); exact s3) ?_
      refine AW.iret dX11_drop_43 ⟨_, rfl, rfl⟩ (Nat.zero_le _) (Nat.zero_le _) ⟨_, rfl, ?_⟩
      exact q3 s hs rfl c18 _ rfl
    · refine AW.bipush (v := (-11)) dX11_drop_21 (by decide) ?_
      show AW muX11_drop _ _ 23 _ _ _ _
      refine AW.iret dX11_drop_23 ⟨_, rfl, rfl⟩ (Nat.zero_le _) (Nat.zero_le _) ⟨_, rfl, ?_⟩
      exact q2 s hs rfl c18
  · refine AW.ifne0 (tgt := 9) dX11_drop_4 (by decide) ?_
    refine AW.iconst (v := (-1)) dX11_drop_7 (by decide) ?_
    refine AW.iret dX11_drop_8 ⟨_, rfl, rfl⟩ (Nat.zero_le _) (Nat.zero_le _) ⟨_, rfl, ?_⟩
    exact q1 hn
theorem c_item {x y z : Int32} {v : Int64} (hS : SHC I J sh) (hSV : SHV sh) (q1 : ¬ (inR x 0 4 ∧ inR y 0 4) → Q (-1) (sk0, X, I, J)) (q2 : ∀ s l, s < 4 → l < 4 → x = nI s → y = nI l → (sh s).1 = 0 → Q (-11) (sk0, X, I, J)) (q3 : ∀ s l, s < 4 → l < 4 → x = nI s → y = nI l → (sh s).1 ≠ 0 → (sh s).2.1 ≠ l → Q (-12) (sk0, X, I, J)) (q4 : ∀ s l, s < 4 → l < 4 → x = nI s → y = nI l → (sh s).1 ≠ 0 → (sh s).2.1 = l → ¬ spanP z (nI 1) (sh s).2.2.1 → Q (-13) (sk0, X, I, J)) (q5 : ∀ s l i, s < 4 → l < 4 → x = nI s → y = nI l → z = nI i → (sh s).1 ≠ 0 → (sh s).2.1 = l → i + 1 ≤ (sh s).2.2.1 → Q (nI 1) (sk0, X, I, sd_u J (162 + 2 * s + 1) i (cutL l v))) : AWi muX11_item [.ref 0, .int x, .int y, .int z, .long v] (sk0, X, I, J) Q := by
  show AW muX11_item 0 0 0 [.ref 0, .int x, .int y, .int z, .long v, .null, .null] [] _ _
  refine AW.iload_n dX11_item_0 rfl rfl ?_
  refine cs_X11_item_1 (by decide) (by decide) (Nat.le_of_ble_eq_true rfl) (s_X11_isSheet (fun s hs ex => ?_) (fun hn => ?_))
  · refine AW.ifeq1 (tgt := 14) dX11_item_4 (by decide) ?_
    refine AW.iload_n dX11_item_7 rfl rfl ?_
    refine cs_X11_item_8 (by decide) (by decide) (Nat.le_of_ble_eq_true rfl) (s_X11_isLane (fun l hl ey => ?_) (fun hn => ?_))
    · refine AW.ifne1 (tgt := 16) dX11_item_11 (by decide) ?_
      subst ex; subst ey
      obtain ⟨s1, s2, s3, s4⟩ := hS s hs
      obtain ⟨v1, v2, v3⟩ := hSV s hs
      refine AW.aload_n dX11_item_16 rfl rfl ?_
      refine g11_8 dX11_item_17 wF_X11_49 (by first | assumption | rfl | (unfold is11; omega)) ?_
      refine AW.iload_n dX11_item_20 rfl rfl ?_
      refine AW.aald dX11_item_21 (Or.inr (Or.inr rfl)) k0_161 _ rfl hs (by decide) (shD hs) (by omega) ?_
      show AW muX11_item _ _ 22 _ _ _ _
      refine AW.iload_n dX11_item_22 rfl rfl ?_
      refine AW.iload_n dX11_item_23 rfl rfl ?_
      refine AW.iconst (v := nI 1) dX11_item_24 (by decide) ?_
      refine cs_X11_item_25 (by first | exact is9.a0 (is9_s hs)) (by decide) (by decide) (Nat.le_of_ble_eq_true rfl) (s_X9_refusal (is9_s hs) s1 s2 s3 v1 v2 hl v3 (fun h1 => ?_) (fun h1 h2 => ?_) (fun h1 h2 h3 => ?_) (fun h1 h2 i k e1 e2 e3 => ?_))
      · refine AW.istore dX11_item_28 (by decide) rfl rfl ?_
        refine AW.iload dX11_item_30 rfl ?_
        refine AW.if_eq (tgt := 38) dX11_item_32 (by decide) (fun c => absurd c (by decide)) (fun _ => ?_)
        refine AW.iload dX11_item_35 rfl ?_
        exact AW.iret dX11_item_37 ⟨_, rfl, rfl⟩ (Nat.zero_le _) (Nat.zero_le _) ⟨_, rfl, q2 s l hs hl rfl rfl h1⟩
      · refine AW.istore dX11_item_28 (by decide) rfl rfl ?_
        refine AW.iload dX11_item_30 rfl ?_
        refine AW.if_eq (tgt := 38) dX11_item_32 (by decide) (fun c => absurd c (by decide)) (fun _ => ?_)
        refine AW.iload dX11_item_35 rfl ?_
        exact AW.iret dX11_item_37 ⟨_, rfl, rfl⟩ (Nat.zero_le _) (Nat.zero_le _) ⟨_, rfl, q3 s l hs hl rfl rfl h1 h2⟩
      · refine AW.istore dX11_item_28 (by decide) rfl rfl ?_
        refine AW.iload dX11_item_30 rfl ?_
        refine AW.if_eq (tgt := 38) dX11_item_32 (by decide) (fun c => absurd c (by decide)) (fun _ => ?_)
        refine AW.iload dX11_item_35 rfl ?_
        exact AW.iret dX11_item_37 ⟨_, rfl, rfl⟩ (Nat.zero_le _) (Nat.zero_le _) ⟨_, rfl, q4 s l hs hl rfl rfl h1 h2 h3⟩
      · refine AW.istore dX11_item_28 (by decide) rfl rfl ?_
        refine AW.iload dX11_item_30 rfl ?_
        show AW muX11_item _ _ 32 _ _ _ _
        first | refine AW.if_eqN (tgt := 38) dX11_item_32 (by decide) (by omega) (fun c32 => ?_) (fun c32 => ?_) | refine AW.if_eq (tgt := 38) dX11_item_32 (by decide) (fun c32 => ?_) (fun c32 => ?_)
        · obtain rfl : k = 1 := (nI_eq (by omega) (by decide)).mp e2.symm
          subst e1
          refine AW.aload_n dX11_item_38 rfl rfl ?_
          refine g11_8 dX11_item_39 wF_X11_49 (by first | assumption | rfl | (unfold is11; omega)) ?_
          refine AW.iload_n dX11_item_42 rfl rfl ?_
          refine AW.aald dX11_item_43 (Or.inr (Or.inr rfl)) k0_161 _ rfl hs (by decide) (shD hs) (by omega) ?_
          refine AW.iload_n dX11_item_44 rfl rfl ?_
          refine AW.lload dX11_item_45 rfl ?_
          show AW muX11_item _ _ 47 _ _ _ _
          refine cs_X11_item_47 (by first | exact is9.a0 (is9_s hs)) (by decide) (by decide) (Nat.le_of_ble_eq_true rfl) (s_X9_put (is9_s hs) s2 v2 (by omega) ?_)
          refine AW.iconst (v := nI 1) dX11_item_50 (by decide) ?_
          refine AW.iret dX11_item_51 ⟨_, rfl, rfl⟩ (Nat.zero_le _) (Nat.zero_le _) ⟨_, rfl, ?_⟩
          rw [h2]; exact q5 s l i hs hl rfl rfl rfl h1 h2 e3
        · exact absurd rfl c32
    · refine AW.ifne0 (tgt := 16) dX11_item_11 (by decide) ?_
      refine AW.iconst (v := (-1)) dX11_item_14 (by decide) ?_
      refine AW.iret dX11_item_15 ⟨_, rfl, rfl⟩ (Nat.zero_le _) (Nat.zero_le _) ⟨_, rfl, ?_⟩
      first | exact q1 (fun h => hn h.1) | exact q1 (fun h => hn h.2)
  · refine AW.ifeq0 (tgt := 14) dX11_item_4 (by decide) ?_
    refine AW.iconst (v := (-1)) dX11_item_14 (by decide) ?_
    refine AW.iret dX11_item_15 ⟨_, rfl, rfl⟩ (Nat.zero_le _) (Nat.zero_le _) ⟨_, rfl, ?_⟩
    first | exact q1 (fun h => hn h.1) | exact q1 (fun h => hn h.2)
theorem c_copy {x y z u v : Int32} (hS : SHC I J sh) (hSV : SHV sh) (q1 : ¬ (inR x 0 4 ∧ inR z 0 4) → Q (-1) (sk0, X, I, J)) (q2 : ∀ f t, f < 4 → t < 4 → x = nI f → z = nI t → ((sh f).1 = 0 ∨ (sh t).1 = 0) → Q (-11) (sk0, X, I, J)) (q3 : ∀ f t, f < 4 → t < 4 → x = nI f → z = nI t → (sh f).1 ≠ 0 → (sh t).1 ≠ 0 → (sh f).2.1 ≠ (sh t).2.1 → Q (-12) (sk0, X, I, J)) (q4 : ∀ f t, f < 4 → t < 4 → x = nI f → z = nI t → (sh f).1 ≠ 0 → (sh t).1 ≠ 0 → (sh f).2.1 = (sh t).2.1 → ¬ (spanP y v (sh f).2.2.1 ∧ spanP u v (sh t).2.2.1) → Q (-13) (sk0, X, I, J)) (q5 : ∀ f t i j n, f < 4 → t < 4 → x = nI f → y = nI i → z = nI t → u = nI j → v = nI n → (sh f).1 ≠ 0 → (sh t).1 ≠ 0 → (sh f).2.1 = (sh t).2.1 → i + n ≤ (sh f).2.2.1 → j + n ≤ (sh t).2.2.1 → Q (nI n) (sk0, X, I, sd_r J (162 + 2 * t + 1) (va_cpy (J (162 + 2 * f + 1)) (J (162 + 2 * t + 1)) i j n))) : AWi muX11_copy [.ref 0, .int x, .int y, .int z, .int u, .int v] (sk0, X, I, J) Q := by
  show AW muX11_copy 0 0 0 [.ref 0, .int x, .int y, .int z, .int u, .int v, .null, .null] [] _ _
  refine AW.iload_n dX11_copy_0 rfl rfl ?_
  refine cs_X11_copy_1 (by decide) (by decide) (Nat.le_of_ble_eq_true rfl) (s_X11_isSheet (fun f hf ex => ?_) (fun hn => ?_))
  · refine AW.ifeq1 (tgt := 14) dX11_copy_4 (by decide) ?_
    refine AW.iload_n dX11_copy_7 rfl rfl ?_
    refine cs_X11_copy_8 (by decide) (by decide) (Nat.le_of_ble_eq_true rfl) (s_X11_isSheet (fun t ht ez => ?_) (fun hn => ?_))
    · refine AW.ifne1 (tgt := 16) dX11_copy_11 (by decide) ?_
      subst ex; subst ez
      obtain ⟨s1, s2, s3, s4⟩ := hS f hf
      obtain ⟨v1, v2, v3⟩ := hSV f hf
      obtain ⟨t1, t2, t3, t4⟩ := hS t ht
      obtain ⟨w1, w2, w3⟩ := hSV t ht
      refine AW.aload_n dX11_copy_16 rfl rfl ?_
      refine g11_8 dX11_copy_17 wF_X11_49 (by first | assumption | rfl | (unfold is11; omega)) ?_
      refine AW.iload_n dX11_copy_20 rfl rfl ?_
      refine AW.aald dX11_copy_21 (Or.inr (Or.inr rfl)) k0_161 _ rfl hf (by decide) (shD hf) (by omega) ?_
      show AW muX11_copy _ _ 22 _ _ _ _
      refine AW.astore dX11_copy_22 (by decide) rfl rfl ?_
      refine AW.aload_n dX11_copy_24 rfl rfl ?_
      refine g11_8 dX11_copy_25 wF_X11_49 (by first | assumption | rfl | (unfold is11; omega)) ?_
      refine AW.iload_n dX11_copy_28 rfl rfl ?_
      refine AW.aald dX11_copy_29 (Or.inr (Or.inr rfl)) k0_161 _ rfl ht (by decide) (shD ht) (by omega) ?_
      refine AW.astore dX11_copy_30 (by decide) rfl rfl ?_
      show AW muX11_copy _ _ 32 _ _ _ _
      refine AW.aload dX11_copy_32 rfl ?_
      refine g9_1 dX11_copy_34 wF_X11_282 (is9_s hf) ?_
      refine AW.top (s1) ?_
      first | refine AW.if_eqN (tgt := 48) dX11_copy_37 (by decide) (by omega) (fun c37 => ?_) (fun c37 => ?_) | refine AW.if_eq (tgt := 48) dX11_copy_37 (by decide) (fun c37 => ?_) (fun c37 => ?_)
      · refine AW.bipush (v := (-11)) dX11_copy_48 (by decide) ?_
        refine AW.iret dX11_copy_50 ⟨_, rfl, rfl⟩ (Nat.zero_le _) (Nat.zero_le _) ⟨_, rfl, ?_⟩
        first | exact q2 f t hf ht rfl rfl (Or.inl c37) | exact q2 f t hf ht rfl rfl (Or.inr c45)
      · refine AW.aload dX11_copy_40 rfl ?_
        refine g9_1 dX11_copy_42 wF_X11_282 (is9_s ht) ?_
        refine AW.top (t1) ?_
        first | refine AW.if_neN (tgt := 51) dX11_copy_45 (by decide) (by omega) (fun c45 => ?_) (fun c45 => ?_) | refine AW.if_ne (tgt := 51) dX11_copy_45 (by decide) (fun c45 => ?_) (fun c45 => ?_)
        · refine AW.aload dX11_copy_51 rfl ?_
          show AW muX11_copy _ _ 53 _ _ _ _
          refine g9_2 dX11_copy_53 wF_X11_286 (is9_s hf) ?_
          refine AW.top (s2) ?_
          refine AW.aload dX11_copy_56 rfl ?_
          refine g9_2 dX11_copy_58 wF_X11_286 (is9_s ht) ?_
          refine AW.top (t2) ?_
          first | refine AW.icmp_eqN (tgt := 67) dX11_copy_61 (by decide) (by omega) (by omega) (fun c61 => ?_) (fun c61 => ?_) | refine AW.icmp_eq (tgt := 67) dX11_copy_61 (by decide) (fun c61 => ?_) (fun c61 => ?_)
          · refine AW.aload dX11_copy_67 rfl ?_
            refine AW.iload_n dX11_copy_69 rfl rfl ?_
            refine AW.iload dX11_copy_70 rfl ?_
            show AW muX11_copy _ _ 72 _ _ _ _
            refine cs_X11_copy_72 (by first | exact is9.a0 (is9_s hf)) (by decide) (by decide) (Nat.le_of_ble_eq_true rfl) (s_X9_spans (is9_s hf) s3 v3 (fun i n e1 e2 e3 => ?_) (fun hn => ?_))
            · refine AW.ifeq1 (tgt := 90) dX11_copy_75 (by decide) ?_
              refine AW.aload dX11_copy_78 rfl ?_
              refine AW.iload dX11_copy_80 rfl ?_
              refine AW.iload dX11_copy_82 rfl ?_
              refine cs_X11_copy_84 (by first | exact is9.a0 (is9_s ht)) (by decide) (by decide) (Nat.le_of_ble_eq_true rfl) (s_X9_spans (is9_s ht) t3 w3 (fun j n' e4 e5 e6 => ?_) (fun hn => ?_))
              · refine AW.ifne1 (tgt := 93) dX11_copy_87 (by decide) ?_
                subst e1; subst e2; subst e4
                obtain rfl : n = n' := (nI_eq (by omega) (by omega)).mp e5
                refine AW.aload dX11_copy_93 rfl ?_
                refine g9_0 dX11_copy_95 wF_X11_292 (is9_s hf) ?_
                refine AW.iload_n dX11_copy_98 rfl rfl ?_
                show AW muX11_copy _ _ 99 _ _ _ _
                refine AW.aload dX11_copy_99 rfl ?_
                refine g9_0 dX11_copy_101 wF_X11_292 (is9_s ht) ?_
                refine AW.iload dX11_copy_104 rfl ?_
                refine AW.iload dX11_copy_106 rfl ?_
                refine AW.copyJ (p0 := i) (q0 := j) (k0 := n) dX11_copy_108 wM_X11_296 (is9.a1 (is9_s hf)) (is9.a1 (is9_s ht)) rfl rfl rfl (by omega) (by omega) (by decide) (by decide) (by decide) (Nat.le_of_ble_eq_true rfl) ?_
                refine AW.iload dX11_copy_111 rfl ?_
                refine AW.iret dX11_copy_113 ⟨_, rfl, rfl⟩ (Nat.zero_le _) (Nat.zero_le _) ⟨_, rfl, ?_⟩
                exact q5 f t i j n hf ht rfl rfl rfl rfl rfl c37 c45 c61 e3 e6
              · refine AW.ifne0 (tgt := 93) dX11_copy_87 (by decide) ?_
                refine AW.bipush (v := (-13)) dX11_copy_90 (by decide) ?_
                show AW muX11_copy _ _ 92 _ _ _ _
                refine AW.iret dX11_copy_92 ⟨_, rfl, rfl⟩ (Nat.zero_le _) (Nat.zero_le _) ⟨_, rfl, ?_⟩
                first | exact q4 f t hf ht rfl rfl c37 c45 c61 (fun h => hn h.1) | exact q4 f t hf ht rfl rfl c37 c45 c61 (fun h => hn h.2)
            · refine AW.ifeq0 (tgt := 90) dX11_copy_75 (by decide) ?_
              refine AW.bipush (v := (-13)) dX11_copy_90 (by decide) ?_
              refine AW.iret dX11_copy_92 ⟨_, rfl, rfl⟩ (Nat.zero_le _) (Nat.zero_le _) ⟨_, rfl, ?_⟩
              first | exact q4 f t hf ht rfl rfl c37 c45 c61 (fun h => hn h.1) | exact q4 f t hf ht rfl rfl c37 c45 c61 (fun h => hn h.2)
          · refine AW.bipush (v := (-12)) dX11_copy_64 (by decide) ?_
            refine AW.iret dX11_copy_66 ⟨_, rfl, rfl⟩ (Nat.zero_le _) (Nat.zero_le _) ⟨_, rfl, ?_⟩
            exact q3 f t hf ht rfl rfl c37 c45 c61
        · refine AW.bipush (v := (-11)) dX11_copy_48 (by decide) ?_
          refine AW.iret dX11_copy_50 ⟨_, rfl, rfl⟩ (Nat.zero_le _) (Nat.zero_le _) ⟨_, rfl, ?_⟩
          first | exact q2 f t hf ht rfl rfl (Or.inl c37) | exact q2 f t hf ht rfl rfl (Or.inr c45)
    · refine AW.ifne0 (tgt := 16) dX11_copy_11 (by decide) ?_
      refine AW.iconst (v := (-1)) dX11_copy_14 (by decide) ?_
      refine AW.iret dX11_copy_15 ⟨_, rfl, rfl⟩ (Nat.zero_le _) (Nat.zero_le _) ⟨_, rfl, ?_⟩
      first | exact q1 (fun h => hn h.1) | exact q1 (fun h => hn h.2)
  · refine AW.ifeq0 (tgt := 14) dX11_copy_4 (by decide) ?_
    refine AW.iconst (v := (-1)) dX11_copy_14 (by decide) ?_
    refine AW.iret dX11_copy_15 ⟨_, rfl, rfl⟩ (Nat.zero_le _) (Nat.zero_le _) ⟨_, rfl, ?_⟩
    first | exact q1 (fun h => hn h.1) | exact q1 (fun h => hn h.2)
end Pub4
