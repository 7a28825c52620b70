-- the class Outlook
def lk (N : Nat → Nat) (t : Nat) : Nat → Nat
  | 0 => N (18 + t)
  | k + 1 => mB (N (48 + t)) (N (56 + t)) (lk N t k) (N 0 + k)
def ldK (N : Nat → Nat) (t k : Nat) : Nat := mL (N (48 + t)) (N (56 + t)) (lk N t k) (N 0 + k)
theorem lk_le {N : Nat → Nat} {t : Nat} (k : Nat) : lk N t k ≤ N (18 + t) := by
  induction k with
  | zero => exact Nat.le_refl _
  | succ k ih => exact Nat.le_trans mB_le ih
def OL (I : sd_I) (N : Nat → Nat) (n : Nat) (pl : Nat → Nat) : Prop := I 157 1 = nI n ∧ I 157 2 = nI (N 47) ∧ (∀ t, t < N 47 → I 159 t = nI (pl t)) ∧ ∀ t, t < N 47 → ∀ k, k < n → I 158 (k * 8 + t) = nI (ldK N t k)
theorem OL.of {I I' : sd_I} {N : Nat → Nat} {n : Nat} {pl : Nat → Nat} (H : OL I N n pl) (e : ∀ b, 157 ≤ b → b ≤ 159 → I' b = I b) : OL I' N n pl := by
  unfold OL; rw [e 157 (by omega) (by omega), e 158 (by omega) (by omega), e 159 (by omega) (by omega)]; exact H
def oL (N : Nat → Nat) (pl : Nat → Nat) (w k i r : Nat) : Nat := sumN i (fun t => if pl t = r then (if w.testBit t then 0 else ldK N t k) else 0)
def oW (N : Nat → Nat) (pl : Nat → Nat) (w k : Nat) (i : Nat) : Nat := sumN i (fun s => if N (42 + s) < oL N pl w k (N 47) (N (37 + s)) then 1 else 0)
theorem oL_le {N : Nat → Nat} (hV : NV N) {pl : Nat → Nat} {w k r : Nat} : oL N pl w k (N 47) r ≤ 144 := by
  have h1 : oL N pl w k (N 47) r ≤ N 47 * 18 := sumN_le (fun t ht => by
    split
    · split
      · omega
      · exact mL_le (hV.dr ht)
    · omega)
  have := hV.t8
  omega
section Outlook
variable {X : Nat × (Nat → Int32)} {I : sd_I} {J : sd_J} {h n : Nat} {N pl : Nat → Nat}
theorem lp1_X5_look {t : Nat} (hh : is2 h) (hV : NV N) (hn : n ≤ 61) (ht : t < N 47) {Q : Option Int32 → sd_S → Prop} : ∀ (m k : Nat) (I : sd_I), n - k < m → k ≤ n → HR I h N → I 157 1 = nI n → (∀ q, q < k → I 158 (q * 8 + t) = nI (ldK N t q)) → (∀ I', Fr I I' 158 158 → (∀ j, j % 8 ≠ t → I' 158 j = I 158 j) → (∀ q, q < n → I' 158 (q * 8 + t) = nI (ldK N t q)) → AW muX5_look 0 0 118 [.ref 157, .ref h, .null, .int (nI t), .null, .null] [] (sk0, X, I', J) Q) → AW muX5_look 0 0 60 [.ref 157, .ref h, .null, .int (nI t), .int (nI (lk N t k)), .int (nI k)] [] (sk0, X, I, J) Q := by
  have h8 := hV.t8
  have hni := hV.ni
  have hlt := hh.lt
  have h157 : h + 17 < 157 := by unfold is2 at hh; omega
  intro m
  induction m with
  | zero => intros; omega
  | succ m ih =>
    intro k I hm hk hR hN hI K
    have hl := lk_le (N := N) (t := t) k
    have hl2 := hV.lf ht
    refine AW.iload dX5_look_60 rfl ?_
    refine AW.aload_n dX5_look_62 rfl rfl ?_
    refine g5_1 dX5_look_63 wF_X5_27 (by first | assumption | rfl | (unfold is5; omega)) ?_
    refine AW.top (hN) ?_
    first | refine AW.icmp_geN (tgt := 118) dX5_look_66 (by decide) (by omega) (by omega) (fun c66 => ?_) (fun c66 => ?_) | refine AW.icmp_ge (tgt := 118) dX5_look_66 (by decide) (fun c66 => ?_) (fun c66 => ?_)
    · obtain rfl : k = n := by omega
      exact AW.forget (ls' := [.ref 157, .ref h, .null, .int (nI t), .null, .null]) (fun i v h1 h2 => by
        match i, h1 with
        | 0, h1 => exact h1
        | 1, h1 => exact h1
        | 2, h1 => cases h1; exact absurd rfl h2
        | 3, h1 => exact h1
        | 4, h1 => cases h1; exact absurd rfl h2
        | 5, h1 => cases h1; exact absurd rfl h2) (K I Fr.rf (fun _ _ => rfl) hI)
    · refine AW.aload_n dX5_look_69 rfl rfl ?_
      refine g5_0 dX5_look_70 wF_X5_9 (by first | assumption | rfl | (unfold is5; omega)) ?_
      refine AW.iload dX5_look_73 rfl ?_
      show AW muX5_look _ _ 75 _ _ _ _
      refine AW.bipush (v := nI 8) dX5_look_75 (by decide) ?_
      first | refine AW.imulN dX5_look_77 ?_ | refine AW.imul dX5_look_77 ?_
      refine AW.iload_n dX5_look_78 rfl rfl ?_
      first | refine AW.iaddN dX5_look_79 ?_ | refine AW.iadd dX5_look_79 ?_
      refine AW.aload_n dX5_look_80 rfl rfl ?_
      refine AW.iload_n dX5_look_81 rfl rfl ?_
      show AW muX5_look _ _ 82 _ _ _ _
      refine AW.iload dX5_look_82 rfl ?_
      refine AW.iload dX5_look_84 rfl ?_
      refine cs_X5_look_86 (by first | exact k0_158 | exact is2.a9 hh | exact is2.a10 hh | exact is2.a0 hh) (by decide) (by decide) (Nat.le_of_ble_eq_true rfl) (s_X2_loudWith hh hR hV ht (by omega) (by omega) ?_)
      refine AW.iast dX5_look_89 (by first | exact k0_158 | exact is2.a9 hh | exact is2.a10 hh | exact is2.a0 hh) _ (by first | rfl | assumption) (by omega) (by first | decide | omega) ?_
      refine AW.aload_n dX5_look_90 rfl rfl ?_
      refine AW.aload_n dX5_look_91 rfl rfl ?_
      show AW muX5_look _ _ 92 _ _ _ _
      refine g2_3 dX5_look_92 wF_X5_57 (by first | assumption | rfl | (unfold is2; omega)) ?_
      refine AW.iload_n dX5_look_95 rfl rfl ?_
      refine AW.iald dX5_look_96 (by first | exact k0_158 | exact is2.a9 hh | exact is2.a10 hh | exact is2.a0 hh) _ (by first | rfl | assumption) (by omega) (by first | decide | omega) ?_
      refine AW.top (show _ = nI (N (48 + t)) by (repeat first | rw [ru_ne (by omega)] | rw [ru_j] | rw [ru_ij (by omega)] | rw [upN_ne (by omega)] | rw [upN_eq] | rw [rr_ne (by omega)] | rw [rr_eq] | rw [sb_cpy0 (by omega)]); exact hR.kd ht) ?_
      refine AW.aload_n dX5_look_97 rfl rfl ?_
      refine g2_4 dX5_look_98 wF_X5_60 (by first | assumption | rfl | (unfold is2; omega)) ?_
      refine AW.iload_n dX5_look_101 rfl rfl ?_
      show AW muX5_look _ _ 102 _ _ _ _
      refine AW.iald dX5_look_102 (by first | exact k0_158 | exact is2.a9 hh | exact is2.a10 hh | exact is2.a0 hh) _ (by first | rfl | assumption) (by omega) (by first | decide | omega) ?_
      refine AW.top (show _ = nI (N (56 + t)) by (repeat first | rw [ru_ne (by omega)] | rw [ru_j] | rw [ru_ij (by omega)] | rw [upN_ne (by omega)] | rw [upN_eq] | rw [rr_ne (by omega)] | rw [rr_eq] | rw [sb_cpy0 (by omega)]); exact hR.dr ht) ?_
      refine AW.iload dX5_look_103 rfl ?_
      refine AW.iload dX5_look_105 rfl ?_
      refine cs_X5_look_107 (by first | exact k0_158 | exact is2.a9 hh | exact is2.a10 hh | exact is2.a0 hh) (by decide) (by decide) (Nat.le_of_ble_eq_true rfl) (s_X2_leftBehind (N := N) hh (by (repeat first | rw [ru_ne (by omega)] | rw [ru_j] | rw [ru_ij (by omega)] | rw [upN_ne (by omega)] | rw [upN_eq] | rw [rr_ne (by omega)] | rw [rr_eq] | rw [sb_cpy0 (by omega)]); exact hR.m.ni) hni (hV.kd ht) (by have := hV.dr ht; omega) (by omega) (by omega) ?_)
      refine AW.istore dX5_look_110 (by decide) rfl rfl ?_
      first | refine AW.iincN dX5_look_112 rfl (by decide) rfl rfl ?_ | refine AW.iinc dX5_look_112 rfl rfl (by decide) rfl rfl ?_
      show AW muX5_look _ _ 115 _ _ _ _
      refine AW.goto (tgt := 60) dX5_look_115 (by decide) ?_
      refine ih (k + 1) _ (by omega) (by omega) (hR.of (fun b b1 b2 b3 => sd_u_ne (by omega))) (by (repeat first | rw [ru_ne (by omega)] | rw [ru_j] | rw [ru_ij (by omega)] | rw [upN_ne (by omega)] | rw [upN_eq] | rw [rr_ne (by omega)] | rw [rr_eq] | rw [sb_cpy0 (by omega)]); exact hN) (fun q hq => ?_) (fun I' f g e => K I' ((Fr.u (by omega) (by omega)).tr f) (fun j hj => ?_) e)
      · by_cases e : q = k
        · subst e; (repeat first | rw [ru_ne (by omega)] | rw [ru_j] | rw [ru_ij (by omega)] | rw [upN_ne (by omega)] | rw [upN_eq] | rw [rr_ne (by omega)] | rw [rr_eq] | rw [sb_cpy0 (by omega)]); rfl
        · (repeat first | rw [ru_ne (by omega)] | rw [ru_j] | rw [ru_ij (by omega)] | rw [upN_ne (by omega)] | rw [upN_eq] | rw [rr_ne (by omega)] | rw [rr_eq] | rw [sb_cpy0 (by omega)]); exact hI q (by omega)
      · rw [g j hj]; (repeat first | rw [ru_ne (by omega)] | rw [ru_j] | rw [ru_ij (by omega)] | rw [upN_ne (by omega)] | rw [upN_eq] | rw [rr_ne (by omega)] | rw [rr_eq] | rw [sb_cpy0 (by omega)])
theorem lp2_X5_look (hh : is2 h) (hV : NV N) (hn : n ≤ 61) {Q : Option Int32 → sd_S → Prop} : ∀ (m t : Nat) (I : sd_I), N 47 - t < m → t ≤ N 47 → HR I h N → I 157 1 = nI n → I 157 2 = nI (N 47) → (∀ s, s < t → ∀ q, q < n → I 158 (q * 8 + s) = nI (ldK N s q)) → (∀ I', Fr I I' 158 158 → (∀ s, s < N 47 → ∀ q, q < n → I' 158 (q * 8 + s) = nI (ldK N s q)) → Q none (sk0, X, I', J)) → AW muX5_look 0 0 38 [.ref 157, .ref h, .null, .int (nI t), .null, .null] [] (sk0, X, I, J) Q := by
  have h8 := hV.t8
  have h157 : h + 17 < 157 := by unfold is2 at hh; omega
  intro m
  induction m with
  | zero => intros; omega
  | succ m ih =>
    intro t I hm ht hR hN hT hI K
    refine AW.iload_n dX5_look_38 rfl rfl ?_
    refine AW.aload_n dX5_look_39 rfl rfl ?_
    refine g5_2 dX5_look_40 wF_X5_36 (by first | assumption | rfl | (unfold is5; omega)) ?_
    refine AW.top (hT) ?_
    first | refine AW.icmp_geN (tgt := 124) dX5_look_43 (by decide) (by omega) (by omega) (fun c43 => ?_) (fun c43 => ?_) | refine AW.icmp_ge (tgt := 124) dX5_look_43 (by decide) (fun c43 => ?_) (fun c43 => ?_)
    · refine AW.ret dX5_look_124 rfl (Nat.zero_le _) (Nat.zero_le _) ?_
      obtain rfl : t = N 47 := by omega
      exact K I Fr.rf hI
    · refine AW.aload_n dX5_look_46 rfl rfl ?_
      refine g2_6 dX5_look_47 wF_X5_37 (by first | assumption | rfl | (unfold is2; omega)) ?_
      refine g4_2 dX5_look_50 wF_X5_50 (by first | assumption | exact is2.m (by assumption) | rfl | (unfold is4; omega) | exact is6.m (by assumption) (by omega)) ?_
      show AW muX5_look _ _ 53 _ _ _ _
      refine AW.iload_n dX5_look_53 rfl rfl ?_
      refine AW.iald dX5_look_54 (by first | exact is4.a3 (is2.m hh)) _ (by first | rfl | assumption) (by omega) (by first | decide | omega) ?_
      refine AW.top (hR.m.lf (by omega)) ?_
      refine AW.istore dX5_look_55 (by decide) rfl rfl ?_
      refine AW.iconst (v := nI 0) dX5_look_57 (by decide) ?_
      refine AW.istore dX5_look_58 (by decide) rfl rfl ?_
      refine lp1_X5_look hh hV hn (by omega) (n + 1) 0 I (by omega) (by omega) hR hN (fun q hq => absurd hq (by omega)) (fun I' f g e => ?_)
      refine AW.iincN dX5_look_118 rfl (by decide) rfl rfl ?_
      refine AW.goto (tgt := 38) dX5_look_121 (by decide) ?_
      refine ih (t + 1) I' (by omega) (by omega) (hR.of (fun b b1 b2 b3 => f b (by omega))) (by rw [f 157 (by omega)]; exact hN) (by rw [f 157 (by omega)]; exact hT) (fun s hs q hq => ?_) (fun I'' f' e' => K I'' (f.tr f') e')
      by_cases es : s = t
      · subst es; exact e q hq
      · rw [g _ (by omega)]; exact hI s (by omega) q hq
theorem s_X5_look {Q : sd_S → Prop} (hh : is2 h) (hR : HR I h N) (hV : NV N) (hn : n ≤ 61) (hQ : ∀ I', Fr I I' 157 160 → OL I' N n (fun t => N (2 + t)) → Q (sk0, X, I', J)) : AWv muX5_look [.ref 157, .ref h, .int (nI n)] (sk0, X, I, J) Q := by
  have h8 := hV.t8
  have h157 : h + 17 < 157 := by unfold is2 at hh; omega
  show AW muX5_look 0 0 0 [.ref 157, .ref h, .int (nI n), .null, .null, .null] [] _ _
  refine AW.aload_n dX5_look_0 rfl rfl ?_
  refine AW.iload_n dX5_look_1 rfl rfl ?_
  refine AW.bipush (v := nI 61) dX5_look_2 (by decide) ?_
  refine AW.mmin dX5_look_4 wM_X5_21 (by decide) (Nat.le_of_ble_eq_true rfl) (by decide) (by decide) ?_
  refine AW.top (show _ = nI n by rw [n_min (by omega) (by omega), Nat.min_eq_left hn]) ?_
  refine p5_1 dX5_look_7 wF_X5_27 (by first | assumption | rfl | (unfold is5; omega)) ?_
  refine AW.aload_n dX5_look_10 rfl rfl ?_
  refine AW.aload_n dX5_look_11 rfl rfl ?_
  show AW muX5_look _ _ 12 _ _ _ _
  refine g2_8 dX5_look_12 wF_X5_31 (by first | assumption | rfl | (unfold is2; omega)) ?_
  refine AW.top (show _ = nI (N 47) by (repeat first | rw [ru_ne (by omega)] | rw [ru_j] | rw [ru_ij (by omega)] | rw [upN_ne (by omega)] | rw [upN_eq] | rw [rr_ne (by omega)] | rw [rr_eq] | rw [sb_cpy0 (by omega)]); exact hR.th) ?_
  refine p5_2 dX5_look_15 wF_X5_36 (by first | assumption | rfl | (unfold is5; omega)) ?_
  refine AW.aload_n dX5_look_18 rfl rfl ?_
  refine g2_6 dX5_look_19 wF_X5_37 (by first | assumption | rfl | (unfold is2; omega)) ?_
  refine g4_0 dX5_look_22 wF_X5_41 (by first | assumption | exact is2.m (by assumption) | rfl | (unfold is4; omega) | exact is6.m (by assumption) (by omega)) ?_
  refine AW.iconst (v := nI 0) dX5_look_25 (by decide) ?_
  show AW muX5_look _ _ 26 _ _ _ _
  refine AW.aload_n dX5_look_26 rfl rfl ?_
  refine g5_3 dX5_look_27 wF_X5_15 (by first | assumption | rfl | (unfold is5; omega)) ?_
  refine AW.iconst (v := nI 0) dX5_look_30 (by decide) ?_
  refine AW.bipush (v := nI 8) dX5_look_31 (by decide) ?_
  refine AW.copyI (p0 := 0) (q0 := 0) (k0 := 8) dX5_look_33 wM_X5_44 (is4.a1 (is2.m hh)) k0_159 rfl rfl rfl (by decide) (by decide) (by decide) (by decide) (by decide) (Nat.le_of_ble_eq_true rfl) ?_
  refine AW.iconst (v := nI 0) dX5_look_36 (by decide) ?_
  refine AW.istore_n dX5_look_37 rfl (by decide) rfl rfl ?_
  show AW muX5_look _ _ 38 _ _ _ _
  refine AW.forget (ls' := [.ref 157, .ref h, .null, .int (nI 0), .null, .null]) (fun i v h1 h2 => by
    match i, h1 with
    | 0, h1 => exact h1
    | 1, h1 => exact h1
    | 2, h1 => cases h1; exact absurd rfl h2
    | 3, h1 => exact h1
    | 4, h1 => cases h1; exact absurd rfl h2
    | 5, h1 => cases h1; exact absurd rfl h2) ?_
  refine lp2_X5_look hh hV hn (N 47 + 1) 0 _ (by omega) (by omega) (hR.of (fun b b1 b2 b3 => by rw [sd_r_ne (by omega), sd_u_ne (by omega), sd_u_ne (by omega)])) (by (repeat first | rw [ru_ne (by omega)] | rw [ru_j] | rw [ru_ij (by omega)] | rw [upN_ne (by omega)] | rw [upN_eq] | rw [rr_ne (by omega)] | rw [rr_eq] | rw [sb_cpy0 (by omega)])) (by (repeat first | rw [ru_ne (by omega)] | rw [ru_j] | rw [ru_ij (by omega)] | rw [upN_ne (by omega)] | rw [upN_eq] | rw [rr_ne (by omega)] | rw [rr_eq] | rw [sb_cpy0 (by omega)])) (fun s hs => absurd hs (by omega)) (fun I' f e => ⟨rfl, hQ I' ?_ ⟨?_, ?_, fun t ht => ?_, e⟩⟩)
  · exact (((Fr.u (by omega) (by omega)).up (by omega) (by omega)).rp (by omega) (by omega)).tr (f.w (by omega) (by omega))
  · rw [f 157 (by omega)]; (repeat first | rw [ru_ne (by omega)] | rw [ru_j] | rw [ru_ij (by omega)] | rw [upN_ne (by omega)] | rw [upN_eq] | rw [rr_ne (by omega)] | rw [rr_eq] | rw [sb_cpy0 (by omega)])
  · rw [f 157 (by omega)]; (repeat first | rw [ru_ne (by omega)] | rw [ru_j] | rw [ru_ij (by omega)] | rw [upN_ne (by omega)] | rw [upN_eq] | rw [rr_ne (by omega)] | rw [rr_eq] | rw [sb_cpy0 (by omega)])
  · rw [f 159 (by omega)]; (repeat first | rw [ru_ne (by omega)] | rw [ru_j] | rw [ru_ij (by omega)] | rw [upN_ne (by omega)] | rw [upN_eq] | rw [rr_ne (by omega)] | rw [rr_eq] | rw [sb_cpy0 (by omega)]); exact hR.m.pl ht
def sw (i j r : Nat) : Nat := if r = i then j else if r = j then i else r
theorem lp_X5_swapRooms {i j : Nat} {n0 : Nat} (hh : is2 h) (hV : NV N) (hi : i < 4) (hj : j < 4) {Q : Option Int32 → sd_S → Prop} : ∀ (m t : Nat) (I : sd_I), N 47 - t < m → t ≤ N 47 → HR I h N → OL I N n0 (fun q => if q < t then sw i j (N (2 + q)) else pl q) → (∀ I', Fr I I' 159 159 → OL I' N n0 (fun q => sw i j (N (2 + q))) → Q none (sk0, X, I', J)) → AW muX5_swapRooms 0 0 3 [.ref 157, .ref h, .int (nI i), .int (nI j), .int (nI t), .null] [] (sk0, X, I, J) Q := by
  have h8 := hV.t8
  have h157 : h + 17 < 157 := by unfold is2 at hh; omega
  intro m
  induction m with
  | zero => intros; omega
  | succ m ih =>
    intro t I hm ht hR hO K
    have hp : t < N 47 → N (2 + t) < 4 := fun q => hV.pl q
    refine AW.iload dX5_swapRooms_3 rfl ?_
    refine AW.aload_n dX5_swapRooms_5 rfl rfl ?_
    refine g5_2 dX5_swapRooms_6 wF_X5_36 (by first | assumption | rfl | (unfold is5; omega)) ?_
    refine AW.top (hO.2.1) ?_
    first | refine AW.icmp_geN (tgt := 59) dX5_swapRooms_9 (by decide) (by omega) (by omega) (fun c9 => ?_) (fun c9 => ?_) | refine AW.icmp_ge (tgt := 59) dX5_swapRooms_9 (by decide) (fun c9 => ?_) (fun c9 => ?_)
    · refine AW.ret dX5_swapRooms_59 rfl (Nat.zero_le _) (Nat.zero_le _) ?_
      obtain rfl : t = N 47 := by omega
      refine K I Fr.rf ⟨hO.1, hO.2.1, fun q hq => ?_, hO.2.2.2⟩
      have := hO.2.2.1 q hq
      simp only [hq, if_true] at this
      exact this
    · refine AW.aload_n dX5_swapRooms_12 rfl rfl ?_
      refine g2_6 dX5_swapRooms_13 wF_X5_37 (by first | assumption | rfl | (unfold is2; omega)) ?_
      refine g4_0 dX5_swapRooms_16 wF_X5_41 (by first | assumption | exact is2.m (by assumption) | rfl | (unfold is4; omega) | exact is6.m (by assumption) (by omega)) ?_
      show AW muX5_swapRooms _ _ 19 _ _ _ _
      refine AW.iload dX5_swapRooms_19 rfl ?_
      refine AW.iald dX5_swapRooms_21 (by first | exact is4.a1 (is2.m hh) | exact k0_159) _ (by first | rfl | assumption) (by omega) (by first | decide | omega) ?_
      refine AW.top (hR.m.pl (by omega)) ?_
      refine AW.istore dX5_swapRooms_22 (by decide) rfl rfl ?_
      refine AW.aload_n dX5_swapRooms_24 rfl rfl ?_
      refine g5_3 dX5_swapRooms_25 wF_X5_15 (by first | assumption | rfl | (unfold is5; omega)) ?_
      refine AW.iload dX5_swapRooms_28 rfl ?_
      show AW muX5_swapRooms _ _ 30 _ _ _ _
      refine AW.iload dX5_swapRooms_30 rfl ?_
      refine AW.iload_n dX5_swapRooms_32 rfl rfl ?_
      have hp2 := hp (by omega)
      first | refine AW.icmp_neN (tgt := 40) dX5_swapRooms_33 (by decide) (by omega) (by omega) (fun c33 => ?_) (fun c33 => ?_) | refine AW.icmp_ne (tgt := 40) dX5_swapRooms_33 (by decide) (fun c33 => ?_) (fun c33 => ?_)
      · refine AW.iload dX5_swapRooms_40 rfl ?_
        refine AW.iload_n dX5_swapRooms_42 rfl rfl ?_
        first | refine AW.icmp_neN (tgt := 50) dX5_swapRooms_43 (by decide) (by omega) (by omega) (fun c43 => ?_) (fun c43 => ?_) | refine AW.icmp_ne (tgt := 50) dX5_swapRooms_43 (by decide) (fun c43 => ?_) (fun c43 => ?_)
        · refine AW.iload dX5_swapRooms_50 rfl ?_
          refine AW.iast dX5_swapRooms_52 (by first | exact is4.a1 (is2.m hh) | exact k0_159) _ (by first | rfl | assumption) (by omega) (by first | decide | omega) ?_
          show AW muX5_swapRooms _ _ 53 _ _ _ _
          first | refine AW.iincN dX5_swapRooms_53 rfl (by decide) rfl rfl ?_ | refine AW.iinc dX5_swapRooms_53 rfl rfl (by decide) rfl rfl ?_
          refine AW.goto (tgt := 3) dX5_swapRooms_56 (by decide) ?_
          refine AW.forget (ls' := [.ref 157, .ref h, .int (nI i), .int (nI j), .int (nI (t + 1)), .null]) (fun i v h1 h2 => by
            match i, h1 with
            | 0, h1 => exact h1
            | 1, h1 => exact h1
            | 2, h1 => exact h1
            | 3, h1 => exact h1
            | 4, h1 => exact h1
            | 5, h1 => cases h1; exact absurd rfl h2) ?_
          refine ih (t + 1) _ (by omega) (by omega) (hR.of (fun b b1 b2 b3 => sd_u_ne (by omega))) ⟨by (repeat first | rw [ru_ne (by omega)] | rw [ru_j] | rw [ru_ij (by omega)] | rw [upN_ne (by omega)] | rw [upN_eq] | rw [rr_ne (by omega)] | rw [rr_eq] | rw [sb_cpy0 (by omega)]); exact hO.1, by (repeat first | rw [ru_ne (by omega)] | rw [ru_j] | rw [ru_ij (by omega)] | rw [upN_ne (by omega)] | rw [upN_eq] | rw [rr_ne (by omega)] | rw [rr_eq] | rw [sb_cpy0 (by omega)]); exact hO.2.1, fun q hq => ?_, fun q hq k hk => by (repeat first | rw [ru_ne (by omega)] | rw [ru_j] | rw [ru_ij (by omega)] | rw [upN_ne (by omega)] | rw [upN_eq] | rw [rr_ne (by omega)] | rw [rr_eq] | rw [sb_cpy0 (by omega)]); exact hO.2.2.2 q hq k hk⟩ (fun I' f e => K I' ((Fr.u (by omega) (by omega)).tr f) e)
          by_cases e : q = t
          · subst e; (repeat first | rw [ru_ne (by omega)] | rw [ru_j] | rw [ru_ij (by omega)] | rw [upN_ne (by omega)] | rw [upN_eq] | rw [rr_ne (by omega)] | rw [rr_eq] | rw [sb_cpy0 (by omega)]); dsimp only; rw [if_pos (by omega)]; unfold sw; first | rw [if_pos c33] | (rw [if_neg c33]; first | rw [if_pos c43] | rw [if_neg c43])
          · (repeat first | rw [ru_ne (by omega)] | rw [ru_j] | rw [ru_ij (by omega)] | rw [upN_ne (by omega)] | rw [upN_eq] | rw [rr_ne (by omega)] | rw [rr_eq] | rw [sb_cpy0 (by omega)]); rw [hO.2.2.1 q hq]; dsimp only; by_cases e2 : q < t
            · rw [if_pos e2, if_pos (by omega)]
            · rw [if_neg e2, if_neg (by omega)]
        · refine AW.iload_n dX5_swapRooms_46 rfl rfl ?_
          refine AW.goto (tgt := 52) dX5_swapRooms_47 (by decide) ?_
          refine AW.iast dX5_swapRooms_52 (by first | exact is4.a1 (is2.m hh) | exact k0_159) _ (by first | rfl | assumption) (by omega) (by first | decide | omega) ?_
          first | refine AW.iincN dX5_swapRooms_53 rfl (by decide) rfl rfl ?_ | refine AW.iinc dX5_swapRooms_53 rfl rfl (by decide) rfl rfl ?_
          refine AW.goto (tgt := 3) dX5_swapRooms_56 (by decide) ?_
          refine AW.forget (ls' := [.ref 157, .ref h, .int (nI i), .int (nI j), .int (nI (t + 1)), .null]) (fun i v h1 h2 => by
            match i, h1 with
            | 0, h1 => exact h1
            | 1, h1 => exact h1
            | 2, h1 => exact h1
            | 3, h1 => exact h1
            | 4, h1 => exact h1
            | 5, h1 => cases h1; exact absurd rfl h2) ?_
          refine ih (t + 1) _ (by omega) (by omega) (hR.of (fun b b1 b2 b3 => sd_u_ne (by omega))) ⟨by (repeat first | rw [ru_ne (by omega)] | rw [ru_j] | rw [ru_ij (by omega)] | rw [upN_ne (by omega)] | rw [upN_eq] | rw [rr_ne (by omega)] | rw [rr_eq] | rw [sb_cpy0 (by omega)]); exact hO.1, by (repeat first | rw [ru_ne (by omega)] | rw [ru_j] | rw [ru_ij (by omega)] | rw [upN_ne (by omega)] | rw [upN_eq] | rw [rr_ne (by omega)] | rw [rr_eq] | rw [sb_cpy0 (by omega)]); exact hO.2.1, fun q hq => ?_, fun q hq k hk => by (repeat first | rw [ru_ne (by omega)] | rw [ru_j] | rw [ru_ij (by omega)] | rw [upN_ne (by omega)] | rw [upN_eq] | rw [rr_ne (by omega)] | rw [rr_eq] | rw [sb_cpy0 (by omega)]); exact hO.2.2.2 q hq k hk⟩ (fun I' f e => K I' ((Fr.u (by omega) (by omega)).tr f) e)
          by_cases e : q = t
          · subst e; (repeat first | rw [ru_ne (by omega)] | rw [ru_j] | rw [ru_ij (by omega)] | rw [upN_ne (by omega)] | rw [upN_eq] | rw [rr_ne (by omega)] | rw [rr_eq] | rw [sb_cpy0 (by omega)]); dsimp only; rw [if_pos (by omega)]; unfold sw; first | rw [if_pos c33] | (rw [if_neg c33]; first | rw [if_pos c43] | rw [if_neg c43])
          · (repeat first | rw [ru_ne (by omega)] | rw [ru_j] | rw [ru_ij (by omega)] | rw [upN_ne (by omega)] | rw [upN_eq] | rw [rr_ne (by omega)] | rw [rr_eq] | rw [sb_cpy0 (by omega)]); rw [hO.2.2.1 q hq]; dsimp only; by_cases e2 : q < t
            · rw [if_pos e2, if_pos (by omega)]
            · rw [if_neg e2, if_neg (by omega)]
      · refine AW.iload_n dX5_swapRooms_36 rfl rfl ?_
        refine AW.goto (tgt := 52) dX5_swapRooms_37 (by decide) ?_
        refine AW.iast dX5_swapRooms_52 (by first | exact is4.a1 (is2.m hh) | exact k0_159) _ (by first | rfl | assumption) (by omega) (by first | decide | omega) ?_
        show AW muX5_swapRooms _ _ 53 _ _ _ _
        first | refine AW.iincN dX5_swapRooms_53 rfl (by decide) rfl rfl ?_ | refine AW.iinc dX5_swapRooms_53 rfl rfl (by decide) rfl rfl ?_
        refine AW.goto (tgt := 3) dX5_swapRooms_56 (by decide) ?_
        refine AW.forget (ls' := [.ref 157, .ref h, .int (nI i), .int (nI j), .int (nI (t + 1)), .null]) (fun i v h1 h2 => by
          match i, h1 with
          | 0, h1 => exact h1
          | 1, h1 => exact h1
          | 2, h1 => exact h1
          | 3, h1 => exact h1
          | 4, h1 => exact h1
          | 5, h1 => cases h1; exact absurd rfl h2) ?_
        refine ih (t + 1) _ (by omega) (by omega) (hR.of (fun b b1 b2 b3 => sd_u_ne (by omega))) ⟨by (repeat first | rw [ru_ne (by omega)] | rw [ru_j] | rw [ru_ij (by omega)] | rw [upN_ne (by omega)] | rw [upN_eq] | rw [rr_ne (by omega)] | rw [rr_eq] | rw [sb_cpy0 (by omega)]); exact hO.1, by (repeat first | rw [ru_ne (by omega)] | rw [ru_j] | rw [ru_ij (by omega)] | rw [upN_ne (by omega)] | rw [upN_eq] | rw [rr_ne (by omega)] | rw [rr_eq] | rw [sb_cpy0 (by omega)]); exact hO.2.1, fun q hq => ?_, fun q hq k hk => by (repeat first | rw [ru_ne (by omega)] | rw [ru_j] | rw [ru_ij (by omega)] | rw [upN_ne (by omega)] | rw [upN_eq] | rw [rr_ne (by omega)] | rw [rr_eq] | rw [sb_cpy0 (by omega)]); exact hO.2.2.2 q hq k hk⟩ (fun I' f e => K I' ((Fr.u (by omega) (by omega)).tr f) e)
        by_cases e : q = t
        · subst e; (repeat first | rw [ru_ne (by omega)] | rw [ru_j] | rw [ru_ij (by omega)] | rw [upN_ne (by omega)] | rw [upN_eq] | rw [rr_ne (by omega)] | rw [rr_eq] | rw [sb_cpy0 (by omega)]); dsimp only; rw [if_pos (by omega)]; unfold sw; first | rw [if_pos c33] | (rw [if_neg c33]; first | rw [if_pos c43] | rw [if_neg c43])
        · (repeat first | rw [ru_ne (by omega)] | rw [ru_j] | rw [ru_ij (by omega)] | rw [upN_ne (by omega)] | rw [upN_eq] | rw [rr_ne (by omega)] | rw [rr_eq] | rw [sb_cpy0 (by omega)]); rw [hO.2.2.1 q hq]; dsimp only; by_cases e2 : q < t
          · rw [if_pos e2, if_pos (by omega)]
          · rw [if_neg e2, if_neg (by omega)]
theorem s_X5_swapRooms {Q : sd_S → Prop} {i j : Nat} (hh : is2 h) (hR : HR I h N) (hV : NV N) (hO : OL I N n pl) (hi : i < 4) (hj : j < 4) (hQ : ∀ I', Fr I I' 157 160 → OL I' N n (fun q => sw i j (N (2 + q))) → Q (sk0, X, I', J)) : AWv muX5_swapRooms [.ref 157, .ref h, .int (nI i), .int (nI j)] (sk0, X, I, J) Q := by
  show AW muX5_swapRooms 0 0 0 [.ref 157, .ref h, .int (nI i), .int (nI j), .null, .null] [] _ _
  refine AW.iconst (v := nI 0) dX5_swapRooms_0 (by decide) ?_
  refine AW.istore dX5_swapRooms_1 (by decide) rfl rfl ?_
  exact lp_X5_swapRooms (pl := pl) hh hV hi hj (N 47 + 1) 0 I (by omega) (by omega) hR (by simpa using hO) (fun I' f e => ⟨rfl, hQ I' (f.w (by omega) (by omega)) e⟩)
theorem lp1_X5_listen {k w : Nat} {Q : Option Int32 → sd_S → Prop} : ∀ (m r : Nat) (I : sd_I), 4 - r < m → r ≤ 4 → (∀ q, q < r → I 160 q = nI 0) → (∀ I', Fr I I' 160 160 → (∀ q, q < 4 → I' 160 q = nI 0) → AW muX5_listen 0 0 20 [.ref 157, .int (nI k), .int (nI w), .int (nI 4)] [] (sk0, X, I', J) Q) → AW muX5_listen 0 0 2 [.ref 157, .int (nI k), .int (nI w), .int (nI r)] [] (sk0, X, I, J) Q := by
  intro m
  induction m with
  | zero => intros; omega
  | succ m ih =>
    intro r I hm hr hI K
    refine AW.iload_n dX5_listen_2 rfl rfl ?_
    refine AW.iconst (v := nI 4) dX5_listen_3 (by decide) ?_
    first | refine AW.icmp_geN (tgt := 20) dX5_listen_4 (by decide) (by omega) (by omega) (fun c4 => ?_) (fun c4 => ?_) | refine AW.icmp_ge (tgt := 20) dX5_listen_4 (by decide) (fun c4 => ?_) (fun c4 => ?_)
    · obtain rfl : r = 4 := by omega
      exact K I Fr.rf hI
    · refine AW.aload_n dX5_listen_7 rfl rfl ?_
      refine g5_4 dX5_listen_8 wF_X5_18 (by first | assumption | rfl | (unfold is5; omega)) ?_
      refine AW.iload_n dX5_listen_11 rfl rfl ?_
      refine AW.iconst (v := nI 0) dX5_listen_12 (by decide) ?_
      show AW muX5_listen _ _ 13 _ _ _ _
      refine AW.iast dX5_listen_13 (by first | exact k0_156 | exact k0_158 | exact k0_159 | exact k0_160 | exact k0_161 | exact k0_163 | exact k0_165 | exact k0_167 | exact k0_169 | exact k0_171 | exact k0_172 | exact k0_173 | exact k0_174 | exact k0_175 | exact k0_176 | exact k0_177 | exact k0_178) _ (by first | rfl | assumption) (by omega) (by first | decide | omega) ?_
      first | refine AW.iincN dX5_listen_14 rfl (by decide) rfl rfl ?_ | refine AW.iinc dX5_listen_14 rfl rfl (by decide) rfl rfl ?_
      refine AW.goto (tgt := 2) dX5_listen_17 (by decide) ?_
      refine ih (r + 1) _ (by omega) (by omega) (fun q hq => ?_) (fun I' f e => K I' ((Fr.u (by omega) (by omega)).tr f) e)
      by_cases hqr : q = r
      · subst hqr; (repeat first | rw [ru_ne (by omega)] | rw [ru_j] | rw [ru_ij (by omega)] | rw [upN_ne (by omega)] | rw [upN_eq] | rw [rr_ne (by omega)] | rw [rr_eq] | rw [sb_cpy0 (by omega)])
      · (repeat first | rw [ru_ne (by omega)] | rw [ru_j] | rw [ru_ij (by omega)] | rw [upN_ne (by omega)] | rw [upN_eq] | rw [rr_ne (by omega)] | rw [rr_eq] | rw [sb_cpy0 (by omega)]); exact hI q (by omega)
theorem lp2_X5_listen {k w : Nat} (hV : NV N) (hk : k < n) (hn : n ≤ 61) (hw : w < 2 ^ 31) (hp : ∀ t, t < N 47 → pl t < 4) {Q : Option Int32 → sd_S → Prop} : ∀ (m i : Nat) (I : sd_I), N 47 - i < m → i ≤ N 47 → OL I N n pl → (∀ q, q < 4 → I 160 q = nI (oL N pl w k i q)) → (∀ I', Fr I I' 160 160 → (∀ q, q < 4 → I' 160 q = nI (oL N pl w k (N 47) q)) → Q none (sk0, X, I', J)) → AW muX5_listen 0 0 22 [.ref 157, .int (nI k), .int (nI w), .int (nI i)] [] (sk0, X, I, J) Q := by
  have h8 := hV.t8
  intro m
  induction m with
  | zero => intros; omega
  | succ m ih =>
    intro i I hm hi hO hI K
    have hpi : i < N 47 → pl i < 4 := hp i
    refine AW.iload_n dX5_listen_22 rfl rfl ?_
    refine AW.aload_n dX5_listen_23 rfl rfl ?_
    refine g5_2 dX5_listen_24 wF_X5_36 (by first | assumption | rfl | (unfold is5; omega)) ?_
    refine AW.top (hO.2.1) ?_
    first | refine AW.icmp_geN (tgt := 73) dX5_listen_27 (by decide) (by omega) (by omega) (fun c27 => ?_) (fun c27 => ?_) | refine AW.icmp_ge (tgt := 73) dX5_listen_27 (by decide) (fun c27 => ?_) (fun c27 => ?_)
    · refine AW.ret dX5_listen_73 rfl (Nat.zero_le _) (Nat.zero_le _) ?_
      obtain rfl : i = N 47 := by omega
      exact K I Fr.rf hI
    · refine AW.aload_n dX5_listen_30 rfl rfl ?_
      refine g5_4 dX5_listen_31 wF_X5_18 (by first | assumption | rfl | (unfold is5; omega)) ?_
      refine AW.aload_n dX5_listen_34 rfl rfl ?_
      show AW muX5_listen _ _ 35 _ _ _ _
      refine g5_3 dX5_listen_35 wF_X5_15 (by first | assumption | rfl | (unfold is5; omega)) ?_
      refine AW.iload_n dX5_listen_38 rfl rfl ?_
      refine AW.iald dX5_listen_39 (by first | exact k0_156 | exact k0_158 | exact k0_159 | exact k0_160 | exact k0_161 | exact k0_163 | exact k0_165 | exact k0_167 | exact k0_169 | exact k0_171 | exact k0_172 | exact k0_173 | exact k0_174 | exact k0_175 | exact k0_176 | exact k0_177 | exact k0_178) _ (by first | rfl | assumption) (by omega) (by first | decide | omega) ?_
      refine AW.top (hO.2.2.1 i (by omega)) ?_
      refine AW.dup2 dX5_listen_40 rfl rfl ?_
      refine AW.iald dX5_listen_41 (by first | exact k0_156 | exact k0_158 | exact k0_159 | exact k0_160 | exact k0_161 | exact k0_163 | exact k0_165 | exact k0_167 | exact k0_169 | exact k0_171 | exact k0_172 | exact k0_173 | exact k0_174 | exact k0_175 | exact k0_176 | exact k0_177 | exact k0_178) _ (by first | rfl | assumption) (by have := hpi (by omega); omega) (by first | decide | omega) ?_
      refine AW.top (hI _ (hpi (by omega))) ?_
      refine AW.iload_n dX5_listen_42 rfl rfl ?_
      show AW muX5_listen _ _ 43 _ _ _ _
      refine AW.iload_n dX5_listen_43 rfl rfl ?_
      refine cs_X5_listen_44 (by decide) (by decide) (Nat.le_of_ble_eq_true rfl) (s_X11_isIn hw (by omega) (fun hb => ?_) (fun hb => ?_))
      · refine AW.ifeq1 (tgt := 54) dX5_listen_47 (by decide) ?_
        refine AW.iconst (v := nI 0) dX5_listen_50 (by decide) ?_
        refine AW.goto (tgt := 65) dX5_listen_51 (by decide) ?_
        first | refine AW.iaddN dX5_listen_65 ?_ | refine AW.iadd dX5_listen_65 ?_
        refine AW.iast dX5_listen_66 (by first | exact k0_156 | exact k0_158 | exact k0_159 | exact k0_160 | exact k0_161 | exact k0_163 | exact k0_165 | exact k0_167 | exact k0_169 | exact k0_171 | exact k0_172 | exact k0_173 | exact k0_174 | exact k0_175 | exact k0_176 | exact k0_177 | exact k0_178) _ (by first | rfl | assumption) (by have := hpi (by omega); omega) (by first | decide | omega) ?_
        first | refine AW.iincN dX5_listen_67 rfl (by decide) rfl rfl ?_ | refine AW.iinc dX5_listen_67 rfl rfl (by decide) rfl rfl ?_
        refine AW.goto (tgt := 22) dX5_listen_70 (by decide) ?_
        refine ih (i + 1) _ (by omega) (by omega) (hO.of (fun b b1 b2 => sd_u_ne (by omega))) (fun q hq => ?_) (fun I' f e => K I' ((Fr.u (by omega) (by omega)).tr f) e)
        by_cases hq2 : q = pl i
        · subst hq2; (repeat first | rw [ru_ne (by omega)] | rw [ru_j] | rw [ru_ij (by omega)] | rw [upN_ne (by omega)] | rw [upN_eq] | rw [rr_ne (by omega)] | rw [rr_eq] | rw [sb_cpy0 (by omega)]); unfold oL; simp [sumN, hb]
        · have hq3 : ¬ pl i = q := fun e => hq2 e.symm
          (repeat first | rw [ru_ne (by omega)] | rw [ru_j] | rw [ru_ij (by omega)] | rw [upN_ne (by omega)] | rw [upN_eq] | rw [rr_ne (by omega)] | rw [rr_eq] | rw [sb_cpy0 (by omega)]); rw [hI q hq]; unfold oL; simp [sumN, hb, hq3]
      · refine AW.ifeq0 (tgt := 54) dX5_listen_47 (by decide) ?_
        refine AW.aload_n dX5_listen_54 rfl rfl ?_
        show AW muX5_listen _ _ 55 _ _ _ _
        refine g5_0 dX5_listen_55 wF_X5_9 (by first | assumption | rfl | (unfold is5; omega)) ?_
        refine AW.iload_n dX5_listen_58 rfl rfl ?_
        refine AW.bipush (v := nI 8) dX5_listen_59 (by decide) ?_
        first | refine AW.imulN dX5_listen_61 ?_ | refine AW.imul dX5_listen_61 ?_
        refine AW.iload_n dX5_listen_62 rfl rfl ?_
        first | refine AW.iaddN dX5_listen_63 ?_ | refine AW.iadd dX5_listen_63 ?_
        show AW muX5_listen _ _ 64 _ _ _ _
        refine AW.iald dX5_listen_64 (by first | exact k0_156 | exact k0_158 | exact k0_159 | exact k0_160 | exact k0_161 | exact k0_163 | exact k0_165 | exact k0_167 | exact k0_169 | exact k0_171 | exact k0_172 | exact k0_173 | exact k0_174 | exact k0_175 | exact k0_176 | exact k0_177 | exact k0_178) _ (by first | rfl | assumption) (by omega) (by first | decide | omega) ?_
        refine AW.top (hO.2.2.2 i (by omega) k hk) ?_
        first | refine AW.iaddN dX5_listen_65 ?_ | refine AW.iadd dX5_listen_65 ?_
        refine AW.iast dX5_listen_66 (by first | exact k0_156 | exact k0_158 | exact k0_159 | exact k0_160 | exact k0_161 | exact k0_163 | exact k0_165 | exact k0_167 | exact k0_169 | exact k0_171 | exact k0_172 | exact k0_173 | exact k0_174 | exact k0_175 | exact k0_176 | exact k0_177 | exact k0_178) _ (by first | rfl | assumption) (by have := hpi (by omega); omega) (by first | decide | omega) ?_
        first | refine AW.iincN dX5_listen_67 rfl (by decide) rfl rfl ?_ | refine AW.iinc dX5_listen_67 rfl rfl (by decide) rfl rfl ?_
        refine AW.goto (tgt := 22) dX5_listen_70 (by decide) ?_
        refine ih (i + 1) _ (by omega) (by omega) (hO.of (fun b b1 b2 => sd_u_ne (by omega))) (fun q hq => ?_) (fun I' f e => K I' ((Fr.u (by omega) (by omega)).tr f) e)
        by_cases hq2 : q = pl i
        · subst hq2; (repeat first | rw [ru_ne (by omega)] | rw [ru_j] | rw [ru_ij (by omega)] | rw [upN_ne (by omega)] | rw [upN_eq] | rw [rr_ne (by omega)] | rw [rr_eq] | rw [sb_cpy0 (by omega)]); unfold oL; simp [sumN, hb]
        · have hq3 : ¬ pl i = q := fun e => hq2 e.symm
          (repeat first | rw [ru_ne (by omega)] | rw [ru_j] | rw [ru_ij (by omega)] | rw [upN_ne (by omega)] | rw [upN_eq] | rw [rr_ne (by omega)] | rw [rr_eq] | rw [sb_cpy0 (by omega)]); rw [hI q hq]; unfold oL; simp [sumN, hb, hq3]
theorem s_X5_listen {Q : sd_S → Prop} {k w : Nat} (hV : NV N) (hO : OL I N n pl) (hk : k < n) (hn : n ≤ 61) (hw : w < 2 ^ 31) (hp : ∀ t, t < N 47 → pl t < 4) (hQ : ∀ I', Fr I I' 160 160 → (∀ q, q < 4 → I' 160 q = nI (oL N pl w k (N 47) q)) → Q (sk0, X, I', J)) : AWv muX5_listen [.ref 157, .int (nI k), .int (nI w)] (sk0, X, I, J) Q := by
  show AW muX5_listen 0 0 0 [.ref 157, .int (nI k), .int (nI w), .null] [] _ _
  refine AW.iconst (v := nI 0) dX5_listen_0 (by decide) ?_
  refine AW.istore_n dX5_listen_1 rfl (by decide) rfl rfl ?_
  refine lp1_X5_listen 5 0 I (by omega) (by omega) (fun q hq => absurd hq (by omega)) (fun I' f e => ?_)
  refine AW.iconst (v := nI 0) dX5_listen_20 (by decide) ?_
  refine AW.istore_n dX5_listen_21 rfl (by decide) rfl rfl ?_
  exact lp2_X5_listen hV hk hn hw hp (N 47 + 1) 0 I' (by omega) (by omega) (hO.of (fun b b1 b2 => f b (by omega))) (fun q hq => by rw [e q hq]; rfl) (fun I'' f' e' => ⟨rfl, hQ I'' (f.tr f') e'⟩)
end Outlook
