-- the class Outlook: counting
section Outlook2
variable {X : Nat × (Nat → Int32)} {I : sd_I} {J : sd_J} {h n : Nat} {N pl : Nat → Nat}
theorem lp_X5_wokenIn {k w : Nat} (hh : is2 h) (hV : NV N) (hR : HR I h N) (hL : ∀ q, q < 4 → I 160 q = nI (oL N pl w k (N 47) q)) {Q : Option Int32 → sd_S → Prop} (K : AW muX5_wokenIn 0 0 59 [.ref 157, .ref h, .int (nI k), .int (nI w), .int (nI (oW N pl w k (N 36))), .int (nI (N 36))] [] (sk0, X, I, J) Q) : ∀ (m i : Nat), N 36 - i < m → i ≤ N 36 → AW muX5_wokenIn 0 0 12 [.ref 157, .ref h, .int (nI k), .int (nI w), .int (nI (oW N pl w k i)), .int (nI i)] [] (sk0, X, I, J) Q := by
  have h5 := hV.s5
  intro m
  induction m with
  | zero => intros; omega
  | succ m ih =>
    intro i hm hi
    have hb : i < N 36 → N (37 + i) < 4 := fun q => hV.bd q
    have hbr : i < N 36 → N (42 + i) ≤ 60 := fun q => hV.br q
    have hlr := oL_le hV (pl := pl) (w := w) (k := k) (r := N (37 + i))
    refine AW.iload dX5_wokenIn_12 rfl ?_
    refine AW.aload_n dX5_wokenIn_14 rfl rfl ?_
    refine g2_7 dX5_wokenIn_15 wF_X5_75 (by first | assumption | rfl | (unfold is2; omega)) ?_
    refine AW.top (hR.sl) ?_
    first | refine AW.icmp_geN (tgt := 59) dX5_wokenIn_18 (by decide) (by omega) (by omega) (fun c18 => ?_) (fun c18 => ?_) | refine AW.icmp_ge (tgt := 59) dX5_wokenIn_18 (by decide) (fun c18 => ?_) (fun c18 => ?_)
    · obtain rfl : i = N 36 := by omega
      exact K
    · refine AW.iload dX5_wokenIn_21 rfl ?_
      refine AW.aload_n dX5_wokenIn_23 rfl rfl ?_
      refine g5_4 dX5_wokenIn_24 wF_X5_18 (by first | assumption | rfl | (unfold is5; omega)) ?_
      show AW muX5_wokenIn _ _ 27 _ _ _ _
      refine AW.aload_n dX5_wokenIn_27 rfl rfl ?_
      refine g2_1 dX5_wokenIn_28 wF_X5_78 (by first | assumption | rfl | (unfold is2; omega)) ?_
      refine AW.iload dX5_wokenIn_31 rfl ?_
      refine AW.iald dX5_wokenIn_33 (by first | exact is2.a7 hh | exact is2.a8 hh | exact k0_160) _ (by first | rfl | assumption) (by omega) (by first | decide | omega) ?_
      refine AW.top (hR.bd (by omega)) ?_
      refine AW.iald dX5_wokenIn_34 (by first | exact is2.a7 hh | exact is2.a8 hh | exact k0_160) _ (by first | rfl | assumption) (by have := hb (by omega); omega) (by first | decide | omega) ?_
      refine AW.top (hL _ (hb (by omega))) ?_
      refine AW.aload_n dX5_wokenIn_35 rfl rfl ?_
      show AW muX5_wokenIn _ _ 36 _ _ _ _
      refine g2_2 dX5_wokenIn_36 wF_X5_81 (by first | assumption | rfl | (unfold is2; omega)) ?_
      refine AW.iload dX5_wokenIn_39 rfl ?_
      refine AW.iald dX5_wokenIn_41 (by first | exact is2.a7 hh | exact is2.a8 hh | exact k0_160) _ (by first | rfl | assumption) (by omega) (by first | decide | omega) ?_
      refine AW.top (hR.br (by omega)) ?_
      have hbr2 := hbr (by omega)
      first | refine AW.icmp_leN (tgt := 49) dX5_wokenIn_42 (by decide) (by omega) (by omega) (fun c42 => ?_) (fun c42 => ?_) | refine AW.icmp_le (tgt := 49) dX5_wokenIn_42 (by decide) (fun c42 => ?_) (fun c42 => ?_)
      · refine AW.iconst (v := nI 0) dX5_wokenIn_49 (by decide) ?_
        first | refine AW.iaddN dX5_wokenIn_50 ?_ | refine AW.iadd dX5_wokenIn_50 ?_
        refine AW.istore dX5_wokenIn_51 (by decide) rfl rfl ?_
        show AW muX5_wokenIn _ _ 53 _ _ _ _
        first | refine AW.iincN dX5_wokenIn_53 rfl (by decide) rfl rfl ?_ | refine AW.iinc dX5_wokenIn_53 rfl rfl (by decide) rfl rfl ?_
        refine AW.goto (tgt := 12) dX5_wokenIn_56 (by decide) ?_
        have := ih (i + 1) (by omega) (by omega)
        have e : oW N pl w k (i + 1) = oW N pl w k i + (if N (42 + i) < oL N pl w k (N 47) (N (37 + i)) then 1 else 0) := rfl
        first | (rw [e, if_neg (by omega)] at this; exact this) | (rw [e, if_pos (by omega)] at this; exact this)
      · refine AW.iconst (v := nI 1) dX5_wokenIn_45 (by decide) ?_
        refine AW.goto (tgt := 50) dX5_wokenIn_46 (by decide) ?_
        first | refine AW.iaddN dX5_wokenIn_50 ?_ | refine AW.iadd dX5_wokenIn_50 ?_
        refine AW.istore dX5_wokenIn_51 (by decide) rfl rfl ?_
        first | refine AW.iincN dX5_wokenIn_53 rfl (by decide) rfl rfl ?_ | refine AW.iinc dX5_wokenIn_53 rfl rfl (by decide) rfl rfl ?_
        refine AW.goto (tgt := 12) dX5_wokenIn_56 (by decide) ?_
        have := ih (i + 1) (by omega) (by omega)
        have e : oW N pl w k (i + 1) = oW N pl w k i + (if N (42 + i) < oL N pl w k (N 47) (N (37 + i)) then 1 else 0) := rfl
        first | (rw [e, if_neg (by omega)] at this; exact this) | (rw [e, if_pos (by omega)] at this; exact this)
theorem s_X5_wokenIn {Q : Int32 → sd_S → Prop} {k w : Nat} (hh : is2 h) (hV : NV N) (hR : HR I h N) (hO : OL I N n pl) (hk : k < n) (hn : n ≤ 61) (hw : w < 2 ^ 31) (hp : ∀ t, t < N 47 → pl t < 4) (hQ : ∀ I', Fr I I' 160 160 → Q (nI (oW N pl w k (N 36))) (sk0, X, I', J)) : AWi muX5_wokenIn [.ref 157, .ref h, .int (nI k), .int (nI w)] (sk0, X, I, J) Q := by
  have h157 : h + 17 < 157 := by unfold is2 at hh; omega
  show AW muX5_wokenIn 0 0 0 [.ref 157, .ref h, .int (nI k), .int (nI w), .null, .null] [] _ _
  refine AW.aload_n dX5_wokenIn_0 rfl rfl ?_
  refine AW.iload_n dX5_wokenIn_1 rfl rfl ?_
  refine AW.iload_n dX5_wokenIn_2 rfl rfl ?_
  refine cs_X5_wokenIn_3 (by first | exact k0_157) (by decide) (by decide) (Nat.le_of_ble_eq_true rfl) (s_X5_listen hV hO hk hn hw hp (fun I1 f1 e1 => ?_))
  refine AW.iconst (v := nI 0) dX5_wokenIn_6 (by decide) ?_
  refine AW.istore dX5_wokenIn_7 (by decide) rfl rfl ?_
  show AW muX5_wokenIn _ _ 9 _ _ _ _
  refine AW.iconst (v := nI 0) dX5_wokenIn_9 (by decide) ?_
  refine AW.istore dX5_wokenIn_10 (by decide) rfl rfl ?_
  refine lp_X5_wokenIn hh hV (hR.of (fun b b1 b2 b3 => f1 b (by omega))) e1 ?_ (N 36 + 1) 0 (by omega) (by omega)
  refine AW.iload dX5_wokenIn_59 rfl ?_
  exact AW.iret dX5_wokenIn_61 ⟨_, rfl, rfl⟩ (Nat.zero_le _) (Nat.zero_le _) ⟨_, rfl, hQ I1 f1⟩
def oWs (N pl : Nat → Nat) (k : Nat) : Nat := sumN k (fun q => oW N pl 0 q (N 36))
theorem lp_X5_wakings (hh : is2 h) (hV : NV N) (hn : n ≤ 61) (hp : ∀ t, t < N 47 → pl t < 4) {Q : Option Int32 → sd_S → Prop} : ∀ (m k : Nat) (I : sd_I), n - k < m → k ≤ n → HR I h N → OL I N n pl → (∀ I', Fr I I' 160 160 → Q (some (nI (oWs N pl n))) (sk0, X, I', J)) → AW muX5_wakings 0 0 4 [.ref 157, .ref h, .int (nI (oWs N pl k)), .int (nI k)] [] (sk0, X, I, J) Q := by
  have h157 : h + 17 < 157 := by unfold is2 at hh; omega
  intro m
  induction m with
  | zero => intros; omega
  | succ m ih =>
    intro k I hm hk hR hO K
    refine AW.iload_n dX5_wakings_4 rfl rfl ?_
    refine AW.aload_n dX5_wakings_5 rfl rfl ?_
    refine g5_1 dX5_wakings_6 wF_X5_27 (by first | assumption | rfl | (unfold is5; omega)) ?_
    refine AW.top (hO.1) ?_
    first | refine AW.icmp_geN (tgt := 28) dX5_wakings_9 (by decide) (by omega) (by omega) (fun c9 => ?_) (fun c9 => ?_) | refine AW.icmp_ge (tgt := 28) dX5_wakings_9 (by decide) (fun c9 => ?_) (fun c9 => ?_)
    · refine AW.iload_n dX5_wakings_28 rfl rfl ?_
      refine AW.iret dX5_wakings_29 ⟨_, rfl, rfl⟩ (Nat.zero_le _) (Nat.zero_le _) ?_
      obtain rfl : k = n := by omega
      exact K I Fr.rf
    · refine AW.iload_n dX5_wakings_12 rfl rfl ?_
      refine AW.aload_n dX5_wakings_13 rfl rfl ?_
      show AW muX5_wakings _ _ 14 _ _ _ _
      refine AW.aload_n dX5_wakings_14 rfl rfl ?_
      refine AW.iload_n dX5_wakings_15 rfl rfl ?_
      refine AW.iconst (v := nI 0) dX5_wakings_16 (by decide) ?_
      refine cs_X5_wakings_17 (by first | exact k0_157) (by decide) (by decide) (Nat.le_of_ble_eq_true rfl) (s_X5_wokenIn hh hV hR hO (by omega) hn (by decide) hp (fun I1 f1 => ?_))
      first | refine AW.iaddN dX5_wakings_20 ?_ | refine AW.iadd dX5_wakings_20 ?_
      refine AW.istore_n dX5_wakings_21 rfl (by decide) rfl rfl ?_
      show AW muX5_wakings _ _ 22 _ _ _ _
      first | refine AW.iincN dX5_wakings_22 rfl (by decide) rfl rfl ?_ | refine AW.iinc dX5_wakings_22 rfl rfl (by decide) rfl rfl ?_
      refine AW.goto (tgt := 4) dX5_wakings_25 (by decide) ?_
      exact ih (k + 1) I1 (by omega) (by omega) (hR.of (fun b b1 b2 b3 => f1 b (by omega))) (hO.of (fun b b1 b2 => f1 b (by omega))) (fun I' f => K I' (f1.tr f))
theorem s_X5_wakings {Q : Int32 → sd_S → Prop} (hh : is2 h) (hV : NV N) (hR : HR I h N) (hO : OL I N n pl) (hn : n ≤ 61) (hp : ∀ t, t < N 47 → pl t < 4) (hQ : ∀ I', Fr I I' 160 160 → Q (nI (oWs N pl n)) (sk0, X, I', J)) : AWi muX5_wakings [.ref 157, .ref h] (sk0, X, I, J) Q := by
  show AW muX5_wakings 0 0 0 [.ref 157, .ref h, .null, .null] [] _ _
  refine AW.iconst (v := nI 0) dX5_wakings_0 (by decide) ?_
  refine AW.istore_n dX5_wakings_1 rfl (by decide) rfl rfl ?_
  refine AW.iconst (v := nI 0) dX5_wakings_2 (by decide) ?_
  refine AW.istore_n dX5_wakings_3 rfl (by decide) rfl rfl ?_
  exact lp_X5_wakings hh hV hn hp (n + 1) 0 I (by omega) (by omega) hR hO (fun I' f => ⟨_, rfl, hQ I' f⟩)
/-- how often a room is louder than b, in the first k nights -/
def oI (N pl : Nat → Nat) (r b k : Nat) : Nat := sumN k (fun q => if b < oL N pl 0 q (N 47) r then 1 else 0)
theorem lp_X5_wakingsIn {r b : Nat} (hV : NV N) (hn : n ≤ 61) (hr : r < 4) (hb : b ≤ 60) (hp : ∀ t, t < N 47 → pl t < 4) {Q : Option Int32 → sd_S → Prop} : ∀ (m k : Nat) (I : sd_I), n - k < m → k ≤ n → OL I N n pl → (∀ I', Fr I I' 160 160 → Q (some (nI (oI N pl r b n))) (sk0, X, I', J)) → AW muX5_wakingsIn 0 0 5 [.ref 157, .int (nI r), .int (nI b), .int (nI (oI N pl r b k)), .int (nI k)] [] (sk0, X, I, J) Q := by
  intro m
  induction m with
  | zero => intros; omega
  | succ m ih =>
    intro k I hm hk hO K
    have hlr := oL_le hV (pl := pl) (w := 0) (k := k) (r := r)
    refine AW.iload dX5_wakingsIn_5 rfl ?_
    refine AW.aload_n dX5_wakingsIn_7 rfl rfl ?_
    refine g5_1 dX5_wakingsIn_8 wF_X5_27 (by first | assumption | rfl | (unfold is5; omega)) ?_
    refine AW.top (hO.1) ?_
    first | refine AW.icmp_geN (tgt := 45) dX5_wakingsIn_11 (by decide) (by omega) (by omega) (fun c11 => ?_) (fun c11 => ?_) | refine AW.icmp_ge (tgt := 45) dX5_wakingsIn_11 (by decide) (fun c11 => ?_) (fun c11 => ?_)
    · refine AW.iload_n dX5_wakingsIn_45 rfl rfl ?_
      refine AW.iret dX5_wakingsIn_46 ⟨_, rfl, rfl⟩ (Nat.zero_le _) (Nat.zero_le _) ?_
      obtain rfl : k = n := by omega
      exact K I Fr.rf
    · refine AW.aload_n dX5_wakingsIn_14 rfl rfl ?_
      refine AW.iload dX5_wakingsIn_15 rfl ?_
      show AW muX5_wakingsIn _ _ 17 _ _ _ _
      refine AW.iconst (v := nI 0) dX5_wakingsIn_17 (by decide) ?_
      refine cs_X5_wakingsIn_18 (by first | exact k0_157 | exact k0_160) (by decide) (by decide) (Nat.le_of_ble_eq_true rfl) (s_X5_listen hV hO (by omega) hn (by decide) hp (fun I1 f1 e1 => ?_))
      refine AW.iload_n dX5_wakingsIn_21 rfl rfl ?_
      refine AW.aload_n dX5_wakingsIn_22 rfl rfl ?_
      refine g5_4 dX5_wakingsIn_23 wF_X5_18 (by first | assumption | rfl | (unfold is5; omega)) ?_
      refine AW.iload_n dX5_wakingsIn_26 rfl rfl ?_
      show AW muX5_wakingsIn _ _ 27 _ _ _ _
      refine AW.iald dX5_wakingsIn_27 (by first | exact k0_157 | exact k0_160) _ (by first | rfl | assumption) (by omega) (by first | decide | omega) ?_
      refine AW.top (e1 _ hr) ?_
      refine AW.iload_n dX5_wakingsIn_28 rfl rfl ?_
      first | refine AW.icmp_leN (tgt := 36) dX5_wakingsIn_29 (by decide) (by omega) (by omega) (fun c29 => ?_) (fun c29 => ?_) | refine AW.icmp_le (tgt := 36) dX5_wakingsIn_29 (by decide) (fun c29 => ?_) (fun c29 => ?_)
      · refine AW.iconst (v := nI 0) dX5_wakingsIn_36 (by decide) ?_
        first | refine AW.iaddN dX5_wakingsIn_37 ?_ | refine AW.iadd dX5_wakingsIn_37 ?_
        refine AW.istore_n dX5_wakingsIn_38 rfl (by decide) rfl rfl ?_
        first | refine AW.iincN dX5_wakingsIn_39 rfl (by decide) rfl rfl ?_ | refine AW.iinc dX5_wakingsIn_39 rfl rfl (by decide) rfl rfl ?_
        show AW muX5_wakingsIn _ _ 42 _ _ _ _
        refine AW.goto (tgt := 5) dX5_wakingsIn_42 (by decide) ?_
        have e : oI N pl r b (k + 1) = oI N pl r b k + (if b < oL N pl 0 k (N 47) r then 1 else 0) := rfl
        have := ih (k + 1) I1 (by omega) (by omega) (hO.of (fun b b1 b2 => f1 b (by omega))) (fun I' f => K I' (f1.tr f))
        first | (rw [e, if_neg (by omega)] at this; exact this) | (rw [e, if_pos (by omega)] at this; exact this)
      · refine AW.iconst (v := nI 1) dX5_wakingsIn_32 (by decide) ?_
        refine AW.goto (tgt := 37) dX5_wakingsIn_33 (by decide) ?_
        first | refine AW.iaddN dX5_wakingsIn_37 ?_ | refine AW.iadd dX5_wakingsIn_37 ?_
        refine AW.istore_n dX5_wakingsIn_38 rfl (by decide) rfl rfl ?_
        first | refine AW.iincN dX5_wakingsIn_39 rfl (by decide) rfl rfl ?_ | refine AW.iinc dX5_wakingsIn_39 rfl rfl (by decide) rfl rfl ?_
        refine AW.goto (tgt := 5) dX5_wakingsIn_42 (by decide) ?_
        have e : oI N pl r b (k + 1) = oI N pl r b k + (if b < oL N pl 0 k (N 47) r then 1 else 0) := rfl
        have := ih (k + 1) I1 (by omega) (by omega) (hO.of (fun b b1 b2 => f1 b (by omega))) (fun I' f => K I' (f1.tr f))
        first | (rw [e, if_neg (by omega)] at this; exact this) | (rw [e, if_pos (by omega)] at this; exact this)
theorem s_X5_wakingsIn {Q : Int32 → sd_S → Prop} {r b : Nat} (hV : NV N) (hO : OL I N n pl) (hn : n ≤ 61) (hr : r < 4) (hb : b ≤ 60) (hp : ∀ t, t < N 47 → pl t < 4) (hQ : ∀ I', Fr I I' 160 160 → Q (nI (oI N pl r b n)) (sk0, X, I', J)) : AWi muX5_wakingsIn [.ref 157, .int (nI r), .int (nI b)] (sk0, X, I, J) Q := by
  show AW muX5_wakingsIn 0 0 0 [.ref 157, .int (nI r), .int (nI b), .null, .null] [] _ _
  refine AW.iconst (v := nI 0) dX5_wakingsIn_0 (by decide) ?_
  refine AW.istore_n dX5_wakingsIn_1 rfl (by decide) rfl rfl ?_
  refine AW.iconst (v := nI 0) dX5_wakingsIn_2 (by decide) ?_
  refine AW.istore dX5_wakingsIn_3 (by decide) rfl rfl ?_
  exact lp_X5_wakingsIn hV hn hr hb hp (n + 1) 0 I (by omega) (by omega) hO (fun I' f => ⟨_, rfl, hQ I' f⟩)
theorem oW_le {N pl : Nat → Nat} {w k : Nat} (i : Nat) : oW N pl w k i ≤ i := by
  have h : oW N pl w k i ≤ i * 1 := sumN_le (fun t _ => by split <;> omega)
  omega
theorem lp_X5_isQuietWithout {w : Nat} (hh : is2 h) (hV : NV N) (hn : n ≤ 61) (hw : w < 2 ^ 31) (hp : ∀ t, t < N 47 → pl t < 4) {Q : Option Int32 → sd_S → Prop} : ∀ (m k : Nat) (I : sd_I), n - k < m → k ≤ n → HR I h N → OL I N n pl → (∀ q, q < k → oW N pl w q (N 36) = 0) → (∀ I', Fr I I' 160 160 → (∀ q, q < n → oW N pl w q (N 36) = 0) → Q (some (nI 1)) (sk0, X, I', J)) → (∀ I', Fr I I' 160 160 → (¬ ∀ q, q < n → oW N pl w q (N 36) = 0) → Q (some (nI 0)) (sk0, X, I', J)) → AW muX5_isQuietWithout 0 0 2 [.ref 157, .ref h, .int (nI w), .int (nI k)] [] (sk0, X, I, J) Q := by
  have h157 : h + 17 < 157 := by unfold is2 at hh; omega
  have h5 := hV.s5
  intro m
  induction m with
  | zero => intros; omega
  | succ m ih =>
    intro k I hm hk hR hO hz K1 K0
    have hle := oW_le (N := N) (pl := pl) (w := w) (k := k) (N 36)
    refine AW.iload_n dX5_isQuietWithout_2 rfl rfl ?_
    refine AW.aload_n dX5_isQuietWithout_3 rfl rfl ?_
    refine g5_1 dX5_isQuietWithout_4 wF_X5_27 (by first | assumption | rfl | (unfold is5; omega)) ?_
    refine AW.top (hO.1) ?_
    first | refine AW.icmp_geN (tgt := 28) dX5_isQuietWithout_7 (by decide) (by omega) (by omega) (fun c7 => ?_) (fun c7 => ?_) | refine AW.icmp_ge (tgt := 28) dX5_isQuietWithout_7 (by decide) (fun c7 => ?_) (fun c7 => ?_)
    · refine AW.iconst (v := nI 1) dX5_isQuietWithout_28 (by decide) ?_
      refine AW.iret dX5_isQuietWithout_29 ⟨_, rfl, by decide⟩ (Nat.zero_le _) (Nat.zero_le _) ?_
      obtain rfl : k = n := by omega
      exact K1 I Fr.rf hz
    · refine AW.aload_n dX5_isQuietWithout_10 rfl rfl ?_
      refine AW.aload_n dX5_isQuietWithout_11 rfl rfl ?_
      show AW muX5_isQuietWithout _ _ 12 _ _ _ _
      refine AW.iload_n dX5_isQuietWithout_12 rfl rfl ?_
      refine AW.iload_n dX5_isQuietWithout_13 rfl rfl ?_
      refine cs_X5_isQuietWithout_14 (by first | exact k0_157) (by decide) (by decide) (Nat.le_of_ble_eq_true rfl) (s_X5_wokenIn hh hV hR hO (by omega) hn hw hp (fun I1 f1 => ?_))
      first | refine AW.if_leN (tgt := 22) dX5_isQuietWithout_17 (by decide) (by omega) (fun c17 => ?_) (fun c17 => ?_) | refine AW.if_le (tgt := 22) dX5_isQuietWithout_17 (by decide) (fun c17 => ?_) (fun c17 => ?_)
      · first | refine AW.iincN dX5_isQuietWithout_22 rfl (by decide) rfl rfl ?_ | refine AW.iinc dX5_isQuietWithout_22 rfl rfl (by decide) rfl rfl ?_
        refine AW.goto (tgt := 2) dX5_isQuietWithout_25 (by decide) ?_
        refine ih (k + 1) I1 (by omega) (by omega) (hR.of (fun b b1 b2 b3 => f1 b (by omega))) (hO.of (fun b b1 b2 => f1 b (by omega))) (fun q hq => ?_) (fun I' f => K1 I' (f1.tr f)) (fun I' f => K0 I' (f1.tr f))
        by_cases e : q = k
        · subst e; exact c17
        · exact hz q (by omega)
      · refine AW.iconst (v := nI 0) dX5_isQuietWithout_20 (by decide) ?_
        refine AW.iret dX5_isQuietWithout_21 ⟨_, rfl, by decide⟩ (Nat.zero_le _) (Nat.zero_le _) ?_
        exact K0 I1 f1 (fun e => by have := e k (by omega); omega)
theorem s_X5_isQuietWithout {Q : Int32 → sd_S → Prop} {w : Nat} (hh : is2 h) (hV : NV N) (hR : HR I h N) (hO : OL I N n pl) (hn : n ≤ 61) (hw : w < 2 ^ 31) (hp : ∀ t, t < N 47 → pl t < 4) (hT : ∀ I', Fr I I' 160 160 → (∀ q, q < n → oW N pl w q (N 36) = 0) → Q (nI 1) (sk0, X, I', J)) (hF : ∀ I', Fr I I' 160 160 → (¬ ∀ q, q < n → oW N pl w q (N 36) = 0) → Q (nI 0) (sk0, X, I', J)) : AWi muX5_isQuietWithout [.ref 157, .ref h, .int (nI w)] (sk0, X, I, J) Q := by
  show AW muX5_isQuietWithout 0 0 0 [.ref 157, .ref h, .int (nI w), .null] [] _ _
  refine AW.iconst (v := nI 0) dX5_isQuietWithout_0 (by decide) ?_
  refine AW.istore_n dX5_isQuietWithout_1 rfl (by decide) rfl rfl ?_
  exact lp_X5_isQuietWithout hh hV hn hw hp (n + 1) 0 I (by omega) (by omega) hR hO (fun q hq => absurd hq (by omega)) (fun I' f e => ⟨_, rfl, hT I' f e⟩) (fun I' f e => ⟨_, rfl, hF I' f e⟩)
end Outlook2
