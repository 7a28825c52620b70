-- the past: a ring of eight moments; the draw
def sl (N : Nat → Nat) (j : Nat) : Nat → Nat := fun k => if k < 36 then N (65 + 36 * j + k) else N k
def PR (I : sd_I) (p : Nat) (N : Nat → Nat) : Prop := I p 2 = nI (N 64) ∧ N 64 ≤ 8 ∧ ∃ x, x < 8 ∧ I p 1 = nI x ∧ ∀ j, j < N 64 → MR I (p + 2 + 6 * ((x + 8 - N 64 + j) % 8)) (sl N j)
def noteN (N : Nat → Nat) : Nat → Nat := fun k =>
  if N 64 = 8 then (if 65 ≤ k ∧ k < 317 then N (k + 36) else if 317 ≤ k ∧ k < 353 then N (k - 317) else N k)
  else (if k = 64 then N 64 + 1 else if 65 + 36 * N 64 ≤ k ∧ k < 101 + 36 * N 64 then N (k - (65 + 36 * N 64)) else N k)
def undoN (N : Nat → Nat) : Nat → Nat := fun k => if k < 36 then N (65 + 36 * (N 64 - 1) + k) else if k = 64 then N 64 - 1 else N k
theorem noteN_low {N : Nat → Nat} {k : Nat} (h : k < 64) : noteN N k = N k := by
  unfold noteN; split
  · rw [if_neg (by omega), if_neg (by omega)]
  · rw [if_neg (by omega), if_neg (by omega)]
theorem noteN_64 {N : Nat → Nat} (h : N 64 ≤ 8) : noteN N 64 = min (N 64 + 1) 8 := by
  unfold noteN; split
  · rw [if_neg (by omega), if_neg (by omega)]; omega
  · rw [if_pos rfl]; omega
theorem MR.eqN {I : sd_I} {m : Nat} {N N' : Nat → Nat} (H : MR I m N) (e : ∀ k, k ≤ 36 ∨ k = 47 → N' k = N k) (h5 : N 36 ≤ 5) (h8 : N 47 ≤ 8) : MR I m N' := by
  obtain ⟨a1, a2, a3, a4⟩ := H
  refine ⟨by rw [e 0 (by omega)]; exact a1, by rw [e 1 (by omega)]; exact a2, fun t ht => ?_, fun s hs => ?_⟩
  · rw [e 47 (by omega)] at ht
    rw [e (2 + t) (by omega), e (10 + t) (by omega), e (18 + t) (by omega)]; exact a3 t ht
  · rw [e 36 (by omega)] at hs
    rw [e (26 + s) (by omega), e (31 + s) (by omega)]; exact a4 s hs
theorem keptD {p j : Nat} (hj : j < 8) : ([some (p + 2), some (p + 8), some (p + 14), some (p + 20), some (p + 26), some (p + 32), some (p + 38), some (p + 44)] : List (Option Nat)).getD j none = some (p + 2 + 6 * j) := by
  rcases (show j = 0 ∨ j = 1 ∨ j = 2 ∨ j = 3 ∨ j = 4 ∨ j = 5 ∨ j = 6 ∨ j = 7 by omega) with rfl | rfl | rfl | rfl | rfl | rfl | rfl | rfl <;> rfl
theorem noteN_new {N : Nat → Nat} (h : N 64 ≤ 8) {j : Nat} (hj : j + 1 = min (N 64 + 1) 8) : ∀ k, k ≤ 36 ∨ k = 47 → sl (noteN N) j k = N k := by
  intro k hk
  unfold sl
  split
  · unfold noteN
    split
    · rw [if_neg (by omega), if_pos (by omega)]; exact congrArg N (by omega)
    · rw [if_neg (by omega), if_pos (by omega)]; exact congrArg N (by omega)
  · exact noteN_low (by omega)
theorem noteN_old {N : Nat → Nat} (h : N 64 ≤ 8) {j : Nat} (hj : j + 1 < min (N 64 + 1) 8) : ∀ k, k ≤ 36 ∨ k = 47 → sl (noteN N) j k = sl N (if N 64 = 8 then j + 1 else j) k := by
  intro k hk
  unfold sl
  split
  · unfold noteN
    split
    · rw [if_pos (by omega)]; exact congrArg N (by omega)
    · rw [if_neg (by omega), if_neg (by omega)]
  · exact noteN_low (by omega)
section Past
variable {X : Nat × (Nat → Int32)} {I : sd_I} {J : sd_J} {p m : Nat} {N : Nat → Nat} {Q : sd_S → Prop}
theorem s_X6_keep (hp : is6 p) (hm : is4 m) (hmp : m < p ∨ p + 49 < m) (hP : PR I p N) (hM : MR I m N) (h5 : N 36 ≤ 5) (h8 : N 47 ≤ 8) (hQ : ∀ I', Fr I I' p (p + 49) → PR I' p (noteN N) → Q (sk0, X, I', J)) : AWv muX6_keep [.ref p, .ref m] (sk0, X, I, J) Q := by
  obtain ⟨p1, p2, x, hx, p3, p4⟩ := hP
  have hplt := hp.lt
  show AW muX6_keep 0 0 0 [.ref p, .ref m] [] _ _
  refine AW.aload_n dX6_keep_0 rfl rfl ?_
  refine g6_0 dX6_keep_1 wF_X6_11 (by first | assumption | rfl | (unfold is6; omega)) ?_
  refine AW.aload_n dX6_keep_4 rfl rfl ?_
  refine g6_1 dX6_keep_5 wF_X6_18 (by first | assumption | rfl | (unfold is6; omega)) ?_
  refine AW.top (p3) ?_
  refine AW.aald dX6_keep_8 (Or.inr (Or.inl rfl)) (is6.a1 hp) x rfl hx (by decide) (keptD hx) (by omega) ?_
  refine AW.aload_n dX6_keep_9 rfl rfl ?_
  show AW muX6_keep _ _ 10 _ _ _ _
  refine cs_X6_keep_10 (by first | exact is4.a0 (is6.m hp hx)) (by decide) (by decide) (Nat.le_of_ble_eq_true rfl) (s_X4_takeAll (is6.m hp hx) hm (by omega) (fun I1 f1 c1 => ?_))
  refine AW.aload_n dX6_keep_13 rfl rfl ?_
  refine AW.aload_n dX6_keep_14 rfl rfl ?_
  refine g6_1 dX6_keep_15 wF_X6_18 (by first | assumption | rfl | (unfold is6; omega)) ?_
  refine AW.top (show _ = nI x by rw [f1 p (by omega)]; exact p3) ?_
  refine AW.iconst (v := nI 1) dX6_keep_18 (by decide) ?_
  first | refine AW.iaddN dX6_keep_19 ?_ | refine AW.iadd dX6_keep_19 ?_
  show AW muX6_keep _ _ 20 _ _ _ _
  refine AW.bipush (v := nI 8) dX6_keep_20 (by decide) ?_
  first | refine AW.iremN dX6_keep_22 (by omega) (by omega) (by omega) ?_ | refine AW.irem dX6_keep_22 (by first | assumption | decide) ?_
  refine p6_1 dX6_keep_23 wF_X6_18 (by first | assumption | rfl | (unfold is6; omega)) ?_
  refine AW.aload_n dX6_keep_26 rfl rfl ?_
  refine AW.aload_n dX6_keep_27 rfl rfl ?_
  refine g6_2 dX6_keep_28 wF_X6_26 (by first | assumption | rfl | (unfold is6; omega)) ?_
  refine AW.top (show _ = nI (N 64) by (repeat first | rw [ru_ne (by omega)] | rw [ru_j] | rw [ru_ij (by omega)] | rw [upN_ne (by omega)] | rw [upN_eq] | rw [rr_ne (by omega)] | rw [rr_eq] | rw [sb_cpy0 (by omega)]); rw [f1 p (by omega)]; exact p1) ?_
  show AW muX6_keep _ _ 31 _ _ _ _
  refine AW.iconst (v := nI 1) dX6_keep_31 (by decide) ?_
  first | refine AW.iaddN dX6_keep_32 ?_ | refine AW.iadd dX6_keep_32 ?_
  refine AW.bipush (v := nI 8) dX6_keep_33 (by decide) ?_
  refine AW.mmin dX6_keep_35 wM_X6_29 (by decide) (Nat.le_of_ble_eq_true rfl) (by decide) (by decide) ?_
  refine AW.top (n_min (by omega) (by omega)) ?_
  refine p6_2 dX6_keep_38 wF_X6_26 (by first | assumption | rfl | (unfold is6; omega)) ?_
  refine AW.ret dX6_keep_41 rfl (Nat.zero_le _) (Nat.zero_le _) ⟨rfl, ?_⟩
  have hz := noteN_64 p2
  refine hQ _ (((f1.w (by omega) (by omega)).up (by omega) (by omega)).up (by omega) (by omega)) ⟨?_, ?_, (x + 1) % 8, by omega, ?_, fun j hj => ?_⟩
  · rw [hz]; (repeat first | rw [ru_ne (by omega)] | rw [ru_j] | rw [ru_ij (by omega)] | rw [upN_ne (by omega)] | rw [upN_eq] | rw [rr_ne (by omega)] | rw [rr_eq] | rw [sb_cpy0 (by omega)])
  · rw [hz]; omega
  · (repeat first | rw [ru_ne (by omega)] | rw [ru_j] | rw [ru_ij (by omega)] | rw [upN_ne (by omega)] | rw [upN_eq] | rw [rr_ne (by omega)] | rw [rr_eq] | rw [sb_cpy0 (by omega)])
  · rw [hz] at hj ⊢
    have hfr : ∀ c, p + 2 ≤ c → sd_u (sd_u I1 p 1 (nI ((x + 1) % 8))) p 2 (nI (min (N 64 + 1) 8)) c = I1 c := fun c hc => by rw [sd_u_ne (by omega), sd_u_ne (by omega)]
    by_cases hjl : j + 1 = min (N 64 + 1) 8
    · have e1 : ((x + 1) % 8 + 8 - min (N 64 + 1) 8 + j) % 8 = x := by omega
      rw [e1]
      exact ((hM.cp c1 h5 h8).of (fun b b1 b2 => hfr b (by omega))).eqN (noteN_new p2 hjl) h5 h8
    · have hjo := noteN_old p2 (j := j) (by omega)
      have e1 : ((x + 1) % 8 + 8 - min (N 64 + 1) 8 + j) % 8 = (x + 8 - N 64 + (if N 64 = 8 then j + 1 else j)) % 8 := by split <;> omega
      rw [e1]
      have hlt : (if N 64 = 8 then j + 1 else j) < N 64 := by split <;> omega
      have hne : (x + 8 - N 64 + (if N 64 = 8 then j + 1 else j)) % 8 ≠ x := by split <;> omega
      have hold := p4 _ hlt
      refine (hold.of (fun b b1 b2 => ?_)).eqN hjo (by unfold sl; rw [if_neg (by omega)]; exact h5) (by unfold sl; rw [if_neg (by omega)]; exact h8)
      rw [hfr b (by omega), f1 b (by omega)]
theorem s_X6_bringBack {Q : sd_S → Prop} (hp : is6 p) (hm : is4 m) (hmp : m + 5 < p ∨ p + 49 < m) (hP : PR I p N) (hn : N 64 ≠ 0) (h5 : N 36 ≤ 5) (h8 : N 47 ≤ 8) (hQ : ∀ I', (∀ c, c ≠ p → (c < m ∨ m + 5 < c) → I' c = I c) → PR I' p (undoN N) → MR I' m (undoN N) → Q (sk0, X, I', J)) : AWv muX6_bringBack [.ref p, .ref m] (sk0, X, I, J) Q := by
  obtain ⟨p1, p2, x, hx, p3, p4⟩ := hP
  have hplt := hp.lt
  have hx7 : (x + 8 - 1) % 8 < 8 := by omega
  show AW muX6_bringBack 0 0 0 [.ref p, .ref m] [] _ _
  refine AW.aload_n dX6_bringBack_0 rfl rfl ?_
  refine g6_2 dX6_bringBack_1 wF_X6_26 (by first | assumption | rfl | (unfold is6; omega)) ?_
  refine AW.top (p1) ?_
  first | refine AW.if_neN (tgt := 8) dX6_bringBack_4 (by decide) (by omega) (fun c4 => ?_) (fun c4 => ?_) | refine AW.if_ne (tgt := 8) dX6_bringBack_4 (by decide) (fun c4 => ?_) (fun c4 => ?_)
  · refine AW.aload_n dX6_bringBack_8 rfl rfl ?_
    refine AW.aload_n dX6_bringBack_9 rfl rfl ?_
    refine g6_1 dX6_bringBack_10 wF_X6_18 (by first | assumption | rfl | (unfold is6; omega)) ?_
    refine AW.top (p3) ?_
    refine AW.bipush (v := nI 8) dX6_bringBack_13 (by decide) ?_
    show AW muX6_bringBack _ _ 15 _ _ _ _
    first | refine AW.iaddN dX6_bringBack_15 ?_ | refine AW.iadd dX6_bringBack_15 ?_
    refine AW.iconst (v := nI 1) dX6_bringBack_16 (by decide) ?_
    first | refine AW.isubN dX6_bringBack_17 (by omega) ?_ | refine AW.isub dX6_bringBack_17 ?_
    refine AW.bipush (v := nI 8) dX6_bringBack_18 (by decide) ?_
    first | refine AW.iremN dX6_bringBack_20 (by omega) (by omega) (by omega) ?_ | refine AW.irem dX6_bringBack_20 (by first | assumption | decide) ?_
    refine p6_1 dX6_bringBack_21 wF_X6_18 (by first | assumption | rfl | (unfold is6; omega)) ?_
    show AW muX6_bringBack _ _ 24 _ _ _ _
    refine AW.aload_n dX6_bringBack_24 rfl rfl ?_
    refine AW.dup dX6_bringBack_25 rfl ?_
    refine g6_2 dX6_bringBack_26 wF_X6_26 (by first | assumption | rfl | (unfold is6; omega)) ?_
    refine AW.top (show _ = nI (N 64) by (repeat first | rw [ru_ne (by omega)] | rw [ru_j] | rw [ru_ij (by omega)] | rw [upN_ne (by omega)] | rw [upN_eq] | rw [rr_ne (by omega)] | rw [rr_eq] | rw [sb_cpy0 (by omega)]); exact p1) ?_
    refine AW.iconst (v := nI 1) dX6_bringBack_29 (by decide) ?_
    first | refine AW.isubN dX6_bringBack_30 (by omega) ?_ | refine AW.isub dX6_bringBack_30 ?_
    refine p6_2 dX6_bringBack_31 wF_X6_26 (by first | assumption | rfl | (unfold is6; omega)) ?_
    show AW muX6_bringBack _ _ 34 _ _ _ _
    refine AW.aload_n dX6_bringBack_34 rfl rfl ?_
    refine AW.aload_n dX6_bringBack_35 rfl rfl ?_
    refine g6_0 dX6_bringBack_36 wF_X6_11 (by first | assumption | rfl | (unfold is6; omega)) ?_
    refine AW.aload_n dX6_bringBack_39 rfl rfl ?_
    refine g6_1 dX6_bringBack_40 wF_X6_18 (by first | assumption | rfl | (unfold is6; omega)) ?_
    refine AW.top (show _ = nI ((x + 8 - 1) % 8) by (repeat first | rw [ru_ne (by omega)] | rw [ru_j] | rw [ru_ij (by omega)] | rw [upN_ne (by omega)] | rw [upN_eq] | rw [rr_ne (by omega)] | rw [rr_eq] | rw [sb_cpy0 (by omega)])) ?_
    refine AW.aald dX6_bringBack_43 (Or.inr (Or.inl rfl)) (is6.a1 hp) _ rfl hx7 (by decide) (keptD hx7) (by omega) ?_
    show AW muX6_bringBack _ _ 44 _ _ _ _
    refine cs_X6_bringBack_44 (by first | exact is4.a0 hm) (by decide) (by decide) (Nat.le_of_ble_eq_true rfl) (s_X4_takeAll hm (is6.m hp hx7) (by omega) (fun I1 f1 c1 => ?_))
    refine AW.ret dX6_bringBack_47 rfl (Nat.zero_le _) (Nat.zero_le _) ⟨rfl, ?_⟩
    have hu : undoN N 64 = N 64 - 1 := by unfold undoN; rw [if_neg (by omega), if_pos rfl]
    have hfr : ∀ c, c ≠ p → (c < m ∨ m + 5 < c) → I1 c = I c := fun c q1 q2 => by rw [f1 c q2, sd_u_ne q1, sd_u_ne q1]
    have c2 : MC I I1 m (p + 2 + 6 * ((x + 8 - 1) % 8)) := by
      obtain ⟨x1, x2, x3, x4⟩ := c1
      refine ⟨fun t ht => ?_, fun s hs => ?_, ?_, ?_⟩
      · obtain ⟨y1, y2, y3⟩ := x1 t ht
        refine ⟨y1.trans ?_, y2.trans ?_, y3.trans ?_⟩ <;> (repeat first | rw [ru_ne (by omega)] | rw [ru_j] | rw [ru_ij (by omega)] | rw [upN_ne (by omega)] | rw [upN_eq] | rw [rr_ne (by omega)] | rw [rr_eq] | rw [sb_cpy0 (by omega)])
      · obtain ⟨y1, y2⟩ := x2 s hs
        refine ⟨y1.trans ?_, y2.trans ?_⟩ <;> (repeat first | rw [ru_ne (by omega)] | rw [ru_j] | rw [ru_ij (by omega)] | rw [upN_ne (by omega)] | rw [upN_eq] | rw [rr_ne (by omega)] | rw [rr_eq] | rw [sb_cpy0 (by omega)])
      · refine x3.trans ?_; (repeat first | rw [ru_ne (by omega)] | rw [ru_j] | rw [ru_ij (by omega)] | rw [upN_ne (by omega)] | rw [upN_eq] | rw [rr_ne (by omega)] | rw [rr_eq] | rw [sb_cpy0 (by omega)])
      · refine x4.trans ?_; (repeat first | rw [ru_ne (by omega)] | rw [ru_j] | rw [ru_ij (by omega)] | rw [upN_ne (by omega)] | rw [upN_eq] | rw [rr_ne (by omega)] | rw [rr_eq] | rw [sb_cpy0 (by omega)])
    have h36 : ∀ j, sl N j 36 ≤ 5 := fun j => by unfold sl; rw [if_neg (by omega)]; exact h5
    have h47 : ∀ j, sl N j 47 ≤ 8 := fun j => by unfold sl; rw [if_neg (by omega)]; exact h8
    refine hQ I1 hfr ⟨?_, by rw [hu]; omega, (x + 8 - 1) % 8, by omega, ?_, fun j hj => ?_⟩ ?_
    · rw [hu, f1 p (by omega)]; (repeat first | rw [ru_ne (by omega)] | rw [ru_j] | rw [ru_ij (by omega)] | rw [upN_ne (by omega)] | rw [upN_eq] | rw [rr_ne (by omega)] | rw [rr_eq] | rw [sb_cpy0 (by omega)])
    · rw [f1 p (by omega)]; (repeat first | rw [ru_ne (by omega)] | rw [ru_j] | rw [ru_ij (by omega)] | rw [upN_ne (by omega)] | rw [upN_eq] | rw [rr_ne (by omega)] | rw [rr_eq] | rw [sb_cpy0 (by omega)])
    · rw [hu] at hj ⊢
      have e1 : ((x + 8 - 1) % 8 + 8 - (N 64 - 1) + j) % 8 = (x + 8 - N 64 + j) % 8 := by omega
      rw [e1]
      refine ((p4 j (by omega)).of (fun b b1 b2 => hfr b (by omega) (by omega))).eqN (fun k hk => ?_) (h36 j) (h47 j)
      unfold sl undoN
      by_cases hk2 : k < 36
      · rw [if_pos hk2, if_pos hk2, if_neg (by omega), if_neg (by omega)]
      · rw [if_neg hk2, if_neg hk2, if_neg hk2, if_neg (by omega)]
    · have hold := p4 (N 64 - 1) (by omega)
      have e1 : (x + 8 - N 64 + (N 64 - 1)) % 8 = (x + 8 - 1) % 8 := by omega
      rw [e1] at hold
      refine (hold.cp c2 (h36 _) (h47 _)).eqN (fun k hk => ?_) (h36 _) (h47 _)
      unfold sl undoN
      by_cases hk2 : k < 36
      · rw [if_pos hk2, if_pos hk2]
      · rw [if_neg hk2, if_neg hk2, if_neg (by omega)]
  · omega
theorem s_X6_forget {Q : sd_S → Prop} (hp : is6 p) (hP : PR I p N) (hQ : ∀ I', Fr I I' p (p + 49) → PR I' p (upN N 64 0) → Q (sk0, X, I', J)) : AWv muX6_forget [.ref p] (sk0, X, I, J) Q := by
  obtain ⟨p1, p2, x, hx, p3, p4⟩ := hP
  show AW muX6_forget 0 0 0 [.ref p] [] _ _
  refine AW.aload_n dX6_forget_0 rfl rfl ?_
  refine AW.iconst (v := nI 0) dX6_forget_1 (by decide) ?_
  refine p6_2 dX6_forget_2 wF_X6_26 (by first | assumption | rfl | (unfold is6; omega)) ?_
  refine AW.ret dX6_forget_5 rfl (Nat.zero_le _) (Nat.zero_le _) ⟨rfl, ?_⟩
  refine hQ _ (Fr.u (by omega) (by omega)) ⟨?_, by rw [upN_eq]; omega, x, hx, ?_, fun j hj => absurd hj (by rw [upN_eq]; omega)⟩
  · rw [upN_eq]; (repeat first | rw [ru_ne (by omega)] | rw [ru_j] | rw [ru_ij (by omega)] | rw [upN_ne (by omega)] | rw [upN_eq] | rw [rr_ne (by omega)] | rw [rr_eq] | rw [sb_cpy0 (by omega)])
  · (repeat first | rw [ru_ne (by omega)] | rw [ru_j] | rw [ru_ij (by omega)] | rw [upN_ne (by omega)] | rw [upN_eq] | rw [rr_ne (by omega)] | rw [rr_eq] | rw [sb_cpy0 (by omega)]); exact p3
theorem lp_X6_takeAll {o : Nat} (hp : is6 p) (ho : is6 o) (hap : p + 50 ≤ o ∨ o + 50 ≤ p) {Q : Option Int32 → sd_S → Prop} (I0 : sd_I) : ∀ (n i : Nat) (I : sd_I), 8 - i < n → i ≤ 8 → Fr I0 I (p + 2) (p + 49) → (∀ j, j < i → MC I0 I (p + 2 + 6 * j) (o + 2 + 6 * j)) → (∀ I', Fr I0 I' (p + 2) (p + 49) → (∀ j, j < 8 → MC I0 I' (p + 2 + 6 * j) (o + 2 + 6 * j)) → AW muX6_takeAll 0 0 29 [.ref p, .ref o, .int (nI 8)] [] (sk0, X, I', J) Q) → AW muX6_takeAll 0 0 2 [.ref p, .ref o, .int (nI i)] [] (sk0, X, I, J) Q := by
  have hplt := hp.lt
  have holt := ho.lt
  intro n
  induction n with
  | zero => intros; omega
  | succ n ih =>
    intro i I hn hi hF hC K
    refine AW.iload_n dX6_takeAll_2 rfl rfl ?_
    refine AW.bipush (v := nI 8) dX6_takeAll_3 (by decide) ?_
    first | refine AW.icmp_geN (tgt := 29) dX6_takeAll_5 (by decide) (by omega) (by omega) (fun c5 => ?_) (fun c5 => ?_) | refine AW.icmp_ge (tgt := 29) dX6_takeAll_5 (by decide) (fun c5 => ?_) (fun c5 => ?_)
    · obtain rfl : i = 8 := by omega
      exact K I hF hC
    · refine AW.aload_n dX6_takeAll_8 rfl rfl ?_
      refine g6_0 dX6_takeAll_9 wF_X6_11 (by first | assumption | rfl | (unfold is6; omega)) ?_
      refine AW.iload_n dX6_takeAll_12 rfl rfl ?_
      refine AW.aald dX6_takeAll_13 (Or.inr (Or.inl rfl)) (is6.a1 hp) i rfl (by omega) (by decide) (keptD (by omega)) (by omega) ?_
      show AW muX6_takeAll _ _ 14 _ _ _ _
      refine AW.aload_n dX6_takeAll_14 rfl rfl ?_
      refine g6_0 dX6_takeAll_15 wF_X6_11 (by first | assumption | rfl | (unfold is6; omega)) ?_
      refine AW.iload_n dX6_takeAll_18 rfl rfl ?_
      refine AW.aald dX6_takeAll_19 (Or.inr (Or.inl rfl)) (is6.a1 ho) i rfl (by omega) (by decide) (keptD (by omega)) (by omega) ?_
      refine cs_X6_takeAll_20 (by first | exact is4.a0 (is6.m hp (by omega))) (by decide) (by decide) (Nat.le_of_ble_eq_true rfl) (s_X4_takeAll (is6.m hp (by omega)) (is6.m ho (by omega)) (by omega) (fun I1 f1 c1 => ?_))
      first | refine AW.iincN dX6_takeAll_23 rfl (by decide) rfl rfl ?_ | refine AW.iinc dX6_takeAll_23 rfl rfl (by decide) rfl rfl ?_
      show AW muX6_takeAll _ _ 26 _ _ _ _
      refine AW.goto (tgt := 2) dX6_takeAll_26 (by decide) ?_
      refine ih (i + 1) I1 (by omega) (by omega) (hF.tr (f1.w (by omega) (by omega))) (fun j hj => ?_) K
      by_cases e : j = i
      · subst e
        obtain ⟨x1, x2, x3, x4⟩ := c1
        have g : ∀ c, o + 2 ≤ c → c ≤ o + 49 → I c = I0 c := fun c q1 q2 => hF c (by omega)
        refine ⟨fun t ht => ?_, fun s hs => ?_, ?_, ?_⟩
        · obtain ⟨y1, y2, y3⟩ := x1 t ht
          rw [y1, y2, y3, g _ (by omega) (by omega), g _ (by omega) (by omega), g _ (by omega) (by omega)]; exact ⟨rfl, rfl, rfl⟩
        · obtain ⟨y1, y2⟩ := x2 s hs
          rw [y1, y2, g _ (by omega) (by omega), g _ (by omega) (by omega)]; exact ⟨rfl, rfl⟩
        · rw [x3, g _ (by omega) (by omega)]
        · rw [x4, g _ (by omega) (by omega)]
      · obtain ⟨x1, x2, x3, x4⟩ := hC j (by omega)
        have g : ∀ c, p + 2 + 6 * j ≤ c → c ≤ p + 2 + 6 * j + 5 → I1 c = I c := fun c q1 q2 => f1 c (by omega)
        refine ⟨fun t ht => ?_, fun s hs => ?_, ?_, ?_⟩
        · rw [g _ (by omega) (by omega), g _ (by omega) (by omega), g _ (by omega) (by omega)]; exact x1 t ht
        · rw [g _ (by omega) (by omega), g _ (by omega) (by omega)]; exact x2 s hs
        · rw [g _ (by omega) (by omega)]; exact x3
        · rw [g _ (by omega) (by omega)]; exact x4
theorem s_X6_takeAll {Q : sd_S → Prop} {o : Nat} (hp : is6 p) (ho : is6 o) (hne : p ≠ o) (hP : PR I o N) (h5 : N 36 ≤ 5) (h8 : N 47 ≤ 8) (hQ : ∀ I', Fr I I' p (p + 49) → PR I' p N → Q (sk0, X, I', J)) : AWv muX6_takeAll [.ref p, .ref o] (sk0, X, I, J) Q := by
  have hap : p + 50 ≤ o ∨ o + 50 ≤ p := by unfold is6 at hp ho; omega
  obtain ⟨p1, p2, x, hx, p3, p4⟩ := hP
  show AW muX6_takeAll 0 0 0 [.ref p, .ref o, .null] [] _ _
  refine AW.iconst (v := nI 0) dX6_takeAll_0 (by decide) ?_
  refine AW.istore_n dX6_takeAll_1 rfl (by decide) rfl rfl ?_
  refine lp_X6_takeAll hp ho hap I 9 0 I (by omega) (by omega) Fr.rf (fun j hj => absurd hj (by omega)) (fun I1 f1 c1 => ?_)
  refine AW.aload_n dX6_takeAll_29 rfl rfl ?_
  refine AW.aload_n dX6_takeAll_30 rfl rfl ?_
  refine g6_1 dX6_takeAll_31 wF_X6_18 (by first | assumption | rfl | (unfold is6; omega)) ?_
  refine AW.top (show _ = nI x by rw [f1 o (by omega)]; exact p3) ?_
  refine p6_1 dX6_takeAll_34 wF_X6_18 (by first | assumption | rfl | (unfold is6; omega)) ?_
  show AW muX6_takeAll _ _ 37 _ _ _ _
  refine AW.aload_n dX6_takeAll_37 rfl rfl ?_
  refine AW.aload_n dX6_takeAll_38 rfl rfl ?_
  refine g6_2 dX6_takeAll_39 wF_X6_26 (by first | assumption | rfl | (unfold is6; omega)) ?_
  refine AW.top (show _ = nI (N 64) by (repeat first | rw [ru_ne (by omega)] | rw [ru_j] | rw [ru_ij (by omega)] | rw [upN_ne (by omega)] | rw [upN_eq] | rw [rr_ne (by omega)] | rw [rr_eq] | rw [sb_cpy0 (by omega)]); rw [f1 o (by omega)]; exact p1) ?_
  refine p6_2 dX6_takeAll_42 wF_X6_26 (by first | assumption | rfl | (unfold is6; omega)) ?_
  refine AW.ret dX6_takeAll_45 rfl (Nat.zero_le _) (Nat.zero_le _) ⟨rfl, ?_⟩
  refine hQ _ (((f1.w (by omega) (by omega)).up (by omega) (by omega)).up (by omega) (by omega)) ⟨?_, p2, x, hx, ?_, fun j hj => ?_⟩
  · (repeat first | rw [ru_ne (by omega)] | rw [ru_j] | rw [ru_ij (by omega)] | rw [upN_ne (by omega)] | rw [upN_eq] | rw [rr_ne (by omega)] | rw [rr_eq] | rw [sb_cpy0 (by omega)])
  · (repeat first | rw [ru_ne (by omega)] | rw [ru_j] | rw [ru_ij (by omega)] | rw [upN_ne (by omega)] | rw [upN_eq] | rw [rr_ne (by omega)] | rw [rr_eq] | rw [sb_cpy0 (by omega)])
  · refine MR.of ?_ (fun b b1 b2 => by rw [sd_u_ne (by omega), sd_u_ne (by omega)])
    exact (p4 j hj).cp (c1 _ (by omega)) (by unfold sl; rw [if_neg (by omega)]; exact h5) (by unfold sl; rw [if_neg (by omega)]; exact h8)
end Past
