-- leaves of the class: numbers, kinds
def inR (x : Int32) (lo hi : Nat) : Prop := ∃ j, lo ≤ j ∧ j < hi ∧ x = nI j
theorem i_lt (a b : Int32) : a < b ↔ a.toInt < b.toInt := Int32.lt_iff_toInt_lt
theorem i_le (a b : Int32) : a ≤ b ↔ a.toInt ≤ b.toInt := Int32.le_iff_toInt_le
theorem inR_of {x h' : Int32} {lo hi : Nat} (hlo : lo < 2 ^ 31) (hh : h'.toInt = (hi : Int) - 1) (h1 : ¬ x < nI lo) (h2 : ¬ h' < x) : inR x lo hi := by
  rw [i_lt, nI_toInt hlo] at h1
  rw [i_lt, hh] at h2
  obtain ⟨j, hj, rfl⟩ := nI_of (x := x) (by rw [i_lt]; show ¬ x.toInt < 0; omega)
  rw [nI_toInt hj] at h1 h2
  exact ⟨j, by omega, by omega, rfl⟩
theorem inR_not {x h' : Int32} {lo hi : Nat} (hlo : lo < 2 ^ 31) (hhi : hi ≤ 2 ^ 31) (hh : h'.toInt = (hi : Int) - 1) (h : x < nI lo ∨ h' < x) : ¬ inR x lo hi := by
  rintro ⟨j, h1, h2, rfl⟩
  rw [i_lt, i_lt, nI_toInt hlo, hh, nI_toInt (by omega)] at h
  omega
theorem inR_nI {j lo hi : Nat} (hj : j < 2 ^ 31) (hhi : hi ≤ 2 ^ 31) : inR (nI j) lo hi ↔ lo ≤ j ∧ j < hi := by
  constructor
  · rintro ⟨k, h1, h2, e⟩
    have := (nI_eq hj (by omega)).mp e
    omega
  · rintro ⟨h1, h2⟩; exact ⟨j, h1, h2, rfl⟩
theorem nI_m1 {n : Nat} (h : n < 2 ^ 30) : (nI n - nI 1).toInt = (n : Int) - 1 := pk_sub_toInt h (by decide)
section Leaf
variable {σ : sd_S} {Q : Int32 → sd_S → Prop} {X : Nat × (Nat → Int32)} {I : sd_I} {J : sd_J} {C : List sd_C}
theorem s_X11_within {x h' : Int32} {lo hi : Nat} (hlo : lo < 2 ^ 31) (hhi : hi ≤ 2 ^ 31) (hh : h'.toInt = (hi : Int) - 1) (hT : ∀ j, lo ≤ j → j < hi → x = nI j → Q (nI 1) σ) (hF : ¬ inR x lo hi → Q (nI 0) σ) : AWi muX11_within [.int x, .int (nI lo), .int h'] σ Q := by
  show AW muX11_within 0 0 0 [.int x, .int (nI lo), .int h'] [] _ _
  refine AW.iload_n dX11_within_0 rfl rfl ?_
  refine AW.iload_n dX11_within_1 rfl rfl ?_
  refine AW.icmp_lt (tgt := 14) dX11_within_2 (by decide) (fun c2 => ?_) (fun c2 => ?_)
  · refine AW.iconst (v := nI 0) dX11_within_14 (by decide) ?_
    refine AW.iret dX11_within_15 ⟨_, rfl, by decide⟩ (Nat.zero_le _) (Nat.zero_le _) ⟨_, rfl, ?_⟩
    first | exact hF (inR_not hlo hhi hh (Or.inl c2)) | exact hF (inR_not hlo hhi hh (Or.inr c7))
  · refine AW.iload_n dX11_within_5 rfl rfl ?_
    refine AW.iload_n dX11_within_6 rfl rfl ?_
    refine AW.icmp_gt (tgt := 14) dX11_within_7 (by decide) (fun c7 => ?_) (fun c7 => ?_)
    · refine AW.iconst (v := nI 0) dX11_within_14 (by decide) ?_
      show AW muX11_within _ _ 15 _ _ _ _
      refine AW.iret dX11_within_15 ⟨_, rfl, by decide⟩ (Nat.zero_le _) (Nat.zero_le _) ⟨_, rfl, ?_⟩
      first | exact hF (inR_not hlo hhi hh (Or.inl c2)) | exact hF (inR_not hlo hhi hh (Or.inr c7))
    · refine AW.iconst (v := nI 1) dX11_within_10 (by decide) ?_
      refine AW.goto (tgt := 15) dX11_within_11 (by decide) ?_
      refine AW.iret dX11_within_15 ⟨_, rfl, by decide⟩ (Nat.zero_le _) (Nat.zero_le _) ⟨_, rfl, ?_⟩
      obtain ⟨j, h1, h2, h3⟩ := inR_of hlo hh c2 c7
      exact hT j h1 h2 h3
theorem s_X11_isRoom {x : Int32} (hT : ∀ j, j < 4 → x = nI j → Q (nI 1) (C, X, I, J)) (hF : ¬ inR x 0 4 → Q (nI 0) (C, X, I, J)) : AWi muX11_isRoom [.int x] (C, X, I, J) Q := by
  show AW muX11_isRoom 0 0 0 [.int x] [] _ _
  refine AW.iload_n dX11_isRoom_0 rfl rfl ?_
  refine AW.iconst (v := nI 0) dX11_isRoom_1 (by decide) ?_
  refine AW.iconst (v := nI 3) dX11_isRoom_2 (by decide) ?_
  refine cs_X11_isRoom_3 (by decide) (by decide) (Nat.le_of_ble_eq_true rfl) (s_X11_within (lo := 0) (hi := 4) (by decide) (by decide) (by decide) (fun j h1 h2 h3 => ?_) (fun hn => ?_))
  · refine AW.iret dX11_isRoom_6 ⟨_, rfl, by decide⟩ (Nat.zero_le _) (Nat.zero_le _) ⟨_, rfl, ?_⟩
    exact hT j h2 h3
  · refine AW.iret dX11_isRoom_6 ⟨_, rfl, by decide⟩ (Nat.zero_le _) (Nat.zero_le _) ⟨_, rfl, ?_⟩
    exact hF hn
theorem s_X11_isGiver {x : Int32} (hT : ∀ j, j < 10 → x = nI j → Q (nI 1) (C, X, I, J)) (hF : ¬ inR x 0 10 → Q (nI 0) (C, X, I, J)) : AWi muX11_isGiver [.int x] (C, X, I, J) Q := by
  show AW muX11_isGiver 0 0 0 [.int x] [] _ _
  refine AW.iload_n dX11_isGiver_0 rfl rfl ?_
  refine AW.iconst (v := nI 0) dX11_isGiver_1 (by decide) ?_
  refine AW.bipush (v := nI 9) dX11_isGiver_2 (by decide) ?_
  refine cs_X11_isGiver_4 (by decide) (by decide) (Nat.le_of_ble_eq_true rfl) (s_X11_within (lo := 0) (hi := 10) (by decide) (by decide) (by decide) (fun j h1 h2 h3 => ?_) (fun hn => ?_))
  · refine AW.iret dX11_isGiver_7 ⟨_, rfl, by decide⟩ (Nat.zero_le _) (Nat.zero_le _) ⟨_, rfl, ?_⟩
    exact hT j h2 h3
  · refine AW.iret dX11_isGiver_7 ⟨_, rfl, by decide⟩ (Nat.zero_le _) (Nat.zero_le _) ⟨_, rfl, ?_⟩
    exact hF hn
theorem s_X11_isSheet {x : Int32} (hT : ∀ j, j < 4 → x = nI j → Q (nI 1) (C, X, I, J)) (hF : ¬ inR x 0 4 → Q (nI 0) (C, X, I, J)) : AWi muX11_isSheet [.int x] (C, X, I, J) Q := by
  show AW muX11_isSheet 0 0 0 [.int x] [] _ _
  refine AW.iload_n dX11_isSheet_0 rfl rfl ?_
  refine AW.iconst (v := nI 0) dX11_isSheet_1 (by decide) ?_
  refine AW.iconst (v := nI 3) dX11_isSheet_2 (by decide) ?_
  refine cs_X11_isSheet_3 (by decide) (by decide) (Nat.le_of_ble_eq_true rfl) (s_X11_within (lo := 0) (hi := 4) (by decide) (by decide) (by decide) (fun j h1 h2 h3 => ?_) (fun hn => ?_))
  · refine AW.iret dX11_isSheet_6 ⟨_, rfl, by decide⟩ (Nat.zero_le _) (Nat.zero_le _) ⟨_, rfl, ?_⟩
    exact hT j h2 h3
  · refine AW.iret dX11_isSheet_6 ⟨_, rfl, by decide⟩ (Nat.zero_le _) (Nat.zero_le _) ⟨_, rfl, ?_⟩
    exact hF hn
theorem s_X11_isLane {x : Int32} (hT : ∀ j, j < 4 → x = nI j → Q (nI 1) (C, X, I, J)) (hF : ¬ inR x 0 4 → Q (nI 0) (C, X, I, J)) : AWi muX11_isLane [.int x] (C, X, I, J) Q := by
  show AW muX11_isLane 0 0 0 [.int x] [] _ _
  refine AW.iload_n dX11_isLane_0 rfl rfl ?_
  refine AW.iconst (v := nI 0) dX11_isLane_1 (by decide) ?_
  refine AW.iconst (v := nI 3) dX11_isLane_2 (by decide) ?_
  refine cs_X11_isLane_3 (by decide) (by decide) (Nat.le_of_ble_eq_true rfl) (s_X11_within (lo := 0) (hi := 4) (by decide) (by decide) (by decide) (fun j h1 h2 h3 => ?_) (fun hn => ?_))
  · refine AW.iret dX11_isLane_6 ⟨_, rfl, by decide⟩ (Nat.zero_le _) (Nat.zero_le _) ⟨_, rfl, ?_⟩
    exact hT j h2 h3
  · refine AW.iret dX11_isLane_6 ⟨_, rfl, by decide⟩ (Nat.zero_le _) (Nat.zero_le _) ⟨_, rfl, ?_⟩
    exact hF hn
theorem n_min {a b : Nat} (ha : a < 2 ^ 31) (hb : b < 2 ^ 31) : (if nI b < nI a then nI b else nI a) = nI (min a b) := by
  by_cases h : b < a
  · rw [if_pos ((nI_ltI hb ha).mpr h), Nat.min_eq_right (by omega)]
  · rw [if_neg (fun e => h ((nI_ltI hb ha).mp e)), Nat.min_eq_left (by omega)]
theorem n_max0 {a b : Nat} (ha : a < 2 ^ 30) (hb : b < 2 ^ 30) : (if nI a - nI b < nI 0 then nI 0 else nI a - nI b) = nI (a - b) := by
  by_cases h : a < b
  · rw [if_pos (show nI a - nI b < nI 0 from pk_sneg hb h), Nat.sub_eq_zero_of_le (by omega)]
  · rw [nI_sub (by omega), if_neg (show ¬ nI (a - b) < nI 0 from nI_pos (by omega))]
theorem s_X11_leftAtFirst {d : Nat} (hd : d < 1000) (hQ : Q (nI (min (10 * d) 99)) (C, X, I, J)) : AWi muX11_leftAtFirst [.int (nI d)] (C, X, I, J) Q := by
  show AW muX11_leftAtFirst 0 0 0 [.int (nI d)] [] _ _
  refine AW.bipush (v := nI 10) dX11_leftAtFirst_0 (by decide) ?_
  refine AW.iload_n dX11_leftAtFirst_2 rfl rfl ?_
  first | refine AW.imulN dX11_leftAtFirst_3 ?_ | refine AW.imul dX11_leftAtFirst_3 ?_
  refine AW.bipush (v := nI 99) dX11_leftAtFirst_4 (by decide) ?_
  refine AW.mmin dX11_leftAtFirst_6 wM_X11_312 (by decide) (Nat.le_of_ble_eq_true rfl) (by decide) (by decide) ?_
  refine AW.top (n_min (by omega) (by omega)) ?_
  refine AW.iret dX11_leftAtFirst_9 ⟨_, rfl, rfl⟩ (Nat.zero_le _) (Nat.zero_le _) ⟨_, rfl, ?_⟩
  exact hQ
/-- how loud, what is left: by kind, dear, left, night -/
def mL (k d l n : Nat) : Nat := if l = 0 then 0 else if k = 1 then 2 * d else if k = 3 then (if n % 2 = 0 then 0 else 2 * d) else if k = 4 then 1 else d
def mB (k d l n : Nat) : Nat := if k = 0 then l - d else if k = 1 then l - 1 else if k = 2 then l / 2 else if k = 3 then (if n % 2 = 0 then l else l - 1) else if n % 3 = 0 then l / 2 else l
theorem s_X7_loudness {a d n : Nat} (hQ : Q (nI d) σ) : AWi muX7_loudness [.ref a, .int (nI d), .int (nI n)] σ Q := by
  show AW muX7_loudness 0 0 0 [.ref a, .int (nI d), .int (nI n)] [] _ _
  refine AW.iload_n dX7_loudness_0 rfl rfl ?_
  refine AW.iret dX7_loudness_1 ⟨_, rfl, rfl⟩ (Nat.zero_le _) (Nat.zero_le _) ⟨_, rfl, ?_⟩
  exact hQ
theorem s_X1_loudness {a d n : Nat} (hQ : Q (nI (2 * d)) σ) : AWi muX1_loudness [.ref a, .int (nI d), .int (nI n)] σ Q := by
  show AW muX1_loudness 0 0 0 [.ref a, .int (nI d), .int (nI n)] [] _ _
  refine AW.iconst (v := nI 2) dX1_loudness_0 (by decide) ?_
  refine AW.iload_n dX1_loudness_1 rfl rfl ?_
  first | refine AW.imulN dX1_loudness_2 ?_ | refine AW.imul dX1_loudness_2 ?_
  refine AW.iret dX1_loudness_3 ⟨_, rfl, rfl⟩ (Nat.zero_le _) (Nat.zero_le _) ⟨_, rfl, ?_⟩
  exact hQ
theorem s_X3_loudness {a d n : Nat} (hQ : Q (nI 1) σ) : AWi muX3_loudness [.ref a, .int (nI d), .int (nI n)] σ Q := by
  show AW muX3_loudness 0 0 0 [.ref a, .int (nI d), .int (nI n)] [] _ _
  refine AW.iconst (v := nI 1) dX3_loudness_0 (by decide) ?_
  refine AW.iret dX3_loudness_1 ⟨_, rfl, rfl⟩ (Nat.zero_le _) (Nat.zero_le _) ⟨_, rfl, ?_⟩
  exact hQ
theorem s_X10_loudness {a d n na : Nat} {rs : List (Option Nat)} (hC : C[a]? = some (10, na, rs)) (hn : n < 2 ^ 30) (hQ : Q (nI (if n % 2 = 0 then 0 else 2 * d)) (C, X, I, J)) : AWi muX10_loudness [.ref a, .int (nI d), .int (nI n)] (C, X, I, J) Q := by
  show AW muX10_loudness 0 0 0 [.ref a, .int (nI d), .int (nI n)] [] _ _
  refine AW.iload_n dX10_loudness_0 rfl rfl ?_
  refine AW.iconst (v := nI 2) dX10_loudness_1 (by decide) ?_
  first | refine AW.iremN dX10_loudness_2 (by omega) (by omega) (by omega) ?_ | refine AW.irem dX10_loudness_2 (by first | assumption | decide) ?_
  first | refine AW.if_neN (tgt := 10) dX10_loudness_3 (by decide) (by omega) (fun c3 => ?_) (fun c3 => ?_) | refine AW.if_ne (tgt := 10) dX10_loudness_3 (by decide) (fun c3 => ?_) (fun c3 => ?_)
  · refine AW.aload_n dX10_loudness_10 rfl rfl ?_
    refine AW.iload_n dX10_loudness_11 rfl rfl ?_
    refine AW.iload_n dX10_loudness_12 rfl rfl ?_
    show AW muX10_loudness _ _ 13 _ _ _ _
    refine cs_X10_loudness_13 (by first | exact hC) (by decide) (by decide) (Nat.le_of_ble_eq_true rfl) (s_X1_loudness ?_)
    refine AW.iret dX10_loudness_16 ⟨_, rfl, rfl⟩ (Nat.zero_le _) (Nat.zero_le _) ⟨_, rfl, ?_⟩
    rw [if_neg c3] at hQ; exact hQ
  · refine AW.iconst (v := nI 0) dX10_loudness_6 (by decide) ?_
    refine AW.goto (tgt := 16) dX10_loudness_7 (by decide) ?_
    refine AW.iret dX10_loudness_16 ⟨_, rfl, rfl⟩ (Nat.zero_le _) (Nat.zero_le _) ⟨_, rfl, ?_⟩
    rw [if_pos c3] at hQ; exact hQ
theorem s_X7_leftBehind {a l d n : Nat} (hl : l < 2 ^ 30) (hd : d < 2 ^ 30) (hQ : Q (nI (l - d)) (C, X, I, J)) : AWi muX7_leftBehind [.ref a, .int (nI l), .int (nI d), .int (nI n)] (C, X, I, J) Q := by
  show AW muX7_leftBehind 0 0 0 [.ref a, .int (nI l), .int (nI d), .int (nI n)] [] _ _
  refine AW.iload_n dX7_leftBehind_0 rfl rfl ?_
  refine AW.iload_n dX7_leftBehind_1 rfl rfl ?_
  refine AW.isub dX7_leftBehind_2 ?_
  refine AW.iconst (v := nI 0) dX7_leftBehind_3 (by decide) ?_
  refine AW.mmax dX7_leftBehind_4 wM_X7_7 (by decide) (Nat.le_of_ble_eq_true rfl) (by decide) (by decide) ?_
  refine AW.top (n_max0 hl hd) ?_
  refine AW.iret dX7_leftBehind_7 ⟨_, rfl, rfl⟩ (Nat.zero_le _) (Nat.zero_le _) ⟨_, rfl, ?_⟩
  exact hQ
theorem s_X1_leftBehind {a l d n : Nat} (hl : l < 2 ^ 30) (hQ : Q (nI (l - 1)) (C, X, I, J)) : AWi muX1_leftBehind [.ref a, .int (nI l), .int (nI d), .int (nI n)] (C, X, I, J) Q := by
  show AW muX1_leftBehind 0 0 0 [.ref a, .int (nI l), .int (nI d), .int (nI n)] [] _ _
  refine AW.iload_n dX1_leftBehind_0 rfl rfl ?_
  refine AW.iconst (v := nI 1) dX1_leftBehind_1 (by decide) ?_
  refine AW.isub dX1_leftBehind_2 ?_
  refine AW.iconst (v := nI 0) dX1_leftBehind_3 (by decide) ?_
  refine AW.mmax dX1_leftBehind_4 wM_X1_7 (by decide) (Nat.le_of_ble_eq_true rfl) (by decide) (by decide) ?_
  refine AW.top (n_max0 hl (by decide)) ?_
  refine AW.iret dX1_leftBehind_7 ⟨_, rfl, rfl⟩ (Nat.zero_le _) (Nat.zero_le _) ⟨_, rfl, ?_⟩
  exact hQ
theorem s_X0_leftBehind {a l d n : Nat} (hl : l < 2 ^ 30) (hQ : Q (nI (l / 2)) (C, X, I, J)) : AWi muX0_leftBehind [.ref a, .int (nI l), .int (nI d), .int (nI n)] (C, X, I, J) Q := by
  show AW muX0_leftBehind 0 0 0 [.ref a, .int (nI l), .int (nI d), .int (nI n)] [] _ _
  refine AW.iload_n dX0_leftBehind_0 rfl rfl ?_
  refine AW.iconst (v := nI 2) dX0_leftBehind_1 (by decide) ?_
  first | refine AW.idivN dX0_leftBehind_2 (by omega) (by omega) (by omega) ?_ | refine AW.idiv dX0_leftBehind_2 (by first | assumption | decide) ?_
  refine AW.iret dX0_leftBehind_3 ⟨_, rfl, rfl⟩ (Nat.zero_le _) (Nat.zero_le _) ⟨_, rfl, ?_⟩
  exact hQ
theorem s_X10_leftBehind {a l d n na : Nat} {rs : List (Option Nat)} (hC : C[a]? = some (10, na, rs)) (hl : l < 2 ^ 30) (hn : n < 2 ^ 30) (hQ : Q (nI (if n % 2 = 0 then l else l - 1)) (C, X, I, J)) : AWi muX10_leftBehind [.ref a, .int (nI l), .int (nI d), .int (nI n)] (C, X, I, J) Q := by
  show AW muX10_leftBehind 0 0 0 [.ref a, .int (nI l), .int (nI d), .int (nI n)] [] _ _
  refine AW.iload_n dX10_leftBehind_0 rfl rfl ?_
  refine AW.iconst (v := nI 2) dX10_leftBehind_1 (by decide) ?_
  first | refine AW.iremN dX10_leftBehind_2 (by omega) (by omega) (by omega) ?_ | refine AW.irem dX10_leftBehind_2 (by first | assumption | decide) ?_
  first | refine AW.if_neN (tgt := 10) dX10_leftBehind_3 (by decide) (by omega) (fun c3 => ?_) (fun c3 => ?_) | refine AW.if_ne (tgt := 10) dX10_leftBehind_3 (by decide) (fun c3 => ?_) (fun c3 => ?_)
  · refine AW.aload_n dX10_leftBehind_10 rfl rfl ?_
    refine AW.iload_n dX10_leftBehind_11 rfl rfl ?_
    refine AW.iload_n dX10_leftBehind_12 rfl rfl ?_
    show AW muX10_leftBehind _ _ 13 _ _ _ _
    refine AW.iload_n dX10_leftBehind_13 rfl rfl ?_
    refine cs_X10_leftBehind_14 (by first | exact hC) (by decide) (by decide) (Nat.le_of_ble_eq_true rfl) (s_X1_leftBehind hl ?_)
    refine AW.iret dX10_leftBehind_17 ⟨_, rfl, rfl⟩ (Nat.zero_le _) (Nat.zero_le _) ⟨_, rfl, ?_⟩
    first | (rw [if_pos c3] at hQ; exact hQ) | (rw [if_neg c3] at hQ; exact hQ)
  · refine AW.iload_n dX10_leftBehind_6 rfl rfl ?_
    refine AW.goto (tgt := 17) dX10_leftBehind_7 (by decide) ?_
    refine AW.iret dX10_leftBehind_17 ⟨_, rfl, rfl⟩ (Nat.zero_le _) (Nat.zero_le _) ⟨_, rfl, ?_⟩
    first | (rw [if_pos c3] at hQ; exact hQ) | (rw [if_neg c3] at hQ; exact hQ)
theorem s_X3_leftBehind {a l d n na : Nat} {rs : List (Option Nat)} (hC : C[a]? = some (3, na, rs)) (hl : l < 2 ^ 30) (hn : n < 2 ^ 30) (hQ : Q (nI (if n % 3 = 0 then l / 2 else l)) (C, X, I, J)) : AWi muX3_leftBehind [.ref a, .int (nI l), .int (nI d), .int (nI n)] (C, X, I, J) Q := by
  show AW muX3_leftBehind 0 0 0 [.ref a, .int (nI l), .int (nI d), .int (nI n)] [] _ _
  refine AW.iload_n dX3_leftBehind_0 rfl rfl ?_
  refine AW.iconst (v := nI 3) dX3_leftBehind_1 (by decide) ?_
  first | refine AW.iremN dX3_leftBehind_2 (by omega) (by omega) (by omega) ?_ | refine AW.irem dX3_leftBehind_2 (by first | assumption | decide) ?_
  first | refine AW.if_neN (tgt := 16) dX3_leftBehind_3 (by decide) (by omega) (fun c3 => ?_) (fun c3 => ?_) | refine AW.if_ne (tgt := 16) dX3_leftBehind_3 (by decide) (fun c3 => ?_) (fun c3 => ?_)
  · refine AW.iload_n dX3_leftBehind_16 rfl rfl ?_
    refine AW.iret dX3_leftBehind_17 ⟨_, rfl, rfl⟩ (Nat.zero_le _) (Nat.zero_le _) ⟨_, rfl, ?_⟩
    first | (rw [if_pos c3] at hQ; exact hQ) | (rw [if_neg c3] at hQ; exact hQ)
  · refine AW.aload_n dX3_leftBehind_6 rfl rfl ?_
    refine AW.iload_n dX3_leftBehind_7 rfl rfl ?_
    show AW muX3_leftBehind _ _ 8 _ _ _ _
    refine AW.iload_n dX3_leftBehind_8 rfl rfl ?_
    refine AW.iload_n dX3_leftBehind_9 rfl rfl ?_
    refine cs_X3_leftBehind_10 (by first | exact hC) (by decide) (by decide) (Nat.le_of_ble_eq_true rfl) (s_X0_leftBehind hl ?_)
    refine AW.goto (tgt := 17) dX3_leftBehind_13 (by decide) ?_
    refine AW.iret dX3_leftBehind_17 ⟨_, rfl, rfl⟩ (Nat.zero_le _) (Nat.zero_le _) ⟨_, rfl, ?_⟩
    first | (rw [if_pos c3] at hQ; exact hQ) | (rw [if_neg c3] at hQ; exact hQ)
end Leaf
