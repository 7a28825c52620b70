-- the model: copying, adding, a night, a note
def cpN (A B : Nat → Nat) (i j n : Nat) : Nat → Nat := fun k => if j ≤ k ∧ k < j + n then A (i + (k - j)) else B k
theorem asleepB_congr {N N' : Nat → Nat} (h8 : N 47 ≤ 8) {s : Nat} (hs : s < 5) (e : ∀ k, k < 26 ∨ 36 ≤ k → N' k = N k) : asleepB N' s = asleepB N s := by
  unfold asleepB loudR
  rw [e 47 (by omega), e (37 + s) (by omega), e (42 + s) (by omega)]
  congr 1
  rw [sumN_congr (f := fun t => if N' (2 + t) = N (37 + s) then loudT N' t else 0) (g := fun t => if N (2 + t) = N (37 + s) then loudT N t else 0) (fun t ht => by
    unfold loudT
    rw [e (2 + t) (by omega), e (48 + t) (by omega), e (56 + t) (by omega), e (18 + t) (by omega), e 0 (by omega)])]
def go1 (N : Nat → Nat) (i : Nat) : Nat → Nat := fun k =>
  if 26 ≤ k ∧ k < 26 + i then N k + (if asleepB N (k - 26) then 1 else 0)
  else if 31 ≤ k ∧ k < 31 + i then N k + (if asleepB N (k - 31) then 0 else 1)
  else N k
def go2 (N : Nat → Nat) (i : Nat) : Nat → Nat := fun k => if 18 ≤ k ∧ k < 18 + i then mB (N (k + 30)) (N (k + 38)) (N k) (N 0) else go1 N (N 36) k
theorem go1_o {N : Nat → Nat} {i k : Nat} (hi : i ≤ 5) (h : k < 26 ∨ 36 ≤ k) : go1 N i k = N k := by unfold go1; rw [if_neg (by omega), if_neg (by omega)]
theorem go1_s {N : Nat → Nat} {i k : Nat} (hi : i < 5) : go1 N (i + 1) k = if asleepB N i then upN (go1 N i) (26 + i) (go1 N i (26 + i) + 1) k else upN (go1 N i) (31 + i) (go1 N i (31 + i) + 1) k := by
  have e1 : go1 N i (26 + i) = N (26 + i) := by unfold go1; rw [if_neg (by omega), if_neg (by omega)]
  have e2 : go1 N i (31 + i) = N (31 + i) := by unfold go1; rw [if_neg (by omega), if_neg (by omega)]
  rw [e1, e2]
  by_cases h1 : k = 26 + i
  · subst h1
    rw [upN_eq, upN_ne (by omega), e1]
    unfold go1
    rw [if_pos (by omega), show 26 + i - 26 = i by omega]
    cases asleepB N i <;> rfl
  · by_cases h2 : k = 31 + i
    · subst h2
      rw [upN_eq, upN_ne (by omega), e2]
      unfold go1
      rw [if_neg (by omega), if_pos (by omega), show 31 + i - 31 = i by omega]
      cases asleepB N i <;> rfl
    · rw [upN_ne h1, upN_ne h2, ite_self]
      unfold go1
      by_cases h3 : 26 ≤ k ∧ k < 26 + i
      · rw [if_pos h3, if_pos (by omega)]
      · rw [if_neg h3, if_neg (by omega)]
        by_cases h4 : 31 ≤ k ∧ k < 31 + i
        · rw [if_pos h4, if_pos (by omega)]
        · rw [if_neg h4, if_neg (by omega)]
theorem go1_NV {N : Nat → Nat} {i : Nat} (hV : NV N) (hi : i ≤ 5) : NV (go1 N i) := by
  have h5 := hV.s5
  have h8 := hV.t8
  unfold NV MV
  rw [go1_o hi (k := 36) (by omega), go1_o hi (k := 47) (by omega), go1_o hi (k := 0) (by omega), go1_o hi (k := 1) (by omega)]
  refine ⟨h5, h8, fun s hs => ?_, fun t ht => ?_, hV.ni, hV.dw, fun t ht => ?_⟩
  · rw [go1_o hi (by omega), go1_o hi (by omega)]; exact ⟨hV.bd hs, hV.br hs⟩
  · rw [go1_o hi (by omega), go1_o hi (by omega)]; exact ⟨hV.kd ht, hV.dr ht⟩
  · rw [go1_o hi (by omega), go1_o hi (by omega), go1_o hi (by omega)]; exact ⟨hV.pl ht, hV.gv ht, hV.lf ht⟩
theorem go2_s {N : Nat → Nat} {i k : Nat} : go2 N (i + 1) k = upN (go2 N i) (18 + i) (mB (N (48 + i)) (N (56 + i)) (N (18 + i)) (N 0)) k := by
  by_cases h1 : k = 18 + i
  · subst h1
    rw [upN_eq]
    unfold go2
    rw [if_pos (by omega), show 18 + i + 30 = 48 + i by omega, show 18 + i + 38 = 56 + i by omega]
  · rw [upN_ne h1]
    unfold go2
    by_cases h3 : 18 ≤ k ∧ k < 18 + i
    · rw [if_pos h3, if_pos (by omega)]
    · rw [if_neg h3, if_neg (by omega)]
theorem go2_o {N : Nat → Nat} {i k : Nat} (h5 : N 36 ≤ 5) (hi : i ≤ 8) (h : k < 18 + i → k < 18) (h' : k < 26 ∨ 36 ≤ k) : go2 N i k = N k := by
  unfold go2; rw [if_neg (by omega)]; exact go1_o h5 h'
theorem go_go {N : Nat → Nat} (h5 : N 36 ≤ 5) (h8 : N 47 ≤ 8) (k : Nat) : goN N k = upN (go2 N (N 47)) 0 (N 0 + 1) k := by
  unfold goN
  by_cases h0 : k = 0
  · subst h0; rw [if_pos rfl, upN_eq]
  · rw [if_neg h0, upN_ne h0]; rfl
section Model2
variable {X : Nat × (Nat → Int32)} {I I0 : sd_I} {J : sd_J} {N : Nat → Nat} {a b m : Nat}
theorem lp_X12_bringD {i j n : Nat} {A : Nat → Nat} (ha : isA a) (hb : isA b) (hab : a ≠ b) (hi : i + n ≤ 353) (hj : j + n ≤ 353) {Q : Option Int32 → sd_S → Prop} : ∀ (m k : Nat) (I : sd_I), n - k < m → k ≤ n → (∀ q, q < n → I a (i + q) = nI (A (i + q))) → (∀ q, q < k → I b (j + q) = nI (A (i + q))) → (∀ I', Fr I I' b b → (∀ q, q < n → I' b (j + q) = nI (A (i + q))) → (∀ q, q < j ∨ j + n ≤ q → I' b q = I b q) → Q none (sk0, X, I', J)) → AW muX12_bring 0 0 3 [.ref a, .int (nI i), .ref b, .int (nI j), .int (nI n), .int (nI k)] [] (sk0, X, I, J) Q := by
  intro m
  induction m with
  | zero => intros; omega
  | succ m ih =>
    intro k I hm hk hA hB K
    refine AW.iload dX12_bring_3 rfl ?_
    refine AW.iload dX12_bring_5 rfl ?_
    first | refine AW.icmp_geN (tgt := 28) dX12_bring_7 (by decide) (by omega) (by omega) (fun c7 => ?_) (fun c7 => ?_) | refine AW.icmp_ge (tgt := 28) dX12_bring_7 (by decide) (fun c7 => ?_) (fun c7 => ?_)
    · refine AW.ret dX12_bring_28 rfl (Nat.zero_le _) (Nat.zero_le _) ?_
      obtain rfl : k = n := by omega
      exact K I Fr.rf hB (fun _ _ => rfl)
    · refine AW.aload_n dX12_bring_10 rfl rfl ?_
      refine AW.iload_n dX12_bring_11 rfl rfl ?_
      refine AW.iload dX12_bring_12 rfl ?_
      first | refine AW.iaddN dX12_bring_14 ?_ | refine AW.iadd dX12_bring_14 ?_
      show AW muX12_bring _ _ 15 _ _ _ _
      refine AW.aload_n dX12_bring_15 rfl rfl ?_
      refine AW.iload_n dX12_bring_16 rfl rfl ?_
      refine AW.iload dX12_bring_17 rfl ?_
      first | refine AW.iaddN dX12_bring_19 ?_ | refine AW.iadd dX12_bring_19 ?_
      refine AW.iald dX12_bring_20 (by first | exact ha.c) _ (by first | rfl | assumption) (by omega) (by first | decide | omega) ?_
      refine AW.top (hA k (by omega)) ?_
      refine AW.iast dX12_bring_21 (by first | exact hb.c) _ (by first | rfl | assumption) (by omega) (by first | decide | omega) ?_
      show AW muX12_bring _ _ 22 _ _ _ _
      first | refine AW.iincN dX12_bring_22 rfl (by decide) rfl rfl ?_ | refine AW.iinc dX12_bring_22 rfl rfl (by decide) rfl rfl ?_
      refine AW.goto (tgt := 3) dX12_bring_25 (by decide) ?_
      refine ih (k + 1) _ (by omega) (by omega) (fun q hq => ?_) (fun q hq => ?_) (fun I' f1 f2 f3 => K I' ((Fr.u (Nat.le_refl _) (Nat.le_refl _)).tr f1) f2 (fun q hq => ?_))
      · rw [sd_u_ne hab]; exact hA q hq
      · rw [sd_u_eq]
        by_cases e : q = k
        · subst e; simp
        · dsimp only; rw [if_neg (by omega)]; exact hB q (by omega)
      · rw [f3 q hq, sd_u_eq]; dsimp only; rw [if_neg (by omega)]
theorem s_X12_bringD {Q : sd_S → Prop} {i j n : Nat} {A : Nat → Nat} (ha : isA a) (hb : isA b) (hab : a ≠ b) (hi : i + n ≤ 353) (hj : j + n ≤ 353) (hA : ∀ q, q < n → I a (i + q) = nI (A (i + q))) (hQ : ∀ I', Fr I I' b b → (∀ q, q < n → I' b (j + q) = nI (A (i + q))) → (∀ q, q < j ∨ j + n ≤ q → I' b q = I b q) → Q (sk0, X, I', J)) : AWv muX12_bring [.ref a, .int (nI i), .ref b, .int (nI j), .int (nI n)] (sk0, X, I, J) Q := by
  show AW muX12_bring 0 0 0 [.ref a, .int (nI i), .ref b, .int (nI j), .int (nI n), .null] [] _ _
  refine AW.iconst (v := nI 0) dX12_bring_0 (by decide) ?_
  refine AW.istore dX12_bring_1 (by decide) rfl rfl ?_
  exact lp_X12_bringD ha hb hab hi hj (n + 1) 0 I (by omega) (by omega) hA (fun q hq => absurd hq (by omega)) (fun I' f1 f2 f3 => ⟨rfl, hQ I' f1 f2 f3⟩)
theorem lp_X12_bringS {i j n : Nat} (ha : isA a) (hi : i + n ≤ 353) (hj : j + n ≤ 353) (hij : j ≤ i ∨ i + n ≤ j) {Q : Option Int32 → sd_S → Prop} : ∀ (m k : Nat) (I : sd_I), n - k < m → k ≤ n → AS I0 I a 353 (cpN N N i j k) → (∀ I', AS I0 I' a 353 (cpN N N i j n) → Q none (sk0, X, I', J)) → AW muX12_bring 0 0 3 [.ref a, .int (nI i), .ref a, .int (nI j), .int (nI n), .int (nI k)] [] (sk0, X, I, J) Q := by
  intro m
  induction m with
  | zero => intros; omega
  | succ m ih =>
    intro k I hm hk hA K
    refine AW.iload dX12_bring_3 rfl ?_
    refine AW.iload dX12_bring_5 rfl ?_
    first | refine AW.icmp_geN (tgt := 28) dX12_bring_7 (by decide) (by omega) (by omega) (fun c7 => ?_) (fun c7 => ?_) | refine AW.icmp_ge (tgt := 28) dX12_bring_7 (by decide) (fun c7 => ?_) (fun c7 => ?_)
    · refine AW.ret dX12_bring_28 rfl (Nat.zero_le _) (Nat.zero_le _) ?_
      obtain rfl : k = n := by omega
      exact K I hA
    · refine AW.aload_n dX12_bring_10 rfl rfl ?_
      refine AW.iload_n dX12_bring_11 rfl rfl ?_
      refine AW.iload dX12_bring_12 rfl ?_
      first | refine AW.iaddN dX12_bring_14 ?_ | refine AW.iadd dX12_bring_14 ?_
      show AW muX12_bring _ _ 15 _ _ _ _
      refine AW.aload_n dX12_bring_15 rfl rfl ?_
      refine AW.iload_n dX12_bring_16 rfl rfl ?_
      refine AW.iload dX12_bring_17 rfl ?_
      first | refine AW.iaddN dX12_bring_19 ?_ | refine AW.iadd dX12_bring_19 ?_
      refine AW.iald dX12_bring_20 (by first | exact ha.c) _ (by first | rfl | assumption) (by omega) (by first | decide | omega) ?_
      first | refine AW.top (by first | exact AS.g hA (by omega)) ?_ | skip
      refine AW.ast dX12_bring_21 (by first | exact isA_175 | exact isA_176 | exact isA_177 | assumption) (by assumption) (by omega) (fun I21 hA21 => ?_)
      show AW muX12_bring _ _ 22 _ _ _ _
      first | refine AW.iincN dX12_bring_22 rfl (by decide) rfl rfl ?_ | refine AW.iinc dX12_bring_22 rfl rfl (by decide) rfl rfl ?_
      refine AW.goto (tgt := 3) dX12_bring_25 (by decide) ?_
      refine ih (k + 1) _ (by omega) (by omega) (hA21.to (fun q hq => ?_)) K
      have e1 : cpN N N i j k (i + k) = N (i + k) := by unfold cpN; rw [if_neg (by omega)]
      rw [e1]
      by_cases e : q = j + k
      · subst e; rw [upN_eq]; unfold cpN; rw [if_pos (by omega), show i + (j + k - j) = i + k by omega]
      · rw [upN_ne e]; unfold cpN
        by_cases e2 : j ≤ q ∧ q < j + k
        · rw [if_pos e2, if_pos (by omega)]
        · rw [if_neg e2, if_neg (by omega)]
theorem s_X12_bringS {Q : sd_S → Prop} {i j n : Nat} (ha : isA a) (hi : i + n ≤ 353) (hj : j + n ≤ 353) (hij : j ≤ i ∨ i + n ≤ j) (hA : AS I0 I a 353 N) (hQ : ∀ I', AS I0 I' a 353 (cpN N N i j n) → Q (sk0, X, I', J)) : AWv muX12_bring [.ref a, .int (nI i), .ref a, .int (nI j), .int (nI n)] (sk0, X, I, J) Q := by
  show AW muX12_bring 0 0 0 [.ref a, .int (nI i), .ref a, .int (nI j), .int (nI n), .null] [] _ _
  refine AW.iconst (v := nI 0) dX12_bring_0 (by decide) ?_
  refine AW.istore dX12_bring_1 (by decide) rfl rfl ?_
  exact lp_X12_bringS ha hi hj hij (n + 1) 0 I (by omega) (by omega) (hA.to (fun q _ => by unfold cpN; rw [if_neg (by omega)])) (fun I' f1 => ⟨rfl, hQ I' f1⟩)
theorem s_X12_addSleeper {Q : Int32 → sd_S → Prop} {r b : Nat} (hI : isA a) (hm : 64 ≤ m) (hA : AS I0 I a m N) (h5 : N 36 < 5) (hQ : ∀ I', AS I0 I' a m (addS N r b) → Q (nI (N 36)) (sk0, X, I', J)) : AWi muX12_addSleeper [.ref a, .int (nI r), .int (nI b)] (sk0, X, I, J) Q := by
  show AW muX12_addSleeper 0 0 0 [.ref a, .int (nI r), .int (nI b), .null] [] _ _
  refine AW.aload_n dX12_addSleeper_0 rfl rfl ?_
  refine AW.bipush (v := nI 36) dX12_addSleeper_1 (by decide) ?_
  refine AW.iald dX12_addSleeper_3 (by first | exact hI.c) _ (by first | rfl | assumption) (by omega) (by first | decide | omega) ?_
  refine AW.top (hA.g (by omega)) ?_
  refine AW.istore_n dX12_addSleeper_4 rfl (by decide) rfl rfl ?_
  refine AW.aload_n dX12_addSleeper_5 rfl rfl ?_
  refine AW.bipush (v := nI 37) dX12_addSleeper_6 (by decide) ?_
  show AW muX12_addSleeper _ _ 8 _ _ _ _
  refine AW.iload_n dX12_addSleeper_8 rfl rfl ?_
  first | refine AW.iaddN dX12_addSleeper_9 ?_ | refine AW.iadd dX12_addSleeper_9 ?_
  refine AW.iload_n dX12_addSleeper_10 rfl rfl ?_
  refine AW.ast dX12_addSleeper_11 (by first | exact isA_175 | exact isA_176 | exact isA_177 | assumption) (by assumption) (by omega) (fun I11 hA11 => ?_)
  refine AW.aload_n dX12_addSleeper_12 rfl rfl ?_
  refine AW.bipush (v := nI 42) dX12_addSleeper_13 (by decide) ?_
  show AW muX12_addSleeper _ _ 15 _ _ _ _
  refine AW.iload_n dX12_addSleeper_15 rfl rfl ?_
  first | refine AW.iaddN dX12_addSleeper_16 ?_ | refine AW.iadd dX12_addSleeper_16 ?_
  refine AW.iload_n dX12_addSleeper_17 rfl rfl ?_
  refine AW.ast dX12_addSleeper_18 (by first | exact isA_175 | exact isA_176 | exact isA_177 | assumption) (by assumption) (by omega) (fun I18 hA18 => ?_)
  refine AW.aload_n dX12_addSleeper_19 rfl rfl ?_
  refine AW.bipush (v := nI 26) dX12_addSleeper_20 (by decide) ?_
  show AW muX12_addSleeper _ _ 22 _ _ _ _
  refine AW.iload_n dX12_addSleeper_22 rfl rfl ?_
  first | refine AW.iaddN dX12_addSleeper_23 ?_ | refine AW.iadd dX12_addSleeper_23 ?_
  refine AW.iconst (v := nI 0) dX12_addSleeper_24 (by decide) ?_
  refine AW.ast dX12_addSleeper_25 (by first | exact isA_175 | exact isA_176 | exact isA_177 | assumption) (by assumption) (by omega) (fun I25 hA25 => ?_)
  refine AW.aload_n dX12_addSleeper_26 rfl rfl ?_
  refine AW.bipush (v := nI 31) dX12_addSleeper_27 (by decide) ?_
  show AW muX12_addSleeper _ _ 29 _ _ _ _
  refine AW.iload_n dX12_addSleeper_29 rfl rfl ?_
  first | refine AW.iaddN dX12_addSleeper_30 ?_ | refine AW.iadd dX12_addSleeper_30 ?_
  refine AW.iconst (v := nI 0) dX12_addSleeper_31 (by decide) ?_
  refine AW.ast dX12_addSleeper_32 (by first | exact isA_175 | exact isA_176 | exact isA_177 | assumption) (by assumption) (by omega) (fun I32 hA32 => ?_)
  refine AW.aload_n dX12_addSleeper_33 rfl rfl ?_
  refine AW.bipush (v := nI 36) dX12_addSleeper_34 (by decide) ?_
  show AW muX12_addSleeper _ _ 36 _ _ _ _
  refine AW.dup2 dX12_addSleeper_36 rfl rfl ?_
  refine AW.iald dX12_addSleeper_37 (by first | exact hI.c) _ (by first | rfl | assumption) (by omega) (by first | decide | omega) ?_
  refine AW.top (show _ = nI (N 36) by rw [hA32.g (by omega), upN_ne (by omega), upN_ne (by omega), upN_ne (by omega), upN_ne (by omega)]) ?_
  refine AW.iconst (v := nI 1) dX12_addSleeper_38 (by decide) ?_
  first | refine AW.iaddN dX12_addSleeper_39 ?_ | refine AW.iadd dX12_addSleeper_39 ?_
  refine AW.ast dX12_addSleeper_40 (by first | exact isA_175 | exact isA_176 | exact isA_177 | assumption) (by assumption) (by omega) (fun I40 hA40 => ?_)
  refine AW.iload_n dX12_addSleeper_41 rfl rfl ?_
  show AW muX12_addSleeper _ _ 42 _ _ _ _
  refine AW.iret dX12_addSleeper_42 ⟨_, rfl, rfl⟩ (Nat.zero_le _) (Nat.zero_le _) ⟨_, rfl, ?_⟩
  exact hQ _ hA40
theorem s_X12_addThing {Q : Int32 → sd_S → Prop} {k g d r : Nat} (hI : isA a) (hm : 64 ≤ m) (hA : AS I0 I a m N) (h8 : N 47 < 8) (hd : d < 1000) (hQ : ∀ I', AS I0 I' a m (addT N k g d r) → Q (nI (N 47)) (sk0, X, I', J)) : AWi muX12_addThing [.ref a, .int (nI k), .int (nI g), .int (nI d), .int (nI r)] (sk0, X, I, J) Q := by
  show AW muX12_addThing 0 0 0 [.ref a, .int (nI k), .int (nI g), .int (nI d), .int (nI r), .null] [] _ _
  refine AW.aload_n dX12_addThing_0 rfl rfl ?_
  refine AW.bipush (v := nI 47) dX12_addThing_1 (by decide) ?_
  refine AW.iald dX12_addThing_3 (by first | exact hI.c) _ (by first | rfl | assumption) (by omega) (by first | decide | omega) ?_
  refine AW.top (hA.g (by omega)) ?_
  refine AW.istore dX12_addThing_4 (by decide) rfl rfl ?_
  refine AW.aload_n dX12_addThing_6 rfl rfl ?_
  refine AW.bipush (v := nI 48) dX12_addThing_7 (by decide) ?_
  show AW muX12_addThing _ _ 9 _ _ _ _
  refine AW.iload dX12_addThing_9 rfl ?_
  first | refine AW.iaddN dX12_addThing_11 ?_ | refine AW.iadd dX12_addThing_11 ?_
  refine AW.iload_n dX12_addThing_12 rfl rfl ?_
  refine AW.ast dX12_addThing_13 (by first | exact isA_175 | exact isA_176 | exact isA_177 | assumption) (by assumption) (by omega) (fun I13 hA13 => ?_)
  refine AW.aload_n dX12_addThing_14 rfl rfl ?_
  refine AW.bipush (v := nI 10) dX12_addThing_15 (by decide) ?_
  show AW muX12_addThing _ _ 17 _ _ _ _
  refine AW.iload dX12_addThing_17 rfl ?_
  first | refine AW.iaddN dX12_addThing_19 ?_ | refine AW.iadd dX12_addThing_19 ?_
  refine AW.iload_n dX12_addThing_20 rfl rfl ?_
  refine AW.ast dX12_addThing_21 (by first | exact isA_175 | exact isA_176 | exact isA_177 | assumption) (by assumption) (by omega) (fun I21 hA21 => ?_)
  refine AW.aload_n dX12_addThing_22 rfl rfl ?_
  refine AW.bipush (v := nI 56) dX12_addThing_23 (by decide) ?_
  show AW muX12_addThing _ _ 25 _ _ _ _
  refine AW.iload dX12_addThing_25 rfl ?_
  first | refine AW.iaddN dX12_addThing_27 ?_ | refine AW.iadd dX12_addThing_27 ?_
  refine AW.iload_n dX12_addThing_28 rfl rfl ?_
  refine AW.ast dX12_addThing_29 (by first | exact isA_175 | exact isA_176 | exact isA_177 | assumption) (by assumption) (by omega) (fun I29 hA29 => ?_)
  refine AW.aload_n dX12_addThing_30 rfl rfl ?_
  refine AW.iconst (v := nI 2) dX12_addThing_31 (by decide) ?_
  show AW muX12_addThing _ _ 32 _ _ _ _
  refine AW.iload dX12_addThing_32 rfl ?_
  first | refine AW.iaddN dX12_addThing_34 ?_ | refine AW.iadd dX12_addThing_34 ?_
  refine AW.iload dX12_addThing_35 rfl ?_
  refine AW.ast dX12_addThing_37 (by first | exact isA_175 | exact isA_176 | exact isA_177 | assumption) (by assumption) (by omega) (fun I37 hA37 => ?_)
  refine AW.aload_n dX12_addThing_38 rfl rfl ?_
  refine AW.bipush (v := nI 18) dX12_addThing_39 (by decide) ?_
  show AW muX12_addThing _ _ 41 _ _ _ _
  refine AW.iload dX12_addThing_41 rfl ?_
  first | refine AW.iaddN dX12_addThing_43 ?_ | refine AW.iadd dX12_addThing_43 ?_
  refine AW.iload_n dX12_addThing_44 rfl rfl ?_
  refine cs_X12_addThing_45 (by decide) (by decide) (Nat.le_of_ble_eq_true rfl) (s_X12_firstLeft hd ?_)
  refine AW.ast dX12_addThing_48 (by first | exact isA_175 | exact isA_176 | exact isA_177 | assumption) (by assumption) (by omega) (fun I48 hA48 => ?_)
  refine AW.aload_n dX12_addThing_49 rfl rfl ?_
  show AW muX12_addThing _ _ 50 _ _ _ _
  refine AW.bipush (v := nI 47) dX12_addThing_50 (by decide) ?_
  refine AW.dup2 dX12_addThing_52 rfl rfl ?_
  refine AW.iald dX12_addThing_53 (by first | exact hI.c) _ (by first | rfl | assumption) (by omega) (by first | decide | omega) ?_
  refine AW.top (show _ = nI (N 47) by rw [hA48.g (by omega), upN_ne (by omega), upN_ne (by omega), upN_ne (by omega), upN_ne (by omega), upN_ne (by omega)]) ?_
  refine AW.iconst (v := nI 1) dX12_addThing_54 (by decide) ?_
  first | refine AW.iaddN dX12_addThing_55 ?_ | refine AW.iadd dX12_addThing_55 ?_
  refine AW.ast dX12_addThing_56 (by first | exact isA_175 | exact isA_176 | exact isA_177 | assumption) (by assumption) (by omega) (fun I56 hA56 => ?_)
  show AW muX12_addThing _ _ 57 _ _ _ _
  refine AW.iload dX12_addThing_57 rfl ?_
  refine AW.iret dX12_addThing_59 ⟨_, rfl, rfl⟩ (Nat.zero_le _) (Nat.zero_le _) ⟨_, rfl, ?_⟩
  refine hQ _ (hA56.to (fun q hq => ?_))
  unfold addT
  by_cases e1 : q = 47
  · subst e1; rw [upN_eq, upN_eq]
  · rw [upN_ne e1, upN_ne e1]
    by_cases e2 : q = 18 + N 47
    · subst e2; rw [upN_eq, upN_eq]
    · rw [upN_ne e2, upN_ne e2]
      by_cases e3 : q = 2 + N 47
      · subst e3; rw [upN_eq, upN_eq]
      · rw [upN_ne e3, upN_ne e3]
        by_cases e4 : q = 10 + N 47
        · subst e4; rw [upN_eq, upN_ne (by omega), upN_eq]
        · rw [upN_ne e4]
          by_cases e5 : q = 56 + N 47
          · subst e5; rw [upN_eq, upN_eq]
          · rw [upN_ne e5, upN_ne e5, upN_ne e4]
theorem lp1_X12_goBy (hI : isA a) (hm : 64 ≤ m) (hV : NV N) {Q : Option Int32 → sd_S → Prop} (K : ∀ I v, AS I0 I a m (go1 N (N 36)) → AW muX12_goBy 0 0 39 [.ref a, .int v] [] (sk0, X, I, J) Q) : ∀ (q i : Nat) (I : sd_I), N 36 - i < q → i ≤ N 36 → AS I0 I a m (go1 N i) → AW muX12_goBy 0 0 2 [.ref a, .int (nI i)] [] (sk0, X, I, J) Q := by
  have h5 := hV.s5
  have h8 := hV.t8
  intro q
  induction q with
  | zero => intros; omega
  | succ q ih =>
    intro i I hq hi hA
    have e36 : go1 N i 36 = N 36 := go1_o (by omega) (by omega)
    have hc : i < N 36 → asleepB (go1 N i) i = asleepB N i := fun h => asleepB_congr h8 (by omega) (fun k hk => go1_o (by omega) hk)
    refine AW.iload_n dX12_goBy_2 rfl rfl ?_
    refine AW.aload_n dX12_goBy_3 rfl rfl ?_
    refine AW.bipush (v := nI 36) dX12_goBy_4 (by decide) ?_
    refine AW.iald dX12_goBy_6 (by first | exact hI.c) _ (by first | rfl | assumption) (by omega) (by first | decide | omega) ?_
    refine AW.top ((hA.g (by omega)).trans (congrArg nI e36)) ?_
    first | refine AW.icmp_geN (tgt := 39) dX12_goBy_7 (by decide) (by omega) (by omega) (fun c7 => ?_) (fun c7 => ?_) | refine AW.icmp_ge (tgt := 39) dX12_goBy_7 (by decide) (fun c7 => ?_) (fun c7 => ?_)
    · obtain rfl : i = N 36 := by omega
      exact K I _ hA
    · refine AW.aload_n dX12_goBy_10 rfl rfl ?_
      refine AW.aload_n dX12_goBy_11 rfl rfl ?_
      show AW muX12_goBy _ _ 12 _ _ _ _
      refine AW.iload_n dX12_goBy_12 rfl rfl ?_
      refine cs_X12_goBy_13 (by decide) (by decide) (Nat.le_of_ble_eq_true rfl) (s_X12_isAsleep hI hm (go1_NV hV (by omega)) hA (by omega) (fun hs => ?_) (fun hs => ?_))
      · refine AW.ifeq1 (tgt := 24) dX12_goBy_16 (by decide) ?_
        rw [hc c7] at hs
        refine AW.bipush (v := nI 26) dX12_goBy_19 (by decide) ?_
        refine AW.goto (tgt := 26) dX12_goBy_21 (by decide) ?_
        refine AW.iload_n dX12_goBy_26 rfl rfl ?_
        first | refine AW.iaddN dX12_goBy_27 ?_ | refine AW.iadd dX12_goBy_27 ?_
        refine AW.dup2 dX12_goBy_28 rfl rfl ?_
        refine AW.iald dX12_goBy_29 (by first | exact hI.c) _ (by first | rfl | assumption) (by omega) (by first | decide | omega) ?_
        first | refine AW.top (by first | exact AS.g hA (by omega)) ?_ | skip
        show AW muX12_goBy _ _ 30 _ _ _ _
        refine AW.iconst (v := nI 1) dX12_goBy_30 (by decide) ?_
        first | refine AW.iaddN dX12_goBy_31 ?_ | refine AW.iadd dX12_goBy_31 ?_
        refine AW.ast dX12_goBy_32 (by first | exact isA_175 | exact isA_176 | exact isA_177 | assumption) (by assumption) (by omega) (fun I32 hA32 => ?_)
        first | refine AW.iincN dX12_goBy_33 rfl (by decide) rfl rfl ?_ | refine AW.iinc dX12_goBy_33 rfl rfl (by decide) rfl rfl ?_
        refine AW.goto (tgt := 2) dX12_goBy_36 (by decide) ?_
        refine ih (i + 1) _ (by omega) (by omega) (hA32.to (fun k _ => ?_))
        rw [go1_s (by omega), hs]; rfl
      · refine AW.ifeq0 (tgt := 24) dX12_goBy_16 (by decide) ?_
        rw [hc c7] at hs
        refine AW.bipush (v := nI 31) dX12_goBy_24 (by decide) ?_
        refine AW.iload_n dX12_goBy_26 rfl rfl ?_
        show AW muX12_goBy _ _ 27 _ _ _ _
        first | refine AW.iaddN dX12_goBy_27 ?_ | refine AW.iadd dX12_goBy_27 ?_
        refine AW.dup2 dX12_goBy_28 rfl rfl ?_
        refine AW.iald dX12_goBy_29 (by first | exact hI.c) _ (by first | rfl | assumption) (by omega) (by first | decide | omega) ?_
        first | refine AW.top (by first | exact AS.g hA (by omega)) ?_ | skip
        refine AW.iconst (v := nI 1) dX12_goBy_30 (by decide) ?_
        first | refine AW.iaddN dX12_goBy_31 ?_ | refine AW.iadd dX12_goBy_31 ?_
        refine AW.ast dX12_goBy_32 (by first | exact isA_175 | exact isA_176 | exact isA_177 | assumption) (by assumption) (by omega) (fun I32 hA32 => ?_)
        show AW muX12_goBy _ _ 33 _ _ _ _
        first | refine AW.iincN dX12_goBy_33 rfl (by decide) rfl rfl ?_ | refine AW.iinc dX12_goBy_33 rfl rfl (by decide) rfl rfl ?_
        refine AW.goto (tgt := 2) dX12_goBy_36 (by decide) ?_
        refine ih (i + 1) _ (by omega) (by omega) (hA32.to (fun k _ => ?_))
        rw [go1_s (by omega), hs]; rfl
theorem lp2_X12_goBy (hI : isA a) (hm : 64 ≤ m) (hV : NV N) {Q : Option Int32 → sd_S → Prop} (K : ∀ I v, AS I0 I a m (go2 N (N 47)) → AW muX12_goBy 0 0 85 [.ref a, .int v] [] (sk0, X, I, J) Q) : ∀ (q i : Nat) (I : sd_I), N 47 - i < q → i ≤ N 47 → AS I0 I a m (go2 N i) → AW muX12_goBy 0 0 41 [.ref a, .int (nI i)] [] (sk0, X, I, J) Q := by
  have h5 := hV.s5
  have h8 := hV.t8
  intro q
  induction q with
  | zero => intros; omega
  | succ q ih =>
    intro i I hq hi hA
    have e47 : go2 N i 47 = N 47 := go2_o h5 (by omega) (by omega) (by omega)
    have e0 : go2 N i 0 = N 0 := go2_o h5 (by omega) (by omega) (by omega)
    have e48 : i < N 47 → go2 N i (48 + i) = N (48 + i) := fun h => go2_o h5 (by omega) (by omega) (by omega)
    have e56 : i < N 47 → go2 N i (56 + i) = N (56 + i) := fun h => go2_o h5 (by omega) (by omega) (by omega)
    have e18 : i < N 47 → go2 N i (18 + i) = N (18 + i) := fun h => go2_o h5 (by omega) (by omega) (by omega)
    have hn := hV.ni
    refine AW.iload_n dX12_goBy_41 rfl rfl ?_
    refine AW.aload_n dX12_goBy_42 rfl rfl ?_
    refine AW.bipush (v := nI 47) dX12_goBy_43 (by decide) ?_
    refine AW.iald dX12_goBy_45 (by first | exact hI.c) _ (by first | rfl | assumption) (by omega) (by first | decide | omega) ?_
    refine AW.top ((hA.g (by omega)).trans (congrArg nI e47)) ?_
    first | refine AW.icmp_geN (tgt := 85) dX12_goBy_46 (by decide) (by omega) (by omega) (fun c46 => ?_) (fun c46 => ?_) | refine AW.icmp_ge (tgt := 85) dX12_goBy_46 (by decide) (fun c46 => ?_) (fun c46 => ?_)
    · obtain rfl : i = N 47 := by omega
      exact K I _ hA
    · have := hV.kd c46
      have := hV.dr c46
      have := hV.lf c46
      refine AW.aload_n dX12_goBy_49 rfl rfl ?_
      refine AW.bipush (v := nI 18) dX12_goBy_50 (by decide) ?_
      show AW muX12_goBy _ _ 52 _ _ _ _
      refine AW.iload_n dX12_goBy_52 rfl rfl ?_
      first | refine AW.iaddN dX12_goBy_53 ?_ | refine AW.iadd dX12_goBy_53 ?_
      refine AW.aload_n dX12_goBy_54 rfl rfl ?_
      refine AW.bipush (v := nI 48) dX12_goBy_55 (by decide) ?_
      refine AW.iload_n dX12_goBy_57 rfl rfl ?_
      first | refine AW.iaddN dX12_goBy_58 ?_ | refine AW.iadd dX12_goBy_58 ?_
      show AW muX12_goBy _ _ 59 _ _ _ _
      refine AW.iald dX12_goBy_59 (by first | exact hI.c) _ (by first | rfl | assumption) (by omega) (by first | decide | omega) ?_
      refine AW.top ((hA.g (by omega)).trans (congrArg nI (e48 c46))) ?_
      refine AW.aload_n dX12_goBy_60 rfl rfl ?_
      refine AW.bipush (v := nI 56) dX12_goBy_61 (by decide) ?_
      refine AW.iload_n dX12_goBy_63 rfl rfl ?_
      first | refine AW.iaddN dX12_goBy_64 ?_ | refine AW.iadd dX12_goBy_64 ?_
      refine AW.iald dX12_goBy_65 (by first | exact hI.c) _ (by first | rfl | assumption) (by omega) (by first | decide | omega) ?_
      refine AW.top ((hA.g (by omega)).trans (congrArg nI (e56 c46))) ?_
      show AW muX12_goBy _ _ 66 _ _ _ _
      refine AW.aload_n dX12_goBy_66 rfl rfl ?_
      refine AW.bipush (v := nI 18) dX12_goBy_67 (by decide) ?_
      refine AW.iload_n dX12_goBy_69 rfl rfl ?_
      first | refine AW.iaddN dX12_goBy_70 ?_ | refine AW.iadd dX12_goBy_70 ?_
      refine AW.iald dX12_goBy_71 (by first | exact hI.c) _ (by first | rfl | assumption) (by omega) (by first | decide | omega) ?_
      refine AW.top ((hA.g (by omega)).trans (congrArg nI (e18 c46))) ?_
      refine AW.aload_n dX12_goBy_72 rfl rfl ?_
      show AW muX12_goBy _ _ 73 _ _ _ _
      refine AW.iconst (v := nI 0) dX12_goBy_73 (by decide) ?_
      refine AW.iald dX12_goBy_74 (by first | exact hI.c) _ (by first | rfl | assumption) (by omega) (by first | decide | omega) ?_
      refine AW.top ((hA.g (by omega)).trans (congrArg nI e0)) ?_
      refine cs_X12_goBy_75 (by decide) (by decide) (Nat.le_of_ble_eq_true rfl) (s_X12_leftBy (by omega) (by omega) (by omega) (by omega) ?_)
      refine AW.ast dX12_goBy_78 (by first | exact isA_175 | exact isA_176 | exact isA_177 | assumption) (by assumption) (by omega) (fun I78 hA78 => ?_)
      first | refine AW.iincN dX12_goBy_79 rfl (by decide) rfl rfl ?_ | refine AW.iinc dX12_goBy_79 rfl rfl (by decide) rfl rfl ?_
      refine AW.goto (tgt := 41) dX12_goBy_82 (by decide) ?_
      exact ih (i + 1) _ (by omega) (by omega) (hA78.to (fun k _ => go2_s))
theorem s_X12_goBy {Q : sd_S → Prop} (hI : isA a) (hm : 64 ≤ m) (hV : NV N) (hA : AS I0 I a m N) (hQ : ∀ I', AS I0 I' a m (goN N) → Q (sk0, X, I', J)) : AWv muX12_goBy [.ref a] (sk0, X, I, J) Q := by
  have h5 := hV.s5
  have h8 := hV.t8
  show AW muX12_goBy 0 0 0 [.ref a, .null] [] _ _
  refine AW.iconst (v := nI 0) dX12_goBy_0 (by decide) ?_
  refine AW.istore_n dX12_goBy_1 rfl (by decide) rfl rfl ?_
  refine lp1_X12_goBy (I0 := I0) (m := m) hI hm hV (fun I1 v hA1 => ?_) (N 36 + 1) 0 I (by omega) (by omega) (hA.to (fun k _ => by unfold go1; rw [if_neg (by omega), if_neg (by omega)]))
  refine AW.iconst (v := nI 0) dX12_goBy_39 (by decide) ?_
  refine AW.istore_n dX12_goBy_40 rfl (by decide) rfl rfl ?_
  refine lp2_X12_goBy (I0 := I0) (m := m) hI hm hV (fun I2 v hA2 => ?_) (N 47 + 1) 0 I1 (by omega) (by omega) (hA1.to (fun k _ => by unfold go2; rw [if_neg (by omega)]))
  refine AW.aload_n dX12_goBy_85 rfl rfl ?_
  refine AW.iconst (v := nI 0) dX12_goBy_86 (by decide) ?_
  show AW muX12_goBy _ _ 87 _ _ _ _
  refine AW.dup2 dX12_goBy_87 rfl rfl ?_
  refine AW.iald dX12_goBy_88 (by first | exact hI.c) _ (by first | rfl | assumption) (by omega) (by first | decide | omega) ?_
  refine AW.top ((hA2.g (by omega)).trans (congrArg nI (show go2 N (N 47) 0 = N 0 from go2_o h5 h8 (by omega) (by omega)))) ?_
  refine AW.iconst (v := nI 1) dX12_goBy_89 (by decide) ?_
  first | refine AW.iaddN dX12_goBy_90 ?_ | refine AW.iadd dX12_goBy_90 ?_
  refine AW.ast dX12_goBy_91 (by first | exact isA_175 | exact isA_176 | exact isA_177 | assumption) (by assumption) (by omega) (fun I91 hA91 => ?_)
  refine AW.ret dX12_goBy_92 rfl (Nat.zero_le _) (Nat.zero_le _) ⟨rfl, ?_⟩
  exact hQ _ (hA91.to (fun k _ => go_go h5 h8 k))
theorem nt_41 {n : Nat} {Q : Option Int32 → sd_S → Prop} (hA : AS I0 I 175 353 N) (hn : N 64 = n) (hn7 : n ≤ 7) (hQ : ∀ I', AS I0 I' 175 353 (upN (cpN N N 0 (65 + 36 * n) 36) 64 (n + 1)) → Q none (sk0, X, I', J)) : AW muX12_note 0 0 41 [.ref 170] [] (sk0, X, I, J) Q := by
  refine AW.aload_n dX12_note_41 rfl rfl ?_
  refine g12_7 dX12_note_42 wF_X12_23 (by first | assumption | rfl | (unfold is12; omega)) ?_
  refine AW.iconst (v := nI 0) dX12_note_45 (by decide) ?_
  refine AW.aload_n dX12_note_46 rfl rfl ?_
  refine g12_7 dX12_note_47 wF_X12_23 (by first | assumption | rfl | (unfold is12; omega)) ?_
  refine AW.bipush (v := nI 65) dX12_note_50 (by decide) ?_
  show AW muX12_note _ _ 52 _ _ _ _
  refine AW.bipush (v := nI 36) dX12_note_52 (by decide) ?_
  refine AW.aload_n dX12_note_54 rfl rfl ?_
  refine g12_7 dX12_note_55 wF_X12_23 (by first | assumption | rfl | (unfold is12; omega)) ?_
  refine AW.bipush (v := nI 64) dX12_note_58 (by decide) ?_
  refine AW.iald dX12_note_60 (by first | exact k0_175) _ (by first | rfl | assumption) (by omega) (by first | decide | omega) ?_
  refine AW.top ((hA.g (by omega)).trans (congrArg nI hn)) ?_
  first | refine AW.imulN dX12_note_61 ?_ | refine AW.imul dX12_note_61 ?_
  show AW muX12_note _ _ 62 _ _ _ _
  first | refine AW.iaddN dX12_note_62 ?_ | refine AW.iadd dX12_note_62 ?_
  refine AW.bipush (v := nI 36) dX12_note_63 (by decide) ?_
  refine cs_X12_note_65 (by decide) (by decide) (Nat.le_of_ble_eq_true rfl) (s_X12_bringS (i := 0) (j := 65 + 36 * n) (n := 36) isA_175 (by omega) (by omega) (by omega) hA (fun I1 hA1 => ?_))
  refine AW.aload_n dX12_note_68 rfl rfl ?_
  refine g12_7 dX12_note_69 wF_X12_23 (by first | assumption | rfl | (unfold is12; omega)) ?_
  refine AW.bipush (v := nI 64) dX12_note_72 (by decide) ?_
  show AW muX12_note _ _ 74 _ _ _ _
  refine AW.dup2 dX12_note_74 rfl rfl ?_
  refine AW.iald dX12_note_75 (by first | exact k0_175) _ (by first | rfl | assumption) (by omega) (by first | decide | omega) ?_
  refine AW.top (show _ = nI n by rw [hA1.g (by omega)]; unfold cpN; rw [if_neg (by omega), hn]) ?_
  refine AW.iconst (v := nI 1) dX12_note_76 (by decide) ?_
  first | refine AW.iaddN dX12_note_77 ?_ | refine AW.iadd dX12_note_77 ?_
  refine AW.ast dX12_note_78 (by first | exact isA_175 | exact isA_176 | exact isA_177 | assumption) (by assumption) (by omega) (fun I78 hA78 => ?_)
  refine AW.ret dX12_note_79 rfl (Nat.zero_le _) (Nat.zero_le _) ?_
  exact hQ _ hA78
theorem s_X12_note {Q : sd_S → Prop} (hA : AS I0 I 175 353 N) (h64 : N 64 ≤ 8) (hQ : ∀ I', AS I0 I' 175 353 (noteN N) → Q (sk0, X, I', J)) : AWv muX12_note [.ref 170] (sk0, X, I, J) Q := by
  show AW muX12_note 0 0 0 [.ref 170] [] _ _
  by_cases c : N 64 = 8
  · skip
    refine AW.aload_n dX12_note_0 rfl rfl ?_
    refine g12_7 dX12_note_1 wF_X12_23 (by first | assumption | rfl | (unfold is12; omega)) ?_
    refine AW.bipush (v := nI 64) dX12_note_4 (by decide) ?_
    refine AW.iald dX12_note_6 (by first | exact k0_175) _ (by first | rfl | assumption) (by omega) (by first | decide | omega) ?_
    refine AW.top ((hA.g (by omega)).trans (congrArg nI c)) ?_
    refine AW.bipush (v := nI 8) dX12_note_7 (by decide) ?_
    refine AW.icmp_neN (tgt := 41) dX12_note_9 (by decide) (by decide) (by decide) (fun c9 => absurd rfl c9) (fun _ => ?_)
    refine AW.aload_n dX12_note_12 rfl rfl ?_
    show AW muX12_note _ _ 13 _ _ _ _
    refine g12_7 dX12_note_13 wF_X12_23 (by first | assumption | rfl | (unfold is12; omega)) ?_
    refine AW.bipush (v := nI 101) dX12_note_16 (by decide) ?_
    refine AW.aload_n dX12_note_18 rfl rfl ?_
    refine g12_7 dX12_note_19 wF_X12_23 (by first | assumption | rfl | (unfold is12; omega)) ?_
    refine AW.bipush (v := nI 65) dX12_note_22 (by decide) ?_
    refine AW.sipush (v := nI 252) dX12_note_24 (by decide) ?_
    show AW muX12_note _ _ 27 _ _ _ _
    refine cs_X12_note_27 (by decide) (by decide) (Nat.le_of_ble_eq_true rfl) (s_X12_bringS (i := 101) (j := 65) (n := 252) isA_175 (by decide) (by decide) (by decide) hA (fun I1 hA1 => ?_))
    refine AW.aload_n dX12_note_30 rfl rfl ?_
    refine g12_7 dX12_note_31 wF_X12_23 (by first | assumption | rfl | (unfold is12; omega)) ?_
    refine AW.bipush (v := nI 64) dX12_note_34 (by decide) ?_
    refine AW.dup2 dX12_note_36 rfl rfl ?_
    refine AW.iald dX12_note_37 (by first | exact k0_175) _ (by first | rfl | assumption) (by omega) (by first | decide | omega) ?_
    refine AW.top (show _ = nI 8 by rw [hA1.g (by omega)]; unfold cpN; rw [if_neg (by omega), c]) ?_
    show AW muX12_note _ _ 38 _ _ _ _
    refine AW.iconst (v := nI 1) dX12_note_38 (by decide) ?_
    first | refine AW.isubN dX12_note_39 (by omega) ?_ | refine AW.isub dX12_note_39 ?_
    refine AW.ast dX12_note_40 (by first | exact isA_175 | exact isA_176 | exact isA_177 | assumption) (by assumption) (by omega) (fun I40 hA40 => ?_)
    refine nt_41 hA40 (n := 7) upN_eq (by omega) (fun I' h => ⟨rfl, hQ I' (h.to (fun k hk => ?_))⟩)
    unfold noteN
    rw [if_pos c]
    by_cases e1 : k = 64
    · subst e1; rw [upN_eq, if_neg (by omega), if_neg (by omega), c]
    · rw [upN_ne e1]
      by_cases e2 : 65 ≤ k ∧ k < 317
      · rw [if_pos e2]; unfold cpN; rw [if_neg (by omega), upN_ne e1, if_pos (by omega), show 101 + (k - 65) = k + 36 by omega]
      · rw [if_neg e2]
        by_cases e3 : 317 ≤ k ∧ k < 353
        · rw [if_pos e3]; unfold cpN; rw [if_pos (by omega), upN_ne (by omega), if_neg (by omega), show 0 + (k - (65 + 36 * 7)) = k - 317 by omega]
        · rw [if_neg e3]; unfold cpN; rw [if_neg (by omega), upN_ne e1, if_neg (by omega)]
  · skip
    refine AW.aload_n dX12_note_0 rfl rfl ?_
    refine g12_7 dX12_note_1 wF_X12_23 (by first | assumption | rfl | (unfold is12; omega)) ?_
    refine AW.bipush (v := nI 64) dX12_note_4 (by decide) ?_
    refine AW.iald dX12_note_6 (by first | exact k0_175) _ (by first | rfl | assumption) (by omega) (by first | decide | omega) ?_
    refine AW.top (hA.g (by omega)) ?_
    refine AW.bipush (v := nI 8) dX12_note_7 (by decide) ?_
    refine AW.icmp_neN (tgt := 41) dX12_note_9 (by decide) (by omega) (by decide) (fun _ => ?_) (fun c9 => absurd c9 c)
    refine nt_41 hA (n := N 64) rfl (by omega) (fun I' h => ⟨rfl, hQ I' (h.to (fun k hk => ?_))⟩)
    unfold noteN
    rw [if_neg c]
    by_cases e1 : k = 64
    · subst e1; rw [upN_eq, if_pos rfl]
    · rw [upN_ne e1, if_neg e1]
      unfold cpN
      by_cases e2 : 65 + 36 * N 64 ≤ k ∧ k < 101 + 36 * N 64
      · rw [if_pos e2, if_pos (by omega), show 0 + (k - (65 + 36 * N 64)) = k - (65 + 36 * N 64) by omega]
      · rw [if_neg e2, if_neg (by omega)]
theorem s_X12_begin {Q : sd_S → Prop} (hA : ∀ k, k < 64 → I 175 k = nI (N k)) (hQ : ∀ I', AS I I' 176 64 N → Q (sk0, X, I', J)) : AWv muX12_begin [.ref 170] (sk0, X, I, J) Q := by
  show AW muX12_begin 0 0 0 [.ref 170] [] _ _
  refine AW.aload_n dX12_begin_0 rfl rfl ?_
  refine g12_7 dX12_begin_1 wF_X12_23 (by first | assumption | rfl | (unfold is12; omega)) ?_
  refine AW.iconst (v := nI 0) dX12_begin_4 (by decide) ?_
  refine AW.aload_n dX12_begin_5 rfl rfl ?_
  refine g12_8 dX12_begin_6 wF_X12_26 (by first | assumption | rfl | (unfold is12; omega)) ?_
  refine AW.iconst (v := nI 0) dX12_begin_9 (by decide) ?_
  show AW muX12_begin _ _ 10 _ _ _ _
  refine AW.bipush (v := nI 64) dX12_begin_10 (by decide) ?_
  refine cs_X12_begin_12 (by decide) (by decide) (Nat.le_of_ble_eq_true rfl) (s_X12_bringD (i := 0) (j := 0) (n := 64) (A := N) isA_175 isA_176 (by decide) (by decide) (by decide) (fun q hq => by rw [Nat.zero_add]; exact hA q hq) (fun I1 f1 f2 f3 => ?_))
  refine AW.ret dX12_begin_15 rfl (Nat.zero_le _) (Nat.zero_le _) ⟨rfl, ?_⟩
  exact hQ I1 ⟨f1, fun k hk => by have := f2 k hk; rw [Nat.zero_add] at this; exact this⟩
def goK (N : Nat → Nat) : Nat → (Nat → Nat)
  | 0 => N
  | k + 1 => goN (goK N k)
theorem goK_succ {N : Nat → Nat} {k : Nat} : goK N (k + 1) = goN (goK N k) := by rw [goK]
theorem goK_zero {N : Nat → Nat} : goK N 0 = N := by rw [goK]
theorem goK_inv {N : Nat → Nat} (hV : NV N) (k : Nat) (hk : N 0 + k ≤ 20000) : NV (goK N k) ∧ goK N k 0 = N 0 + k ∧ ∀ j, j ≠ 0 → (j < 18 ∨ 36 ≤ j) → goK N k j = N j := by
  induction k with
  | zero => rw [goK_zero]; exact ⟨hV, rfl, fun _ _ _ => rfl⟩
  | succ k ih =>
    obtain ⟨h1, h2, h3⟩ := ih (by omega)
    rw [goK_succ]
    generalize goK N k = M at h1 h2 h3
    refine ⟨h1.go (by omega), ?_, fun j hj hj2 => ?_⟩
    · unfold goN; rw [if_pos rfl, h2]; omega
    · rw [goN_hi h1.s5 h1.t8 hj hj2]; exact h3 j hj hj2
theorem lp_X12_goOn {n : Nat} (hV : NV N) (h9 : N 0 + n ≤ 20000) {Q : Option Int32 → sd_S → Prop} (hn : n ≤ 61) (K : ∀ I', AS I0 I' 176 64 (goK N n) → Q none (sk0, X, I', J)) : ∀ (m k : Nat) (I : sd_I), n - k < m → k ≤ n → AS I0 I 176 64 (goK N k) → AW muX12_goOn 0 0 6 [.ref 170, .int (nI n), .int (nI k)] [] (sk0, X, I, J) Q := by
  intro m
  induction m with
  | zero => intros; omega
  | succ m ih =>
    intro k I hm hk hA
    have hi := (goK_inv hV k (by omega)).1
    refine AW.iload_n dX12_goOn_6 rfl rfl ?_
    refine AW.iload_n dX12_goOn_7 rfl rfl ?_
    first | refine AW.icmp_geN (tgt := 24) dX12_goOn_8 (by decide) (by omega) (by omega) (fun c8 => ?_) (fun c8 => ?_) | refine AW.icmp_ge (tgt := 24) dX12_goOn_8 (by decide) (fun c8 => ?_) (fun c8 => ?_)
    · refine AW.ret dX12_goOn_24 rfl (Nat.zero_le _) (Nat.zero_le _) ?_
      obtain rfl : k = n := by omega
      exact K I hA
    · refine AW.aload_n dX12_goOn_11 rfl rfl ?_
      refine g12_8 dX12_goOn_12 wF_X12_26 (by first | assumption | rfl | (unfold is12; omega)) ?_
      refine cs_X12_goOn_15 (by decide) (by decide) (Nat.le_of_ble_eq_true rfl) (s_X12_goBy isA_176 (by decide) hi hA (fun I1 hA1 => ?_))
      first | refine AW.iincN dX12_goOn_18 rfl (by decide) rfl rfl ?_ | refine AW.iinc dX12_goOn_18 rfl rfl (by decide) rfl rfl ?_
      show AW muX12_goOn _ _ 21 _ _ _ _
      refine AW.goto (tgt := 6) dX12_goOn_21 (by decide) ?_
      exact ih (k + 1) I1 (by omega) (by omega) (by rw [goK_succ]; exact hA1)
theorem s_X12_goOn {Q : sd_S → Prop} {n : Nat} (hV : NV N) (h9 : N 0 + n ≤ 20000) (hn : n ≤ 61) (hA : ∀ k, k < 64 → I 175 k = nI (N k)) (hQ : ∀ I', AS I I' 176 64 (goK N n) → Q (sk0, X, I', J)) : AWv muX12_goOn [.ref 170, .int (nI n)] (sk0, X, I, J) Q := by
  show AW muX12_goOn 0 0 0 [.ref 170, .int (nI n), .null] [] _ _
  refine AW.aload_n dX12_goOn_0 rfl rfl ?_
  refine cs_X12_goOn_1 (by first | exact k0_170) (by decide) (by decide) (Nat.le_of_ble_eq_true rfl) (s_X12_begin hA (fun I1 h1 => ?_))
  refine AW.iconst (v := nI 0) dX12_goOn_4 (by decide) ?_
  refine AW.istore_n dX12_goOn_5 rfl (by decide) rfl rfl ?_
  exact lp_X12_goOn hV h9 hn (fun I' h => ⟨rfl, hQ I' h⟩) (n + 1) 0 I1 (by omega) (by omega) (by rw [goK_zero]; exact h1)
theorem lp_X12_wokenOn {n : Nat} {v : Int32} (hV : NV N) (h9 : N 0 + n ≤ 20000) {Q : Option Int32 → sd_S → Prop} (hn : n ≤ 61) (K : ∀ I', AS I0 I' 176 64 (goK N n) → AW muX12_wokenOn 0 0 28 [.ref 170, .int (nI n), .int v, .int (nI n)] [] (sk0, X, I', J) Q) : ∀ (m k : Nat) (I : sd_I), n - k < m → k ≤ n → AS I0 I 176 64 (goK N k) → AW muX12_wokenOn 0 0 10 [.ref 170, .int (nI n), .int v, .int (nI k)] [] (sk0, X, I, J) Q := by
  intro m
  induction m with
  | zero => intros; omega
  | succ m ih =>
    intro k I hm hk hA
    have hi := (goK_inv hV k (by omega)).1
    refine AW.iload_n dX12_wokenOn_10 rfl rfl ?_
    refine AW.iload_n dX12_wokenOn_11 rfl rfl ?_
    first | refine AW.icmp_geN (tgt := 28) dX12_wokenOn_12 (by decide) (by omega) (by omega) (fun c12 => ?_) (fun c12 => ?_) | refine AW.icmp_ge (tgt := 28) dX12_wokenOn_12 (by decide) (fun c12 => ?_) (fun c12 => ?_)
    · obtain rfl : k = n := by omega
      exact K I hA
    · refine AW.aload_n dX12_wokenOn_15 rfl rfl ?_
      refine g12_8 dX12_wokenOn_16 wF_X12_26 (by first | assumption | rfl | (unfold is12; omega)) ?_
      refine cs_X12_wokenOn_19 (by decide) (by decide) (Nat.le_of_ble_eq_true rfl) (s_X12_goBy isA_176 (by decide) hi hA (fun I1 hA1 => ?_))
      first | refine AW.iincN dX12_wokenOn_22 rfl (by decide) rfl rfl ?_ | refine AW.iinc dX12_wokenOn_22 rfl rfl (by decide) rfl rfl ?_
      show AW muX12_wokenOn _ _ 25 _ _ _ _
      refine AW.goto (tgt := 10) dX12_wokenOn_25 (by decide) ?_
      exact ih (k + 1) I1 (by omega) (by omega) (by rw [goK_succ]; exact hA1)
/-- what the model's wakings are: the sum of the woken counts grows by this in n nights -/
theorem s_X12_wokenOn {Q : Int32 → sd_S → Prop} {n d : Nat} (hV : NV N) (h9 : N 0 + n ≤ 20000) (hn : n ≤ 61) (hd : sumN (N 36) (fun s => goK N n (31 + s)) = sumN (N 36) (fun s => N (31 + s)) + d) (hA : AS I0 I 176 64 N) (hQ : ∀ I', AS I0 I' 176 64 (goK N n) → Q (nI d) (sk0, X, I', J)) : AWi muX12_wokenOn [.ref 170, .int (nI n)] (sk0, X, I, J) Q := by
  have h5 := hV.s5
  have hi := goK_inv hV n h9
  have e36 := hi.2.2 36 (by omega) (by omega)
  show AW muX12_wokenOn 0 0 0 [.ref 170, .int (nI n), .null, .null] [] _ _
  refine AW.aload_n dX12_wokenOn_0 rfl rfl ?_
  refine g12_8 dX12_wokenOn_1 wF_X12_26 (by first | assumption | rfl | (unfold is12; omega)) ?_
  refine cs_X12_wokenOn_4 (by decide) (by decide) (Nat.le_of_ble_eq_true rfl) (s_X12_wokenIn isA_176 (by decide) hA h5 ?_)
  refine AW.istore_n dX12_wokenOn_7 rfl (by decide) rfl rfl ?_
  refine AW.iconst (v := nI 0) dX12_wokenOn_8 (by decide) ?_
  refine AW.istore_n dX12_wokenOn_9 rfl (by decide) rfl rfl ?_
  show AW muX12_wokenOn _ _ 10 _ _ _ _
  refine lp_X12_wokenOn hV h9 hn (fun I1 h1 => ?_) (n + 1) 0 I (by omega) (by omega) (by rw [goK_zero]; exact hA)
  refine AW.aload_n dX12_wokenOn_28 rfl rfl ?_
  refine g12_8 dX12_wokenOn_29 wF_X12_26 (by first | assumption | rfl | (unfold is12; omega)) ?_
  refine cs_X12_wokenOn_32 (by decide) (by decide) (Nat.le_of_ble_eq_true rfl) (s_X12_wokenIn isA_176 (by decide) h1 (by omega) ?_)
  rw [e36, hd]
  refine AW.iload_n dX12_wokenOn_35 rfl rfl ?_
  first | refine AW.isubN dX12_wokenOn_36 (by omega) ?_ | refine AW.isub dX12_wokenOn_36 ?_
  refine AW.top (show _ = nI d by rw [show sumN (N 36) (fun s => N (31 + s)) + d - sumN (N 36) (fun s => N (31 + s)) = d by omega]) ?_
  refine AW.iret dX12_wokenOn_37 ⟨_, rfl, rfl⟩ (Nat.zero_le _) (Nat.zero_le _) ⟨_, rfl, ?_⟩
  exact hQ I1 h1
end Model2
