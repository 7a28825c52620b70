-- the model: its arrays, its small methods
def isA (a : Nat) : Prop := a = 175 ∨ a = 176 ∨ a = 177 ∨ a = 178
theorem isA_175 : isA 175 := Or.inl rfl
theorem isA_176 : isA 176 := Or.inr (Or.inl rfl)
theorem isA_177 : isA 177 := Or.inr (Or.inr (Or.inl rfl))
theorem isA_178 : isA 178 := Or.inr (Or.inr (Or.inr rfl))
theorem isA.c {a : Nat} (h : isA a) : sk0[a]? = some (20, 353, []) := by
  rcases h with rfl | rfl | rfl | rfl
  · exact k0_175
  · exact k0_176
  · exact k0_177
  · exact k0_178
/-- the array at a holds N up to m, and nothing but a has changed since I0 -/
def AS (I0 I : sd_I) (a m : Nat) (N : Nat → Nat) : Prop := Fr I0 I a a ∧ ∀ k, k < m → I a k = nI (N k)
theorem AS.g {I0 I : sd_I} {a m k : Nat} {N : Nat → Nat} (h : AS I0 I a m N) (hk : k < m) : I a k = nI (N k) := h.2 k hk
theorem AS.f {I0 I : sd_I} {a m : Nat} {N : Nat → Nat} (h : AS I0 I a m N) : Fr I0 I a a := h.1
theorem AS.rf {I : sd_I} {a m : Nat} {N : Nat → Nat} (h : ∀ k, k < m → I a k = nI (N k)) : AS I I a m N := ⟨Fr.rf, h⟩
theorem AS.u {I0 I : sd_I} {a m j v : Nat} {N : Nat → Nat} (h : AS I0 I a m N) : AS I0 (sd_u I a j (nI v)) a m (upN N j v) := by
  refine ⟨h.1.up (Nat.le_refl _) (Nat.le_refl _), fun k hk => ?_⟩
  by_cases e : k = j
  · subst e; rw [upN_eq, sd_u_eq]; simp
  · rw [upN_ne e, sd_u_eq]; simp only [e, if_false]; exact h.2 k hk
theorem AS.to {I0 I : sd_I} {a m : Nat} {N N' : Nat → Nat} (h : AS I0 I a m N) (e : ∀ k, k < m → N' k = N k) : AS I0 I a m N' := ⟨h.1, fun k hk => by rw [e k hk]; exact h.2 k hk⟩
theorem AW.ast {μ : sd_M} {kc ks pc : Nat} {ls st : List Value} {X : Nat × (Nat → Int32)} {I0 I : sd_I} {J : sd_J} {Q : Option Int32 → sd_S → Prop} {a m j v : Nat} {N : Nat → Nat} (d : decode μ.2.1 pc = .ok (.iastore, 1)) (hI : isA a) (hA : AS I0 I a m N) (hj : j < 353) (kk : ∀ I', AS I0 I' a m (upN N j v) → AW μ kc ks (pc + 1) ls st (sk0, X, I', J) Q) : AW μ kc ks pc ls (.int (nI v) :: .int (nI j) :: .ref a :: st) (sk0, X, I, J) Q := AW.iast d hI.c j rfl hj (by decide) (kk _ hA.u)
section Model1
variable {σ : sd_S} {X : Nat × (Nat → Int32)} {I I0 : sd_I} {J : sd_J} {C : List sd_C} {N : Nat → Nat} {a m : Nat}
theorem s_X12_in {Q : Int32 → sd_S → Prop} {x h' : Int32} {lo hi : Nat} (hlo : lo < 2 ^ 31) (hhi : hi ≤ 2 ^ 31) (hh : h'.toInt = (hi : Int) - 1) (hT : ∀ j, lo ≤ j → j < hi → x = nI j → Q (nI 1) σ) (hF : ¬ inR x lo hi → Q (nI 0) σ) : AWi muX12_in [.int x, .int (nI lo), .int h'] σ Q := by
  show AW muX12_in 0 0 0 [.int x, .int (nI lo), .int h'] [] _ _
  refine AW.iload_n dX12_in_0 rfl rfl ?_
  refine AW.iload_n dX12_in_1 rfl rfl ?_
  refine AW.icmp_lt (tgt := 14) dX12_in_2 (by decide) (fun c2 => ?_) (fun c2 => ?_)
  · refine AW.iconst (v := nI 0) dX12_in_14 (by decide) ?_
    refine AW.iret dX12_in_15 ⟨_, rfl, by decide⟩ (Nat.zero_le _) (Nat.zero_le _) ⟨_, rfl, ?_⟩
    first | exact hF (inR_not hlo hhi hh (Or.inl c2)) | exact hF (inR_not hlo hhi hh (Or.inr c7))
  · refine AW.iload_n dX12_in_5 rfl rfl ?_
    refine AW.iload_n dX12_in_6 rfl rfl ?_
    refine AW.icmp_gt (tgt := 14) dX12_in_7 (by decide) (fun c7 => ?_) (fun c7 => ?_)
    · refine AW.iconst (v := nI 0) dX12_in_14 (by decide) ?_
      show AW muX12_in _ _ 15 _ _ _ _
      refine AW.iret dX12_in_15 ⟨_, rfl, by decide⟩ (Nat.zero_le _) (Nat.zero_le _) ⟨_, rfl, ?_⟩
      first | exact hF (inR_not hlo hhi hh (Or.inl c2)) | exact hF (inR_not hlo hhi hh (Or.inr c7))
    · refine AW.iconst (v := nI 1) dX12_in_10 (by decide) ?_
      refine AW.goto (tgt := 15) dX12_in_11 (by decide) ?_
      refine AW.iret dX12_in_15 ⟨_, rfl, by decide⟩ (Nat.zero_le _) (Nat.zero_le _) ⟨_, rfl, ?_⟩
      obtain ⟨j, h1, h2, h3⟩ := inR_of hlo hh c2 c7
      exact hT j h1 h2 h3
theorem s_X12_isRoom {Q : Int32 → sd_S → Prop} {x : Int32} (hT : ∀ j, j < 4 → x = nI j → Q (nI 1) (C, X, I, J)) (hF : ¬ inR x 0 4 → Q (nI 0) (C, X, I, J)) : AWi muX12_isRoom [.int x] (C, X, I, J) Q := by
  show AW muX12_isRoom 0 0 0 [.int x] [] _ _
  refine AW.iload_n dX12_isRoom_0 rfl rfl ?_
  refine AW.iconst (v := nI 0) dX12_isRoom_1 (by decide) ?_
  refine AW.iconst (v := nI 3) dX12_isRoom_2 (by decide) ?_
  refine cs_X12_isRoom_3 (by decide) (by decide) (Nat.le_of_ble_eq_true rfl) (s_X12_in (lo := 0) (hi := 4) (by decide) (by decide) (by decide) (fun j h1 h2 h3 => ?_) (fun hn => ?_))
  · refine AW.iret dX12_isRoom_6 ⟨_, rfl, by decide⟩ (Nat.zero_le _) (Nat.zero_le _) ⟨_, rfl, ?_⟩
    exact hT j h2 h3
  · refine AW.iret dX12_isRoom_6 ⟨_, rfl, by decide⟩ (Nat.zero_le _) (Nat.zero_le _) ⟨_, rfl, ?_⟩
    exact hF hn
theorem s_X12_isSheet {Q : Int32 → sd_S → Prop} {x : Int32} (hT : ∀ j, j < 4 → x = nI j → Q (nI 1) (C, X, I, J)) (hF : ¬ inR x 0 4 → Q (nI 0) (C, X, I, J)) : AWi muX12_isSheet [.int x] (C, X, I, J) Q := by
  show AW muX12_isSheet 0 0 0 [.int x] [] _ _
  refine AW.iload_n dX12_isSheet_0 rfl rfl ?_
  refine AW.iconst (v := nI 0) dX12_isSheet_1 (by decide) ?_
  refine AW.iconst (v := nI 3) dX12_isSheet_2 (by decide) ?_
  refine cs_X12_isSheet_3 (by decide) (by decide) (Nat.le_of_ble_eq_true rfl) (s_X12_in (lo := 0) (hi := 4) (by decide) (by decide) (by decide) (fun j h1 h2 h3 => ?_) (fun hn => ?_))
  · refine AW.iret dX12_isSheet_6 ⟨_, rfl, by decide⟩ (Nat.zero_le _) (Nat.zero_le _) ⟨_, rfl, ?_⟩
    exact hT j h2 h3
  · refine AW.iret dX12_isSheet_6 ⟨_, rfl, by decide⟩ (Nat.zero_le _) (Nat.zero_le _) ⟨_, rfl, ?_⟩
    exact hF hn
theorem s_X12_isSleeper {Q : Int32 → sd_S → Prop} {x : Int32} {n : Nat} (hn : I 175 36 = nI n) (hb : n ≤ 100) (hT : ∀ j, j < n → x = nI j → Q (nI 1) (sk0, X, I, J)) (hF : ¬ inR x 0 n → Q (nI 0) (sk0, X, I, J)) : AWi muX12_isSleeper [.ref 170, .int x] (sk0, X, I, J) Q := by
  show AW muX12_isSleeper 0 0 0 [.ref 170, .int x] [] _ _
  refine AW.iload_n dX12_isSleeper_0 rfl rfl ?_
  refine AW.iconst (v := nI 0) dX12_isSleeper_1 (by decide) ?_
  refine AW.aload_n dX12_isSleeper_2 rfl rfl ?_
  refine g12_7 dX12_isSleeper_3 wF_X12_23 (by first | assumption | rfl | (unfold is12; omega)) ?_
  refine AW.bipush (v := nI 36) dX12_isSleeper_6 (by decide) ?_
  refine AW.iald dX12_isSleeper_8 (by first | exact k0_175) _ (by first | rfl | assumption) (by omega) (by first | decide | omega) ?_
  refine AW.top (hn) ?_
  show AW muX12_isSleeper _ _ 9 _ _ _ _
  refine AW.iconst (v := nI 1) dX12_isSleeper_9 (by decide) ?_
  refine AW.isub dX12_isSleeper_10 ?_
  refine cs_X12_isSleeper_11 (by decide) (by decide) (Nat.le_of_ble_eq_true rfl) (s_X12_in (lo := 0) (hi := n) (by decide) (by omega) (nI_m1 (by omega)) (fun j h1 h2 h3 => ?_) (fun hn => ?_))
  · refine AW.iret dX12_isSleeper_14 ⟨_, rfl, by decide⟩ (Nat.zero_le _) (Nat.zero_le _) ⟨_, rfl, ?_⟩
    exact hT j h2 h3
  · refine AW.iret dX12_isSleeper_14 ⟨_, rfl, by decide⟩ (Nat.zero_le _) (Nat.zero_le _) ⟨_, rfl, ?_⟩
    exact hF hn
theorem s_X12_isThing {Q : Int32 → sd_S → Prop} {x : Int32} {n : Nat} (hn : I 175 47 = nI n) (hb : n ≤ 100) (hT : ∀ j, j < n → x = nI j → Q (nI 1) (sk0, X, I, J)) (hF : ¬ inR x 0 n → Q (nI 0) (sk0, X, I, J)) : AWi muX12_isThing [.ref 170, .int x] (sk0, X, I, J) Q := by
  show AW muX12_isThing 0 0 0 [.ref 170, .int x] [] _ _
  refine AW.iload_n dX12_isThing_0 rfl rfl ?_
  refine AW.iconst (v := nI 0) dX12_isThing_1 (by decide) ?_
  refine AW.aload_n dX12_isThing_2 rfl rfl ?_
  refine g12_7 dX12_isThing_3 wF_X12_23 (by first | assumption | rfl | (unfold is12; omega)) ?_
  refine AW.bipush (v := nI 47) dX12_isThing_6 (by decide) ?_
  refine AW.iald dX12_isThing_8 (by first | exact k0_175) _ (by first | rfl | assumption) (by omega) (by first | decide | omega) ?_
  refine AW.top (hn) ?_
  show AW muX12_isThing _ _ 9 _ _ _ _
  refine AW.iconst (v := nI 1) dX12_isThing_9 (by decide) ?_
  refine AW.isub dX12_isThing_10 ?_
  refine cs_X12_isThing_11 (by decide) (by decide) (Nat.le_of_ble_eq_true rfl) (s_X12_in (lo := 0) (hi := n) (by decide) (by omega) (nI_m1 (by omega)) (fun j h1 h2 h3 => ?_) (fun hn => ?_))
  · refine AW.iret dX12_isThing_14 ⟨_, rfl, by decide⟩ (Nat.zero_le _) (Nat.zero_le _) ⟨_, rfl, ?_⟩
    exact hT j h2 h3
  · refine AW.iret dX12_isThing_14 ⟨_, rfl, by decide⟩ (Nat.zero_le _) (Nat.zero_le _) ⟨_, rfl, ?_⟩
    exact hF hn
theorem s_X12_has {Q : Int32 → sd_S → Prop} {w t : Nat} (hw : w < 2 ^ 31) (ht : t < 31) (hT : w.testBit t = true → Q (nI 1) (C, X, I, J)) (hF : w.testBit t = false → Q (nI 0) (C, X, I, J)) : AWi muX12_has [.int (nI w), .int (nI t)] (C, X, I, J) Q := by
  show AW muX12_has 0 0 0 [.int (nI w), .int (nI t)] [] _ _
  by_cases hb : w.testBit t = true
  · have e : (nI w >>> (nI t &&& 31)) &&& nI 1 = nI 1 := by rw [nI_bit hw ht, if_pos hb]
    refine AW.iload_n dX12_has_0 rfl rfl ?_
    refine AW.iload_n dX12_has_1 rfl rfl ?_
    refine AW.ishr dX12_has_2 ?_
    refine AW.iconst (v := nI 1) dX12_has_3 (by decide) ?_
    refine AW.iand dX12_has_4 ?_
    refine AW.top (e) ?_
    refine AW.iconst (v := nI 1) dX12_has_5 (by decide) ?_
    show AW muX12_has _ _ 6 _ _ _ _
    refine AW.icmp_neN (tgt := 13) dX12_has_6 (by decide) (by decide) (by decide) (fun c6 => absurd c6 (by decide)) (fun _ => ?_)
    refine AW.iconst (v := nI 1) dX12_has_9 (by decide) ?_
    refine AW.goto (tgt := 14) dX12_has_10 (by decide) ?_
    refine AW.iret dX12_has_14 ⟨_, rfl, by decide⟩ (Nat.zero_le _) (Nat.zero_le _) ⟨_, rfl, ?_⟩
    exact hT hb
  · have hb : w.testBit t = false := by simpa using hb
    have e : (nI w >>> (nI t &&& 31)) &&& nI 1 = nI 0 := by rw [nI_bit hw ht, hb]; rfl
    refine AW.iload_n dX12_has_0 rfl rfl ?_
    refine AW.iload_n dX12_has_1 rfl rfl ?_
    refine AW.ishr dX12_has_2 ?_
    refine AW.iconst (v := nI 1) dX12_has_3 (by decide) ?_
    refine AW.iand dX12_has_4 ?_
    refine AW.top (e) ?_
    refine AW.iconst (v := nI 1) dX12_has_5 (by decide) ?_
    show AW muX12_has _ _ 6 _ _ _ _
    refine AW.icmp_neN (tgt := 13) dX12_has_6 (by decide) (by decide) (by decide) (fun _ => ?_) (fun c6 => absurd c6 (by decide))
    refine AW.iconst (v := nI 0) dX12_has_13 (by decide) ?_
    refine AW.iret dX12_has_14 ⟨_, rfl, by decide⟩ (Nat.zero_le _) (Nat.zero_le _) ⟨_, rfl, ?_⟩
    exact hF hb
theorem lp_X12_bits {w : Nat} (hw : w < 2 ^ 31) {Q : Option Int32 → sd_S → Prop} (K : Q (some (nI (popc w))) (C, X, I, J)) : ∀ (m k : Nat), 10 - k < m → k ≤ 10 → AW muX12_bits 0 0 4 [.int (nI w), .int (nI (sumN k (fun k => if w.testBit k then 1 else 0))), .int (nI k)] [] (C, X, I, J) Q := by
  intro m
  induction m with
  | zero => intros; omega
  | succ m ih =>
    intro k hm hk
    refine AW.iload_n dX12_bits_4 rfl rfl ?_
    refine AW.bipush (v := nI 10) dX12_bits_5 (by decide) ?_
    first | refine AW.icmp_geN (tgt := 24) dX12_bits_7 (by decide) (by omega) (by omega) (fun c7 => ?_) (fun c7 => ?_) | refine AW.icmp_ge (tgt := 24) dX12_bits_7 (by decide) (fun c7 => ?_) (fun c7 => ?_)
    · refine AW.iload_n dX12_bits_24 rfl rfl ?_
      refine AW.iret dX12_bits_25 ⟨_, rfl, rfl⟩ (Nat.zero_le _) (Nat.zero_le _) ?_
      obtain rfl : k = 10 := by omega
      exact K
    · refine AW.iload_n dX12_bits_10 rfl rfl ?_
      refine AW.iload_n dX12_bits_11 rfl rfl ?_
      refine AW.iload_n dX12_bits_12 rfl rfl ?_
      show AW muX12_bits _ _ 13 _ _ _ _
      refine AW.ishr dX12_bits_13 ?_
      refine AW.iconst (v := nI 1) dX12_bits_14 (by decide) ?_
      refine AW.iand dX12_bits_15 ?_
      refine AW.top (nI_bit hw (by omega)) ?_
      first | refine AW.iaddN dX12_bits_16 ?_ | refine AW.iadd dX12_bits_16 ?_
      refine AW.istore_n dX12_bits_17 rfl (by decide) rfl rfl ?_
      first | refine AW.iincN dX12_bits_18 rfl (by decide) rfl rfl ?_ | refine AW.iinc dX12_bits_18 rfl rfl (by decide) rfl rfl ?_
      show AW muX12_bits _ _ 21 _ _ _ _
      refine AW.goto (tgt := 4) dX12_bits_21 (by decide) ?_
      exact ih (k + 1) (by omega) (by omega)
theorem s_X12_bits {Q : Int32 → sd_S → Prop} {w : Nat} (hw : w < 2 ^ 31) (hQ : Q (nI (popc w)) (C, X, I, J)) : AWi muX12_bits [.int (nI w)] (C, X, I, J) Q := by
  show AW muX12_bits 0 0 0 [.int (nI w), .null, .null] [] _ _
  refine AW.iconst (v := nI 0) dX12_bits_0 (by decide) ?_
  refine AW.istore_n dX12_bits_1 rfl (by decide) rfl rfl ?_
  refine AW.iconst (v := nI 0) dX12_bits_2 (by decide) ?_
  refine AW.istore_n dX12_bits_3 rfl (by decide) rfl rfl ?_
  exact lp_X12_bits hw ⟨_, rfl, hQ⟩ 11 0 (by decide) (by decide)
theorem s_X12_firstLeft {Q : Int32 → sd_S → Prop} {d : Nat} (hd : d < 1000) (hQ : Q (nI (min (10 * d) 99)) (C, X, I, J)) : AWi muX12_firstLeft [.int (nI d)] (C, X, I, J) Q := by
  show AW muX12_firstLeft 0 0 0 [.int (nI d)] [] _ _
  refine AW.iload_n dX12_firstLeft_0 rfl rfl ?_
  refine AW.bipush (v := nI 10) dX12_firstLeft_1 (by decide) ?_
  first | refine AW.imulN dX12_firstLeft_3 ?_ | refine AW.imul dX12_firstLeft_3 ?_
  refine AW.bipush (v := nI 99) dX12_firstLeft_4 (by decide) ?_
  first | refine AW.icmp_leN (tgt := 14) dX12_firstLeft_6 (by decide) (by omega) (by omega) (fun c6 => ?_) (fun c6 => ?_) | refine AW.icmp_le (tgt := 14) dX12_firstLeft_6 (by decide) (fun c6 => ?_) (fun c6 => ?_)
  · refine AW.iload_n dX12_firstLeft_14 rfl rfl ?_
    refine AW.bipush (v := nI 10) dX12_firstLeft_15 (by decide) ?_
    show AW muX12_firstLeft _ _ 17 _ _ _ _
    first | refine AW.imulN dX12_firstLeft_17 ?_ | refine AW.imul dX12_firstLeft_17 ?_
    refine AW.iret dX12_firstLeft_18 ⟨_, rfl, rfl⟩ (Nat.zero_le _) (Nat.zero_le _) ⟨_, rfl, ?_⟩
    first | (rw [show min (10 * d) 99 = 99 by omega] at hQ; exact hQ) | (rw [show min (10 * d) 99 = d * 10 by omega] at hQ; exact hQ)
  · refine AW.bipush (v := nI 99) dX12_firstLeft_9 (by decide) ?_
    refine AW.goto (tgt := 18) dX12_firstLeft_11 (by decide) ?_
    refine AW.iret dX12_firstLeft_18 ⟨_, rfl, rfl⟩ (Nat.zero_le _) (Nat.zero_le _) ⟨_, rfl, ?_⟩
    first | (rw [show min (10 * d) 99 = 99 by omega] at hQ; exact hQ) | (rw [show min (10 * d) 99 = d * 10 by omega] at hQ; exact hQ)
theorem s_X12_loudBy {Q : Int32 → sd_S → Prop} {k d l n : Nat} (hk : k < 5) (hl : l < 2 ^ 30) (hn : n < 2 ^ 30) (hQ : Q (nI (mL k d l n)) (C, X, I, J)) : AWi muX12_loudBy [.int (nI k), .int (nI d), .int (nI l), .int (nI n)] (C, X, I, J) Q := by
  show AW muX12_loudBy 0 0 0 [.int (nI k), .int (nI d), .int (nI l), .int (nI n)] [] _ _
  refine AW.iload_n dX12_loudBy_0 rfl rfl ?_
  first | refine AW.if_neN (tgt := 6) dX12_loudBy_1 (by decide) (by omega) (fun c1 => ?_) (fun c1 => ?_) | refine AW.if_ne (tgt := 6) dX12_loudBy_1 (by decide) (fun c1 => ?_) (fun c1 => ?_)
  · refine AW.iload_n dX12_loudBy_6 rfl rfl ?_
    rcases (show k = 0 ∨ k = 1 ∨ k = 2 ∨ k = 3 ∨ k = 4 by omega) with rfl | rfl | rfl | rfl | rfl
    · refine AW.tableOut (tgt := 56) dX12_loudBy_7 (by decide) (by decide) ?_
      refine AW.iload_n dX12_loudBy_56 rfl rfl ?_
      refine AW.iret dX12_loudBy_57 ⟨_, rfl, rfl⟩ (Nat.zero_le _) (Nat.zero_le _) ⟨_, rfl, ?_⟩
      first | (rw [show mL 0 d l n = d by unfold mL; rw [if_neg (by omega), if_neg (by omega), if_neg (by omega), if_neg (by omega)]] at hQ; exact hQ) | (rw [show mL 2 d l n = d by unfold mL; rw [if_neg (by omega), if_neg (by omega), if_neg (by omega), if_neg (by omega)]] at hQ; exact hQ)
    · refine AW.tableIn (tgt := 36) dX12_loudBy_7 (by decide) (by decide) rfl (by decide) ?_
      refine AW.iconst (v := nI 2) dX12_loudBy_36 (by decide) ?_
      refine AW.iload_n dX12_loudBy_37 rfl rfl ?_
      first | refine AW.imulN dX12_loudBy_38 ?_ | refine AW.imul dX12_loudBy_38 ?_
      show AW muX12_loudBy _ _ 39 _ _ _ _
      refine AW.iret dX12_loudBy_39 ⟨_, rfl, rfl⟩ (Nat.zero_le _) (Nat.zero_le _) ⟨_, rfl, ?_⟩
      rw [show mL 1 d l n = 2 * d by unfold mL; rw [if_neg (by omega), if_pos rfl]] at hQ; exact hQ
    · refine AW.tableIn (tgt := 56) dX12_loudBy_7 (by decide) (by decide) rfl (by decide) ?_
      refine AW.iload_n dX12_loudBy_56 rfl rfl ?_
      refine AW.iret dX12_loudBy_57 ⟨_, rfl, rfl⟩ (Nat.zero_le _) (Nat.zero_le _) ⟨_, rfl, ?_⟩
      first | (rw [show mL 0 d l n = d by unfold mL; rw [if_neg (by omega), if_neg (by omega), if_neg (by omega), if_neg (by omega)]] at hQ; exact hQ) | (rw [show mL 2 d l n = d by unfold mL; rw [if_neg (by omega), if_neg (by omega), if_neg (by omega), if_neg (by omega)]] at hQ; exact hQ)
    · refine AW.tableIn (tgt := 40) dX12_loudBy_7 (by decide) (by decide) rfl (by decide) ?_
      refine AW.iload_n dX12_loudBy_40 rfl rfl ?_
      refine AW.iconst (v := nI 2) dX12_loudBy_41 (by decide) ?_
      first | refine AW.iremN dX12_loudBy_42 (by omega) (by omega) (by omega) ?_ | refine AW.irem dX12_loudBy_42 (by first | assumption | decide) ?_
      first | refine AW.if_neN (tgt := 50) dX12_loudBy_43 (by decide) (by omega) (fun c43 => ?_) (fun c43 => ?_) | refine AW.if_ne (tgt := 50) dX12_loudBy_43 (by decide) (fun c43 => ?_) (fun c43 => ?_)
      · refine AW.iconst (v := nI 2) dX12_loudBy_50 (by decide) ?_
        refine AW.iload_n dX12_loudBy_51 rfl rfl ?_
        show AW muX12_loudBy _ _ 52 _ _ _ _
        first | refine AW.imulN dX12_loudBy_52 ?_ | refine AW.imul dX12_loudBy_52 ?_
        refine AW.iret dX12_loudBy_53 ⟨_, rfl, rfl⟩ (Nat.zero_le _) (Nat.zero_le _) ⟨_, rfl, ?_⟩
        first | (rw [show mL 3 d l n = 0 by unfold mL; rw [if_neg (by omega), if_neg (by omega), if_pos rfl, if_pos (by omega)]] at hQ; exact hQ) | (rw [show mL 3 d l n = 2 * d by unfold mL; rw [if_neg (by omega), if_neg (by omega), if_pos rfl, if_neg (by omega)]] at hQ; exact hQ)
      · refine AW.iconst (v := nI 0) dX12_loudBy_46 (by decide) ?_
        refine AW.goto (tgt := 53) dX12_loudBy_47 (by decide) ?_
        refine AW.iret dX12_loudBy_53 ⟨_, rfl, rfl⟩ (Nat.zero_le _) (Nat.zero_le _) ⟨_, rfl, ?_⟩
        first | (rw [show mL 3 d l n = 0 by unfold mL; rw [if_neg (by omega), if_neg (by omega), if_pos rfl, if_pos (by omega)]] at hQ; exact hQ) | (rw [show mL 3 d l n = 2 * d by unfold mL; rw [if_neg (by omega), if_neg (by omega), if_pos rfl, if_neg (by omega)]] at hQ; exact hQ)
    · refine AW.tableIn (tgt := 54) dX12_loudBy_7 (by decide) (by decide) rfl (by decide) ?_
      refine AW.iconst (v := nI 1) dX12_loudBy_54 (by decide) ?_
      refine AW.iret dX12_loudBy_55 ⟨_, rfl, rfl⟩ (Nat.zero_le _) (Nat.zero_le _) ⟨_, rfl, ?_⟩
      rw [show mL 4 d l n = 1 by unfold mL; rw [if_neg (by omega), if_neg (by omega), if_neg (by omega), if_pos rfl]] at hQ; exact hQ
  · refine AW.iconst (v := nI 0) dX12_loudBy_4 (by decide) ?_
    refine AW.iret dX12_loudBy_5 ⟨_, rfl, rfl⟩ (Nat.zero_le _) (Nat.zero_le _) ⟨_, rfl, ?_⟩
    rw [show mL k d l n = 0 by unfold mL; rw [if_pos (by omega)]] at hQ; exact hQ
theorem s_X12_leftBy {Q : Int32 → sd_S → Prop} {k d l n : Nat} (hk : k < 5) (hd : d < 2 ^ 30) (hl : l < 2 ^ 30) (hn : n < 2 ^ 30) (hQ : Q (nI (mB k d l n)) (C, X, I, J)) : AWi muX12_leftBy [.int (nI k), .int (nI d), .int (nI l), .int (nI n)] (C, X, I, J) Q := by
  show AW muX12_leftBy 0 0 0 [.int (nI k), .int (nI d), .int (nI l), .int (nI n), .null] [] _ _
  have e0 : mB 0 d l n = l - d := rfl
  have e1 : mB 1 d l n = l - 1 := rfl
  have e2 : mB 2 d l n = l / 2 := rfl
  have e3 : mB 3 d l n = if n % 2 = 0 then l else l - 1 := rfl
  have e4 : mB 4 d l n = if n % 3 = 0 then l / 2 else l := rfl
  by_cases hl0 : l = 0
  · subst hl0
    refine AW.iload_n dX12_leftBy_0 rfl rfl ?_
    refine AW.if_le (tgt := 10) dX12_leftBy_1 (by decide) (fun _ => ?_) (fun c => absurd (by decide) c)
    refine AW.iconst (v := nI 0) dX12_leftBy_10 (by decide) ?_
    refine AW.istore dX12_leftBy_11 (by decide) rfl rfl ?_
    refine AW.iload_n dX12_leftBy_13 rfl rfl ?_
    rcases (show k = 0 ∨ k = 1 ∨ k = 2 ∨ k = 3 ∨ k = 4 by omega) with rfl | rfl | rfl | rfl | rfl
    · refine AW.tableIn (tgt := 44) dX12_leftBy_14 (by decide) (by decide) rfl (by decide) ?_
      refine AW.iload_n dX12_leftBy_44 rfl rfl ?_
      refine AW.iload_n dX12_leftBy_45 rfl rfl ?_
      first | refine AW.icmp_leN (tgt := 55) dX12_leftBy_46 (by decide) (by omega) (by omega) (fun c46 => ?_) (fun c46 => ?_) | refine AW.icmp_le (tgt := 55) dX12_leftBy_46 (by decide) (fun c46 => ?_) (fun c46 => ?_)
      · refine AW.iconst (v := nI 0) dX12_leftBy_55 (by decide) ?_
        show AW muX12_leftBy _ _ 56 _ _ _ _
        refine AW.iret dX12_leftBy_56 ⟨_, rfl, rfl⟩ (Nat.zero_le _) (Nat.zero_le _) ⟨_, rfl, ?_⟩
        first | omega | (rw [e0, show 0 - d = 0 by omega] at hQ; exact hQ)
      · refine AW.iload_n dX12_leftBy_49 rfl rfl ?_
        refine AW.iload_n dX12_leftBy_50 rfl rfl ?_
        first | refine AW.isubN dX12_leftBy_51 (by omega) ?_ | refine AW.isub dX12_leftBy_51 ?_
        refine AW.goto (tgt := 56) dX12_leftBy_52 (by decide) ?_
        refine AW.iret dX12_leftBy_56 ⟨_, rfl, rfl⟩ (Nat.zero_le _) (Nat.zero_le _) ⟨_, rfl, ?_⟩
        first | omega | (rw [e0, show 0 - d = 0 by omega] at hQ; exact hQ)
    · refine AW.tableIn (tgt := 57) dX12_leftBy_14 (by decide) (by decide) rfl (by decide) ?_
      refine AW.iload dX12_leftBy_57 rfl ?_
      refine AW.iret dX12_leftBy_59 ⟨_, rfl, rfl⟩ (Nat.zero_le _) (Nat.zero_le _) ⟨_, rfl, ?_⟩
      rw [e1, show 0 - 1 = 0 by omega] at hQ; exact hQ
    · refine AW.tableIn (tgt := 60) dX12_leftBy_14 (by decide) (by decide) rfl (by decide) ?_
      refine AW.iload_n dX12_leftBy_60 rfl rfl ?_
      refine AW.iconst (v := nI 2) dX12_leftBy_61 (by decide) ?_
      show AW muX12_leftBy _ _ 62 _ _ _ _
      first | refine AW.idivN dX12_leftBy_62 (by omega) (by omega) (by omega) ?_ | refine AW.idiv dX12_leftBy_62 (by first | assumption | decide) ?_
      refine AW.iret dX12_leftBy_63 ⟨_, rfl, rfl⟩ (Nat.zero_le _) (Nat.zero_le _) ⟨_, rfl, ?_⟩
      rw [e2] at hQ; exact hQ
    · refine AW.tableIn (tgt := 64) dX12_leftBy_14 (by decide) (by decide) rfl (by decide) ?_
      refine AW.iload_n dX12_leftBy_64 rfl rfl ?_
      refine AW.iconst (v := nI 2) dX12_leftBy_65 (by decide) ?_
      first | refine AW.iremN dX12_leftBy_66 (by omega) (by omega) (by omega) ?_ | refine AW.irem dX12_leftBy_66 (by first | assumption | decide) ?_
      first | refine AW.if_neN (tgt := 74) dX12_leftBy_67 (by decide) (by omega) (fun c67 => ?_) (fun c67 => ?_) | refine AW.if_ne (tgt := 74) dX12_leftBy_67 (by decide) (fun c67 => ?_) (fun c67 => ?_)
      · refine AW.iload dX12_leftBy_74 rfl ?_
        refine AW.iret dX12_leftBy_76 ⟨_, rfl, rfl⟩ (Nat.zero_le _) (Nat.zero_le _) ⟨_, rfl, ?_⟩
        first | (rw [e3, if_pos (by omega)] at hQ; exact hQ) | (rw [e3, if_neg (by omega), show 0 - 1 = 0 by omega] at hQ; exact hQ)
      · refine AW.iload_n dX12_leftBy_70 rfl rfl ?_
        show AW muX12_leftBy _ _ 71 _ _ _ _
        refine AW.goto (tgt := 76) dX12_leftBy_71 (by decide) ?_
        refine AW.iret dX12_leftBy_76 ⟨_, rfl, rfl⟩ (Nat.zero_le _) (Nat.zero_le _) ⟨_, rfl, ?_⟩
        first | (rw [e3, if_pos (by omega)] at hQ; exact hQ) | (rw [e3, if_neg (by omega), show 0 - 1 = 0 by omega] at hQ; exact hQ)
    · refine AW.tableOut (tgt := 77) dX12_leftBy_14 (by decide) (by decide) ?_
      refine AW.iload_n dX12_leftBy_77 rfl rfl ?_
      refine AW.iconst (v := nI 3) dX12_leftBy_78 (by decide) ?_
      first | refine AW.iremN dX12_leftBy_79 (by omega) (by omega) (by omega) ?_ | refine AW.irem dX12_leftBy_79 (by first | assumption | decide) ?_
      first | refine AW.if_neN (tgt := 89) dX12_leftBy_80 (by decide) (by omega) (fun c80 => ?_) (fun c80 => ?_) | refine AW.if_ne (tgt := 89) dX12_leftBy_80 (by decide) (fun c80 => ?_) (fun c80 => ?_)
      · refine AW.iload_n dX12_leftBy_89 rfl rfl ?_
        refine AW.iret dX12_leftBy_90 ⟨_, rfl, rfl⟩ (Nat.zero_le _) (Nat.zero_le _) ⟨_, rfl, ?_⟩
        first | (rw [e4, if_pos (by omega)] at hQ; exact hQ) | (rw [e4, if_neg (by omega)] at hQ; exact hQ)
      · refine AW.iload_n dX12_leftBy_83 rfl rfl ?_
        refine AW.iconst (v := nI 2) dX12_leftBy_84 (by decide) ?_
        show AW muX12_leftBy _ _ 85 _ _ _ _
        first | refine AW.idivN dX12_leftBy_85 (by omega) (by omega) (by omega) ?_ | refine AW.idiv dX12_leftBy_85 (by first | assumption | decide) ?_
        refine AW.goto (tgt := 90) dX12_leftBy_86 (by decide) ?_
        refine AW.iret dX12_leftBy_90 ⟨_, rfl, rfl⟩ (Nat.zero_le _) (Nat.zero_le _) ⟨_, rfl, ?_⟩
        first | (rw [e4, if_pos (by omega)] at hQ; exact hQ) | (rw [e4, if_neg (by omega)] at hQ; exact hQ)
  · refine AW.iload_n dX12_leftBy_0 rfl rfl ?_
    refine AW.if_le (tgt := 10) dX12_leftBy_1 (by decide) (fun c => absurd ((nI_leI (a := l) (b := 0) (by omega) (by decide)).mp c) (by omega)) (fun _ => ?_)
    refine AW.iload_n dX12_leftBy_4 rfl rfl ?_
    refine AW.iconst (v := nI 1) dX12_leftBy_5 (by decide) ?_
    first | refine AW.isubN dX12_leftBy_6 (by omega) ?_ | refine AW.isub dX12_leftBy_6 ?_
    refine AW.goto (tgt := 11) dX12_leftBy_7 (by decide) ?_
    refine AW.istore dX12_leftBy_11 (by decide) rfl rfl ?_
    refine AW.iload_n dX12_leftBy_13 rfl rfl ?_
    rcases (show k = 0 ∨ k = 1 ∨ k = 2 ∨ k = 3 ∨ k = 4 by omega) with rfl | rfl | rfl | rfl | rfl
    · refine AW.tableIn (tgt := 44) dX12_leftBy_14 (by decide) (by decide) rfl (by decide) ?_
      refine AW.iload_n dX12_leftBy_44 rfl rfl ?_
      show AW muX12_leftBy _ _ 45 _ _ _ _
      refine AW.iload_n dX12_leftBy_45 rfl rfl ?_
      first | refine AW.icmp_leN (tgt := 55) dX12_leftBy_46 (by decide) (by omega) (by omega) (fun c46 => ?_) (fun c46 => ?_) | refine AW.icmp_le (tgt := 55) dX12_leftBy_46 (by decide) (fun c46 => ?_) (fun c46 => ?_)
      · refine AW.iconst (v := nI 0) dX12_leftBy_55 (by decide) ?_
        refine AW.iret dX12_leftBy_56 ⟨_, rfl, rfl⟩ (Nat.zero_le _) (Nat.zero_le _) ⟨_, rfl, ?_⟩
        first | (rw [e0] at hQ; exact hQ) | (rw [e0, show l - d = 0 by omega] at hQ; exact hQ)
      · refine AW.iload_n dX12_leftBy_49 rfl rfl ?_
        refine AW.iload_n dX12_leftBy_50 rfl rfl ?_
        first | refine AW.isubN dX12_leftBy_51 (by omega) ?_ | refine AW.isub dX12_leftBy_51 ?_
        refine AW.goto (tgt := 56) dX12_leftBy_52 (by decide) ?_
        refine AW.iret dX12_leftBy_56 ⟨_, rfl, rfl⟩ (Nat.zero_le _) (Nat.zero_le _) ⟨_, rfl, ?_⟩
        first | (rw [e0] at hQ; exact hQ) | (rw [e0, show l - d = 0 by omega] at hQ; exact hQ)
    · refine AW.tableIn (tgt := 57) dX12_leftBy_14 (by decide) (by decide) rfl (by decide) ?_
      refine AW.iload dX12_leftBy_57 rfl ?_
      show AW muX12_leftBy _ _ 59 _ _ _ _
      refine AW.iret dX12_leftBy_59 ⟨_, rfl, rfl⟩ (Nat.zero_le _) (Nat.zero_le _) ⟨_, rfl, ?_⟩
      rw [e1] at hQ; exact hQ
    · refine AW.tableIn (tgt := 60) dX12_leftBy_14 (by decide) (by decide) rfl (by decide) ?_
      refine AW.iload_n dX12_leftBy_60 rfl rfl ?_
      refine AW.iconst (v := nI 2) dX12_leftBy_61 (by decide) ?_
      first | refine AW.idivN dX12_leftBy_62 (by omega) (by omega) (by omega) ?_ | refine AW.idiv dX12_leftBy_62 (by first | assumption | decide) ?_
      refine AW.iret dX12_leftBy_63 ⟨_, rfl, rfl⟩ (Nat.zero_le _) (Nat.zero_le _) ⟨_, rfl, ?_⟩
      rw [e2] at hQ; exact hQ
    · refine AW.tableIn (tgt := 64) dX12_leftBy_14 (by decide) (by decide) rfl (by decide) ?_
      refine AW.iload_n dX12_leftBy_64 rfl rfl ?_
      refine AW.iconst (v := nI 2) dX12_leftBy_65 (by decide) ?_
      first | refine AW.iremN dX12_leftBy_66 (by omega) (by omega) (by omega) ?_ | refine AW.irem dX12_leftBy_66 (by first | assumption | decide) ?_
      show AW muX12_leftBy _ _ 67 _ _ _ _
      first | refine AW.if_neN (tgt := 74) dX12_leftBy_67 (by decide) (by omega) (fun c67 => ?_) (fun c67 => ?_) | refine AW.if_ne (tgt := 74) dX12_leftBy_67 (by decide) (fun c67 => ?_) (fun c67 => ?_)
      · refine AW.iload dX12_leftBy_74 rfl ?_
        refine AW.iret dX12_leftBy_76 ⟨_, rfl, rfl⟩ (Nat.zero_le _) (Nat.zero_le _) ⟨_, rfl, ?_⟩
        first | (rw [e3, if_pos (by omega)] at hQ; exact hQ) | (rw [e3, if_neg (by omega)] at hQ; exact hQ)
      · refine AW.iload_n dX12_leftBy_70 rfl rfl ?_
        refine AW.goto (tgt := 76) dX12_leftBy_71 (by decide) ?_
        refine AW.iret dX12_leftBy_76 ⟨_, rfl, rfl⟩ (Nat.zero_le _) (Nat.zero_le _) ⟨_, rfl, ?_⟩
        first | (rw [e3, if_pos (by omega)] at hQ; exact hQ) | (rw [e3, if_neg (by omega)] at hQ; exact hQ)
    · refine AW.tableOut (tgt := 77) dX12_leftBy_14 (by decide) (by decide) ?_
      refine AW.iload_n dX12_leftBy_77 rfl rfl ?_
      refine AW.iconst (v := nI 3) dX12_leftBy_78 (by decide) ?_
      first | refine AW.iremN dX12_leftBy_79 (by omega) (by omega) (by omega) ?_ | refine AW.irem dX12_leftBy_79 (by first | assumption | decide) ?_
      first | refine AW.if_neN (tgt := 89) dX12_leftBy_80 (by decide) (by omega) (fun c80 => ?_) (fun c80 => ?_) | refine AW.if_ne (tgt := 89) dX12_leftBy_80 (by decide) (fun c80 => ?_) (fun c80 => ?_)
      · refine AW.iload_n dX12_leftBy_89 rfl rfl ?_
        show AW muX12_leftBy _ _ 90 _ _ _ _
        refine AW.iret dX12_leftBy_90 ⟨_, rfl, rfl⟩ (Nat.zero_le _) (Nat.zero_le _) ⟨_, rfl, ?_⟩
        first | (rw [e4, if_pos (by omega)] at hQ; exact hQ) | (rw [e4, if_neg (by omega)] at hQ; exact hQ)
      · refine AW.iload_n dX12_leftBy_83 rfl rfl ?_
        refine AW.iconst (v := nI 2) dX12_leftBy_84 (by decide) ?_
        first | refine AW.idivN dX12_leftBy_85 (by omega) (by omega) (by omega) ?_ | refine AW.idiv dX12_leftBy_85 (by first | assumption | decide) ?_
        refine AW.goto (tgt := 90) dX12_leftBy_86 (by decide) ?_
        refine AW.iret dX12_leftBy_90 ⟨_, rfl, rfl⟩ (Nat.zero_le _) (Nat.zero_le _) ⟨_, rfl, ?_⟩
        first | (rw [e4, if_pos (by omega)] at hQ; exact hQ) | (rw [e4, if_neg (by omega)] at hQ; exact hQ)
theorem s_X12_loudOf {Q : Int32 → sd_S → Prop} {t : Nat} (hI : isA a) (hm : 64 ≤ m) (hV : NV N) (hA : AS I0 I a m N) (ht : t < N 47) (hQ : Q (nI (loudT N t)) (sk0, X, I, J)) : AWi muX12_loudOf [.ref a, .int (nI t)] (sk0, X, I, J) Q := by
  have h8 := hV.t8
  have := hV.kd ht
  have := hV.lf ht
  have := hV.ni
  show AW muX12_loudOf 0 0 0 [.ref a, .int (nI t)] [] _ _
  refine AW.aload_n dX12_loudOf_0 rfl rfl ?_
  refine AW.bipush (v := nI 48) dX12_loudOf_1 (by decide) ?_
  refine AW.iload_n dX12_loudOf_3 rfl rfl ?_
  first | refine AW.iaddN dX12_loudOf_4 ?_ | refine AW.iadd dX12_loudOf_4 ?_
  refine AW.iald dX12_loudOf_5 (by first | exact hI.c) _ (by first | rfl | assumption) (by omega) (by first | decide | omega) ?_
  first | refine AW.top (by first | exact AS.g hA (by omega)) ?_ | skip
  refine AW.aload_n dX12_loudOf_6 rfl rfl ?_
  show AW muX12_loudOf _ _ 7 _ _ _ _
  refine AW.bipush (v := nI 56) dX12_loudOf_7 (by decide) ?_
  refine AW.iload_n dX12_loudOf_9 rfl rfl ?_
  first | refine AW.iaddN dX12_loudOf_10 ?_ | refine AW.iadd dX12_loudOf_10 ?_
  refine AW.iald dX12_loudOf_11 (by first | exact hI.c) _ (by first | rfl | assumption) (by omega) (by first | decide | omega) ?_
  first | refine AW.top (by first | exact AS.g hA (by omega)) ?_ | skip
  refine AW.aload_n dX12_loudOf_12 rfl rfl ?_
  refine AW.bipush (v := nI 18) dX12_loudOf_13 (by decide) ?_
  show AW muX12_loudOf _ _ 15 _ _ _ _
  refine AW.iload_n dX12_loudOf_15 rfl rfl ?_
  first | refine AW.iaddN dX12_loudOf_16 ?_ | refine AW.iadd dX12_loudOf_16 ?_
  refine AW.iald dX12_loudOf_17 (by first | exact hI.c) _ (by first | rfl | assumption) (by omega) (by first | decide | omega) ?_
  first | refine AW.top (by first | exact AS.g hA (by omega)) ?_ | skip
  refine AW.aload_n dX12_loudOf_18 rfl rfl ?_
  refine AW.iconst (v := nI 0) dX12_loudOf_19 (by decide) ?_
  refine AW.iald dX12_loudOf_20 (by first | exact hI.c) _ (by first | rfl | assumption) (by omega) (by first | decide | omega) ?_
  first | refine AW.top (by first | exact AS.g hA (by omega)) ?_ | skip
  show AW muX12_loudOf _ _ 21 _ _ _ _
  refine cs_X12_loudOf_21 (by decide) (by decide) (Nat.le_of_ble_eq_true rfl) (s_X12_loudBy (by omega) (by omega) (by omega) ?_)
  refine AW.iret dX12_loudOf_24 ⟨_, rfl, rfl⟩ (Nat.zero_le _) (Nat.zero_le _) ⟨_, rfl, ?_⟩
  exact hQ
theorem lp_X12_loudIn {r : Nat} (hI : isA a) (hm : 64 ≤ m) (hV : NV N) (hA : AS I0 I a m N) (hr : r < 2 ^ 30) {Q : Option Int32 → sd_S → Prop} (K : Q (some (nI (loudR N r))) (sk0, X, I, J)) : ∀ (m k : Nat), N 47 - k < m → k ≤ N 47 → AW muX12_loudIn 0 0 4 [.ref a, .int (nI r), .int (nI (sumN k (fun t => if N (2 + t) = r then loudT N t else 0))), .int (nI k)] [] (sk0, X, I, J) Q := by
  have h8 := hV.t8
  intro m
  induction m with
  | zero => intros; omega
  | succ m ih =>
    intro k hm hk
    refine AW.iload_n dX12_loudIn_4 rfl rfl ?_
    refine AW.aload_n dX12_loudIn_5 rfl rfl ?_
    refine AW.bipush (v := nI 47) dX12_loudIn_6 (by decide) ?_
    refine AW.iald dX12_loudIn_8 (by first | exact hI.c) _ (by first | rfl | assumption) (by omega) (by first | decide | omega) ?_
    first | refine AW.top (by first | exact AS.g hA (by omega)) ?_ | skip
    first | refine AW.icmp_geN (tgt := 39) dX12_loudIn_9 (by decide) (by omega) (by omega) (fun c9 => ?_) (fun c9 => ?_) | refine AW.icmp_ge (tgt := 39) dX12_loudIn_9 (by decide) (fun c9 => ?_) (fun c9 => ?_)
    · refine AW.iload_n dX12_loudIn_39 rfl rfl ?_
      refine AW.iret dX12_loudIn_40 ⟨_, rfl, rfl⟩ (Nat.zero_le _) (Nat.zero_le _) ?_
      obtain rfl : k = N 47 := by omega
      exact K
    · have := hV.pl c9
      have hs : sumN (k + 1) (fun t => if N (2 + t) = r then loudT N t else 0) = sumN k (fun t => if N (2 + t) = r then loudT N t else 0) + (if N (2 + k) = r then loudT N k else 0) := rfl
      refine AW.iload_n dX12_loudIn_12 rfl rfl ?_
      show AW muX12_loudIn _ _ 13 _ _ _ _
      refine AW.aload_n dX12_loudIn_13 rfl rfl ?_
      refine AW.iconst (v := nI 2) dX12_loudIn_14 (by decide) ?_
      refine AW.iload_n dX12_loudIn_15 rfl rfl ?_
      first | refine AW.iaddN dX12_loudIn_16 ?_ | refine AW.iadd dX12_loudIn_16 ?_
      refine AW.iald dX12_loudIn_17 (by first | exact hI.c) _ (by first | rfl | assumption) (by omega) (by first | decide | omega) ?_
      first | refine AW.top (by first | exact AS.g hA (by omega)) ?_ | skip
      refine AW.iload_n dX12_loudIn_18 rfl rfl ?_
      show AW muX12_loudIn _ _ 19 _ _ _ _
      first | refine AW.icmp_neN (tgt := 30) dX12_loudIn_19 (by decide) (by omega) (by omega) (fun c19 => ?_) (fun c19 => ?_) | refine AW.icmp_ne (tgt := 30) dX12_loudIn_19 (by decide) (fun c19 => ?_) (fun c19 => ?_)
      · refine AW.iconst (v := nI 0) dX12_loudIn_30 (by decide) ?_
        first | refine AW.iaddN dX12_loudIn_31 ?_ | refine AW.iadd dX12_loudIn_31 ?_
        refine AW.istore_n dX12_loudIn_32 rfl (by decide) rfl rfl ?_
        first | refine AW.iincN dX12_loudIn_33 rfl (by decide) rfl rfl ?_ | refine AW.iinc dX12_loudIn_33 rfl rfl (by decide) rfl rfl ?_
        refine AW.goto (tgt := 4) dX12_loudIn_36 (by decide) ?_
        have := ih (k + 1) (by omega) (by omega)
        rw [hs] at this
        first | (rw [if_pos c19] at this; exact this) | (rw [if_neg c19] at this; exact this)
      · refine AW.aload_n dX12_loudIn_22 rfl rfl ?_
        refine AW.iload_n dX12_loudIn_23 rfl rfl ?_
        show AW muX12_loudIn _ _ 24 _ _ _ _
        refine cs_X12_loudIn_24 (by decide) (by decide) (Nat.le_of_ble_eq_true rfl) (s_X12_loudOf hI (by omega) hV hA (by omega) ?_)
        refine AW.goto (tgt := 31) dX12_loudIn_27 (by decide) ?_
        first | refine AW.iaddN dX12_loudIn_31 ?_ | refine AW.iadd dX12_loudIn_31 ?_
        refine AW.istore_n dX12_loudIn_32 rfl (by decide) rfl rfl ?_
        first | refine AW.iincN dX12_loudIn_33 rfl (by decide) rfl rfl ?_ | refine AW.iinc dX12_loudIn_33 rfl rfl (by decide) rfl rfl ?_
        refine AW.goto (tgt := 4) dX12_loudIn_36 (by decide) ?_
        have := ih (k + 1) (by omega) (by omega)
        rw [hs] at this
        first | (rw [if_pos c19] at this; exact this) | (rw [if_neg c19] at this; exact this)
theorem s_X12_loudIn {Q : Int32 → sd_S → Prop} {r : Nat} (hI : isA a) (hm : 64 ≤ m) (hV : NV N) (hA : AS I0 I a m N) (hr : r < 2 ^ 30) (hQ : Q (nI (loudR N r)) (sk0, X, I, J)) : AWi muX12_loudIn [.ref a, .int (nI r)] (sk0, X, I, J) Q := by
  show AW muX12_loudIn 0 0 0 [.ref a, .int (nI r), .null, .null] [] _ _
  refine AW.iconst (v := nI 0) dX12_loudIn_0 (by decide) ?_
  refine AW.istore_n dX12_loudIn_1 rfl (by decide) rfl rfl ?_
  refine AW.iconst (v := nI 0) dX12_loudIn_2 (by decide) ?_
  refine AW.istore_n dX12_loudIn_3 rfl (by decide) rfl rfl ?_
  exact lp_X12_loudIn hI hm hV hA hr ⟨_, rfl, hQ⟩ (N 47 + 1) 0 (by omega) (by omega)
theorem s_X12_isAsleep {Q : Int32 → sd_S → Prop} {s : Nat} (hI : isA a) (hm : 64 ≤ m) (hV : NV N) (hA : AS I0 I a m N) (hs : s < N 36) (hT : asleepB N s = true → Q (nI 1) (sk0, X, I, J)) (hF : asleepB N s = false → Q (nI 0) (sk0, X, I, J)) : AWi muX12_isAsleep [.ref a, .int (nI s)] (sk0, X, I, J) Q := by
  have h5 := hV.s5
  have := hV.bd hs
  have := hV.br hs
  have := loudR_le hV (N (37 + s))
  show AW muX12_isAsleep 0 0 0 [.ref a, .int (nI s)] [] _ _
  refine AW.aload_n dX12_isAsleep_0 rfl rfl ?_
  refine AW.aload_n dX12_isAsleep_1 rfl rfl ?_
  refine AW.bipush (v := nI 37) dX12_isAsleep_2 (by decide) ?_
  refine AW.iload_n dX12_isAsleep_4 rfl rfl ?_
  first | refine AW.iaddN dX12_isAsleep_5 ?_ | refine AW.iadd dX12_isAsleep_5 ?_
  refine AW.iald dX12_isAsleep_6 (by first | exact hI.c) _ (by first | rfl | assumption) (by omega) (by first | decide | omega) ?_
  first | refine AW.top (by first | exact AS.g hA (by omega)) ?_ | skip
  show AW muX12_isAsleep _ _ 7 _ _ _ _
  refine cs_X12_isAsleep_7 (by decide) (by decide) (Nat.le_of_ble_eq_true rfl) (s_X12_loudIn hI hm hV hA (by omega) ?_)
  refine AW.aload_n dX12_isAsleep_10 rfl rfl ?_
  refine AW.bipush (v := nI 42) dX12_isAsleep_11 (by decide) ?_
  refine AW.iload_n dX12_isAsleep_13 rfl rfl ?_
  first | refine AW.iaddN dX12_isAsleep_14 ?_ | refine AW.iadd dX12_isAsleep_14 ?_
  refine AW.iald dX12_isAsleep_15 (by first | exact hI.c) _ (by first | rfl | assumption) (by omega) (by first | decide | omega) ?_
  first | refine AW.top (by first | exact AS.g hA (by omega)) ?_ | skip
  show AW muX12_isAsleep _ _ 16 _ _ _ _
  first | refine AW.icmp_gtN (tgt := 23) dX12_isAsleep_16 (by decide) (by omega) (by omega) (fun c16 => ?_) (fun c16 => ?_) | refine AW.icmp_gt (tgt := 23) dX12_isAsleep_16 (by decide) (fun c16 => ?_) (fun c16 => ?_)
  · refine AW.iconst (v := nI 0) dX12_isAsleep_23 (by decide) ?_
    refine AW.iret dX12_isAsleep_24 ⟨_, rfl, by decide⟩ (Nat.zero_le _) (Nat.zero_le _) ⟨_, rfl, ?_⟩
    exact hF (decide_eq_false (by omega))
  · refine AW.iconst (v := nI 1) dX12_isAsleep_19 (by decide) ?_
    refine AW.goto (tgt := 24) dX12_isAsleep_20 (by decide) ?_
    refine AW.iret dX12_isAsleep_24 ⟨_, rfl, by decide⟩ (Nat.zero_le _) (Nat.zero_le _) ⟨_, rfl, ?_⟩
    exact hT (decide_eq_true (by omega))
theorem lp_X12_wokenIn {n : Nat} {f : Nat → Nat} (hI : isA a) (hn : I a 36 = nI n) (hn5 : n ≤ 5) (hf : ∀ s, s < n → I a (31 + s) = nI (f s)) {Q : Option Int32 → sd_S → Prop} (K : Q (some (nI (sumN n f))) (sk0, X, I, J)) : ∀ (m k : Nat), n - k < m → k ≤ n → AW muX12_wokenIn 0 0 4 [.ref a, .int (nI (sumN k f)), .int (nI k)] [] (sk0, X, I, J) Q := by
  intro m
  induction m with
  | zero => intros; omega
  | succ m ih =>
    intro k hm hk
    refine AW.iload_n dX12_wokenIn_4 rfl rfl ?_
    refine AW.aload_n dX12_wokenIn_5 rfl rfl ?_
    refine AW.bipush (v := nI 36) dX12_wokenIn_6 (by decide) ?_
    refine AW.iald dX12_wokenIn_8 (by first | exact hI.c) _ (by first | rfl | assumption) (by omega) (by first | decide | omega) ?_
    refine AW.top (hn) ?_
    first | refine AW.icmp_geN (tgt := 27) dX12_wokenIn_9 (by decide) (by omega) (by omega) (fun c9 => ?_) (fun c9 => ?_) | refine AW.icmp_ge (tgt := 27) dX12_wokenIn_9 (by decide) (fun c9 => ?_) (fun c9 => ?_)
    · refine AW.iload_n dX12_wokenIn_27 rfl rfl ?_
      refine AW.iret dX12_wokenIn_28 ⟨_, rfl, rfl⟩ (Nat.zero_le _) (Nat.zero_le _) ?_
      obtain rfl : k = n := by omega
      exact K
    · refine AW.iload_n dX12_wokenIn_12 rfl rfl ?_
      show AW muX12_wokenIn _ _ 13 _ _ _ _
      refine AW.aload_n dX12_wokenIn_13 rfl rfl ?_
      refine AW.bipush (v := nI 31) dX12_wokenIn_14 (by decide) ?_
      refine AW.iload_n dX12_wokenIn_16 rfl rfl ?_
      first | refine AW.iaddN dX12_wokenIn_17 ?_ | refine AW.iadd dX12_wokenIn_17 ?_
      refine AW.iald dX12_wokenIn_18 (by first | exact hI.c) _ (by first | rfl | assumption) (by omega) (by first | decide | omega) ?_
      refine AW.top (hf k c9) ?_
      first | refine AW.iaddN dX12_wokenIn_19 ?_ | refine AW.iadd dX12_wokenIn_19 ?_
      show AW muX12_wokenIn _ _ 20 _ _ _ _
      refine AW.istore_n dX12_wokenIn_20 rfl (by decide) rfl rfl ?_
      first | refine AW.iincN dX12_wokenIn_21 rfl (by decide) rfl rfl ?_ | refine AW.iinc dX12_wokenIn_21 rfl rfl (by decide) rfl rfl ?_
      refine AW.goto (tgt := 4) dX12_wokenIn_24 (by decide) ?_
      exact ih (k + 1) (by omega) (by omega)
theorem s_X12_wokenIn {Q : Int32 → sd_S → Prop} (hI : isA a) (hm : 64 ≤ m) (hA : AS I0 I a m N) (h5 : N 36 ≤ 5) (hQ : Q (nI (sumN (N 36) (fun s => N (31 + s)))) (sk0, X, I, J)) : AWi muX12_wokenIn [.ref a] (sk0, X, I, J) Q := by
  show AW muX12_wokenIn 0 0 0 [.ref a, .null, .null] [] _ _
  refine AW.iconst (v := nI 0) dX12_wokenIn_0 (by decide) ?_
  refine AW.istore_n dX12_wokenIn_1 rfl (by decide) rfl rfl ?_
  refine AW.iconst (v := nI 0) dX12_wokenIn_2 (by decide) ?_
  refine AW.istore_n dX12_wokenIn_3 rfl (by decide) rfl rfl ?_
  exact lp_X12_wokenIn hI (hA.g (by omega)) h5 (fun s hs => hA.g (by omega)) ⟨_, rfl, hQ⟩ (N 36 + 1) 0 (by omega) (by omega)
end Model1
