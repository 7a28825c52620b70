-- reading a house from the tape: the mathematics, and the class's Reader
def skF (f : Nat → Nat) (L : Nat) : Nat → Nat → Nat
  | 0, p => p
  | n + 1, p => if p < L ∧ f p = 32 then skF f L n (p + 1) else p
def skp (f : Nat → Nat) (L p : Nat) : Nat := skF f L (L - p) p
theorem skp_eq (f : Nat → Nat) (L p : Nat) : skp f L p = if p < L ∧ f p = 32 then skp f L (p + 1) else p := by
  unfold skp
  by_cases h : p < L
  · rw [show L - p = (L - (p + 1)) + 1 by omega, skF]
  · rw [show L - p = 0 by omega, skF, if_neg (by omega)]
theorem skp_yes {f : Nat → Nat} {L p : Nat} (h : p < L) (e : f p = 32) : skp f L p = skp f L (p + 1) := by rw [skp_eq, if_pos ⟨h, e⟩]
theorem skp_no {f : Nat → Nat} {L p : Nat} (h : ¬ (p < L ∧ f p = 32)) : skp f L p = p := by rw [skp_eq, if_neg h]
theorem skF_le {f : Nat → Nat} {L : Nat} : ∀ (n p : Nat), p ≤ L → skF f L n p ≤ L := by
  intro n
  induction n with
  | zero => intro p h; rw [skF]; exact h
  | succ n ih =>
    intro p h
    rw [skF]
    split
    · exact ih (p + 1) (by omega)
    · exact h
theorem skp_le {f : Nat → Nat} {L p : Nat} (h : p ≤ L) : skp f L p ≤ L := skF_le _ _ h
def rdD (f : Nat → Nat) (L lo hi p : Nat) : Nat × Option Nat :=
  if skp f L p < L ∧ 48 + lo ≤ f (skp f L p) ∧ f (skp f L p) ≤ 48 + hi then (skp f L p + 1, some (f (skp f L p) - 48)) else (skp f L p, none)
def rdC (f : Nat → Nat) (L c p : Nat) : Nat × Bool := if skp f L p < L ∧ f (skp f L p) = c then (skp f L p + 1, true) else (skp f L p, false)
def rdN (f : Nat → Nat) (L p : Nat) : Nat × Option Nat :=
  match (rdD f L 0 9 p).2 with
  | none => ((rdD f L 0 9 p).1, none)
  | some d => if (rdD f L 0 9 p).1 < L ∧ 48 ≤ f (rdD f L 0 9 p).1 ∧ f (rdD f L 0 9 p).1 ≤ 57 then
      (if 10 * d + (f (rdD f L 0 9 p).1 - 48) ≤ 60 then ((rdD f L 0 9 p).1 + 1, some (10 * d + (f (rdD f L 0 9 p).1 - 48))) else ((rdD f L 0 9 p).1 - 1, none))
    else ((rdD f L 0 9 p).1, some d)
def rdK (f : Nat → Nat) (L p : Nat) : Nat × Option Nat :=
  if skp f L p < L then (match kdN (f (skp f L p)) with | none => (skp f L p, none) | some k => (skp f L p + 1, some k)) else (skp f L p, none)
theorem rdD_le {f : Nat → Nat} {L lo hi p : Nat} (h : p ≤ L) : (rdD f L lo hi p).1 ≤ L := by
  have := skp_le (f := f) h
  unfold rdD; split <;> simp only <;> omega
theorem rdD_pos {f : Nat → Nat} {L lo hi p v : Nat} (h : (rdD f L lo hi p).2 = some v) : 1 ≤ (rdD f L lo hi p).1 ∧ lo ≤ v ∧ v ≤ hi := by
  unfold rdD at h ⊢
  split at h
  · rename_i c
    rw [if_pos c]
    simp only [Option.some.injEq] at h
    simp only
    omega
  · simp at h
theorem rdC_le {f : Nat → Nat} {L c p : Nat} (h : p ≤ L) : (rdC f L c p).1 ≤ L := by
  have := skp_le (f := f) h
  unfold rdC; split <;> simp only <;> omega
theorem rdN_le {f : Nat → Nat} {L p : Nat} (h : p ≤ L) : (rdN f L p).1 ≤ L := by
  have := rdD_le (f := f) (lo := 0) (hi := 9) h
  unfold rdN
  split
  · exact this
  · split
    · split <;> simp only <;> omega
    · exact this
theorem rdN_v {f : Nat → Nat} {L p v : Nat} (h : (rdN f L p).2 = some v) : v ≤ 60 := by
  unfold rdN at h
  split at h
  · simp at h
  · rename_i d hd
    have := rdD_pos hd
    split at h
    · split at h
      · simp only [Option.some.injEq] at h; omega
      · simp at h
    · simp only [Option.some.injEq] at h; omega
theorem kdN_lt {c k : Nat} (h : kdN c = some k) : k < 5 := by
  unfold kdN at h
  (repeat' split at h) <;> simp_all <;> omega
theorem rdK_le {f : Nat → Nat} {L p : Nat} (h : p ≤ L) : (rdK f L p).1 ≤ L := by
  have := skp_le (f := f) h
  unfold rdK
  split
  · split <;> simp only <;> omega
  · simp only; omega
theorem rdK_v {f : Nat → Nat} {L p v : Nat} (h : (rdK f L p).2 = some v) : v < 5 := by
  unfold rdK at h
  split at h
  · split at h
    · simp at h
    · rename_i k hk
      simp only [Option.some.injEq] at h
      subst h
      exact kdN_lt hk
  · simp at h
def rdS (f : Nat → Nat) (L p : Nat) (N : Nat → Nat) : Nat × Option (Nat → Nat) :=
  match (rdD f L 0 3 p).2 with
  | none => ((rdD f L 0 3 p).1, none)
  | some r => match (rdC f L 58 (rdD f L 0 3 p).1).2 with
    | false => ((rdC f L 58 (rdD f L 0 3 p).1).1, none)
    | true => match (rdN f L (rdC f L 58 (rdD f L 0 3 p).1).1).2 with
      | none => ((rdN f L (rdC f L 58 (rdD f L 0 3 p).1).1).1, none)
      | some b => ((rdN f L (rdC f L 58 (rdD f L 0 3 p).1).1).1, some (addS N r b))
def rdT1 (f : Nat → Nat) (L p : Nat) (N : Nat → Nat) (k g d : Nat) : Nat × Option (Nat → Nat) :=
  match (rdD f L 0 3 p).2 with
  | none => ((rdD f L 0 3 p).1, none)
  | some r => ((rdD f L 0 3 p).1, some (addT N k g d r))
def rdT2 (f : Nat → Nat) (L p : Nat) (N : Nat → Nat) (k g : Nat) : Nat × Option (Nat → Nat) :=
  match (rdD f L 1 9 p).2 with
  | none => ((rdD f L 1 9 p).1, none)
  | some d => rdT1 f L (rdD f L 1 9 p).1 N k g d
def rdT3 (f : Nat → Nat) (L p : Nat) (N : Nat → Nat) (k : Nat) : Nat × Option (Nat → Nat) :=
  match (rdD f L 0 9 p).2 with
  | none => ((rdD f L 0 9 p).1, none)
  | some g => rdT2 f L (rdD f L 0 9 p).1 N k g
def rdT (f : Nat → Nat) (L p : Nat) (N : Nat → Nat) : Nat × Option (Nat → Nat) :=
  match (rdK f L p).2 with
  | none => ((rdK f L p).1, none)
  | some k => rdT3 f L (rdK f L p).1 N k
/-- n items more, one after another, by the reading R of one -/
def rdL (f : Nat → Nat) (L : Nat) (R : Nat → (Nat → Nat) → Nat × Option (Nat → Nat)) : Nat → Nat → (Nat → Nat) → Nat × Option (Nat → Nat)
  | 0, p, N => (p, some N)
  | n + 1, p, N => match (R p N).2 with
    | none => ((R p N).1, none)
    | some N' => if n = 0 then ((R p N).1, some N') else
      match (rdC f L 44 (R p N).1).2 with
      | true => rdL f L R n (rdC f L 44 (R p N).1).1 N'
      | false => ((rdC f L 44 (R p N).1).1, some N')
/-- the end of a house: nothing but blanks -/
def rdE (f : Nat → Nat) (L p : Nat) (N : Nat → Nat) : Nat × Option (Nat → Nat) := (skp f L p, if skp f L p = L then some N else none)
def rdH2 (f : Nat → Nat) (L p : Nat) (N : Nat → Nat) : Nat × Option (Nat → Nat) :=
  match (rdC f L 59 p).2 with
  | false => rdE f L (rdC f L 59 p).1 N
  | true => match (rdL f L (rdT f L) 8 (rdC f L 59 p).1 N).2 with
    | none => ((rdL f L (rdT f L) 8 (rdC f L 59 p).1 N).1, none)
    | some N' => rdE f L (rdL f L (rdT f L) 8 (rdC f L 59 p).1 N).1 N'
def rdH (f : Nat → Nat) (L : Nat) (N : Nat → Nat) : Nat × Option (Nat → Nat) :=
  match (rdL f L (rdS f L) 5 0 N).2 with
  | none => ((rdL f L (rdS f L) 5 0 N).1, none)
  | some N' => rdH2 f L (rdL f L (rdS f L) 5 0 N).1 N'
theorem rdS_le {f : Nat → Nat} {L p : Nat} {N : Nat → Nat} (h : p ≤ L) : (rdS f L p N).1 ≤ L := by
  have h1 := rdD_le (f := f) (lo := 0) (hi := 3) h
  have h2 := rdC_le (f := f) (c := 58) h1
  have h3 := rdN_le (f := f) h2
  unfold rdS
  split
  · exact h1
  · split
    · exact h2
    · split <;> exact h3
theorem rdT_le {f : Nat → Nat} {L p : Nat} {N : Nat → Nat} (h : p ≤ L) : (rdT f L p N).1 ≤ L := by
  have h1 := rdK_le (f := f) h
  have h2 := rdD_le (f := f) (lo := 0) (hi := 9) h1
  have h3 := rdD_le (f := f) (lo := 1) (hi := 9) h2
  have h4 := rdD_le (f := f) (lo := 0) (hi := 3) h3
  unfold rdT
  split
  · exact h1
  · unfold rdT3
    split
    · exact h2
    · unfold rdT2
      split
      · exact h3
      · unfold rdT1
        split <;> exact h4
theorem rdL_le {f : Nat → Nat} {L : Nat} {R : Nat → (Nat → Nat) → Nat × Option (Nat → Nat)} (hR : ∀ p N, p ≤ L → (R p N).1 ≤ L) : ∀ (n p : Nat) (N : Nat → Nat), p ≤ L → (rdL f L R n p N).1 ≤ L := by
  intro n
  induction n with
  | zero => intro p N h; rw [rdL]; exact h
  | succ n ih =>
    intro p N h
    have h1 := hR p N h
    have h2 := rdC_le (f := f) (c := 44) h1
    rw [rdL]
    split
    · exact h1
    · split
      · exact h1
      · split
        · exact ih _ _ h2
        · exact h2
theorem rdS_v {f : Nat → Nat} {L p : Nat} {N N' : Nat → Nat} (h : (rdS f L p N).2 = some N') : ∃ r b, r < 4 ∧ b ≤ 60 ∧ N' = addS N r b := by
  unfold rdS at h
  split at h
  · simp at h
  · rename_i r hr
    split at h
    · simp at h
    · split at h
      · simp at h
      · rename_i b hb
        simp only [Option.some.injEq] at h
        exact ⟨r, b, by have := rdD_pos hr; omega, rdN_v hb, h.symm⟩
theorem rdT_v {f : Nat → Nat} {L p : Nat} {N N' : Nat → Nat} (h : (rdT f L p N).2 = some N') : ∃ k g d r, k < 5 ∧ g < 10 ∧ 1 ≤ d ∧ d ≤ 9 ∧ r < 4 ∧ N' = addT N k g d r := by
  unfold rdT at h
  split at h
  · simp at h
  · rename_i k hk
    unfold rdT3 at h
    split at h
    · simp at h
    · rename_i g hg
      unfold rdT2 at h
      split at h
      · simp at h
      · rename_i d hd
        unfold rdT1 at h
        split at h
        · simp at h
        · rename_i r hr
          simp only [Option.some.injEq] at h
          have := rdD_pos hg
          have := rdD_pos hd
          have := rdD_pos hr
          exact ⟨k, g, d, r, rdK_v hk, by omega, by omega, by omega, by omega, h.symm⟩
def TPC (I : sd_I) (f : Nat → Nat) (L : Nat) : Prop := I 155 1 = nI L ∧ ∀ k, k < L → I 156 k = nI (f k)
def TPV (f : Nat → Nat) (L : Nat) : Prop := L ≤ 80 ∧ ∀ k, k < L → 32 ≤ f k ∧ f k ≤ 126
def PL (I I' : sd_I) (p : Nat) : Prop := Fr I I' 155 155 ∧ I' 155 1 = I 155 1 ∧ I' 155 2 = nI p
theorem PL.tr {I I1 I2 : sd_I} {p q : Nat} (h : PL I I1 p) (h' : PL I1 I2 q) : PL I I2 q := ⟨h.1.tr h'.1, h'.2.1.trans h.2.1, h'.2.2⟩
theorem PL.u {I : sd_I} {p : Nat} : PL I (sd_u I 155 2 (nI p)) p := ⟨Fr.u (by omega) (by omega), by (repeat first | rw [ru_ne (by omega)] | rw [ru_j] | rw [ru_ij (by omega)] | rw [upN_ne (by omega)] | rw [upN_eq] | rw [rr_ne (by omega)] | rw [rr_eq] | rw [sb_cpy0 (by omega)]), by (repeat first | rw [ru_ne (by omega)] | rw [ru_j] | rw [ru_ij (by omega)] | rw [upN_ne (by omega)] | rw [upN_eq] | rw [rr_ne (by omega)] | rw [rr_eq] | rw [sb_cpy0 (by omega)])⟩
theorem PL.rf {I : sd_I} {p : Nat} (h : I 155 2 = nI p) : PL I I p := ⟨Fr.rf, rfl, h⟩
theorem TPC.pl {I I' : sd_I} {f : Nat → Nat} {L p : Nat} (h : TPC I f L) (e : PL I I' p) : TPC I' f L := ⟨e.2.1.trans h.1, fun k hk => by rw [e.1 156 (by omega)]; exact h.2 k hk⟩
theorem TPC.fr {I I' : sd_I} {f : Nat → Nat} {L a b : Nat} (h : TPC I f L) (e : Fr I I' a b) (ha : b < 155 ∨ 156 < a) : TPC I' f L := ⟨by rw [e 155 (by omega)]; exact h.1, fun k hk => by rw [e 156 (by omega)]; exact h.2 k hk⟩
section Reader
variable {X : Nat × (Nat → Int32)} {I : sd_I} {J : sd_J} {f : Nat → Nat} {L p : Nat}
theorem lp_X8_skipBlanks (hV : TPV f L) {Q : Option Int32 → sd_S → Prop} : ∀ (m p : Nat) (I : sd_I), L - p < m → p ≤ L → TPC I f L → I 155 2 = nI p → (∀ I', PL I I' (skp f L p) → Q none (sk0, X, I', J)) → AW muX8_skipBlanks 0 0 0 [.ref 155] [] (sk0, X, I, J) Q := by
  have h80 := hV.1
  intro m
  induction m with
  | zero => intros; omega
  | succ m ih =>
    intro p I hm hp hT hP K
    refine AW.aload_n dX8_skipBlanks_0 rfl rfl ?_
    refine g8_2 dX8_skipBlanks_1 wF_X8_19 (by first | assumption | rfl | (unfold is8; omega)) ?_
    first | refine AW.top (by first | exact hP | exact hT.1 | exact hT.2 _ (by omega)) ?_ | skip
    refine AW.aload_n dX8_skipBlanks_4 rfl rfl ?_
    refine g8_1 dX8_skipBlanks_5 wF_X8_15 (by first | assumption | rfl | (unfold is8; omega)) ?_
    first | refine AW.top (by first | exact hP | exact hT.1 | exact hT.2 _ (by omega)) ?_ | skip
    first | refine AW.icmp_geN (tgt := 38) dX8_skipBlanks_8 (by decide) (by omega) (by omega) (fun c8 => ?_) (fun c8 => ?_) | refine AW.icmp_ge (tgt := 38) dX8_skipBlanks_8 (by decide) (fun c8 => ?_) (fun c8 => ?_)
    · refine AW.ret dX8_skipBlanks_38 rfl (Nat.zero_le _) (Nat.zero_le _) ?_
      first | exact K _ (by rw [skp_no (by omega)]; exact PL.rf hP) | exact K _ (by rw [skp_no (fun h => c22 h.2)]; exact PL.rf hP)
    · have hf := hV.2 p c8
      refine AW.aload_n dX8_skipBlanks_11 rfl rfl ?_
      refine g8_0 dX8_skipBlanks_12 wF_X8_9 (by first | assumption | rfl | (unfold is8; omega)) ?_
      show AW muX8_skipBlanks _ _ 15 _ _ _ _
      refine AW.aload_n dX8_skipBlanks_15 rfl rfl ?_
      refine g8_2 dX8_skipBlanks_16 wF_X8_19 (by first | assumption | rfl | (unfold is8; omega)) ?_
      first | refine AW.top (by first | exact hP | exact hT.1 | exact hT.2 _ (by omega)) ?_ | skip
      refine AW.cald dX8_skipBlanks_19 (by first | exact k0_156) _ (by first | rfl | assumption) (by omega) (by first | decide | omega) ?_
      first | refine AW.top (by first | exact hP | exact hT.1 | exact hT.2 _ (by omega)) ?_ | skip
      refine AW.bipush (v := nI 32) dX8_skipBlanks_20 (by decide) ?_
      first | refine AW.icmp_neN (tgt := 38) dX8_skipBlanks_22 (by decide) (by omega) (by omega) (fun c22 => ?_) (fun c22 => ?_) | refine AW.icmp_ne (tgt := 38) dX8_skipBlanks_22 (by decide) (fun c22 => ?_) (fun c22 => ?_)
      · refine AW.ret dX8_skipBlanks_38 rfl (Nat.zero_le _) (Nat.zero_le _) ?_
        first | exact K _ (by rw [skp_no (by omega)]; exact PL.rf hP) | exact K _ (by rw [skp_no (fun h => c22 h.2)]; exact PL.rf hP)
      · refine AW.aload_n dX8_skipBlanks_25 rfl rfl ?_
        refine AW.dup dX8_skipBlanks_26 rfl ?_
        show AW muX8_skipBlanks _ _ 27 _ _ _ _
        refine g8_2 dX8_skipBlanks_27 wF_X8_19 (by first | assumption | rfl | (unfold is8; omega)) ?_
        first | refine AW.top (by first | exact hP | exact hT.1 | exact hT.2 _ (by omega)) ?_ | skip
        refine AW.iconst (v := nI 1) dX8_skipBlanks_30 (by decide) ?_
        first | refine AW.iaddN dX8_skipBlanks_31 ?_ | refine AW.iadd dX8_skipBlanks_31 ?_
        refine p8_2 dX8_skipBlanks_32 wF_X8_19 (by first | assumption | rfl | (unfold is8; omega)) ?_
        refine AW.goto (tgt := 0) dX8_skipBlanks_35 (by decide) ?_
        refine ih (p + 1) _ (by omega) (by omega) (hT.pl PL.u) PL.u.2.2 (fun I' e => K I' ?_)
        rw [skp_yes c8 c22]; exact PL.u.tr e
theorem s_X8_skipBlanks {Q : sd_S → Prop} (hV : TPV f L) (hT : TPC I f L) (hP : I 155 2 = nI p) (hp : p ≤ L) (hQ : ∀ I', PL I I' (skp f L p) → Q (sk0, X, I', J)) : AWv muX8_skipBlanks [.ref 155] (sk0, X, I, J) Q := by
  show AW muX8_skipBlanks 0 0 0 [.ref 155] [] _ _
  exact lp_X8_skipBlanks hV (L + 1) p I (by omega) hp hT hP (fun I' e => ⟨rfl, hQ I' e⟩)
theorem s_X8_digitHere {Q : Int32 → sd_S → Prop} (hV : TPV f L) (hT : TPC I f L) (hP : I 155 2 = nI p) (hp : p ≤ L) (q1 : p < L → 48 ≤ f p → f p ≤ 57 → Q (nI (f p - 48)) (sk0, X, I, J)) (q2 : ¬ (p < L ∧ 48 ≤ f p ∧ f p ≤ 57) → Q (-1) (sk0, X, I, J)) : AWi muX8_digitHere [.ref 155] (sk0, X, I, J) Q := by
  have h80 := hV.1
  show AW muX8_digitHere 0 0 0 [.ref 155] [] _ _
  refine AW.aload_n dX8_digitHere_0 rfl rfl ?_
  refine g8_2 dX8_digitHere_1 wF_X8_19 (by first | assumption | rfl | (unfold is8; omega)) ?_
  first | refine AW.top (by first | exact hP | exact hT.1 | exact hT.2 _ (by omega)) ?_ | skip
  refine AW.aload_n dX8_digitHere_4 rfl rfl ?_
  refine g8_1 dX8_digitHere_5 wF_X8_15 (by first | assumption | rfl | (unfold is8; omega)) ?_
  first | refine AW.top (by first | exact hP | exact hT.1 | exact hT.2 _ (by omega)) ?_ | skip
  first | refine AW.icmp_geN (tgt := 39) dX8_digitHere_8 (by decide) (by omega) (by omega) (fun c8 => ?_) (fun c8 => ?_) | refine AW.icmp_ge (tgt := 39) dX8_digitHere_8 (by decide) (fun c8 => ?_) (fun c8 => ?_)
  · refine AW.iconst (v := (-1)) dX8_digitHere_39 (by decide) ?_
    refine AW.iret dX8_digitHere_40 ⟨_, rfl, rfl⟩ (Nat.zero_le _) (Nat.zero_le _) ⟨_, rfl, ?_⟩
    exact q2 (by omega)
  · have hf := hV.2 p c8
    refine AW.aload_n dX8_digitHere_11 rfl rfl ?_
    show AW muX8_digitHere _ _ 12 _ _ _ _
    refine g8_0 dX8_digitHere_12 wF_X8_9 (by first | assumption | rfl | (unfold is8; omega)) ?_
    refine AW.aload_n dX8_digitHere_15 rfl rfl ?_
    refine g8_2 dX8_digitHere_16 wF_X8_19 (by first | assumption | rfl | (unfold is8; omega)) ?_
    first | refine AW.top (by first | exact hP | exact hT.1 | exact hT.2 _ (by omega)) ?_ | skip
    refine AW.cald dX8_digitHere_19 (by first | exact k0_156) _ (by first | rfl | assumption) (by omega) (by first | decide | omega) ?_
    first | refine AW.top (by first | exact hP | exact hT.1 | exact hT.2 _ (by omega)) ?_ | skip
    refine AW.bipush (v := nI 48) dX8_digitHere_20 (by decide) ?_
    first | refine AW.icmp_ltN (tgt := 39) dX8_digitHere_22 (by decide) (by omega) (by omega) (fun c22 => ?_) (fun c22 => ?_) | refine AW.icmp_lt (tgt := 39) dX8_digitHere_22 (by decide) (fun c22 => ?_) (fun c22 => ?_)
    · refine AW.iconst (v := (-1)) dX8_digitHere_39 (by decide) ?_
      show AW muX8_digitHere _ _ 40 _ _ _ _
      refine AW.iret dX8_digitHere_40 ⟨_, rfl, rfl⟩ (Nat.zero_le _) (Nat.zero_le _) ⟨_, rfl, ?_⟩
      exact q2 (by omega)
    · refine AW.aload_n dX8_digitHere_25 rfl rfl ?_
      refine g8_0 dX8_digitHere_26 wF_X8_9 (by first | assumption | rfl | (unfold is8; omega)) ?_
      refine AW.aload_n dX8_digitHere_29 rfl rfl ?_
      refine g8_2 dX8_digitHere_30 wF_X8_19 (by first | assumption | rfl | (unfold is8; omega)) ?_
      first | refine AW.top (by first | exact hP | exact hT.1 | exact hT.2 _ (by omega)) ?_ | skip
      refine AW.cald dX8_digitHere_33 (by first | exact k0_156) _ (by first | rfl | assumption) (by omega) (by first | decide | omega) ?_
      first | refine AW.top (by first | exact hP | exact hT.1 | exact hT.2 _ (by omega)) ?_ | skip
      refine AW.bipush (v := nI 57) dX8_digitHere_34 (by decide) ?_
      show AW muX8_digitHere _ _ 36 _ _ _ _
      first | refine AW.icmp_leN (tgt := 41) dX8_digitHere_36 (by decide) (by omega) (by omega) (fun c36 => ?_) (fun c36 => ?_) | refine AW.icmp_le (tgt := 41) dX8_digitHere_36 (by decide) (fun c36 => ?_) (fun c36 => ?_)
      · refine AW.aload_n dX8_digitHere_41 rfl rfl ?_
        refine g8_0 dX8_digitHere_42 wF_X8_9 (by first | assumption | rfl | (unfold is8; omega)) ?_
        refine AW.aload_n dX8_digitHere_45 rfl rfl ?_
        refine g8_2 dX8_digitHere_46 wF_X8_19 (by first | assumption | rfl | (unfold is8; omega)) ?_
        first | refine AW.top (by first | exact hP | exact hT.1 | exact hT.2 _ (by omega)) ?_ | skip
        refine AW.cald dX8_digitHere_49 (by first | exact k0_156) _ (by first | rfl | assumption) (by omega) (by first | decide | omega) ?_
        first | refine AW.top (by first | exact hP | exact hT.1 | exact hT.2 _ (by omega)) ?_ | skip
        refine AW.bipush (v := nI 48) dX8_digitHere_50 (by decide) ?_
        show AW muX8_digitHere _ _ 52 _ _ _ _
        first | refine AW.isubN dX8_digitHere_52 (by omega) ?_ | refine AW.isub dX8_digitHere_52 ?_
        refine AW.iret dX8_digitHere_53 ⟨_, rfl, rfl⟩ (Nat.zero_le _) (Nat.zero_le _) ⟨_, rfl, ?_⟩
        exact q1 (by omega) (by omega) (by omega)
      · refine AW.iconst (v := (-1)) dX8_digitHere_39 (by decide) ?_
        refine AW.iret dX8_digitHere_40 ⟨_, rfl, rfl⟩ (Nat.zero_le _) (Nat.zero_le _) ⟨_, rfl, ?_⟩
        exact q2 (by omega)
theorem s_X8_readDigit {Q : Int32 → sd_S → Prop} {lo hi : Nat} (h9 : hi ≤ 9) (hV : TPV f L) (hT : TPC I f L) (hP : I 155 2 = nI p) (hp : p ≤ L) (q1 : ∀ I', PL I I' (rdD f L lo hi p).1 → (rdD f L lo hi p).2 = none → Q (-1) (sk0, X, I', J)) (q2 : ∀ I' v, PL I I' (rdD f L lo hi p).1 → (rdD f L lo hi p).2 = some v → Q (nI v) (sk0, X, I', J)) (hlo : lo ≤ 9) : AWi muX8_readDigit [.ref 155, .int (nI lo), .int (nI hi)] (sk0, X, I, J) Q := by
  have h80 := hV.1
  have hle := skp_le (f := f) hp
  show AW muX8_readDigit 0 0 0 [.ref 155, .int (nI lo), .int (nI hi), .null] [] _ _
  refine AW.aload_n dX8_readDigit_0 rfl rfl ?_
  refine cs_X8_readDigit_1 (by first | exact k0_155) (by decide) (by decide) (Nat.le_of_ble_eq_true rfl) (s_X8_skipBlanks hV hT hP hp (fun I1 e1 => ?_))
  refine AW.aload_n dX8_readDigit_4 rfl rfl ?_
  refine cs_X8_readDigit_5 (by first | exact k0_155) (by decide) (by decide) (Nat.le_of_ble_eq_true rfl) (s_X8_digitHere hV (hT.pl e1) e1.2.2 hle (fun d1 d2 d3 => ?_) (fun d1 => ?_))
  · refine AW.istore_n dX8_readDigit_8 rfl (by decide) rfl rfl ?_
    refine AW.iload_n dX8_readDigit_9 rfl rfl ?_
    refine AW.iload_n dX8_readDigit_10 rfl rfl ?_
    show AW muX8_readDigit _ _ 11 _ _ _ _
    refine AW.iload_n dX8_readDigit_11 rfl rfl ?_
    refine cs_X8_readDigit_12 (by decide) (by decide) (Nat.le_of_ble_eq_true rfl) (s_X11_within (lo := lo) (hi := hi + 1) (by omega) (by omega) (by rw [nI_toInt (by omega)]; omega) (fun j hj1 hj2 ej => ?_) (fun hn => ?_))
    · refine AW.ifne1 (tgt := 20) dX8_readDigit_15 (by decide) ?_
      refine AW.aload_n dX8_readDigit_20 rfl rfl ?_
      refine AW.dup dX8_readDigit_21 rfl ?_
      refine g8_2 dX8_readDigit_22 wF_X8_19 (by first | assumption | rfl | (unfold is8; omega)) ?_
      first | refine AW.top (by first | exact e1.2.2) ?_ | skip
      refine AW.iconst (v := nI 1) dX8_readDigit_25 (by decide) ?_
      first | refine AW.iaddN dX8_readDigit_26 ?_ | refine AW.iadd dX8_readDigit_26 ?_
      show AW muX8_readDigit _ _ 27 _ _ _ _
      refine p8_2 dX8_readDigit_27 wF_X8_19 (by first | assumption | rfl | (unfold is8; omega)) ?_
      refine AW.iload_n dX8_readDigit_30 rfl rfl ?_
      refine AW.iret dX8_readDigit_31 ⟨_, rfl, rfl⟩ (Nat.zero_le _) (Nat.zero_le _) ⟨_, rfl, ?_⟩
      first
        | exact absurd (congrArg Int32.toInt ej) (by rw [nI_toInt (by omega)]; show ¬ (-1 : Int) = _; omega)
        | (have ej2 := (nI_eq (by omega) (by omega)).mp ej
           have hc : skp f L p < L ∧ 48 + lo ≤ f (skp f L p) ∧ f (skp f L p) ≤ 48 + hi := ⟨d1, by omega, by omega⟩
           exact q2 _ _ (by unfold rdD; rw [if_pos hc]; exact e1.tr PL.u) (by unfold rdD; rw [if_pos hc]))
    · refine AW.ifne0 (tgt := 20) dX8_readDigit_15 (by decide) ?_
      refine AW.iconst (v := (-1)) dX8_readDigit_18 (by decide) ?_
      refine AW.iret dX8_readDigit_19 ⟨_, rfl, rfl⟩ (Nat.zero_le _) (Nat.zero_le _) ⟨_, rfl, ?_⟩
      have hc : ¬ (skp f L p < L ∧ 48 + lo ≤ f (skp f L p) ∧ f (skp f L p) ≤ 48 + hi) := by
        intro h
        first | exact d1 ⟨h.1, by omega, by omega⟩ | exact hn ⟨f (skp f L p) - 48, by omega, by omega, rfl⟩
      exact q1 _ (by unfold rdD; rw [if_neg hc]; exact e1) (by unfold rdD; rw [if_neg hc])
  · refine AW.istore_n dX8_readDigit_8 rfl (by decide) rfl rfl ?_
    refine AW.iload_n dX8_readDigit_9 rfl rfl ?_
    refine AW.iload_n dX8_readDigit_10 rfl rfl ?_
    show AW muX8_readDigit _ _ 11 _ _ _ _
    refine AW.iload_n dX8_readDigit_11 rfl rfl ?_
    refine cs_X8_readDigit_12 (by decide) (by decide) (Nat.le_of_ble_eq_true rfl) (s_X11_within (lo := lo) (hi := hi + 1) (by omega) (by omega) (by rw [nI_toInt (by omega)]; omega) (fun j hj1 hj2 ej => ?_) (fun hn => ?_))
    · refine AW.ifne1 (tgt := 20) dX8_readDigit_15 (by decide) ?_
      refine AW.aload_n dX8_readDigit_20 rfl rfl ?_
      refine AW.dup dX8_readDigit_21 rfl ?_
      refine g8_2 dX8_readDigit_22 wF_X8_19 (by first | assumption | rfl | (unfold is8; omega)) ?_
      first | refine AW.top (by first | exact e1.2.2) ?_ | skip
      refine AW.iconst (v := nI 1) dX8_readDigit_25 (by decide) ?_
      first | refine AW.iaddN dX8_readDigit_26 ?_ | refine AW.iadd dX8_readDigit_26 ?_
      show AW muX8_readDigit _ _ 27 _ _ _ _
      refine p8_2 dX8_readDigit_27 wF_X8_19 (by first | assumption | rfl | (unfold is8; omega)) ?_
      refine AW.iload_n dX8_readDigit_30 rfl rfl ?_
      refine AW.iret dX8_readDigit_31 ⟨_, rfl, rfl⟩ (Nat.zero_le _) (Nat.zero_le _) ⟨_, rfl, ?_⟩
      first
        | exact absurd (congrArg Int32.toInt ej) (by rw [nI_toInt (by omega)]; show ¬ (-1 : Int) = _; omega)
        | (have ej2 := (nI_eq (by omega) (by omega)).mp ej
           have hc : skp f L p < L ∧ 48 + lo ≤ f (skp f L p) ∧ f (skp f L p) ≤ 48 + hi := ⟨d1, by omega, by omega⟩
           exact q2 _ _ (by unfold rdD; rw [if_pos hc]; exact e1.tr PL.u) (by unfold rdD; rw [if_pos hc]))
    · refine AW.ifne0 (tgt := 20) dX8_readDigit_15 (by decide) ?_
      refine AW.iconst (v := (-1)) dX8_readDigit_18 (by decide) ?_
      refine AW.iret dX8_readDigit_19 ⟨_, rfl, rfl⟩ (Nat.zero_le _) (Nat.zero_le _) ⟨_, rfl, ?_⟩
      have hc : ¬ (skp f L p < L ∧ 48 + lo ≤ f (skp f L p) ∧ f (skp f L p) ≤ 48 + hi) := by
        intro h
        first | exact d1 ⟨h.1, by omega, by omega⟩ | exact hn ⟨f (skp f L p) - 48, by omega, by omega, rfl⟩
      exact q1 _ (by unfold rdD; rw [if_neg hc]; exact e1) (by unfold rdD; rw [if_neg hc])
theorem s_X8_takes {Q : Int32 → sd_S → Prop} {c : Nat} (hc : c ≤ 126) (hV : TPV f L) (hT : TPC I f L) (hP : I 155 2 = nI p) (hp : p ≤ L) (q1 : ∀ I', PL I I' (rdC f L c p).1 → (rdC f L c p).2 = true → Q (nI 1) (sk0, X, I', J)) (q2 : ∀ I', PL I I' (rdC f L c p).1 → (rdC f L c p).2 = false → Q (nI 0) (sk0, X, I', J)) : AWi muX8_takes [.ref 155, .int (nI c)] (sk0, X, I, J) Q := by
  have h80 := hV.1
  have hle := skp_le (f := f) hp
  show AW muX8_takes 0 0 0 [.ref 155, .int (nI c)] [] _ _
  refine AW.aload_n dX8_takes_0 rfl rfl ?_
  refine cs_X8_takes_1 (by first | exact k0_155 | exact k0_156) (by decide) (by decide) (Nat.le_of_ble_eq_true rfl) (s_X8_skipBlanks hV hT hP hp (fun I1 e1 => ?_))
  have hT1 := hT.pl e1
  refine AW.aload_n dX8_takes_4 rfl rfl ?_
  refine g8_2 dX8_takes_5 wF_X8_19 (by first | assumption | rfl | (unfold is8; omega)) ?_
  first | refine AW.top (by first | exact e1.2.2 | exact hT1.1 | exact hT1.2 _ (by omega)) ?_ | skip
  refine AW.aload_n dX8_takes_8 rfl rfl ?_
  refine g8_1 dX8_takes_9 wF_X8_15 (by first | assumption | rfl | (unfold is8; omega)) ?_
  first | refine AW.top (by first | exact e1.2.2 | exact hT1.1 | exact hT1.2 _ (by omega)) ?_ | skip
  show AW muX8_takes _ _ 12 _ _ _ _
  first | refine AW.icmp_geN (tgt := 28) dX8_takes_12 (by decide) (by omega) (by omega) (fun c12 => ?_) (fun c12 => ?_) | refine AW.icmp_ge (tgt := 28) dX8_takes_12 (by decide) (fun c12 => ?_) (fun c12 => ?_)
  · refine AW.iconst (v := nI 0) dX8_takes_28 (by decide) ?_
    refine AW.iret dX8_takes_29 ⟨_, rfl, by decide⟩ (Nat.zero_le _) (Nat.zero_le _) ⟨_, rfl, ?_⟩
    refine q2 _ (by unfold rdC; rw [if_neg (by omega)]; exact e1) (by unfold rdC; rw [if_neg (by omega)])
  · have hf := hV.2 _ c12
    refine AW.aload_n dX8_takes_15 rfl rfl ?_
    refine g8_0 dX8_takes_16 wF_X8_9 (by first | assumption | rfl | (unfold is8; omega)) ?_
    refine AW.aload_n dX8_takes_19 rfl rfl ?_
    refine g8_2 dX8_takes_20 wF_X8_19 (by first | assumption | rfl | (unfold is8; omega)) ?_
    first | refine AW.top (by first | exact e1.2.2 | exact hT1.1 | exact hT1.2 _ (by omega)) ?_ | skip
    refine AW.cald dX8_takes_23 (by first | exact k0_155 | exact k0_156) _ (by first | rfl | assumption) (by omega) (by first | decide | omega) ?_
    first | refine AW.top (by first | exact e1.2.2 | exact hT1.1 | exact hT1.2 _ (by omega)) ?_ | skip
    show AW muX8_takes _ _ 24 _ _ _ _
    refine AW.iload_n dX8_takes_24 rfl rfl ?_
    first | refine AW.icmp_eqN (tgt := 30) dX8_takes_25 (by decide) (by omega) (by omega) (fun c25 => ?_) (fun c25 => ?_) | refine AW.icmp_eq (tgt := 30) dX8_takes_25 (by decide) (fun c25 => ?_) (fun c25 => ?_)
    · refine AW.aload_n dX8_takes_30 rfl rfl ?_
      refine AW.dup dX8_takes_31 rfl ?_
      refine g8_2 dX8_takes_32 wF_X8_19 (by first | assumption | rfl | (unfold is8; omega)) ?_
      first | refine AW.top (by first | exact e1.2.2 | exact hT1.1 | exact hT1.2 _ (by omega)) ?_ | skip
      refine AW.iconst (v := nI 1) dX8_takes_35 (by decide) ?_
      first | refine AW.iaddN dX8_takes_36 ?_ | refine AW.iadd dX8_takes_36 ?_
      show AW muX8_takes _ _ 37 _ _ _ _
      refine p8_2 dX8_takes_37 wF_X8_19 (by first | assumption | rfl | (unfold is8; omega)) ?_
      refine AW.iconst (v := nI 1) dX8_takes_40 (by decide) ?_
      refine AW.iret dX8_takes_41 ⟨_, rfl, by decide⟩ (Nat.zero_le _) (Nat.zero_le _) ⟨_, rfl, ?_⟩
      refine q1 _ (by unfold rdC; rw [if_pos (by omega)]; exact e1.tr PL.u) (by unfold rdC; rw [if_pos (by omega)])
    · refine AW.iconst (v := nI 0) dX8_takes_28 (by decide) ?_
      refine AW.iret dX8_takes_29 ⟨_, rfl, by decide⟩ (Nat.zero_le _) (Nat.zero_le _) ⟨_, rfl, ?_⟩
      refine q2 _ (by unfold rdC; rw [if_neg (by omega)]; exact e1) (by unfold rdC; rw [if_neg (by omega)])
theorem s_X8_readKind {Q : Int32 → sd_S → Prop} (hV : TPV f L) (hT : TPC I f L) (hP : I 155 2 = nI p) (hp : p ≤ L) (q1 : ∀ I', PL I I' (rdK f L p).1 → (rdK f L p).2 = none → Q (-1) (sk0, X, I', J)) (q2 : ∀ I' v, PL I I' (rdK f L p).1 → (rdK f L p).2 = some v → Q (nI v) (sk0, X, I', J)) : AWi muX8_readKind [.ref 155] (sk0, X, I, J) Q := by
  have h80 := hV.1
  have hle := skp_le (f := f) hp
  show AW muX8_readKind 0 0 0 [.ref 155, .null] [] _ _
  refine AW.aload_n dX8_readKind_0 rfl rfl ?_
  refine cs_X8_readKind_1 (by first | exact k0_155 | exact k0_156) (by decide) (by decide) (Nat.le_of_ble_eq_true rfl) (s_X8_skipBlanks hV hT hP hp (fun I1 e1 => ?_))
  have hT1 := hT.pl e1
  refine AW.aload_n dX8_readKind_4 rfl rfl ?_
  refine g8_2 dX8_readKind_5 wF_X8_19 (by first | assumption | rfl | (unfold is8; omega)) ?_
  first | refine AW.top (by first | exact e1.2.2 | exact hT1.1 | exact hT1.2 _ (by omega)) ?_ | skip
  refine AW.aload_n dX8_readKind_8 rfl rfl ?_
  refine g8_1 dX8_readKind_9 wF_X8_15 (by first | assumption | rfl | (unfold is8; omega)) ?_
  first | refine AW.top (by first | exact e1.2.2 | exact hT1.1 | exact hT1.2 _ (by omega)) ?_ | skip
  show AW muX8_readKind _ _ 12 _ _ _ _
  first | refine AW.icmp_geN (tgt := 32) dX8_readKind_12 (by decide) (by omega) (by omega) (fun c12 => ?_) (fun c12 => ?_) | refine AW.icmp_ge (tgt := 32) dX8_readKind_12 (by decide) (fun c12 => ?_) (fun c12 => ?_)
  · refine AW.iconst (v := (-1)) dX8_readKind_32 (by decide) ?_
    refine AW.istore_n dX8_readKind_33 rfl (by decide) rfl rfl ?_
    first | have hk5 := kdN_lt hk | skip
    refine AW.aload_n dX8_readKind_34 rfl rfl ?_
    refine AW.dup dX8_readKind_35 rfl ?_
    refine g8_2 dX8_readKind_36 wF_X8_19 (by first | assumption | rfl | (unfold is8; omega)) ?_
    first | refine AW.top (by first | exact e1.2.2 | exact hT1.1 | exact hT1.2 _ (by omega)) ?_ | skip
    refine AW.iload_n dX8_readKind_39 rfl rfl ?_
    show AW muX8_readKind _ _ 40 _ _ _ _
    first | refine AW.if_geN (tgt := 47) dX8_readKind_40 (by decide) (by omega) ?_ | refine AW.if_ge (tgt := 47) dX8_readKind_40 (by decide) (fun c => absurd c (by decide)) (fun _ => ?_)
    first | refine AW.iconst (v := nI 1) dX8_readKind_47 (by decide) ?_ | (refine AW.iconst (v := nI 0) dX8_readKind_43 (by decide) ?_; refine AW.goto (tgt := 48) dX8_readKind_44 (by decide) ?_)
    first | refine AW.iaddN dX8_readKind_48 ?_ | refine AW.iadd dX8_readKind_48 ?_
    refine p8_2 dX8_readKind_49 wF_X8_19 (by first | assumption | rfl | (unfold is8; omega)) ?_
    refine AW.iload_n dX8_readKind_52 rfl rfl ?_
    refine AW.iret dX8_readKind_53 ⟨_, rfl, rfl⟩ (Nat.zero_le _) (Nat.zero_le _) ⟨_, rfl, ?_⟩
    first | (refine q2 _ _ ?_ ?_; (unfold rdK; rw [if_pos c12]; simp only [hk]; exact e1.tr PL.u); (unfold rdK; rw [if_pos c12]; simp only [hk]; done)) | (refine q1 _ ?_ ?_; (unfold rdK; rw [if_pos c12]; simp only [hk]; exact e1.tr PL.u); (unfold rdK; rw [if_pos c12]; simp only [hk])) | (refine q1 _ ?_ ?_; (unfold rdK; rw [if_neg (by omega)]; exact e1.tr PL.u); (unfold rdK; rw [if_neg (by omega)]))
  · have hf := hV.2 _ c12
    refine AW.ldcS rfl dX8_readKind_15 ?_
    refine AW.aload_n dX8_readKind_17 rfl rfl ?_
    refine g8_0 dX8_readKind_18 wF_X8_9 (by first | assumption | rfl | (unfold is8; omega)) ?_
    show AW muX8_readKind _ _ 21 _ _ _ _
    refine AW.aload_n dX8_readKind_21 rfl rfl ?_
    refine g8_2 dX8_readKind_22 wF_X8_19 (by first | assumption | rfl | (unfold is8; omega)) ?_
    first | refine AW.top (by first | exact e1.2.2 | exact hT1.1 | exact hT1.2 _ (by omega)) ?_ | skip
    refine AW.cald dX8_readKind_25 (by first | exact k0_155 | exact k0_156) _ (by first | rfl | assumption) (by omega) (by first | decide | omega) ?_
    first | refine AW.top (by first | exact e1.2.2 | exact hT1.1 | exact hT1.2 _ (by omega)) ?_ | skip
    refine cs_X8_readKind_26 (by decide) (by decide) (Nat.le_of_ble_eq_true rfl) (s_J0_indexOf (by omega) (fun k hk => ?_) (fun hk => ?_))
    · refine AW.goto (tgt := 33) dX8_readKind_29 (by decide) ?_
      refine AW.istore_n dX8_readKind_33 rfl (by decide) rfl rfl ?_
      first | have hk5 := kdN_lt hk | skip
      refine AW.aload_n dX8_readKind_34 rfl rfl ?_
      refine AW.dup dX8_readKind_35 rfl ?_
      show AW muX8_readKind _ _ 36 _ _ _ _
      refine g8_2 dX8_readKind_36 wF_X8_19 (by first | assumption | rfl | (unfold is8; omega)) ?_
      first | refine AW.top (by first | exact e1.2.2 | exact hT1.1 | exact hT1.2 _ (by omega)) ?_ | skip
      refine AW.iload_n dX8_readKind_39 rfl rfl ?_
      first | refine AW.if_geN (tgt := 47) dX8_readKind_40 (by decide) (by omega) ?_ | refine AW.if_ge (tgt := 47) dX8_readKind_40 (by decide) (fun c => absurd c (by decide)) (fun _ => ?_)
      first | refine AW.iconst (v := nI 1) dX8_readKind_47 (by decide) ?_ | (refine AW.iconst (v := nI 0) dX8_readKind_43 (by decide) ?_; refine AW.goto (tgt := 48) dX8_readKind_44 (by decide) ?_)
      first | refine AW.iaddN dX8_readKind_48 ?_ | refine AW.iadd dX8_readKind_48 ?_
      refine p8_2 dX8_readKind_49 wF_X8_19 (by first | assumption | rfl | (unfold is8; omega)) ?_
      refine AW.iload_n dX8_readKind_52 rfl rfl ?_
      refine AW.iret dX8_readKind_53 ⟨_, rfl, rfl⟩ (Nat.zero_le _) (Nat.zero_le _) ⟨_, rfl, ?_⟩
      first | (refine q2 _ _ ?_ ?_; (unfold rdK; rw [if_pos c12]; simp only [hk]; exact e1.tr PL.u); (unfold rdK; rw [if_pos c12]; simp only [hk]; done)) | (refine q1 _ ?_ ?_; (unfold rdK; rw [if_pos c12]; simp only [hk]; exact e1.tr PL.u); (unfold rdK; rw [if_pos c12]; simp only [hk])) | (refine q1 _ ?_ ?_; (unfold rdK; rw [if_neg (by omega)]; exact e1.tr PL.u); (unfold rdK; rw [if_neg (by omega)]))
    · refine AW.goto (tgt := 33) dX8_readKind_29 (by decide) ?_
      refine AW.istore_n dX8_readKind_33 rfl (by decide) rfl rfl ?_
      show AW muX8_readKind _ _ 34 _ _ _ _
      first | have hk5 := kdN_lt hk | skip
      refine AW.aload_n dX8_readKind_34 rfl rfl ?_
      refine AW.dup dX8_readKind_35 rfl ?_
      refine g8_2 dX8_readKind_36 wF_X8_19 (by first | assumption | rfl | (unfold is8; omega)) ?_
      first | refine AW.top (by first | exact e1.2.2 | exact hT1.1 | exact hT1.2 _ (by omega)) ?_ | skip
      refine AW.iload_n dX8_readKind_39 rfl rfl ?_
      first | refine AW.if_geN (tgt := 47) dX8_readKind_40 (by decide) (by omega) ?_ | refine AW.if_ge (tgt := 47) dX8_readKind_40 (by decide) (fun c => absurd c (by decide)) (fun _ => ?_)
      first | refine AW.iconst (v := nI 1) dX8_readKind_47 (by decide) ?_ | (refine AW.iconst (v := nI 0) dX8_readKind_43 (by decide) ?_; refine AW.goto (tgt := 48) dX8_readKind_44 (by decide) ?_)
      first | refine AW.iaddN dX8_readKind_48 ?_ | refine AW.iadd dX8_readKind_48 ?_
      refine p8_2 dX8_readKind_49 wF_X8_19 (by first | assumption | rfl | (unfold is8; omega)) ?_
      show AW muX8_readKind _ _ 52 _ _ _ _
      refine AW.iload_n dX8_readKind_52 rfl rfl ?_
      refine AW.iret dX8_readKind_53 ⟨_, rfl, rfl⟩ (Nat.zero_le _) (Nat.zero_le _) ⟨_, rfl, ?_⟩
      first | (refine q2 _ _ ?_ ?_; (unfold rdK; rw [if_pos c12]; simp only [hk]; exact e1.tr PL.u); (unfold rdK; rw [if_pos c12]; simp only [hk]; done)) | (refine q1 _ ?_ ?_; (unfold rdK; rw [if_pos c12]; simp only [hk]; exact e1.tr PL.u); (unfold rdK; rw [if_pos c12]; simp only [hk])) | (refine q1 _ ?_ ?_; (unfold rdK; rw [if_neg (by omega)]; exact e1.tr PL.u); (unfold rdK; rw [if_neg (by omega)]))
theorem s_X8_readNumber {Q : Int32 → sd_S → Prop} (hV : TPV f L) (hT : TPC I f L) (hP : I 155 2 = nI p) (hp : p ≤ L) (q1 : ∀ I', PL I I' (rdN f L p).1 → (rdN f L p).2 = none → Q (-1) (sk0, X, I', J)) (q2 : ∀ I' v, PL I I' (rdN f L p).1 → (rdN f L p).2 = some v → Q (nI v) (sk0, X, I', J)) : AWi muX8_readNumber [.ref 155] (sk0, X, I, J) Q := by
  have h80 := hV.1
  have hle := rdD_le (f := f) (lo := 0) (hi := 9) hp
  show AW muX8_readNumber 0 0 0 [.ref 155, .null, .null, .null] [] _ _
  refine AW.aload_n dX8_readNumber_0 rfl rfl ?_
  refine AW.iconst (v := nI 0) dX8_readNumber_1 (by decide) ?_
  refine AW.bipush (v := nI 9) dX8_readNumber_2 (by decide) ?_
  refine cs_X8_readNumber_4 (by first | exact k0_155) (by decide) (by decide) (Nat.le_of_ble_eq_true rfl) (s_X8_readDigit (lo := 0) (hi := 9) (by decide) hV hT hP hp (fun I1 e1 h1 => ?_) (fun I1 d e1 h1 => ?_) (by decide))
  · refine AW.istore_n dX8_readNumber_7 rfl (by decide) rfl rfl ?_
    refine AW.iload_n dX8_readNumber_8 rfl rfl ?_
    refine AW.if_ge (tgt := 14) dX8_readNumber_9 (by decide) (fun c => absurd c (by decide)) (fun _ => ?_)
    refine AW.iconst (v := (-1)) dX8_readNumber_12 (by decide) ?_
    exact AW.iret dX8_readNumber_13 ⟨_, rfl, rfl⟩ (Nat.zero_le _) (Nat.zero_le _) ⟨_, rfl, q1 _ (by unfold rdN; simp only [h1]; exact e1) (by unfold rdN; simp only [h1])⟩
  · refine AW.istore_n dX8_readNumber_7 rfl (by decide) rfl rfl ?_
    have hd := rdD_pos h1
    refine AW.iload_n dX8_readNumber_8 rfl rfl ?_
    refine AW.if_geN (tgt := 14) dX8_readNumber_9 (by decide) (by omega) ?_
    refine AW.aload_n dX8_readNumber_14 rfl rfl ?_
    show AW muX8_readNumber _ _ 15 _ _ _ _
    refine g8_2 dX8_readNumber_15 wF_X8_19 (by first | assumption | rfl | (unfold is8; omega)) ?_
    first | refine AW.top (by first | exact e1.2.2) ?_ | skip
    refine AW.iconst (v := nI 1) dX8_readNumber_18 (by decide) ?_
    first | refine AW.isubN dX8_readNumber_19 (by omega) ?_ | refine AW.isub dX8_readNumber_19 ?_
    refine AW.istore_n dX8_readNumber_20 rfl (by decide) rfl rfl ?_
    refine AW.aload_n dX8_readNumber_21 rfl rfl ?_
    refine cs_X8_readNumber_22 (by first | exact k0_155) (by decide) (by decide) (Nat.le_of_ble_eq_true rfl) (s_X8_digitHere hV (hT.pl e1) e1.2.2 hle (fun d1 d2 d3 => ?_) (fun d1 => ?_))
    · refine AW.istore_n dX8_readNumber_25 rfl (by decide) rfl rfl ?_
      show AW muX8_readNumber _ _ 26 _ _ _ _
      refine AW.iload_n dX8_readNumber_26 rfl rfl ?_
      refine AW.if_ltN (tgt := 47) dX8_readNumber_27 (by decide) (by omega) ?_
      refine AW.bipush (v := nI 10) dX8_readNumber_30 (by decide) ?_
      refine AW.iload_n dX8_readNumber_32 rfl rfl ?_
      first | refine AW.imulN dX8_readNumber_33 ?_ | refine AW.imul dX8_readNumber_33 ?_
      refine AW.iload_n dX8_readNumber_34 rfl rfl ?_
      first | refine AW.iaddN dX8_readNumber_35 ?_ | refine AW.iadd dX8_readNumber_35 ?_
      show AW muX8_readNumber _ _ 36 _ _ _ _
      refine AW.istore_n dX8_readNumber_36 rfl (by decide) rfl rfl ?_
      refine AW.aload_n dX8_readNumber_37 rfl rfl ?_
      refine AW.dup dX8_readNumber_38 rfl ?_
      refine g8_2 dX8_readNumber_39 wF_X8_19 (by first | assumption | rfl | (unfold is8; omega)) ?_
      first | refine AW.top (by first | exact e1.2.2) ?_ | skip
      refine AW.iconst (v := nI 1) dX8_readNumber_42 (by decide) ?_
      first | refine AW.iaddN dX8_readNumber_43 ?_ | refine AW.iadd dX8_readNumber_43 ?_
      show AW muX8_readNumber _ _ 44 _ _ _ _
      refine p8_2 dX8_readNumber_44 wF_X8_19 (by first | assumption | rfl | (unfold is8; omega)) ?_
      refine AW.iload_n dX8_readNumber_47 rfl rfl ?_
      refine AW.bipush (v := nI 60) dX8_readNumber_48 (by decide) ?_
      first | refine AW.icmp_leN (tgt := 60) dX8_readNumber_50 (by decide) (by omega) (by omega) (fun c50 => ?_) (fun c50 => ?_) | refine AW.icmp_le (tgt := 60) dX8_readNumber_50 (by decide) (fun c50 => ?_) (fun c50 => ?_)
      · refine AW.iload_n dX8_readNumber_60 rfl rfl ?_
        refine AW.iret dX8_readNumber_61 ⟨_, rfl, rfl⟩ (Nat.zero_le _) (Nat.zero_le _) ⟨_, rfl, ?_⟩
        refine q2 _ _ ?_ ?_
        · unfold rdN; simp only [h1]; rw [if_pos ⟨d1, d2, d3⟩, if_pos (by omega)]; exact e1.tr PL.u
        · unfold rdN; simp only [h1]; rw [if_pos ⟨d1, d2, d3⟩, if_pos (by omega)]
      · refine AW.aload_n dX8_readNumber_53 rfl rfl ?_
        refine AW.iload_n dX8_readNumber_54 rfl rfl ?_
        show AW muX8_readNumber _ _ 55 _ _ _ _
        refine p8_2 dX8_readNumber_55 wF_X8_19 (by first | assumption | rfl | (unfold is8; omega)) ?_
        refine AW.iconst (v := (-1)) dX8_readNumber_58 (by decide) ?_
        refine AW.iret dX8_readNumber_59 ⟨_, rfl, rfl⟩ (Nat.zero_le _) (Nat.zero_le _) ⟨_, rfl, ?_⟩
        refine q1 _ ?_ ?_
        · unfold rdN; simp only [h1]; rw [if_pos ⟨d1, d2, d3⟩, if_neg (by omega)]; exact (e1.tr PL.u).tr PL.u
        · unfold rdN; simp only [h1]; rw [if_pos ⟨d1, d2, d3⟩, if_neg (by omega)]
    · refine AW.istore_n dX8_readNumber_25 rfl (by decide) rfl rfl ?_
      refine AW.iload_n dX8_readNumber_26 rfl rfl ?_
      refine AW.if_lt (tgt := 47) dX8_readNumber_27 (by decide) (fun _ => ?_) (fun c => absurd (by decide) c)
      refine AW.iload_n dX8_readNumber_47 rfl rfl ?_
      refine AW.bipush (v := nI 60) dX8_readNumber_48 (by decide) ?_
      refine AW.icmp_leN (tgt := 60) dX8_readNumber_50 (by decide) (by omega) (by omega) (fun c => ?_) (fun c => ?_)
      · refine AW.iload_n dX8_readNumber_60 rfl rfl ?_
        exact AW.iret dX8_readNumber_61 ⟨_, rfl, rfl⟩ (Nat.zero_le _) (Nat.zero_le _) ⟨_, rfl, q2 _ _ (by unfold rdN; simp only [h1]; rw [if_neg d1]; exact e1) (by unfold rdN; simp only [h1]; rw [if_neg d1])⟩
      · omega
theorem AW.neg1 {μ : sd_M} {kc ks pc : Nat} {ls st : List Value} {σ : sd_S} {Q : Option Int32 → sd_S → Prop} {off : Int} {tgt : Nat} (d : decode μ.2.1 pc = .ok (.ifCond .ge off, 3)) (ht : (pc : Int) + off = (tgt : Int)) (k : AW μ kc ks (pc + 3) ls st σ Q) : AW μ kc ks pc ls (.int (-1) :: st) σ Q := AW.if_ge d ht (fun c => absurd c (by decide)) (fun _ => k)
theorem s_X8_readSleeper {Q : Int32 → sd_S → Prop} {N : Nat → Nat} {h : Nat} (hh : is2 h) (hR : HR I h N) (h5 : N 36 < 5) (h8 : N 47 ≤ 8) (hV : TPV f L) (hT : TPC I f L) (hP : I 155 2 = nI p) (hp : p ≤ L) (q2 : ∀ I' N', (rdS f L p N).2 = some N' → Fr I I' h 155 → TPC I' f L → I' 155 2 = nI (rdS f L p N).1 → HR I' h N' → Q (nI 1) (sk0, X, I', J)) (q1 : ∀ I', (rdS f L p N).2 = none → Fr I I' h 155 → TPC I' f L → I' 155 2 = nI (rdS f L p N).1 → Q (nI 0) (sk0, X, I', J)) : AWi muX8_readSleeper [.ref 155, .ref h] (sk0, X, I, J) Q := by
  have h80 := hV.1
  have hb : h ≤ 137 := by unfold is2 at hh; omega
  have hle := rdD_le (f := f) (lo := 0) (hi := 3) hp
  have hle2 := rdC_le (f := f) (c := 58) hle
  show AW muX8_readSleeper 0 0 0 [.ref 155, .ref h, .null, .null] [] _ _
  refine AW.aload_n dX8_readSleeper_0 rfl rfl ?_
  refine AW.iconst (v := nI 0) dX8_readSleeper_1 (by decide) ?_
  refine AW.iconst (v := nI 3) dX8_readSleeper_2 (by decide) ?_
  refine cs_X8_readSleeper_3 (by first | exact k0_155 | exact is2.a0 hh) (by decide) (by decide) (Nat.le_of_ble_eq_true rfl) (s_X8_readDigit (lo := 0) (hi := 3) (by decide) hV hT hP hp (fun I1 e1 h1 => ?_) (fun I1 r e1 h1 => ?_) (by decide))
  · refine AW.istore_n dX8_readSleeper_6 rfl (by decide) rfl rfl ?_
    refine AW.iload_n dX8_readSleeper_7 rfl rfl ?_
    refine AW.if_lt (tgt := 20) dX8_readSleeper_8 (by decide) (fun _ => ?_) (fun c => absurd (by decide) c)
    refine AW.iconst (v := nI 0) dX8_readSleeper_20 (by decide) ?_
    exact AW.iret dX8_readSleeper_21 ⟨_, rfl, by decide⟩ (Nat.zero_le _) (Nat.zero_le _) ⟨_, rfl, q1 _ (by unfold rdS; simp only [h1]) (e1.1.w (by omega) (by omega)) (hT.pl e1) (by unfold rdS; simp only [h1]; exact e1.2.2)⟩
  · refine AW.istore_n dX8_readSleeper_6 rfl (by decide) rfl rfl ?_
    have hd := rdD_pos h1
    refine AW.iload_n dX8_readSleeper_7 rfl rfl ?_
    refine AW.if_ltN (tgt := 20) dX8_readSleeper_8 (by decide) (by omega) ?_
    refine AW.aload_n dX8_readSleeper_11 rfl rfl ?_
    show AW muX8_readSleeper _ _ 12 _ _ _ _
    refine AW.bipush (v := nI 58) dX8_readSleeper_12 (by decide) ?_
    refine cs_X8_readSleeper_14 (by first | exact k0_155 | exact is2.a0 hh) (by decide) (by decide) (Nat.le_of_ble_eq_true rfl) (s_X8_takes (c := 58) (by decide) hV (hT.pl e1) e1.2.2 hle (fun I2 e2 h2 => ?_) (fun I2 e2 h2 => ?_))
    · refine AW.ifne1 (tgt := 22) dX8_readSleeper_17 (by decide) ?_
      refine AW.aload_n dX8_readSleeper_22 rfl rfl ?_
      refine cs_X8_readSleeper_23 (by first | exact k0_155 | exact is2.a0 hh) (by decide) (by decide) (Nat.le_of_ble_eq_true rfl) (s_X8_readNumber hV (hT.pl (e1.tr e2)) e2.2.2 hle2 (fun I3 e3 h3 => ?_) (fun I3 b e3 h3 => ?_))
      · refine AW.istore_n dX8_readSleeper_26 rfl (by decide) rfl rfl ?_
        refine AW.iload_n dX8_readSleeper_27 rfl rfl ?_
        refine AW.neg1 (tgt := 33) dX8_readSleeper_28 (by decide) ?_
        refine AW.iconst (v := nI 0) dX8_readSleeper_31 (by decide) ?_
        exact AW.iret dX8_readSleeper_32 ⟨_, rfl, by decide⟩ (Nat.zero_le _) (Nat.zero_le _) ⟨_, rfl, q1 _ (by unfold rdS; simp only [h1, h2, h3]) (((e1.tr e2).tr e3).1.w (by omega) (by omega)) (hT.pl ((e1.tr e2).tr e3)) (by unfold rdS; simp only [h1, h2, h3]; exact e3.2.2)⟩
      · refine AW.istore_n dX8_readSleeper_26 rfl (by decide) rfl rfl ?_
        have hd2 := rdN_v h3
        have e4 := (e1.tr e2).tr e3
        have hR3 : HR I3 h N := hR.of (fun b hb1 hb2 _ => e4.1 b (by omega))
        refine AW.iload_n dX8_readSleeper_27 rfl rfl ?_
        refine AW.if_geN (tgt := 33) dX8_readSleeper_28 (by decide) (by omega) ?_
        refine AW.aload_n dX8_readSleeper_33 rfl rfl ?_
        refine AW.iload_n dX8_readSleeper_34 rfl rfl ?_
        show AW muX8_readSleeper _ _ 35 _ _ _ _
        refine AW.iload_n dX8_readSleeper_35 rfl rfl ?_
        refine cs_X8_readSleeper_36 (by first | exact k0_155 | exact is2.a0 hh) (by decide) (by decide) (Nat.le_of_ble_eq_true rfl) (s_X2_addSleeper (r := r) (b := b) hh hR3 h5 h8 (fun I4 f4 hR4 => ?_))
        refine AW.iconst (v := nI 1) dX8_readSleeper_39 (by decide) ?_
        refine AW.iret dX8_readSleeper_40 ⟨_, rfl, by decide⟩ (Nat.zero_le _) (Nat.zero_le _) ⟨_, rfl, ?_⟩
        have hs : rdS f L p N = ((rdN f L (rdC f L 58 (rdD f L 0 3 p).1).1).1, some (addS N r b)) := by unfold rdS; simp only [h1, h2, h3]
        exact q2 _ _ (by rw [hs]) ((e4.1.w (by omega) (by omega)).tr (f4.w (by omega) (by omega))) ((hT.pl e4).fr f4 (by omega)) (by rw [hs, f4 155 (by omega)]; exact e3.2.2) hR4
    · refine AW.ifne0 (tgt := 22) dX8_readSleeper_17 (by decide) ?_
      refine AW.iconst (v := nI 0) dX8_readSleeper_20 (by decide) ?_
      refine AW.iret dX8_readSleeper_21 ⟨_, rfl, by decide⟩ (Nat.zero_le _) (Nat.zero_le _) ⟨_, rfl, ?_⟩
      exact q1 _ (by unfold rdS; simp only [h1, h2]) ((e1.tr e2).1.w (by omega) (by omega)) (hT.pl (e1.tr e2)) (by unfold rdS; simp only [h1, h2]; exact e2.2.2)
theorem s_X8_readThing {Q : Int32 → sd_S → Prop} {N : Nat → Nat} {h : Nat} (hh : is2 h) (hR : HR I h N) (h5 : N 36 ≤ 5) (h8 : N 47 < 8) (hV : TPV f L) (hT : TPC I f L) (hP : I 155 2 = nI p) (hp : p ≤ L) (q2 : ∀ I' N', (rdT f L p N).2 = some N' → Fr I I' h 155 → TPC I' f L → I' 155 2 = nI (rdT f L p N).1 → HR I' h N' → Q (nI 1) (sk0, X, I', J)) (q1 : ∀ I', (rdT f L p N).2 = none → Fr I I' h 155 → TPC I' f L → I' 155 2 = nI (rdT f L p N).1 → Q (nI 0) (sk0, X, I', J)) : AWi muX8_readThing [.ref 155, .ref h] (sk0, X, I, J) Q := by
  have h80 := hV.1
  have hb : h ≤ 137 := by unfold is2 at hh; omega
  have hle := rdK_le (f := f) hp
  have hle2 := rdD_le (f := f) (lo := 0) (hi := 9) hle
  have hle3 := rdD_le (f := f) (lo := 1) (hi := 9) hle2
  show AW muX8_readThing 0 0 0 [.ref 155, .ref h, .null, .null, .null, .null] [] _ _
  refine AW.aload_n dX8_readThing_0 rfl rfl ?_
  refine cs_X8_readThing_1 (by first | exact k0_155 | exact is2.a0 hh) (by decide) (by decide) (Nat.le_of_ble_eq_true rfl) (s_X8_readKind hV hT hP hp (fun I1 e1 h1 => ?_) (fun I1 k e1 h1 => ?_))
  · refine AW.istore_n dX8_readThing_4 rfl (by decide) rfl rfl ?_
    refine AW.iload_n dX8_readThing_5 rfl rfl ?_
    refine AW.neg1 (tgt := 11) dX8_readThing_6 (by decide) ?_
    refine AW.iconst (v := nI 0) dX8_readThing_9 (by decide) ?_
    exact AW.iret dX8_readThing_10 ⟨_, rfl, by decide⟩ (Nat.zero_le _) (Nat.zero_le _) ⟨_, rfl, q1 _ (by unfold rdT; simp only [h1]) (e1.1.w (by omega) (by omega)) (hT.pl e1) (by unfold rdT; simp only [h1]; exact e1.2.2)⟩
  · refine AW.istore_n dX8_readThing_4 rfl (by decide) rfl rfl ?_
    have hd := rdK_v h1
    refine AW.iload_n dX8_readThing_5 rfl rfl ?_
    refine AW.if_geN (tgt := 11) dX8_readThing_6 (by decide) (by omega) ?_
    refine AW.aload_n dX8_readThing_11 rfl rfl ?_
    refine AW.iconst (v := nI 0) dX8_readThing_12 (by decide) ?_
    refine AW.bipush (v := nI 9) dX8_readThing_13 (by decide) ?_
    show AW muX8_readThing _ _ 15 _ _ _ _
    refine cs_X8_readThing_15 (by first | exact k0_155 | exact is2.a0 hh) (by decide) (by decide) (Nat.le_of_ble_eq_true rfl) (s_X8_readDigit (lo := 0) (hi := 9) (by decide) hV (hT.pl e1) e1.2.2 hle (fun I2 e2 h2 => ?_) (fun I2 g e2 h2 => ?_) (by decide))
    · refine AW.istore_n dX8_readThing_18 rfl (by decide) rfl rfl ?_
      refine AW.iload_n dX8_readThing_19 rfl rfl ?_
      refine AW.neg1 (tgt := 25) dX8_readThing_20 (by decide) ?_
      refine AW.iconst (v := nI 0) dX8_readThing_23 (by decide) ?_
      exact AW.iret dX8_readThing_24 ⟨_, rfl, by decide⟩ (Nat.zero_le _) (Nat.zero_le _) ⟨_, rfl, q1 _ (by unfold rdT rdT3; simp only [h1, h2]) ((e1.tr e2).1.w (by omega) (by omega)) (hT.pl (e1.tr e2)) (by unfold rdT rdT3; simp only [h1, h2]; exact e2.2.2)⟩
    · refine AW.istore_n dX8_readThing_18 rfl (by decide) rfl rfl ?_
      have hd2 := rdD_pos h2
      have e12 := e1.tr e2
      refine AW.iload_n dX8_readThing_19 rfl rfl ?_
      refine AW.if_geN (tgt := 25) dX8_readThing_20 (by decide) (by omega) ?_
      refine AW.aload_n dX8_readThing_25 rfl rfl ?_
      refine AW.iconst (v := nI 1) dX8_readThing_26 (by decide) ?_
      refine AW.bipush (v := nI 9) dX8_readThing_27 (by decide) ?_
      refine cs_X8_readThing_29 (by first | exact k0_155 | exact is2.a0 hh) (by decide) (by decide) (Nat.le_of_ble_eq_true rfl) (s_X8_readDigit (lo := 1) (hi := 9) (by decide) hV (hT.pl e12) e12.2.2 hle2 (fun I3 e3 h3 => ?_) (fun I3 d e3 h3 => ?_) (by decide))
      · refine AW.istore dX8_readThing_32 (by decide) rfl rfl ?_
        refine AW.iload dX8_readThing_34 rfl ?_
        refine AW.neg1 (tgt := 41) dX8_readThing_36 (by decide) ?_
        refine AW.iconst (v := nI 0) dX8_readThing_39 (by decide) ?_
        exact AW.iret dX8_readThing_40 ⟨_, rfl, by decide⟩ (Nat.zero_le _) (Nat.zero_le _) ⟨_, rfl, q1 _ (by unfold rdT rdT3 rdT2; simp only [h1, h2, h3]) ((e12.tr e3).1.w (by omega) (by omega)) (hT.pl (e12.tr e3)) (by unfold rdT rdT3 rdT2; simp only [h1, h2, h3]; exact e3.2.2)⟩
      · refine AW.istore dX8_readThing_32 (by decide) rfl rfl ?_
        show AW muX8_readThing _ _ 34 _ _ _ _
        have hd3 := rdD_pos h3
        have e13 := e12.tr e3
        refine AW.iload dX8_readThing_34 rfl ?_
        refine AW.if_geN (tgt := 41) dX8_readThing_36 (by decide) (by omega) ?_
        refine AW.aload_n dX8_readThing_41 rfl rfl ?_
        refine AW.iconst (v := nI 0) dX8_readThing_42 (by decide) ?_
        refine AW.iconst (v := nI 3) dX8_readThing_43 (by decide) ?_
        refine cs_X8_readThing_44 (by first | exact k0_155 | exact is2.a0 hh) (by decide) (by decide) (Nat.le_of_ble_eq_true rfl) (s_X8_readDigit (lo := 0) (hi := 3) (by decide) hV (hT.pl e13) e13.2.2 hle3 (fun I4 e4 h4 => ?_) (fun I4 r e4 h4 => ?_) (by decide))
        · refine AW.istore dX8_readThing_47 (by decide) rfl rfl ?_
          refine AW.iload dX8_readThing_49 rfl ?_
          refine AW.neg1 (tgt := 56) dX8_readThing_51 (by decide) ?_
          refine AW.iconst (v := nI 0) dX8_readThing_54 (by decide) ?_
          exact AW.iret dX8_readThing_55 ⟨_, rfl, by decide⟩ (Nat.zero_le _) (Nat.zero_le _) ⟨_, rfl, q1 _ (by unfold rdT rdT3 rdT2 rdT1; simp only [h1, h2, h3, h4]) ((e13.tr e4).1.w (by omega) (by omega)) (hT.pl (e13.tr e4)) (by unfold rdT rdT3 rdT2 rdT1; simp only [h1, h2, h3, h4]; exact e4.2.2)⟩
        · refine AW.istore dX8_readThing_47 (by decide) rfl rfl ?_
          have hd4 := rdD_pos h4
          have e14 := e13.tr e4
          have hR4 : HR I4 h N := hR.of (fun b hb1 hb2 _ => e14.1 b (by omega))
          refine AW.iload dX8_readThing_49 rfl ?_
          show AW muX8_readThing _ _ 51 _ _ _ _
          refine AW.if_geN (tgt := 56) dX8_readThing_51 (by decide) (by omega) ?_
          refine AW.aload_n dX8_readThing_56 rfl rfl ?_
          refine AW.iload_n dX8_readThing_57 rfl rfl ?_
          refine AW.iload_n dX8_readThing_58 rfl rfl ?_
          refine AW.iload dX8_readThing_59 rfl ?_
          refine AW.iload dX8_readThing_61 rfl ?_
          refine cs_X8_readThing_63 (by first | exact k0_155 | exact is2.a0 hh) (by decide) (by decide) (Nat.le_of_ble_eq_true rfl) (s_X2_addThing (kd := k) (g := g) (d := d) (r := r) hh hR4 h5 h8 (by omega) (fun I5 f5 hR5 => ?_))
          show AW muX8_readThing _ _ 66 _ _ _ _
          refine AW.iconst (v := nI 1) dX8_readThing_66 (by decide) ?_
          refine AW.iret dX8_readThing_67 ⟨_, rfl, by decide⟩ (Nat.zero_le _) (Nat.zero_le _) ⟨_, rfl, ?_⟩
          have hs : rdT f L p N = ((rdD f L 0 3 (rdD f L 1 9 (rdD f L 0 9 (rdK f L p).1).1).1).1, some (addT N k g d r)) := by unfold rdT rdT3 rdT2 rdT1; simp only [h1, h2, h3, h4]
          exact q2 _ _ (by rw [hs]) ((e14.1.w (by omega) (by omega)).tr (f5.w (by omega) (by omega))) ((hT.pl e14).fr f5 (by omega)) (by rw [hs, f5 155 (by omega)]; exact e4.2.2) hR5
end Reader
