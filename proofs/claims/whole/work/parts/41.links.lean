-- the model's nights, and what the class foretells
theorem sumN_pl (n : Nat) (f g : Nat → Nat) : sumN n (fun t => f t + g t) = sumN n f + sumN n g := by
  induction n with
  | zero => rfl
  | succ n ih => simp only [sumN]; rw [ih]; omega
theorem sumN_eq0 {n : Nat} {f : Nat → Nat} (h : sumN n f = 0) : ∀ t, t < n → f t = 0 := by
  induction n with
  | zero => intro t ht; omega
  | succ n ih =>
    intro t ht
    simp only [sumN] at h
    by_cases e : t = n
    · subst e; omega
    · exact ih (by omega) t (by omega)
theorem sumN_0 {n : Nat} {f : Nat → Nat} (h : ∀ t, t < n → f t = 0) : sumN n f = 0 := by
  induction n with
  | zero => rfl
  | succ n ih => simp only [sumN]; rw [ih (fun t ht => h t (by omega)), h n (by omega)]
theorem goN_lf {M : Nat → Nat} {t : Nat} (ht : t < M 47) (h8 : M 47 ≤ 8) : goN M (18 + t) = mB (M (48 + t)) (M (56 + t)) (M (18 + t)) (M 0) := by
  unfold goN; rw [if_neg (by omega), if_pos (by omega), show 18 + t + 30 = 48 + t by omega, show 18 + t + 38 = 56 + t by omega]
theorem goN_sp {M : Nat → Nat} {s : Nat} (hs : s < M 36) (h5 : M 36 ≤ 5) (h8 : M 47 ≤ 8) : goN M (26 + s) = M (26 + s) + (if asleepB M s then 1 else 0) := by
  unfold goN; rw [if_neg (by omega), if_neg (by omega), if_pos (by omega), show 26 + s - 26 = s by omega]
theorem goN_wk {M : Nat → Nat} {s : Nat} (hs : s < M 36) (h5 : M 36 ≤ 5) (h8 : M 47 ≤ 8) : goN M (31 + s) = M (31 + s) + (if asleepB M s then 0 else 1) := by
  unfold goN; rw [if_neg (by omega), if_neg (by omega), if_neg (by omega), if_pos (by omega), show 31 + s - 31 = s by omega]
theorem goK_lk {N : Nat → Nat} (hV : NV N) {t : Nat} (ht : t < N 47) (k : Nat) (hk : N 0 + k ≤ 20000) : goK N k (18 + t) = lk N t k := by
  induction k with
  | zero => rw [goK_zero, lk]
  | succ k ih =>
    have h := goK_inv hV k (by omega)
    have ih := ih (by omega)
    have h8 := hV.t8
    rw [goK_succ, lk, ← ih]
    generalize goK N k = M at h ih ⊢
    have e47 := h.2.2 47 (by omega) (by omega)
    rw [goN_lf (by omega) (by omega), h.2.1, h.2.2 (48 + t) (by omega) (by omega), h.2.2 (56 + t) (by omega) (by omega)]
theorem goK_loud {N : Nat → Nat} (hV : NV N) {t : Nat} (ht : t < N 47) (k : Nat) (hk : N 0 + k ≤ 20000) : loudT (goK N k) t = ldK N t k := by
  have h := goK_inv hV k hk
  have h8 := hV.t8
  unfold loudT ldK
  rw [goK_lk hV ht k hk, h.2.1, h.2.2 (48 + t) (by omega) (by omega), h.2.2 (56 + t) (by omega) (by omega)]
theorem goK_room {N : Nat → Nat} (hV : NV N) (r k : Nat) (hk : N 0 + k ≤ 20000) : loudR (goK N k) r = oL N (pl0 N) 0 k (N 47) r := by
  have h := goK_inv hV k hk
  have h8 := hV.t8
  unfold loudR oL
  rw [h.2.2 47 (by omega) (by omega)]
  refine sumN_congr (fun t ht => ?_)
  rw [h.2.2 (2 + t) (by omega) (by omega), goK_loud hV ht k hk]
  simp [pl0]
theorem goK_asleep {N : Nat → Nat} (hV : NV N) {s : Nat} (hs : s < N 36) (k : Nat) (hk : N 0 + k ≤ 20000) : (asleepB (goK N k) s = true) ↔ ¬ N (42 + s) < oL N (pl0 N) 0 k (N 47) (N (37 + s)) := by
  have h := goK_inv hV k hk
  have h5 := hV.s5
  unfold asleepB
  rw [h.2.2 (37 + s) (by omega) (by omega), h.2.2 (42 + s) (by omega) (by omega), goK_room hV _ k hk, decide_eq_true_eq]
  omega
theorem goK_wk {N : Nat → Nat} (hV : NV N) {s : Nat} (hs : s < N 36) (k : Nat) (hk : N 0 + k ≤ 20000) : goK N k (31 + s) = N (31 + s) + oI N (pl0 N) (N (37 + s)) (N (42 + s)) k := by
  induction k with
  | zero => rw [goK_zero]; rfl
  | succ k ih =>
    have h := goK_inv hV k (by omega)
    have ih := ih (by omega)
    have ha := goK_asleep hV hs k (by omega)
    have h8 := hV.t8
    have h5 := hV.s5
    have e : oI N (pl0 N) (N (37 + s)) (N (42 + s)) (k + 1) = oI N (pl0 N) (N (37 + s)) (N (42 + s)) k + (if N (42 + s) < oL N (pl0 N) 0 k (N 47) (N (37 + s)) then 1 else 0) := rfl
    rw [e, goK_succ]
    generalize goK N k = M at h ih ha ⊢
    have e47 := h.2.2 47 (by omega) (by omega)
    have e36 := h.2.2 36 (by omega) (by omega)
    rw [goN_wk (by omega) (by omega) (by omega), ih]
    by_cases hb : N (42 + s) < oL N (pl0 N) 0 k (N 47) (N (37 + s))
    · rw [if_pos hb, if_neg (fun hh => ha.mp hh hb)]; omega
    · rw [if_neg hb, if_pos (ha.mpr hb)]; omega
theorem goK_sp {N : Nat → Nat} (hV : NV N) {s : Nat} (hs : s < N 36) (k : Nat) (hk : N 0 + k ≤ 20000) : goK N k (26 + s) = N (26 + s) + (k - oI N (pl0 N) (N (37 + s)) (N (42 + s)) k) := by
  induction k with
  | zero => rw [goK_zero]; omega
  | succ k ih =>
    have h := goK_inv hV k (by omega)
    have ih := ih (by omega)
    have ha := goK_asleep hV hs k (by omega)
    have h8 := hV.t8
    have h5 := hV.s5
    have e : oI N (pl0 N) (N (37 + s)) (N (42 + s)) (k + 1) = oI N (pl0 N) (N (37 + s)) (N (42 + s)) k + (if N (42 + s) < oL N (pl0 N) 0 k (N 47) (N (37 + s)) then 1 else 0) := rfl
    have hle := oI_le (N := N) (pl := pl0 N) (r := N (37 + s)) (b := N (42 + s)) k
    rw [e, goK_succ]
    generalize goK N k = M at h ih ha ⊢
    have e47 := h.2.2 47 (by omega) (by omega)
    have e36 := h.2.2 36 (by omega) (by omega)
    rw [goN_sp (by omega) (by omega) (by omega), ih]
    by_cases hb : N (42 + s) < oL N (pl0 N) 0 k (N 47) (N (37 + s))
    · rw [if_pos hb, if_neg (fun hh => ha.mp hh hb)]; omega
    · rw [if_neg hb, if_pos (ha.mpr hb)]; omega
theorem oW_sum {N pl : Nat → Nat} (k : Nat) : oWs N pl k = sumN (N 36) (fun s => oI N pl (N (37 + s)) (N (42 + s)) k) := by
  induction k with
  | zero => exact (sumN_0 (fun t _ => rfl)).symm
  | succ k ih =>
    have e : oWs N pl (k + 1) = oWs N pl k + oW N pl 0 k (N 36) := rfl
    rw [e, ih]
    unfold oW
    rw [← sumN_pl]
    rfl
theorem goK_wks {N : Nat → Nat} (hV : NV N) (k : Nat) (hk : N 0 + k ≤ 20000) : sumN (N 36) (fun s => goK N k (31 + s)) = sumN (N 36) (fun s => N (31 + s)) + oWs N (pl0 N) k := by
  rw [oW_sum, ← sumN_pl]
  exact sumN_congr (fun s hs => goK_wk hV hs k hk)
theorem lk_congr {N N' : Nat → Nat} {t : Nat} (ht : t < 8) (e : ∀ k, (k = 0 ∨ 18 ≤ k ∧ k < 26 ∨ 48 ≤ k ∧ k < 64) → N' k = N k) (k : Nat) : lk N' t k = lk N t k := by
  induction k with
  | zero => rw [lk, lk]; exact e _ (by omega)
  | succ k ih => rw [lk, lk, ih, e 0 (by omega), e (48 + t) (by omega), e (56 + t) (by omega)]
theorem ldK_congr {N N' : Nat → Nat} {t : Nat} (ht : t < 8) (e : ∀ k, (k = 0 ∨ 18 ≤ k ∧ k < 26 ∨ 48 ≤ k ∧ k < 64) → N' k = N k) (k : Nat) : ldK N' t k = ldK N t k := by
  unfold ldK; rw [lk_congr ht e k, e 0 (by omega), e (48 + t) (by omega), e (56 + t) (by omega)]
theorem oL_congr {N N' pl pl' : Nat → Nat} (h8 : N 47 ≤ 8) (e : ∀ k, (k = 0 ∨ 18 ≤ k ∧ k < 26 ∨ 48 ≤ k ∧ k < 64) → N' k = N k) (hp : ∀ t, t < N 47 → pl' t = pl t) (w k r : Nat) : oL N' pl' w k (N 47) r = oL N pl w k (N 47) r := by
  unfold oL
  exact sumN_congr (fun t ht => by rw [hp t ht, ldK_congr (by omega) e k])
theorem oI_congr {N N' pl pl' : Nat → Nat} (h8 : N 47 ≤ 8) (e : ∀ k, (k = 0 ∨ 18 ≤ k ∧ k < 26 ∨ 47 ≤ k ∧ k < 64) → N' k = N k) (hp : ∀ t, t < N 47 → pl' t = pl t) (r b k : Nat) : oI N' pl' r b k = oI N pl r b k := by
  unfold oI
  refine sumN_congr (fun q hq => ?_)
  rw [e 47 (by omega), oL_congr h8 (fun k hk => e k (by omega)) hp]
theorem oWs_congr {N N' pl pl' : Nat → Nat} (h5 : N 36 ≤ 5) (h8 : N 47 ≤ 8) (e : ∀ k, (k = 0 ∨ 18 ≤ k ∧ k < 26 ∨ 36 ≤ k ∧ k < 64) → N' k = N k) (hp : ∀ t, t < N 47 → pl' t = pl t) (k : Nat) : oWs N' pl' k = oWs N pl k := by
  rw [oW_sum, oW_sum, e 36 (by omega)]
  refine sumN_congr (fun s hs => ?_)
  rw [e (37 + s) (by omega), e (42 + s) (by omega)]
  exact oI_congr h8 (fun k hk => e k (by omega)) hp _ _ _
/-- the things of w silent -/
def siN (N : Nat → Nat) (w : Nat) : Nat → Nat := fun k => if 18 ≤ k ∧ k < 26 ∧ w.testBit (k - 18) then 0 else N k
theorem ldK_si {N : Nat → Nat} {w t : Nat} (ht : t < 8) (k : Nat) : ldK (siN N w) t k = if w.testBit t then 0 else ldK N t k := by
  have e : ∀ k, k < 18 ∨ 26 ≤ k → siN N w k = N k := fun k hk => by unfold siN; rw [if_neg (by omega)]
  have e18 : siN N w (18 + t) = if w.testBit t then 0 else N (18 + t) := by
    unfold siN
    rw [show 18 + t - 18 = t by omega]
    by_cases hw : w.testBit t = true
    · rw [if_pos ⟨by omega, by omega, hw⟩, if_pos hw]
    · rw [if_neg (fun h => hw h.2.2), if_neg hw]
  by_cases hw : w.testBit t = true
  · rw [if_pos hw] at e18 ⊢
    have := lk_le (N := siN N w) (t := t) k
    unfold ldK mL
    rw [if_pos (by omega)]
  · rw [if_neg hw] at e18 ⊢
    have hl : ∀ k, lk (siN N w) t k = lk N t k := by
      intro k
      induction k with
      | zero => rw [lk, lk]; exact e18
      | succ k ih => rw [lk, lk, ih, e 0 (by omega), e (48 + t) (by omega), e (56 + t) (by omega)]
    unfold ldK
    rw [hl k, e 0 (by omega), e (48 + t) (by omega), e (56 + t) (by omega)]
theorem oW_si {N : Nat → Nat} (h5 : N 36 ≤ 5) (h8 : N 47 ≤ 8) {w : Nat} (k : Nat) : oW (siN N w) (pl0 (siN N w)) 0 k (N 36) = oW N (pl0 N) w k (N 36) := by
  have e : ∀ k, k < 18 ∨ 26 ≤ k → siN N w k = N k := fun k hk => by unfold siN; rw [if_neg (by omega)]
  unfold oW
  refine sumN_congr (fun s hs => ?_)
  rw [e (42 + s) (by omega), e (37 + s) (by omega), e 47 (by omega)]
  have : oL (siN N w) (pl0 (siN N w)) 0 k (N 47) (N (37 + s)) = oL N (pl0 N) w k (N 47) (N (37 + s)) := by
    unfold oL
    refine sumN_congr (fun t ht => ?_)
    rw [ldK_si (by omega) k]
    unfold pl0
    rw [e (2 + t) (by omega)]
    simp
  rw [this]
theorem quiet_iff {N : Nat → Nat} (h5 : N 36 ≤ 5) (h8 : N 47 ≤ 8) {w n : Nat} : oWs (siN N w) (pl0 (siN N w)) n = 0 ↔ quietP N n w := by
  have e36 : siN N w 36 = N 36 := by unfold siN; rw [if_neg (by omega)]
  unfold oWs quietP
  rw [e36]
  constructor
  · intro h q hq
    rw [← oW_si h5 h8]; exact sumN_eq0 h q hq
  · intro h
    exact sumN_0 (fun q hq => by rw [oW_si h5 h8]; exact h q hq)
theorem preN_wk {d : Bool} {N : Nat → Nat} (h8 : N 47 ≤ 8) {j : Nat} (h1 : 18 ≤ j) (h2 : j < 64) : preN d N j = N j := by
  cases d with
  | false => rw [preN_f]; exact noteN_low h2
  | true => rw [preN_t, drawN_hi (by rw [noteN_low (by omega)]; exact h8) (by omega)]; exact noteN_low h2
theorem itN_wks {d : Bool} {N : Nat → Nat} (hV : NV N) (k : Nat) (hk : N 0 + k ≤ 20000) : sumN (N 36) (fun s => itN d N k (31 + s)) = sumN (N 36) (fun s => N (31 + s)) + wkN d N k := by
  induction k with
  | zero => rfl
  | succ k ih =>
    have ih := ih (by omega)
    have h := itN_inv (d := d) hV k (by omega)
    have hp := preN_NV (d := d) h.1
    have h0 := preN_0 (d := d) h.1
    have h5 := hV.s5
    rw [wkN_succ, itN_succ]
    have e8 := h.1.t8
    have ew : ∀ s, s < 5 → preN d (itN d N k) (31 + s) = itN d N k (31 + s) := fun s hs => preN_wk e8 (by omega) (by omega)
    generalize itN d N k = M at h ih hp h0 ew ⊢
    have hs5 := hp.s5
    have ht8 := hp.t8
    generalize preN d M = P at hp h0 ew hs5 ht8 ⊢
    unfold wokenC
    rw [← Nat.add_assoc, ← ih, ← sumN_pl]
    exact sumN_congr (fun s hs => by rw [goN_wk (by omega) hs5 ht8, ew s (by omega)])
