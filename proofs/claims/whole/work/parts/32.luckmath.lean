-- the odds: sums over sets
def dn (a b : Nat) : Nat := a &&& (b ^^^ 4294967295)
theorem dn_le (a b : Nat) : dn a b ≤ a := Nat.and_le_left
theorem dn_bit {a b i : Nat} (hi : i < 32) : (dn a b).testBit i = (a.testBit i && !b.testBit i) := by
  unfold dn
  rw [Nat.testBit_and, Nat.testBit_xor]
  have : (4294967295 : Nat).testBit i = true := by
    have h := Nat.testBit_two_pow_sub_one 32 i
    have e : (2 ^ 32 - 1 : Nat) = 4294967295 := by decide
    rw [e] at h
    rw [h]; simpa using hi
  rw [this]
  cases b.testBit i <;> rfl
theorem nI_dn (a b : Nat) : nI a &&& (nI b ^^^ (-1)) = nI (dn a b) := by
  have hm : (-1 : Int32) = nI 4294967295 := by decide
  rw [hm]
  apply Int32.toBitVec_inj.mp
  show (nI a).toBitVec &&& ((nI b).toBitVec ^^^ (nI 4294967295).toBitVec) = (nI (dn a b)).toBitVec
  have hb : ∀ k, (nI k).toBitVec = BitVec.ofNat 32 k := fun k => rfl
  rw [hb, hb, hb, hb, ← BitVec.ofNat_xor, ← BitVec.ofNat_and]
  rfl
theorem sumN_add (m n : Nat) (f : Nat → Nat) : sumN (m + n) f = sumN m f + sumN n (fun k => f (m + k)) := by
  induction n with
  | zero => rfl
  | succ n ih =>
    show sumN (m + n) f + f (m + n) = sumN m f + (sumN n (fun k => f (m + k)) + f (m + n))
    rw [ih]; omega
theorem sumN_mul (n c : Nat) (f : Nat → Nat) : sumN n (fun k => c * f k) = c * sumN n f := by
  induction n with
  | zero => rfl
  | succ n ih => unfold sumN; rw [ih, Nat.mul_add]
/-- over the first T: a bit falls silent by c, else it thanks by l -/
def lu (p : Nat → Bool) (l : Nat → Nat) (c b : Nat) : Nat → Nat → Nat
  | 0, acc => if acc ≤ b then 1 else 0
  | t + 1, acc => if p t then (10 - c) * lu p l c b t (acc + l t) + c * lu p l c b t acc else lu p l c b t acc
def bel (p : Nat → Bool) : Nat → Nat
  | 0 => 1
  | t + 1 => bel p t * (if p t then 10 else 1)
def pwN (p : Nat → Bool) : Nat → Nat
  | 0 => 1
  | t + 1 => pwN p t * (if p t then 1 else 10)
theorem bel_pos (p : Nat → Bool) (t : Nat) : 0 < bel p t := by
  induction t with
  | zero => exact Nat.one_pos
  | succ t ih => unfold bel; split <;> omega
theorem pwN_pos (p : Nat → Bool) (t : Nat) : 0 < pwN p t := by
  induction t with
  | zero => exact Nat.one_pos
  | succ t ih => unfold pwN; split <;> omega
theorem bel_pw (p : Nat → Bool) (t : Nat) : bel p t * pwN p t = 10 ^ t := by
  induction t with
  | zero => rfl
  | succ t ih =>
    unfold bel pwN
    rw [Nat.pow_succ, ← ih]
    split
    · rw [Nat.mul_one, Nat.mul_right_comm]
    · rw [Nat.mul_one, Nat.mul_assoc]
theorem lu_le {p : Nat → Bool} {l : Nat → Nat} {c b : Nat} (hc : c ≤ 10) (t acc : Nat) : lu p l c b t acc ≤ bel p t := by
  induction t generalizing acc with
  | zero => unfold lu bel; split <;> omega
  | succ t ih =>
    unfold lu bel
    split
    · have h1 := Nat.mul_le_mul_left (10 - c) (ih (acc + l t))
      have h2 := Nat.mul_le_mul_left c (ih acc)
      have h3 : (10 - c) * bel p t + c * bel p t = bel p t * 10 := by rw [← Nat.add_mul, Nat.sub_add_cancel hc, Nat.mul_comm]
      omega
    · rw [Nat.mul_one]; exact ih acc
theorem bel_le (p : Nat → Bool) (t : Nat) : bel p t ≤ 10 ^ t := by
  have h := bel_pw p t
  have h1 := Nat.mul_le_mul_left (bel p t) (pwN_pos p t)
  omega
/-- what a set falls silent of, by all the first T -/
def lm (m : Nat → Nat) (c b : Nat) : Nat → Nat → Nat
  | 0, acc => if acc ≤ b then 1 else 0
  | t + 1, acc => (10 - c) * lm m c b t (acc + m t) + c * lm m c b t acc
theorem lm_lu {p : Nat → Bool} {l m : Nat → Nat} {c b : Nat} (hc : c ≤ 10) (t acc : Nat) (hm : ∀ q, q < t → m q = if p q then l q else 0) : lm m c b t acc = lu p l c b t acc * pwN p t := by
  induction t generalizing acc with
  | zero => unfold lm lu pwN; rw [Nat.mul_one]
  | succ t ih =>
    unfold lm lu pwN
    rw [ih _ (fun q hq => hm q (by omega)), ih _ (fun q hq => hm q (by omega)), hm t (by omega)]
    by_cases hp : p t = true
    · simp only [hp, if_true, Nat.mul_one]
      rw [Nat.add_mul, Nat.mul_assoc, Nat.mul_assoc]
    · have hp : p t = false := by simpa using hp
      simp only [hp, Bool.false_eq_true, if_false, Nat.add_zero]
      rw [← Nat.add_mul, Nat.sub_add_cancel hc, Nat.mul_left_comm, Nat.mul_comm 10, ← Nat.mul_assoc]
theorem bit_lo {u T t : Nat} (ht : t < T) : (2 ^ T + u).testBit t = u.testBit t := by
  rw [Nat.testBit_two_pow_add_gt ht]
theorem bit_hi {u T : Nat} (hu : u < 2 ^ T) : (2 ^ T + u).testBit T = true := by
  rw [Nat.testBit_two_pow_add_eq, Nat.testBit_lt_two_pow hu]; rfl
/-- a set's part of the odds -/
def pdA (p : Nat → Bool) (c u : Nat) : Nat → Nat
  | 0 => 1
  | t + 1 => pdA p c u t * (if p t then (if u.testBit t then c else 10 - c) else 1)
theorem pdA_congr {p : Nat → Bool} {c u v : Nat} (T : Nat) (h : ∀ t, t < T → u.testBit t = v.testBit t) : pdA p c u T = pdA p c v T := by
  induction T with
  | zero => rfl
  | succ T ih => unfold pdA; rw [ih (fun t ht => h t (by omega)), h T (by omega)]
/-- u takes nothing silent that isn't in p; how loud it leaves -/
def okA (p : Nat → Bool) (u : Nat) : Nat → Bool
  | 0 => true
  | t + 1 => okA p u t && (!u.testBit t || p t)
theorem okA_congr {p : Nat → Bool} {u v : Nat} (T : Nat) (h : ∀ t, t < T → u.testBit t = v.testBit t) : okA p u T = okA p v T := by
  induction T with
  | zero => rfl
  | succ T ih => unfold okA; rw [ih (fun t ht => h t (by omega)), h T (by omega)]
def ldA (p : Nat → Bool) (l : Nat → Nat) (u T : Nat) : Nat := sumN T (fun t => if p t && !u.testBit t then l t else 0)
theorem ldA_congr {p : Nat → Bool} {l : Nat → Nat} {u v : Nat} (T : Nat) (h : ∀ t, t < T → u.testBit t = v.testBit t) : ldA p l u T = ldA p l v T := sumN_congr (fun t ht => by rw [h t ht])
def tmA (p : Nat → Bool) (l : Nat → Nat) (c b T acc u : Nat) : Nat := if okA p u T = true ∧ acc + ldA p l u T ≤ b then pdA p c u T else 0
theorem sum_tmA {p : Nat → Bool} {l : Nat → Nat} {c b : Nat} (T acc : Nat) : sumN (2 ^ T) (tmA p l c b T acc) = lu p l c b T acc := by
  induction T generalizing acc with
  | zero => simp [sumN, tmA, lu, okA, ldA, pdA]
  | succ T ih =>
    rw [Nat.pow_succ, Nat.mul_two, sumN_add]
    have e1 : sumN (2 ^ T) (tmA p l c b (T + 1) acc) = (if p T then (10 - c) else 1) * lu p l c b T (acc + (if p T then l T else 0)) := by
      rw [← ih, ← sumN_mul]
      apply sumN_congr
      intro u hu
      have hb : u.testBit T = false := Nat.testBit_lt_two_pow hu
      unfold tmA
      have h1 : okA p u (T + 1) = okA p u T := by rw [okA, hb]; simp
      have h2 : ldA p l u (T + 1) = ldA p l u T + (if p T then l T else 0) := by unfold ldA; rw [sumN, hb]; simp
      have h3 : pdA p c u (T + 1) = pdA p c u T * (if p T then (10 - c) else 1) := by rw [pdA, hb]; simp
      rw [h1, h2, h3]
      by_cases hc : okA p u T = true ∧ acc + (ldA p l u T + (if p T then l T else 0)) ≤ b
      · have hc' : okA p u T = true ∧ acc + (if p T = true then l T else 0) + ldA p l u T ≤ b := ⟨hc.1, by omega⟩
        rw [if_pos hc, if_pos hc', Nat.mul_comm]
      · have hc' : ¬ (okA p u T = true ∧ acc + (if p T = true then l T else 0) + ldA p l u T ≤ b) := fun e => hc ⟨e.1, by omega⟩
        rw [if_neg hc, if_neg hc', Nat.mul_zero]
    have e2 : sumN (2 ^ T) (fun k => tmA p l c b (T + 1) acc (2 ^ T + k)) = (if p T then c else 0) * lu p l c b T acc := by
      rw [← ih, ← sumN_mul]
      apply sumN_congr
      intro u hu
      have hb : (2 ^ T + u).testBit T = true := bit_hi hu
      have hlo : ∀ t, t < T → (2 ^ T + u).testBit t = u.testBit t := fun t ht => bit_lo ht
      unfold tmA
      have h1 : okA p (2 ^ T + u) (T + 1) = (okA p u T && p T) := by rw [okA, hb, okA_congr T hlo]; simp
      have h2 : ldA p l (2 ^ T + u) (T + 1) = ldA p l u T := by
        have : ldA p l (2 ^ T + u) (T + 1) = ldA p l (2 ^ T + u) T + 0 := by unfold ldA; rw [sumN, hb]; simp
        rw [this, ldA_congr T hlo]; rfl
      have h3 : pdA p c (2 ^ T + u) (T + 1) = pdA p c u T * (if p T then c else 1) := by rw [pdA, hb, pdA_congr T hlo]; simp
      rw [h1, h2, h3]
      by_cases hp : p T = true
      · simp only [hp, Bool.and_true, if_true]
        by_cases hc : okA p u T = true ∧ acc + ldA p l u T ≤ b
        · rw [if_pos hc, if_pos hc, Nat.mul_comm]
        · rw [if_neg hc, if_neg hc, Nat.mul_zero]
      · have hp : p T = false := by simpa using hp
        simp only [hp, Bool.and_false, Bool.false_eq_true, false_and, if_false, Nat.zero_mul]
    have e2' : sumN (2 ^ T) (fun k => tmA p l c b (T + 1) acc (2 ^ T + k)) = (if p T then c else 0) * lu p l c b T acc := e2
    rw [e1, e2']
    show _ = if p T then (10 - c) * lu p l c b T (acc + l T) + c * lu p l c b T acc else lu p l c b T acc
    by_cases hp : p T = true
    · simp only [hp, if_true]
    · have hp : p T = false := by simpa using hp
      simp only [hp, Bool.false_eq_true, if_false, Nat.one_mul, Nat.zero_mul, Nat.add_zero]
/-- the model's sum -/
def pdM (c u : Nat) : Nat → Nat
  | 0 => 1
  | t + 1 => pdM c u t * (if u.testBit t then c else 10 - c)
theorem pdM_congr {c u v : Nat} (T : Nat) (h : ∀ t, t < T → u.testBit t = v.testBit t) : pdM c u T = pdM c v T := by
  induction T with
  | zero => rfl
  | succ T ih => unfold pdM; rw [ih (fun t ht => h t (by omega)), h T (by omega)]
def ldM (m : Nat → Nat) (u T : Nat) : Nat := sumN T (fun t => if u.testBit t then 0 else m t)
theorem ldM_congr {m : Nat → Nat} {u v : Nat} (T : Nat) (h : ∀ t, t < T → u.testBit t = v.testBit t) : ldM m u T = ldM m v T := sumN_congr (fun t ht => by rw [h t ht])
def tmM (m : Nat → Nat) (c b T acc u : Nat) : Nat := if acc + ldM m u T ≤ b then pdM c u T else 0
theorem sum_tmM {m : Nat → Nat} {c b : Nat} (T acc : Nat) : sumN (2 ^ T) (tmM m c b T acc) = lm m c b T acc := by
  induction T generalizing acc with
  | zero =>
    show 0 + (if acc + 0 ≤ b then 1 else 0) = _
    rw [Nat.zero_add]; rfl
  | succ T ih =>
    rw [Nat.pow_succ, Nat.mul_two, sumN_add]
    have e1 : sumN (2 ^ T) (tmM m c b (T + 1) acc) = (10 - c) * lm m c b T (acc + m T) := by
      rw [← ih, ← sumN_mul]
      apply sumN_congr
      intro u hu
      have hb : u.testBit T = false := Nat.testBit_lt_two_pow hu
      unfold tmM
      have h2 : ldM m u (T + 1) = ldM m u T + m T := by unfold ldM; rw [sumN, hb]; simp
      have h3 : pdM c u (T + 1) = pdM c u T * (10 - c) := by rw [pdM, hb]; simp
      rw [h2, h3]
      by_cases hc : acc + (ldM m u T + m T) ≤ b
      · have hc' : acc + m T + ldM m u T ≤ b := by omega
        rw [if_pos hc, if_pos hc', Nat.mul_comm]
      · have hc' : ¬ acc + m T + ldM m u T ≤ b := by omega
        rw [if_neg hc, if_neg hc', Nat.mul_zero]
    have e2 : sumN (2 ^ T) (fun k => tmM m c b (T + 1) acc (2 ^ T + k)) = c * lm m c b T acc := by
      rw [← ih, ← sumN_mul]
      apply sumN_congr
      intro u hu
      have hb : (2 ^ T + u).testBit T = true := bit_hi hu
      have hlo : ∀ t, t < T → (2 ^ T + u).testBit t = u.testBit t := fun t ht => bit_lo ht
      unfold tmM
      have h2 : ldM m (2 ^ T + u) (T + 1) = ldM m u T := by
        have : ldM m (2 ^ T + u) (T + 1) = ldM m (2 ^ T + u) T + 0 := by unfold ldM; rw [sumN, hb]; simp
        rw [this, ldM_congr T hlo]; rfl
      have h3 : pdM c (2 ^ T + u) (T + 1) = pdM c u T * c := by rw [pdM, hb, pdM_congr T hlo]; simp
      rw [h2, h3]
      by_cases hc : acc + ldM m u T ≤ b
      · rw [if_pos hc, if_pos hc, Nat.mul_comm]
      · rw [if_neg hc, if_neg hc, Nat.mul_zero]
    rw [e1, e2, lm]
theorem frac_eq {A B m : Nat} (hm : 0 < m) : A * m / Nat.gcd (A * m) (B * m) = A / Nat.gcd A B := by
  rw [Nat.gcd_mul_right, Nat.mul_div_mul_right _ _ hm]
theorem frac_eq2 {A B m : Nat} (hm : 0 < m) : B * m / Nat.gcd (A * m) (B * m) = B / Nat.gcd A B := by
  rw [Nat.gcd_mul_right, Nat.mul_div_mul_right _ _ hm]
/-- which things of the room have something left: as bits; the class's parts in these words -/
def lkW (N : Nat → Nat) (s : Nat) : Nat := dn (setN (N 47) (fun t => decide (N (2 + t) = N (37 + s)))) (setN (N 47) (fun t => decide (N (18 + t) = 0)))
theorem lkW_bit {N : Nat → Nat} {s t : Nat} (ht : t < 32) : (lkW N s).testBit t = (decide (t < N 47) && decide (N (2 + t) = N (37 + s)) && !decide (N (18 + t) = 0)) := by
  unfold lkW
  rw [dn_bit ht, setN_bit, setN_bit]
  by_cases h : t < N 47 <;> simp [h]
theorem waysN_pd {w u c : Nat} (T : Nat) : waysN w u c T = pdA (fun t => w.testBit t) c u T := by
  induction T with
  | zero => rfl
  | succ T ih => rw [waysN_succ, pdA, ih]
theorem pd_more {p : Nat → Bool} {c u T : Nat} (k : Nat) (hp : ∀ t, T ≤ t → t < T + k → p t = false) : pdA p c u (T + k) = pdA p c u T := by
  induction k with
  | zero => rfl
  | succ k ih => rw [← Nat.add_assoc, pdA, ih (fun t h1 h2 => hp t h1 (by omega)), hp (T + k) (by omega) (by omega)]; simp
theorem okA_iff {p : Nat → Bool} {u : Nat} (T : Nat) : okA p u T = true ↔ ∀ t, t < T → u.testBit t = true → p t = true := by
  induction T with
  | zero => simp [okA]
  | succ T ih =>
    rw [okA, Bool.and_eq_true, ih]
    constructor
    · rintro ⟨h1, h2⟩ t ht hb
      by_cases e : t = T
      · subst e; rw [hb] at h2; simpa using h2
      · exact h1 t (by omega) hb
    · intro h
      refine ⟨fun t ht => h t (by omega), ?_⟩
      by_cases hb : u.testBit T = true
      · rw [h T (by omega) hb]; simp
      · have hb : u.testBit T = false := by simpa using hb
        rw [hb]; rfl
theorem dn0_iff {u w T : Nat} (hu : u < 2 ^ T) (hT : T ≤ 8) : dn u w = 0 ↔ okA (fun t => w.testBit t) u T = true := by
  rw [okA_iff]
  constructor
  · intro h t ht hb
    have h1 : (dn u w).testBit t = (u.testBit t && !w.testBit t) := dn_bit (by omega)
    rw [h, hb, Nat.zero_testBit] at h1
    simpa using h1.symm
  · intro h
    apply Nat.eq_of_testBit_eq
    intro t
    rw [Nat.zero_testBit]
    by_cases ht : t < T
    · rw [dn_bit (by omega)]
      by_cases hb : u.testBit t = true
      · rw [h t ht hb]; simp
      · have hb : u.testBit t = false := by simpa using hb
        rw [hb]; rfl
    · have h2 : dn u w < 2 ^ t := Nat.lt_of_le_of_lt (dn_le u w) (Nat.lt_of_lt_of_le hu (Nat.pow_le_pow_right (by decide) (by omega)))
      exact Nat.testBit_lt_two_pow h2
