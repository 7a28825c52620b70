-- the house as numbers: N 0 the night, 1 the draw, 2+t the room, 10+t the giver, 18+t what is left, 26+s slept, 31+s woken, 36 sleepers, 37+s bed, 42+s bears, 47 things, 48+t kind, 56+t dear
def sumN : Nat → (Nat → Nat) → Nat
  | 0, _ => 0
  | n + 1, f => sumN n f + f n
def setN : Nat → (Nat → Bool) → Nat
  | 0, _ => 0
  | n + 1, p => setN n p + (if p n then 2 ^ n else 0)
theorem setN_lt (n : Nat) (p : Nat → Bool) : setN n p < 2 ^ n := by
  induction n with
  | zero => simp [setN]
  | succ n ih => unfold setN; rw [Nat.pow_succ]; split <;> omega
theorem sumN_congr {n : Nat} {f g : Nat → Nat} (h : ∀ t, t < n → f t = g t) : sumN n f = sumN n g := by
  induction n with
  | zero => rfl
  | succ n ih => unfold sumN; rw [ih (fun t ht => h t (by omega)), h n (by omega)]
theorem setN_congr {n : Nat} {f g : Nat → Bool} (h : ∀ t, t < n → f t = g t) : setN n f = setN n g := by
  induction n with
  | zero => rfl
  | succ n ih => unfold setN; rw [ih (fun t ht => h t (by omega)), h n (by omega)]
theorem sumN_le {n b : Nat} {f : Nat → Nat} (h : ∀ t, t < n → f t ≤ b) : sumN n f ≤ n * b := by
  induction n with
  | zero => simp [sumN]
  | succ n ih => unfold sumN; have := ih (fun t ht => h t (by omega)); have := h n (by omega); rw [Nat.succ_mul]; omega
def loudT (N : Nat → Nat) (t : Nat) : Nat := mL (N (48 + t)) (N (56 + t)) (N (18 + t)) (N 0)
def loudR (N : Nat → Nat) (r : Nat) : Nat := sumN (N 47) (fun t => if N (2 + t) = r then loudT N t else 0)
def asleep (N : Nat → Nat) (s : Nat) : Prop := loudR N (N (37 + s)) ≤ N (42 + s)
def asleepB (N : Nat → Nat) (s : Nat) : Bool := decide (loudR N (N (37 + s)) ≤ N (42 + s))
/-- a night goes by -/
def goN (N : Nat → Nat) : Nat → Nat := fun k =>
  if k = 0 then N 0 + 1
  else if 18 ≤ k ∧ k < 18 + N 47 then mB (N (k + 30)) (N (k + 38)) (N k) (N 0)
  else if 26 ≤ k ∧ k < 26 + N 36 then N k + (if asleepB N (k - 26) then 1 else 0)
  else if 31 ≤ k ∧ k < 31 + N 36 then N k + (if asleepB N (k - 31) then 0 else 1)
  else N k
def wokenC (N : Nat → Nat) (n : Nat) : Nat := sumN n (fun s => if asleepB N s then 0 else 1)
/-- what a house's numbers keep to -/
def MV (N : Nat → Nat) : Prop := N 0 ≤ 20000 ∧ N 1 < 2 ^ 31 ∧ ∀ t, t < N 47 → N (2 + t) < 4 ∧ N (10 + t) < 10 ∧ N (18 + t) ≤ 99
def NV (N : Nat → Nat) : Prop := N 36 ≤ 5 ∧ N 47 ≤ 8 ∧ (∀ s, s < N 36 → N (37 + s) < 4 ∧ N (42 + s) ≤ 60) ∧ (∀ t, t < N 47 → N (48 + t) < 5 ∧ N (56 + t) ≤ 9) ∧ MV N
theorem NV.s5 {N : Nat → Nat} (h : NV N) : N 36 ≤ 5 := h.1
theorem NV.t8 {N : Nat → Nat} (h : NV N) : N 47 ≤ 8 := h.2.1
theorem NV.bd {N : Nat → Nat} (h : NV N) {s : Nat} (hs : s < N 36) : N (37 + s) < 4 := (h.2.2.1 s hs).1
theorem NV.br {N : Nat → Nat} (h : NV N) {s : Nat} (hs : s < N 36) : N (42 + s) ≤ 60 := (h.2.2.1 s hs).2
theorem NV.kd {N : Nat → Nat} (h : NV N) {t : Nat} (ht : t < N 47) : N (48 + t) < 5 := (h.2.2.2.1 t ht).1
theorem NV.dr {N : Nat → Nat} (h : NV N) {t : Nat} (ht : t < N 47) : N (56 + t) ≤ 9 := (h.2.2.2.1 t ht).2
theorem NV.ni {N : Nat → Nat} (h : NV N) : N 0 ≤ 20000 := h.2.2.2.2.1
theorem NV.dw {N : Nat → Nat} (h : NV N) : N 1 < 2 ^ 31 := h.2.2.2.2.2.1
theorem NV.pl {N : Nat → Nat} (h : NV N) {t : Nat} (ht : t < N 47) : N (2 + t) < 4 := (h.2.2.2.2.2.2 t ht).1
theorem NV.gv {N : Nat → Nat} (h : NV N) {t : Nat} (ht : t < N 47) : N (10 + t) < 10 := (h.2.2.2.2.2.2 t ht).2.1
theorem NV.lf {N : Nat → Nat} (h : NV N) {t : Nat} (ht : t < N 47) : N (18 + t) ≤ 99 := (h.2.2.2.2.2.2 t ht).2.2
theorem mL_le {k d l n : Nat} (hd : d ≤ 9) : mL k d l n ≤ 18 := by unfold mL; (repeat' split) <;> omega
theorem mB_le {k d l n : Nat} : mB k d l n ≤ l := by unfold mB; (repeat' split) <;> omega
theorem loudT_le {N : Nat → Nat} (h : NV N) {t : Nat} (ht : t < N 47) : loudT N t ≤ 18 := mL_le (h.dr ht)
theorem loudR_le {N : Nat → Nat} (h : NV N) (r : Nat) : loudR N r ≤ 144 := by
  have h1 : loudR N r ≤ N 47 * 18 := sumN_le (fun t ht => by split; exact loudT_le h ht; omega)
  have := h.t8
  omega
/-- cells of the class that hold these numbers -/
def MR (I : sd_I) (m : Nat) (N : Nat → Nat) : Prop := I m 5 = nI (N 0) ∧ I m 6 = nI (N 1) ∧ (∀ t, t < N 47 → I (m + 1) t = nI (N (2 + t)) ∧ I (m + 2) t = nI (N (10 + t)) ∧ I (m + 3) t = nI (N (18 + t))) ∧ ∀ s, s < N 36 → I (m + 4) s = nI (N (26 + s)) ∧ I (m + 5) s = nI (N (31 + s))
def HR (I : sd_I) (h : Nat) (N : Nat → Nat) : Prop := I h 7 = nI (N 36) ∧ I h 8 = nI (N 47) ∧ (∀ s, s < N 36 → I (h + 7) s = nI (N (37 + s)) ∧ I (h + 8) s = nI (N (42 + s))) ∧ (∀ t, t < N 47 → I (h + 9) t = nI (N (48 + t)) ∧ I (h + 10) t = nI (N (56 + t))) ∧ MR I (h + 12) N
theorem MR.ni {I : sd_I} {m : Nat} {N : Nat → Nat} (h : MR I m N) : I m 5 = nI (N 0) := h.1
theorem MR.dw {I : sd_I} {m : Nat} {N : Nat → Nat} (h : MR I m N) : I m 6 = nI (N 1) := h.2.1
theorem MR.pl {I : sd_I} {m : Nat} {N : Nat → Nat} (h : MR I m N) {t : Nat} (ht : t < N 47) : I (m + 1) t = nI (N (2 + t)) := (h.2.2.1 t ht).1
theorem MR.gv {I : sd_I} {m : Nat} {N : Nat → Nat} (h : MR I m N) {t : Nat} (ht : t < N 47) : I (m + 2) t = nI (N (10 + t)) := (h.2.2.1 t ht).2.1
theorem MR.lf {I : sd_I} {m : Nat} {N : Nat → Nat} (h : MR I m N) {t : Nat} (ht : t < N 47) : I (m + 3) t = nI (N (18 + t)) := (h.2.2.1 t ht).2.2
theorem MR.sp {I : sd_I} {m : Nat} {N : Nat → Nat} (h : MR I m N) {s : Nat} (hs : s < N 36) : I (m + 4) s = nI (N (26 + s)) := (h.2.2.2 s hs).1
theorem MR.wk {I : sd_I} {m : Nat} {N : Nat → Nat} (h : MR I m N) {s : Nat} (hs : s < N 36) : I (m + 5) s = nI (N (31 + s)) := (h.2.2.2 s hs).2
theorem HR.sl {I : sd_I} {h : Nat} {N : Nat → Nat} (H : HR I h N) : I h 7 = nI (N 36) := H.1
theorem HR.th {I : sd_I} {h : Nat} {N : Nat → Nat} (H : HR I h N) : I h 8 = nI (N 47) := H.2.1
theorem HR.bd {I : sd_I} {h : Nat} {N : Nat → Nat} (H : HR I h N) {s : Nat} (hs : s < N 36) : I (h + 7) s = nI (N (37 + s)) := (H.2.2.1 s hs).1
theorem HR.br {I : sd_I} {h : Nat} {N : Nat → Nat} (H : HR I h N) {s : Nat} (hs : s < N 36) : I (h + 8) s = nI (N (42 + s)) := (H.2.2.1 s hs).2
theorem HR.kd {I : sd_I} {h : Nat} {N : Nat → Nat} (H : HR I h N) {t : Nat} (ht : t < N 47) : I (h + 9) t = nI (N (48 + t)) := (H.2.2.2.1 t ht).1
theorem HR.dr {I : sd_I} {h : Nat} {N : Nat → Nat} (H : HR I h N) {t : Nat} (ht : t < N 47) : I (h + 10) t = nI (N (56 + t)) := (H.2.2.2.1 t ht).2
theorem HR.m {I : sd_I} {h : Nat} {N : Nat → Nat} (H : HR I h N) : MR I (h + 12) N := H.2.2.2.2
theorem MR.of {I I' : sd_I} {m : Nat} {N : Nat → Nat} (h : MR I m N) (e : ∀ b, m ≤ b → b ≤ m + 5 → I' b = I b) : MR I' m N := by
  obtain ⟨h1, h2, h3, h4⟩ := h
  refine ⟨by rw [e m (by omega) (by omega)]; exact h1, by rw [e m (by omega) (by omega)]; exact h2, fun t ht => ?_, fun s hs => ?_⟩
  · rw [e (m + 1) (by omega) (by omega), e (m + 2) (by omega) (by omega), e (m + 3) (by omega) (by omega)]; exact h3 t ht
  · rw [e (m + 4) (by omega) (by omega), e (m + 5) (by omega) (by omega)]; exact h4 s hs
theorem HR.of {I I' : sd_I} {h : Nat} {N : Nat → Nat} (H : HR I h N) (e : ∀ b, h ≤ b → b ≤ h + 17 → b ≠ h + 11 → I' b = I b) : HR I' h N := by
  obtain ⟨h1, h2, h3, h4, h5⟩ := H
  refine ⟨by rw [e h (by omega) (by omega) (by omega)]; exact h1, by rw [e h (by omega) (by omega) (by omega)]; exact h2, fun s hs => ?_, fun t ht => ?_, h5.of (fun b b1 b2 => e b (by omega) (by omega) (by omega))⟩
  · rw [e (h + 7) (by omega) (by omega) (by omega), e (h + 8) (by omega) (by omega) (by omega)]; exact h3 s hs
  · rw [e (h + 9) (by omega) (by omega) (by omega), e (h + 10) (by omega) (by omega) (by omega)]; exact h4 t ht
/-- bits -/
theorem nI_or {n a : Nat} (h : a < 2 ^ n) : nI a ||| nI (2 ^ n) = nI (a + 2 ^ n) := by
  apply Int32.toBitVec_inj.mp
  show (nI a).toBitVec ||| (nI (2 ^ n)).toBitVec = (nI (a + 2 ^ n)).toBitVec
  have hb : ∀ k, (nI k).toBitVec = BitVec.ofNat 32 k := fun k => rfl
  rw [hb, hb, hb, ← BitVec.ofNat_or]
  congr 1
  have e := Nat.two_pow_add_eq_or_of_lt (i := n) (b := a) h 1
  rw [Nat.mul_one] at e
  rw [Nat.add_comm, Nat.or_comm]
  exact e.symm
theorem nI_or0 (a : Nat) : nI a ||| nI 0 = nI a := by
  apply Int32.toBitVec_inj.mp
  show (nI a).toBitVec ||| (nI 0).toBitVec = (nI a).toBitVec
  have hb : (nI 0).toBitVec = 0#32 := rfl
  rw [hb, BitVec.or_zero]
theorem nI_shl1 {n : Nat} (h : n < 31) : nI 1 <<< (nI n &&& 31) = nI (2 ^ n) := by
  have key : ∀ n : Fin 31, nI 1 <<< (nI n.val &&& 31) = nI (2 ^ n.val) := by decide
  exact key ⟨n, h⟩
theorem nI_bit {w t : Nat} (hw : w < 2 ^ 31) (ht : t < 31) : (nI w >>> (nI t &&& 31)) &&& nI 1 = nI (if w.testBit t then 1 else 0) := by
  have h31 : (nI t &&& 31) = nI t := by
    have key : ∀ n : Fin 31, (nI n.val &&& 31) = nI n.val := by decide
    exact key ⟨t, ht⟩
  have hs : ((nI t).toBitVec.smod 32).toNat = t := by
    have key : ∀ n : Fin 31, ((nI n.val).toBitVec.smod 32).toNat = n.val := by decide
    exact key ⟨t, ht⟩
  rw [h31, pk_shrN hw (nI t) t hs]
  have : nI (w / 2 ^ t) &&& nI 1 = nI ((w / 2 ^ t) % 2 ^ 1) := pk_andN (by have := Nat.div_le_self w (2 ^ t); omega) 1 (by decide)
  rw [this]
  congr 1
  rw [Nat.testBit_eq_decide_div_mod_eq]
  by_cases h : w / 2 ^ t % 2 = 1
  · simp [h]
  · have : w / 2 ^ t % 2 = 0 := by omega
    simp [this]
