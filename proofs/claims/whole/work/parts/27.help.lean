-- helpers of the class ThankingGifts
theorem i2_1 : is2 1 := Or.inl rfl
theorem i2_69 : is2 69 := Or.inr (Or.inl rfl)
theorem i2_137 : is2 137 := Or.inr (Or.inr rfl)
theorem i6_19 : is6 19 := Or.inl rfl
theorem i6_87 : is6 87 := Or.inr rfl
theorem PR.of {I I' : sd_I} {p : Nat} {N : Nat → Nat} (H : PR I p N) (e : ∀ b, p ≤ b → b ≤ p + 49 → I' b = I b) : PR I' p N := by
  obtain ⟨h1, h2, x, hx, h3, h4⟩ := H
  exact ⟨by rw [e p (by omega) (by omega)]; exact h1, h2, x, hx, by rw [e p (by omega) (by omega)]; exact h3, fun j hj => (h4 j hj).of (fun b b1 b2 => e b (by omega) (by omega))⟩
theorem PR.eqN {I : sd_I} {p : Nat} {N N' : Nat → Nat} (H : PR I p N) (e : ∀ k, k = 36 ∨ k = 47 ∨ 64 ≤ k → N' k = N k) (h5 : N 36 ≤ 5) (h8 : N 47 ≤ 8) : PR I p N' := by
  obtain ⟨h1, h2, x, hx, h3, h4⟩ := H
  have e64 := e 64 (by omega)
  refine ⟨by rw [e64]; exact h1, by rw [e64]; exact h2, x, hx, h3, fun j hj => ?_⟩
  rw [e64] at hj ⊢
  refine (h4 j hj).eqN (fun k hk => ?_) (by unfold sl; rw [if_neg (by omega)]; exact h5) (by unfold sl; rw [if_neg (by omega)]; exact h8)
  unfold sl
  by_cases hk2 : k < 36
  · rw [if_pos hk2, if_pos hk2]; exact e _ (by omega)
  · rw [if_neg hk2, if_neg hk2]; exact e _ (by omega)
theorem HR.eqN {I : sd_I} {h : Nat} {N N' : Nat → Nat} (H : HR I h N) (e : ∀ k, k < 64 → N' k = N k) (h5 : N 36 ≤ 5) (h8 : N 47 ≤ 8) : HR I h N' := by
  obtain ⟨a1, a2, a3, a4, a5⟩ := H
  have e36 := e 36 (by omega)
  have e47 := e 47 (by omega)
  refine ⟨by rw [e36]; exact a1, by rw [e47]; exact a2, fun s hs => ?_, fun t ht => ?_, a5.eqN (fun k hk => e k (by omega)) h5 h8⟩
  · rw [e36] at hs; rw [e (37 + s) (by omega), e (42 + s) (by omega)]; exact a3 s hs
  · rw [e47] at ht; rw [e (48 + t) (by omega), e (56 + t) (by omega)]; exact a4 t ht
theorem NV.eqN {N N' : Nat → Nat} (H : NV N) (e : ∀ k, k < 64 → N' k = N k) : NV N' := by
  have h5 := H.s5
  have h8 := H.t8
  have e36 := e 36 (by omega)
  have e47 := e 47 (by omega)
  refine ⟨by rw [e36]; exact h5, by rw [e47]; exact h8, fun s hs => ?_, fun t ht => ?_, by rw [e 0 (by omega)]; exact H.ni, by rw [e 1 (by omega)]; exact H.dw, fun t ht => ?_⟩
  · rw [e36] at hs; rw [e (37 + s) (by omega), e (42 + s) (by omega)]; exact H.2.2.1 s hs
  · rw [e47] at ht; rw [e (48 + t) (by omega), e (56 + t) (by omega)]; exact H.2.2.2.1 t ht
  · rw [e47] at ht; rw [e (2 + t) (by omega), e (10 + t) (by omega), e (18 + t) (by omega)]; exact H.2.2.2.2.2.2 t ht
theorem goN_hi {N : Nat → Nat} (h5 : N 36 ≤ 5) (h8 : N 47 ≤ 8) {k : Nat} (hk : k ≠ 0) (h : k < 18 ∨ 36 ≤ k) : goN N k = N k := by
  unfold goN; rw [if_neg hk, if_neg (by omega), if_neg (by omega), if_neg (by omega)]
theorem NV.go {N : Nat → Nat} (H : NV N) (h0 : N 0 < 20000) : NV (goN N) := by
  have h5 := H.s5
  have h8 := H.t8
  have e36 : goN N 36 = N 36 := goN_hi h5 h8 (by omega) (by omega)
  have e47 : goN N 47 = N 47 := goN_hi h5 h8 (by omega) (by omega)
  refine ⟨by rw [e36]; exact h5, by rw [e47]; exact h8, fun s hs => ?_, fun t ht => ?_, ?_, ?_, fun t ht => ?_⟩
  · rw [e36] at hs; rw [goN_hi h5 h8 (by omega) (by omega), goN_hi h5 h8 (by omega) (by omega)]; exact H.2.2.1 s hs
  · rw [e47] at ht; rw [goN_hi h5 h8 (by omega) (by omega), goN_hi h5 h8 (by omega) (by omega)]; exact H.2.2.2.1 t ht
  · show N 0 + 1 ≤ 20000; omega
  · rw [goN_hi h5 h8 (by omega) (by omega)]; exact H.dw
  · rw [e47] at ht
    rw [goN_hi h5 h8 (k := 2 + t) (by omega) (by omega), goN_hi h5 h8 (k := 10 + t) (by omega) (by omega)]
    refine ⟨H.pl ht, H.gv ht, ?_⟩
    unfold goN; rw [if_neg (by omega), if_pos (by omega)]
    exact Nat.le_trans mB_le (H.lf ht)
theorem NV.draw {N : Nat → Nat} (H : NV N) : NV (drawN N) := by
  have h5 := H.s5
  have h8 := H.t8
  have hD := drawD_lt (N 1)
  have hu : NV (upN N 1 (drawD (N 1))) := by
    have e36 : upN N 1 (drawD (N 1)) 36 = N 36 := upN_ne (by omega)
    have e47 : upN N 1 (drawD (N 1)) 47 = N 47 := upN_ne (by omega)
    refine ⟨by rw [e36]; exact h5, by rw [e47]; exact h8, fun s hs => ?_, fun t ht => ?_, ?_, by rw [upN_eq]; omega, fun t ht => ?_⟩
    · rw [e36] at hs; rw [upN_ne (by omega), upN_ne (by omega)]; exact H.2.2.1 s hs
    · rw [e47] at ht; rw [upN_ne (by omega), upN_ne (by omega)]; exact H.2.2.2.1 t ht
    · rw [upN_ne (by omega)]; exact H.ni
    · rw [e47] at ht; rw [upN_ne (by omega), upN_ne (by omega), upN_ne (by omega)]; exact H.2.2.2.2.2.2 t ht
  unfold drawN
  split
  · rename_i hc
    have hm : drawD (N 1) / 65536 % N 47 < N 47 := Nat.mod_lt _ hc.2
    generalize drawD (N 1) / 65536 % N 47 = q at hm
    generalize upN N 1 (drawD (N 1)) = M at hu
    have h4 : drawD (N 1) / 128 % 4 < 4 := by omega
    generalize drawD (N 1) / 128 % 4 = z at h4
    have h5 := hu.s5
    have h8 := hu.t8
    have e36 : upN M (2 + q) z 36 = M 36 := upN_ne (by omega)
    have e47 : upN M (2 + q) z 47 = M 47 := upN_ne (by omega)
    refine ⟨by rw [e36]; exact h5, by rw [e47]; exact h8, fun s hs => ?_, fun t ht => ?_, by rw [upN_ne (by omega)]; exact hu.ni, by rw [upN_ne (by omega)]; exact hu.dw, fun t ht => ?_⟩
    · rw [e36] at hs; rw [upN_ne (by omega), upN_ne (by omega)]; exact hu.2.2.1 s hs
    · rw [e47] at ht; rw [upN_ne (by omega), upN_ne (by omega)]; exact hu.2.2.2.1 t ht
    · rw [e47] at ht
      rw [upN_ne (k := 2 + q) (j := 10 + t) (by omega), upN_ne (k := 2 + q) (j := 18 + t) (by omega)]
      refine ⟨?_, hu.gv ht, hu.lf ht⟩
      by_cases e : t = q
      · subst e; rw [upN_eq]; exact h4
      · rw [upN_ne (by omega)]; exact hu.pl ht
  · exact hu
theorem drawN_hi {N : Nat → Nat} (h8 : N 47 ≤ 8) {k : Nat} (h : k = 0 ∨ 18 ≤ k) : drawN N k = N k := by
  unfold drawN
  split
  · rename_i hc
    have hm : drawD (N 1) / 65536 % N 47 < N 47 := Nat.mod_lt _ hc.2
    rw [upN_ne (by omega), upN_ne (by omega)]
  · rw [upN_ne (by omega)]
/-- a night with its note, by a draw or not -/
def preN (d : Bool) (N : Nat → Nat) : Nat → Nat := if d then drawN (noteN N) else noteN N
def itN (d : Bool) (N : Nat → Nat) : Nat → (Nat → Nat)
  | 0 => N
  | k + 1 => goN (preN d (itN d N k))
def wkN (d : Bool) (N : Nat → Nat) (k : Nat) : Nat := sumN k (fun q => wokenC (preN d (itN d N q)) (N 36))
theorem preN_f {N : Nat → Nat} : preN false N = noteN N := by unfold preN; rw [if_neg (by decide)]
theorem preN_t {N : Nat → Nat} : preN true N = drawN (noteN N) := by unfold preN; rw [if_pos rfl]
theorem itN_succ {d : Bool} {N : Nat → Nat} {k : Nat} : itN d N (k + 1) = goN (preN d (itN d N k)) := by rw [itN]
theorem wkN_succ {d : Bool} {N : Nat → Nat} {k : Nat} : wkN d N (k + 1) = wkN d N k + wokenC (preN d (itN d N k)) (N 36) := by unfold wkN; rw [sumN]
theorem preN_NV {d : Bool} {N : Nat → Nat} (H : NV N) : NV (preN d N) := by
  have h1 : NV (noteN N) := H.eqN (fun k hk => noteN_low hk)
  unfold preN; split
  · exact h1.draw
  · exact h1
theorem preN_0 {d : Bool} {N : Nat → Nat} (H : NV N) : preN d N 0 = N 0 ∧ preN d N 36 = N 36 ∧ preN d N 47 = N 47 := by
  have h8 : noteN N 47 ≤ 8 := by rw [noteN_low (by omega)]; exact H.t8
  unfold preN; split
  · rw [drawN_hi h8 (by omega), drawN_hi h8 (by omega), drawN_hi h8 (by omega), noteN_low (by omega), noteN_low (by omega), noteN_low (by omega)]; exact ⟨rfl, rfl, rfl⟩
  · rw [noteN_low (by omega), noteN_low (by omega), noteN_low (by omega)]; exact ⟨rfl, rfl, rfl⟩
theorem itN_inv {d : Bool} {N : Nat → Nat} (H : NV N) (k : Nat) (hk : N 0 + k ≤ 20000) : NV (itN d N k) ∧ itN d N k 0 = N 0 + k ∧ itN d N k 36 = N 36 := by
  induction k with
  | zero => exact ⟨H, rfl, rfl⟩
  | succ k ih =>
    obtain ⟨h1, h2, h3⟩ := ih (by omega)
    have h4 := preN_NV (d := d) h1
    obtain ⟨e0, e36, e47⟩ := preN_0 (d := d) h1
    refine ⟨by rw [itN_succ]; exact h4.go (by rw [e0, h2]; omega), ?_, ?_⟩
    · rw [itN_succ]; show preN d (itN d N k) 0 + 1 = _; rw [e0, h2]; omega
    · rw [itN_succ, goN_hi h4.s5 h4.t8 (by omega) (by omega), e36, h3]
section Help
variable {X : Nat × (Nat → Int32)} {I : sd_I} {J : sd_J} {N : Nat → Nat}
theorem lp_X11_sum {a n len : Nat} {f : Nat → Nat} (hA : sk0[a]? = some (20, len, [])) (hn : n ≤ len) (hl : len ≤ 8) (hf : ∀ i, i < n → I a i = nI (f i)) {Q : Option Int32 → sd_S → Prop} (K : Q (some (nI (sumN n f))) (sk0, X, I, J)) : ∀ (m i : Nat), n - i < m → i ≤ n → AW muX11_sum 0 0 4 [.ref a, .int (nI n), .int (nI (sumN i f)), .int (nI i)] [] (sk0, X, I, J) Q := by
  intro m
  induction m with
  | zero => intros; omega
  | succ m ih =>
    intro i hm hi
    refine AW.iload_n dX11_sum_4 rfl rfl ?_
    refine AW.iload_n dX11_sum_5 rfl rfl ?_
    first | refine AW.icmp_geN (tgt := 27) dX11_sum_6 (by decide) (by omega) (by omega) (fun c6 => ?_) (fun c6 => ?_) | refine AW.icmp_ge (tgt := 27) dX11_sum_6 (by decide) (fun c6 => ?_) (fun c6 => ?_)
    · refine AW.iload_n dX11_sum_27 rfl rfl ?_
      refine AW.iret dX11_sum_28 ⟨_, rfl, rfl⟩ (Nat.zero_le _) (Nat.zero_le _) ?_
      obtain rfl : i = n := by omega
      exact K
    · refine AW.iload_n dX11_sum_9 rfl rfl ?_
      refine AW.aload_n dX11_sum_10 rfl rfl ?_
      refine AW.alen (t := 0) (v := _) dX11_sum_11 (by first | exact hA) rfl ?_
      show AW muX11_sum _ _ 12 _ _ _ _
      first | refine AW.icmp_geN (tgt := 27) dX11_sum_12 (by decide) (by omega) (by omega) (fun c12 => ?_) (fun c12 => ?_) | refine AW.icmp_ge (tgt := 27) dX11_sum_12 (by decide) (fun c12 => ?_) (fun c12 => ?_)
      · refine AW.iload_n dX11_sum_27 rfl rfl ?_
        refine AW.iret dX11_sum_28 ⟨_, rfl, rfl⟩ (Nat.zero_le _) (Nat.zero_le _) ?_
        obtain rfl : i = n := by omega
        exact K
      · refine AW.iload_n dX11_sum_15 rfl rfl ?_
        refine AW.aload_n dX11_sum_16 rfl rfl ?_
        refine AW.iload_n dX11_sum_17 rfl rfl ?_
        refine AW.iald dX11_sum_18 (by first | exact hA) _ (by first | rfl | assumption) (by omega) (by first | decide | omega) ?_
        refine AW.top (hf i (by omega)) ?_
        first | refine AW.iaddN dX11_sum_19 ?_ | refine AW.iadd dX11_sum_19 ?_
        show AW muX11_sum _ _ 20 _ _ _ _
        refine AW.istore_n dX11_sum_20 rfl (by decide) rfl rfl ?_
        first | refine AW.iincN dX11_sum_21 rfl (by decide) rfl rfl ?_ | refine AW.iinc dX11_sum_21 rfl rfl (by decide) rfl rfl ?_
        refine AW.goto (tgt := 4) dX11_sum_24 (by decide) ?_
        exact ih (i + 1) (by omega) (by omega)
theorem s_X11_sum {Q : Int32 → sd_S → Prop} {a n len : Nat} {f : Nat → Nat} (hA : sk0[a]? = some (20, len, [])) (hn : n ≤ len) (hl : len ≤ 8) (hf : ∀ i, i < n → I a i = nI (f i)) (hQ : Q (nI (sumN n f)) (sk0, X, I, J)) : AWi muX11_sum [.ref a, .int (nI n)] (sk0, X, I, J) Q := by
  show AW muX11_sum 0 0 0 [.ref a, .int (nI n), .null, .null] [] _ _
  refine AW.iconst (v := nI 0) dX11_sum_0 (by decide) ?_
  refine AW.istore_n dX11_sum_1 rfl (by decide) rfl rfl ?_
  refine AW.iconst (v := nI 0) dX11_sum_2 (by decide) ?_
  refine AW.istore_n dX11_sum_3 rfl (by decide) rfl rfl ?_
  exact lp_X11_sum hA hn hl hf ⟨_, rfl, hQ⟩ (n + 1) 0 (by omega) (by omega)
theorem lp_X11_spendNights {n : Nat} (d : Bool) (hV : NV N) (hn : N 0 + n ≤ 9999) {Q : Option Int32 → sd_S → Prop} : ∀ (m k : Nat) (I : sd_I), n - k < m → k ≤ n → HR I 1 (itN d N k) → PR I 19 (itN d N k) → (∀ I', Fr I I' 1 68 → HR I' 1 (itN d N n) → PR I' 19 (itN d N n) → Q (some (nI (wkN d N n))) (sk0, X, I', J)) → AW muX11_spendNights 0 0 38 [.ref 0, .int (nI n), .int (nI (if d then 1 else 0)), .int (nI (wkN d N k)), .int (nI k)] [] (sk0, X, I, J) Q := by
  intro m
  induction m with
  | zero => intros; omega
  | succ m ih =>
    intro k I hm hk hR hP K
    obtain ⟨hVk, h0k, h36k⟩ := itN_inv (d := d) hV k (by omega)
    have hVn : NV (noteN (itN d N k)) := hVk.eqN (fun k hk => noteN_low hk)
    have n36 : noteN (itN d N k) 36 = N 36 := by rw [noteN_low (by omega), h36k]
    cases d with
    | false =>
      have es : itN false N (k + 1) = goN (noteN (itN false N k)) := by rw [itN_succ, preN_f]
      have ew : wkN false N (k + 1) = wkN false N k + wokenC (noteN (itN false N k)) (N 36) := by rw [wkN_succ, preN_f]
      generalize hA : itN false N k = A at hR hP hVk h0k h36k hVn n36 es ew
      generalize hWW : wkN false N k = ww at ew
      have hgo : ∀ q, q = 36 ∨ q = 47 ∨ 64 ≤ q → goN (noteN A) q = noteN A q := fun q hq => goN_hi hVn.s5 hVn.t8 (by omega) (by omega)
      refine AW.iload dX11_spendNights_38 rfl ?_
      refine AW.iload_n dX11_spendNights_40 rfl rfl ?_
      first | refine AW.icmp_geN (tgt := 85) dX11_spendNights_41 (by decide) (by omega) (by omega) (fun c41 => ?_) (fun c41 => ?_) | refine AW.icmp_ge (tgt := 85) dX11_spendNights_41 (by decide) (fun c41 => ?_) (fun c41 => ?_)
      · refine AW.iload_n dX11_spendNights_85 rfl rfl ?_
        refine AW.iret dX11_spendNights_86 ⟨_, rfl, rfl⟩ (Nat.zero_le _) (Nat.zero_le _) ?_
        obtain rfl : k = n := by omega
        subst hA; subst hWW
        exact K I Fr.rf hR hP
      · refine AW.aload_n dX11_spendNights_44 rfl rfl ?_
        refine g11_1 dX11_spendNights_45 wF_X11_19 (by first | assumption | rfl | (unfold is11; omega)) ?_
        refine AW.aload_n dX11_spendNights_48 rfl rfl ?_
        show AW muX11_spendNights _ _ 49 _ _ _ _
        refine g11_0 dX11_spendNights_49 wF_X11_10 (by first | assumption | rfl | (unfold is11; omega)) ?_
        refine g2_6 dX11_spendNights_52 wF_X11_92 (by first | assumption | rfl | (unfold is2; omega)) ?_
        refine cs_X11_spendNights_55 (by first | exact k0_19 | exact k0_1) (by decide) (by decide) (Nat.le_of_ble_eq_true rfl) (s_X6_keep i6_19 (is2.m i2_1) (by omega) hP hR.m hVk.s5 hVk.t8 (fun I1 f1 P1 => ?_))
        refine AW.iload_n dX11_spendNights_58 rfl rfl ?_
        refine AW.ifeq0 (tgt := 69) dX11_spendNights_59 (by decide) ?_
        refine AW.iload_n dX11_spendNights_69 rfl rfl ?_
        refine AW.aload_n dX11_spendNights_70 rfl rfl ?_
        show AW muX11_spendNights _ _ 71 _ _ _ _
        refine g11_0 dX11_spendNights_71 wF_X11_10 (by first | assumption | rfl | (unfold is11; omega)) ?_
        refine cs_X11_spendNights_74 (by first | exact k0_19 | exact k0_1) (by decide) (by decide) (Nat.le_of_ble_eq_true rfl) (s_X2_spendNight (N := noteN A) i2_1 ((hR.of (fun b b1 b2 b3 => f1 b (by omega))).eqN (fun q hq => noteN_low hq) hVk.s5 hVk.t8) hVn (fun I2 f2 H2 => ?_))
        first | refine AW.iaddN dX11_spendNights_77 ?_ | refine AW.iadd dX11_spendNights_77 ?_
        refine AW.top (show _ = nI (wkN false N (k + 1)) by rw [ew, n36]) ?_
        refine AW.istore_n dX11_spendNights_78 rfl (by decide) rfl rfl ?_
        first | refine AW.iincN dX11_spendNights_79 rfl (by decide) rfl rfl ?_ | refine AW.iinc dX11_spendNights_79 rfl rfl (by decide) rfl rfl ?_
        refine AW.goto (tgt := 38) dX11_spendNights_82 (by decide) ?_
        refine ih (k + 1) I2 (by omega) (by omega) (by rw [es]; exact H2) (by rw [es]; exact (P1.of (fun b b1 b2 => f2 b (by omega))).eqN hgo hVn.s5 hVn.t8) (fun I' f H P => K I' (((f1.w (by omega) (by omega)).tr (f2.w (by omega) (by omega))).tr f) H P)
    | true =>
      have es : itN true N (k + 1) = goN (drawN (noteN (itN true N k))) := by rw [itN_succ, preN_t]
      have ew : wkN true N (k + 1) = wkN true N k + wokenC (drawN (noteN (itN true N k))) (N 36) := by rw [wkN_succ, preN_t]
      have hVp := hVn.draw
      generalize hA : itN true N k = A at hR hP hVk h0k h36k hVn n36 es ew hVp
      generalize hWW : wkN true N k = ww at ew
      have hdr : ∀ q, q = 36 ∨ q = 47 ∨ 64 ≤ q → drawN (noteN A) q = noteN A q := fun q hq => drawN_hi hVn.t8 (by omega)
      have d36 : drawN (noteN A) 36 = N 36 := by rw [hdr 36 (by omega), n36]
      have hgo : ∀ q, q = 36 ∨ q = 47 ∨ 64 ≤ q → goN (drawN (noteN A)) q = drawN (noteN A) q := fun q hq => goN_hi hVp.s5 hVp.t8 (by omega) (by omega)
      refine AW.iload dX11_spendNights_38 rfl ?_
      refine AW.iload_n dX11_spendNights_40 rfl rfl ?_
      first | refine AW.icmp_geN (tgt := 85) dX11_spendNights_41 (by decide) (by omega) (by omega) (fun c41 => ?_) (fun c41 => ?_) | refine AW.icmp_ge (tgt := 85) dX11_spendNights_41 (by decide) (fun c41 => ?_) (fun c41 => ?_)
      · refine AW.iload_n dX11_spendNights_85 rfl rfl ?_
        refine AW.iret dX11_spendNights_86 ⟨_, rfl, rfl⟩ (Nat.zero_le _) (Nat.zero_le _) ?_
        obtain rfl : k = n := by omega
        subst hA; subst hWW
        exact K I Fr.rf hR hP
      · refine AW.aload_n dX11_spendNights_44 rfl rfl ?_
        refine g11_1 dX11_spendNights_45 wF_X11_19 (by first | assumption | rfl | (unfold is11; omega)) ?_
        refine AW.aload_n dX11_spendNights_48 rfl rfl ?_
        show AW muX11_spendNights _ _ 49 _ _ _ _
        refine g11_0 dX11_spendNights_49 wF_X11_10 (by first | assumption | rfl | (unfold is11; omega)) ?_
        refine g2_6 dX11_spendNights_52 wF_X11_92 (by first | assumption | rfl | (unfold is2; omega)) ?_
        refine cs_X11_spendNights_55 (by first | exact k0_19 | exact k0_1) (by decide) (by decide) (Nat.le_of_ble_eq_true rfl) (s_X6_keep i6_19 (is2.m i2_1) (by omega) hP hR.m hVk.s5 hVk.t8 (fun I1 f1 P1 => ?_))
        refine AW.iload_n dX11_spendNights_58 rfl rfl ?_
        refine AW.ifeq1 (tgt := 69) dX11_spendNights_59 (by decide) ?_
        refine AW.aload_n dX11_spendNights_62 rfl rfl ?_
        refine g11_0 dX11_spendNights_63 wF_X11_10 (by first | assumption | rfl | (unfold is11; omega)) ?_
        show AW muX11_spendNights _ _ 66 _ _ _ _
        refine cs_X11_spendNights_66 (by first | exact k0_19 | exact k0_1) (by decide) (by decide) (Nat.le_of_ble_eq_true rfl) (s_X2_moveByDraw (N := noteN A) i2_1 ((hR.of (fun b b1 b2 b3 => f1 b (by omega))).eqN (fun q hq => noteN_low hq) hVk.s5 hVk.t8) hVn (fun I3 f3 H3 => ?_))
        generalize drawN (noteN A) = M at H3 hdr d36 hgo hVp es ew
        refine AW.iload_n dX11_spendNights_69 rfl rfl ?_
        refine AW.aload_n dX11_spendNights_70 rfl rfl ?_
        refine g11_0 dX11_spendNights_71 wF_X11_10 (by first | assumption | rfl | (unfold is11; omega)) ?_
        refine cs_X11_spendNights_74 (by first | exact k0_19 | exact k0_1) (by decide) (by decide) (Nat.le_of_ble_eq_true rfl) (s_X2_spendNight (N := M) i2_1 H3 hVp (fun I2 f2 H2 => ?_))
        first | refine AW.iaddN dX11_spendNights_77 ?_ | refine AW.iadd dX11_spendNights_77 ?_
        refine AW.top (show _ = nI (wkN true N (k + 1)) by rw [ew, d36]) ?_
        show AW muX11_spendNights _ _ 78 _ _ _ _
        refine AW.istore_n dX11_spendNights_78 rfl (by decide) rfl rfl ?_
        first | refine AW.iincN dX11_spendNights_79 rfl (by decide) rfl rfl ?_ | refine AW.iinc dX11_spendNights_79 rfl rfl (by decide) rfl rfl ?_
        refine AW.goto (tgt := 38) dX11_spendNights_82 (by decide) ?_
        refine ih (k + 1) I2 (by omega) (by omega) (by rw [es]; exact H2) (by rw [es]; exact (((P1.of (fun b b1 b2 => f3 b (by omega))).of (fun b b1 b2 => f2 b (by omega))).eqN hdr hVn.s5 hVn.t8).eqN hgo hVp.s5 hVp.t8) (fun I' f H P => K I' ((((f1.w (by omega) (by omega)).tr (f3.w (by omega) (by omega))).tr (f2.w (by omega) (by omega))).tr f) H P)
theorem s_X11_spendNights {Q : Int32 → sd_S → Prop} {x : Int32} (d : Bool) (hV : NV N) (h9 : N 0 ≤ 9999) (hR : HR I 1 N) (hP : PR I 19 N) (q1 : ¬ inR x 1 41 → Q (-1) (sk0, X, I, J)) (q2 : ∀ n, 1 ≤ n → n < 41 → x = nI n → 9999 < N 0 + n → Q (-3) (sk0, X, I, J)) (q3 : ∀ n, 1 ≤ n → n < 41 → x = nI n → N 0 + n ≤ 9999 → ∀ I', Fr I I' 1 68 → HR I' 1 (itN d N n) → PR I' 19 (itN d N n) → Q (nI (wkN d N n)) (sk0, X, I', J)) : AWi muX11_spendNights [.ref 0, .int x, .int (nI (if d then 1 else 0))] (sk0, X, I, J) Q := by
  show AW muX11_spendNights 0 0 0 [.ref 0, .int x, .int (nI (if d then 1 else 0)), .null, .null] [] _ _
  refine AW.iload_n dX11_spendNights_0 rfl rfl ?_
  refine AW.iconst (v := nI 1) dX11_spendNights_1 (by decide) ?_
  refine AW.bipush (v := nI 40) dX11_spendNights_2 (by decide) ?_
  refine cs_X11_spendNights_4 (by decide) (by decide) (Nat.le_of_ble_eq_true rfl) (s_X11_within (lo := 1) (hi := 41) (by decide) (by decide) (by decide) (fun n h1 h2 h3 => ?_) (fun hn => ?_))
  · refine AW.ifne1 (tgt := 12) dX11_spendNights_7 (by decide) ?_
    subst h3
    refine AW.aload_n dX11_spendNights_12 rfl rfl ?_
    refine g11_0 dX11_spendNights_13 wF_X11_10 (by first | assumption | rfl | (unfold is11; omega)) ?_
    refine g2_6 dX11_spendNights_16 wF_X11_92 (by first | assumption | rfl | (unfold is2; omega)) ?_
    show AW muX11_spendNights _ _ 19 _ _ _ _
    refine g4_5 dX11_spendNights_19 wF_X11_168 (by first | assumption | exact is2.m (by assumption) | rfl | (unfold is4; omega) | exact is6.m (by assumption) (by omega)) ?_
    refine AW.top (hR.m.ni) ?_
    refine AW.iload_n dX11_spendNights_22 rfl rfl ?_
    first | refine AW.iaddN dX11_spendNights_23 ?_ | refine AW.iadd dX11_spendNights_23 ?_
    refine AW.sipush (v := nI 9999) dX11_spendNights_24 (by decide) ?_
    first | refine AW.icmp_leN (tgt := 33) dX11_spendNights_27 (by decide) (by omega) (by omega) (fun c27 => ?_) (fun c27 => ?_) | refine AW.icmp_le (tgt := 33) dX11_spendNights_27 (by decide) (fun c27 => ?_) (fun c27 => ?_)
    · refine AW.iconst (v := nI 0) dX11_spendNights_33 (by decide) ?_
      refine AW.istore_n dX11_spendNights_34 rfl (by decide) rfl rfl ?_
      show AW muX11_spendNights _ _ 35 _ _ _ _
      refine AW.iconst (v := nI 0) dX11_spendNights_35 (by decide) ?_
      refine AW.istore dX11_spendNights_36 (by decide) rfl rfl ?_
      exact lp_X11_spendNights d hV c27 (n + 1) 0 I (by omega) (by omega) hR hP (fun I' f H P => ⟨_, rfl, q3 n h1 h2 rfl c27 I' f H P⟩)
    · refine AW.bipush (v := (-3)) dX11_spendNights_30 (by decide) ?_
      refine AW.iret dX11_spendNights_32 ⟨_, rfl, rfl⟩ (Nat.zero_le _) (Nat.zero_le _) ⟨_, rfl, ?_⟩
      exact q2 n h1 h2 rfl c27
  · refine AW.ifne0 (tgt := 12) dX11_spendNights_7 (by decide) ?_
    refine AW.iconst (v := (-1)) dX11_spendNights_10 (by decide) ?_
    refine AW.iret dX11_spendNights_11 ⟨_, rfl, rfl⟩ (Nat.zero_le _) (Nat.zero_le _) ⟨_, rfl, ?_⟩
    exact q1 hn
end Help
