-- the class House: what is changed
/-- nothing changed outside of the cells a .. b -/
def Fr (I I' : sd_I) (a b : Nat) : Prop := ∀ c, (c < a ∨ b < c) → I' c = I c
theorem Fr.rf {I : sd_I} {a b : Nat} : Fr I I a b := fun _ _ => rfl
theorem Fr.tr {I I' I'' : sd_I} {a b : Nat} (h : Fr I I' a b) (h' : Fr I' I'' a b) : Fr I I'' a b := fun c hc => (h' c hc).trans (h c hc)
theorem Fr.u {I : sd_I} {a b c j : Nat} {v : Int32} (h1 : a ≤ c) (h2 : c ≤ b) : Fr I (sd_u I c j v) a b := fun d hd => sd_u_ne (by omega)
theorem Fr.up {I I' : sd_I} {a b c j : Nat} {v : Int32} (h : Fr I I' a b) (h1 : a ≤ c) (h2 : c ≤ b) : Fr I (sd_u I' c j v) a b := h.tr (Fr.u h1 h2)
theorem Fr.w {I I' : sd_I} {a b c d : Nat} (h : Fr I I' a b) (h1 : c ≤ a) (h2 : b ≤ d) : Fr I I' c d := fun e he => h e (by omega)
/-- which cell holds which number -/
def HT (h ns nt c i k : Nat) : Prop := (c = h ∧ i = 7 ∧ k = 36) ∨ (c = h ∧ i = 8 ∧ k = 47) ∨ (c = h + 7 ∧ i < ns ∧ k = 37 + i) ∨ (c = h + 8 ∧ i < ns ∧ k = 42 + i) ∨ (c = h + 9 ∧ i < nt ∧ k = 48 + i) ∨ (c = h + 10 ∧ i < nt ∧ k = 56 + i) ∨ (c = h + 12 ∧ i = 5 ∧ k = 0) ∨ (c = h + 12 ∧ i = 6 ∧ k = 1) ∨ (c = h + 12 + 1 ∧ i < nt ∧ k = 2 + i) ∨ (c = h + 12 + 2 ∧ i < nt ∧ k = 10 + i) ∨ (c = h + 12 + 3 ∧ i < nt ∧ k = 18 + i) ∨ (c = h + 12 + 4 ∧ i < ns ∧ k = 26 + i) ∨ (c = h + 12 + 5 ∧ i < ns ∧ k = 31 + i)
theorem HT.sl {h ns nt : Nat} : HT h ns nt (h) (7) (36) := (Or.inl ⟨rfl, rfl, rfl⟩)
theorem HT.th {h ns nt : Nat} : HT h ns nt (h) (8) (47) := (Or.inr (Or.inl ⟨rfl, rfl, rfl⟩))
theorem HT.bd {h ns nt i : Nat} (hi : i < ns) : HT h ns nt (h + 7) (i) (37 + i) := (Or.inr (Or.inr (Or.inl ⟨rfl, hi, rfl⟩)))
theorem HT.br {h ns nt i : Nat} (hi : i < ns) : HT h ns nt (h + 8) (i) (42 + i) := (Or.inr (Or.inr (Or.inr (Or.inl ⟨rfl, hi, rfl⟩))))
theorem HT.kd {h ns nt i : Nat} (hi : i < nt) : HT h ns nt (h + 9) (i) (48 + i) := (Or.inr (Or.inr (Or.inr (Or.inr (Or.inl ⟨rfl, hi, rfl⟩)))))
theorem HT.dr {h ns nt i : Nat} (hi : i < nt) : HT h ns nt (h + 10) (i) (56 + i) := (Or.inr (Or.inr (Or.inr (Or.inr (Or.inr (Or.inl ⟨rfl, hi, rfl⟩))))))
theorem HT.ni {h ns nt : Nat} : HT h ns nt (h + 12) (5) (0) := (Or.inr (Or.inr (Or.inr (Or.inr (Or.inr (Or.inr (Or.inl ⟨rfl, rfl, rfl⟩)))))))
theorem HT.dw {h ns nt : Nat} : HT h ns nt (h + 12) (6) (1) := (Or.inr (Or.inr (Or.inr (Or.inr (Or.inr (Or.inr (Or.inr (Or.inl ⟨rfl, rfl, rfl⟩))))))))
theorem HT.pl {h ns nt i : Nat} (hi : i < nt) : HT h ns nt (h + 12 + 1) (i) (2 + i) := (Or.inr (Or.inr (Or.inr (Or.inr (Or.inr (Or.inr (Or.inr (Or.inr (Or.inl ⟨rfl, hi, rfl⟩)))))))))
theorem HT.gv {h ns nt i : Nat} (hi : i < nt) : HT h ns nt (h + 12 + 2) (i) (10 + i) := (Or.inr (Or.inr (Or.inr (Or.inr (Or.inr (Or.inr (Or.inr (Or.inr (Or.inr (Or.inl ⟨rfl, hi, rfl⟩))))))))))
theorem HT.lf {h ns nt i : Nat} (hi : i < nt) : HT h ns nt (h + 12 + 3) (i) (18 + i) := (Or.inr (Or.inr (Or.inr (Or.inr (Or.inr (Or.inr (Or.inr (Or.inr (Or.inr (Or.inr (Or.inl ⟨rfl, hi, rfl⟩)))))))))))
theorem HT.sp {h ns nt i : Nat} (hi : i < ns) : HT h ns nt (h + 12 + 4) (i) (26 + i) := (Or.inr (Or.inr (Or.inr (Or.inr (Or.inr (Or.inr (Or.inr (Or.inr (Or.inr (Or.inr (Or.inr (Or.inl ⟨rfl, hi, rfl⟩))))))))))))
theorem HT.wk {h ns nt i : Nat} (hi : i < ns) : HT h ns nt (h + 12 + 5) (i) (31 + i) := (Or.inr (Or.inr (Or.inr (Or.inr (Or.inr (Or.inr (Or.inr (Or.inr (Or.inr (Or.inr (Or.inr (Or.inr ⟨rfl, hi, rfl⟩))))))))))))
theorem HR_iff {I : sd_I} {h : Nat} {N : Nat → Nat} : HR I h N ↔ ∀ c i k, HT h (N 36) (N 47) c i k → I c i = nI (N k) := by
  constructor
  · rintro ⟨a1, a2, a3, a4, b1, b2, b3, b4⟩ c i k hT
    unfold HT at hT
    rcases hT with ⟨rfl, rfl, rfl⟩ | ⟨rfl, rfl, rfl⟩ | ⟨rfl, hi, rfl⟩ | ⟨rfl, hi, rfl⟩ | ⟨rfl, hi, rfl⟩ | ⟨rfl, hi, rfl⟩ | ⟨rfl, rfl, rfl⟩ | ⟨rfl, rfl, rfl⟩ | ⟨rfl, hi, rfl⟩ | ⟨rfl, hi, rfl⟩ | ⟨rfl, hi, rfl⟩ | ⟨rfl, hi, rfl⟩ | ⟨rfl, hi, rfl⟩
    · exact a1
    · exact a2
    · exact (a3 i hi).1
    · exact (a3 i hi).2
    · exact (a4 i hi).1
    · exact (a4 i hi).2
    · exact b1
    · exact b2
    · exact (b3 i hi).1
    · exact (b3 i hi).2.1
    · exact (b3 i hi).2.2
    · exact (b4 i hi).1
    · exact (b4 i hi).2
  · intro H
    exact ⟨H _ _ _ HT.sl, H _ _ _ HT.th, fun s hs => ⟨H _ _ _ (HT.bd hs), H _ _ _ (HT.br hs)⟩, fun t ht => ⟨H _ _ _ (HT.kd ht), H _ _ _ (HT.dr ht)⟩, H _ _ _ HT.ni, H _ _ _ HT.dw, fun t ht => ⟨H _ _ _ (HT.pl ht), H _ _ _ (HT.gv ht), H _ _ _ (HT.lf ht)⟩, fun s hs => ⟨H _ _ _ (HT.sp hs), H _ _ _ (HT.wk hs)⟩⟩
def upN (N : Nat → Nat) (k v : Nat) : Nat → Nat := fun j => if j = k then v else N j
theorem upN_ne {N : Nat → Nat} {k v j : Nat} (h : j ≠ k) : upN N k v j = N j := if_neg h
theorem upN_eq {N : Nat → Nat} {k v : Nat} : upN N k v k = v := if_pos rfl
theorem HT_c {h ns nt c i c' i' k : Nat} (h5 : ns ≤ 5) (h8 : nt ≤ 8) (H : HT h ns nt c i k) (H' : HT h ns nt c' i' k) : c = c' ∧ i = i' := by
  unfold HT at H H'
  rcases H with ⟨h1, h2, h3⟩ | ⟨h1, h2, h3⟩ | ⟨h1, h2, h3⟩ | ⟨h1, h2, h3⟩ | ⟨h1, h2, h3⟩ | ⟨h1, h2, h3⟩ | ⟨h1, h2, h3⟩ | ⟨h1, h2, h3⟩ | ⟨h1, h2, h3⟩ | ⟨h1, h2, h3⟩ | ⟨h1, h2, h3⟩ | ⟨h1, h2, h3⟩ | ⟨h1, h2, h3⟩ <;> (rcases H' with ⟨g1, g2, g3⟩ | ⟨g1, g2, g3⟩ | ⟨g1, g2, g3⟩ | ⟨g1, g2, g3⟩ | ⟨g1, g2, g3⟩ | ⟨g1, g2, g3⟩ | ⟨g1, g2, g3⟩ | ⟨g1, g2, g3⟩ | ⟨g1, g2, g3⟩ | ⟨g1, g2, g3⟩ | ⟨g1, g2, g3⟩ | ⟨g1, g2, g3⟩ | ⟨g1, g2, g3⟩ <;> omega)
theorem HT_k {h ns nt c i k k' : Nat} (H : HT h ns nt c i k) (H' : HT h ns nt c i k') : k = k' := by
  unfold HT at H H'
  rcases H with ⟨h1, h2, h3⟩ | ⟨h1, h2, h3⟩ | ⟨h1, h2, h3⟩ | ⟨h1, h2, h3⟩ | ⟨h1, h2, h3⟩ | ⟨h1, h2, h3⟩ | ⟨h1, h2, h3⟩ | ⟨h1, h2, h3⟩ | ⟨h1, h2, h3⟩ | ⟨h1, h2, h3⟩ | ⟨h1, h2, h3⟩ | ⟨h1, h2, h3⟩ | ⟨h1, h2, h3⟩ <;> (rcases H' with ⟨g1, g2, g3⟩ | ⟨g1, g2, g3⟩ | ⟨g1, g2, g3⟩ | ⟨g1, g2, g3⟩ | ⟨g1, g2, g3⟩ | ⟨g1, g2, g3⟩ | ⟨g1, g2, g3⟩ | ⟨g1, g2, g3⟩ | ⟨g1, g2, g3⟩ | ⟨g1, g2, g3⟩ | ⟨g1, g2, g3⟩ | ⟨g1, g2, g3⟩ | ⟨g1, g2, g3⟩ <;> omega)
theorem HR.up {I : sd_I} {h a j K v : Nat} {N : Nat → Nat} (H : HR I h N) (h5 : N 36 ≤ 5) (h8 : N 47 ≤ 8) (hT : HT h (N 36) (N 47) a j K) (h36 : K ≠ 36) (h47 : K ≠ 47) : HR (sd_u I a j (nI v)) h (upN N K v) := by
  rw [HR_iff] at H ⊢
  intro c i k hc
  rw [upN_ne (fun e => h36 e.symm), upN_ne (fun e => h47 e.symm)] at hc
  by_cases hk : k = K
  · subst hk
    have e : c = a ∧ i = j := HT_c h5 h8 hc hT
    rw [e.1, e.2, sd_u_eq, upN_eq]; simp
  · have e : ¬ (c = a ∧ i = j) := fun e => hk (HT_k (e.1 ▸ e.2 ▸ hc) hT)
    rw [upN_ne hk, ← H c i k hc]
    by_cases hca : c = a
    · subst hca; rw [sd_u_eq]; simp only [if_neg (fun q => e ⟨rfl, q⟩)]
    · rw [sd_u_ne hca]
section House2
variable {X : Nat × (Nat → Int32)} {I : sd_I} {J : sd_J} {h : Nat} {N : Nat → Nat}
theorem lp1_X2_listen (hh : is2 h) {Q : Option Int32 → sd_S → Prop} : ∀ (m r : Nat) (I : sd_I), 4 - r < m → r ≤ 4 → (∀ q, q < r → I (h + 11) q = nI 0) → (∀ I', Fr I I' (h + 11) (h + 11) → (∀ q, q < 4 → I' (h + 11) q = nI 0) → AW muX2_listen 0 0 20 [.ref h, .int (nI 4)] [] (sk0, X, I', J) Q) → AW muX2_listen 0 0 2 [.ref h, .int (nI r)] [] (sk0, X, I, J) Q := by
  intro m
  induction m with
  | zero => intros; omega
  | succ m ih =>
    intro r I hm hr hI K
    refine AW.iload_n dX2_listen_2 rfl rfl ?_
    refine AW.iconst (v := nI 4) dX2_listen_3 (by decide) ?_
    first | refine AW.icmp_geN (tgt := 20) dX2_listen_4 (by decide) (by omega) (by omega) (fun c4 => ?_) (fun c4 => ?_) | refine AW.icmp_ge (tgt := 20) dX2_listen_4 (by decide) (fun c4 => ?_) (fun c4 => ?_)
    · obtain rfl : r = 4 := by omega
      exact K I Fr.rf hI
    · refine AW.aload_n dX2_listen_7 rfl rfl ?_
      refine g2_5 dX2_listen_8 wF_X2_43 (by first | assumption | rfl | (unfold is2; omega)) ?_
      refine AW.iload_n dX2_listen_11 rfl rfl ?_
      refine AW.iconst (v := nI 0) dX2_listen_12 (by decide) ?_
      show AW muX2_listen _ _ 13 _ _ _ _
      refine AW.iast dX2_listen_13 (by first | exact is2.a11 hh) _ (by first | rfl | assumption) (by omega) (by first | decide | omega) ?_
      first | refine AW.iincN dX2_listen_14 rfl (by decide) rfl rfl ?_ | refine AW.iinc dX2_listen_14 rfl rfl (by decide) rfl rfl ?_
      refine AW.goto (tgt := 2) dX2_listen_17 (by decide) ?_
      refine ih (r + 1) _ (by omega) (by omega) (fun q hq => ?_) (fun I' f e => K I' ((Fr.u (by omega) (by omega)).tr f) e)
      rw [sd_u_eq]
      by_cases hqr : q = r
      · simp [hqr]
      · simp only [hqr, if_false]; exact hI q (by omega)
def loudP (N : Nat → Nat) (i r : Nat) : Nat := sumN i (fun t => if N (2 + t) = r then loudT N t else 0)
theorem lp2_X2_listen (hh : is2 h) (hV : NV N) {Q : Option Int32 → sd_S → Prop} : ∀ (m i : Nat) (I : sd_I), N 47 - i < m → i ≤ N 47 → HR I h N → (∀ q, q < 4 → I (h + 11) q = nI (loudP N i q)) → (∀ I', Fr I I' (h + 11) (h + 11) → (∀ q, q < 4 → I' (h + 11) q = nI (loudR N q)) → Q none (sk0, X, I', J)) → AW muX2_listen 0 0 22 [.ref h, .int (nI i)] [] (sk0, X, I, J) Q := by
  have h8 := hV.t8
  intro m
  induction m with
  | zero => intros; omega
  | succ m ih =>
    intro i I hm hi hR hI K
    have hpl : i < N 47 → N (2 + i) < 4 := fun h => hV.pl h
    refine AW.iload_n dX2_listen_22 rfl rfl ?_
    refine AW.aload_n dX2_listen_23 rfl rfl ?_
    refine g2_8 dX2_listen_24 wF_X2_67 (by first | assumption | rfl | (unfold is2; omega)) ?_
    refine AW.top (hR.th) ?_
    first | refine AW.icmp_geN (tgt := 68) dX2_listen_27 (by decide) (by omega) (by omega) (fun c27 => ?_) (fun c27 => ?_) | refine AW.icmp_ge (tgt := 68) dX2_listen_27 (by decide) (fun c27 => ?_) (fun c27 => ?_)
    · obtain rfl : i = N 47 := by omega
      exact AW.ret dX2_listen_68 rfl (Nat.zero_le _) (Nat.zero_le _) (K I Fr.rf hI)
    · refine AW.aload_n dX2_listen_30 rfl rfl ?_
      refine g2_5 dX2_listen_31 wF_X2_43 (by first | assumption | rfl | (unfold is2; omega)) ?_
      refine AW.aload_n dX2_listen_34 rfl rfl ?_
      show AW muX2_listen _ _ 35 _ _ _ _
      refine g2_6 dX2_listen_35 wF_X2_49 (by first | assumption | rfl | (unfold is2; omega)) ?_
      refine g4_0 dX2_listen_38 wF_X2_85 (by first | assumption | exact is2.m (by assumption) | rfl | (unfold is4; omega) | exact is6.m (by assumption) (by omega)) ?_
      refine AW.iload_n dX2_listen_41 rfl rfl ?_
      refine AW.iald dX2_listen_42 (by first | exact is2.a11 hh | exact is4.a1 (is2.m hh) | exact is4.a3 (is2.m hh) | exact is2.a0 hh) _ (by first | rfl | assumption) (by omega) (by first | decide | omega) ?_
      refine AW.top (hR.m.pl (by omega)) ?_
      refine AW.dup2 dX2_listen_43 rfl rfl ?_
      refine AW.iald dX2_listen_44 (by first | exact is2.a11 hh | exact is4.a1 (is2.m hh) | exact is4.a3 (is2.m hh) | exact is2.a0 hh) _ (by first | rfl | assumption) (by have := hpl (by omega); omega) (by first | decide | omega) ?_
      refine AW.top (hI _ (hpl (by omega))) ?_
      show AW muX2_listen _ _ 45 _ _ _ _
      refine AW.aload_n dX2_listen_45 rfl rfl ?_
      refine AW.iload_n dX2_listen_46 rfl rfl ?_
      refine AW.aload_n dX2_listen_47 rfl rfl ?_
      refine g2_6 dX2_listen_48 wF_X2_49 (by first | assumption | rfl | (unfold is2; omega)) ?_
      refine g4_2 dX2_listen_51 wF_X2_88 (by first | assumption | exact is2.m (by assumption) | rfl | (unfold is4; omega) | exact is6.m (by assumption) (by omega)) ?_
      refine AW.iload_n dX2_listen_54 rfl rfl ?_
      show AW muX2_listen _ _ 55 _ _ _ _
      refine AW.iald dX2_listen_55 (by first | exact is2.a11 hh | exact is4.a1 (is2.m hh) | exact is4.a3 (is2.m hh) | exact is2.a0 hh) _ (by first | rfl | assumption) (by omega) (by first | decide | omega) ?_
      refine AW.top (hR.m.lf (by omega)) ?_
      refine AW.iconst (v := nI 0) dX2_listen_56 (by decide) ?_
      refine cs_X2_listen_57 (by first | exact is2.a11 hh | exact is4.a1 (is2.m hh) | exact is4.a3 (is2.m hh) | exact is2.a0 hh) (by decide) (by decide) (Nat.le_of_ble_eq_true rfl) (s_X2_loudWith hh hR hV (by omega) (by have := hV.lf (t := i) (by omega); omega) (by decide) ?_)
      first | refine AW.iaddN dX2_listen_60 ?_ | refine AW.iadd dX2_listen_60 ?_
      refine AW.iast dX2_listen_61 (by first | exact is2.a11 hh | exact is4.a1 (is2.m hh) | exact is4.a3 (is2.m hh) | exact is2.a0 hh) _ (by first | rfl | assumption) (by have := hpl (by omega); omega) (by first | decide | omega) ?_
      first | refine AW.iincN dX2_listen_62 rfl (by decide) rfl rfl ?_ | refine AW.iinc dX2_listen_62 rfl rfl (by decide) rfl rfl ?_
      show AW muX2_listen _ _ 65 _ _ _ _
      refine AW.goto (tgt := 22) dX2_listen_65 (by decide) ?_
      refine ih (i + 1) _ (by omega) (by omega) (hR.of (fun b _ _ hb => sd_u_ne hb)) (fun q hq => ?_) (fun I' f e => K I' ((Fr.u (by omega) (by omega)).tr f) e)
      rw [sd_u_eq]
      unfold loudP
      by_cases hq2 : q = N (2 + i)
      · subst hq2; simp [sumN, loudT, loudP]
      · simp only [hq2, if_false, sumN, if_neg (fun e => hq2 (Eq.symm e))]; exact hI q hq
theorem s_X2_listen {Q : sd_S → Prop} (hh : is2 h) (hR : HR I h N) (hV : NV N) (hQ : ∀ I', Fr I I' (h + 11) (h + 11) → (∀ q, q < 4 → I' (h + 11) q = nI (loudR N q)) → Q (sk0, X, I', J)) : AWv muX2_listen [.ref h] (sk0, X, I, J) Q := by
  show AW muX2_listen 0 0 0 [.ref h, .null] [] _ _
  refine AW.iconst (v := nI 0) dX2_listen_0 (by decide) ?_
  refine AW.istore_n dX2_listen_1 rfl (by decide) rfl rfl ?_
  refine lp1_X2_listen hh 5 0 I (by omega) (by omega) (fun q hq => absurd hq (by omega)) (fun I' f e => ?_)
  refine AW.iconst (v := nI 0) dX2_listen_20 (by decide) ?_
  refine AW.istore_n dX2_listen_21 rfl (by decide) rfl rfl ?_
  exact lp2_X2_listen hh hV (N 47 + 1) 0 I' (by omega) (by omega) (hR.of (fun b b1 b2 hb => f b (by omega))) e (fun I'' f' e' => ⟨rfl, hQ I'' (f.tr f') e'⟩)
/-- the first i sleepers have had their night -/
def goS (N : Nat → Nat) (i : Nat) : Nat → Nat := fun k =>
  if 26 ≤ k ∧ k < 26 + i then N k + (if asleepB N (k - 26) then 1 else 0)
  else if 31 ≤ k ∧ k < 31 + i then N k + (if asleepB N (k - 31) then 0 else 1)
  else N k
/-- all sleepers, and the first i things -/
def goT (N : Nat → Nat) (i : Nat) : Nat → Nat := fun k =>
  if 18 ≤ k ∧ k < 18 + i then mB (N (k + 30)) (N (k + 38)) (N k) (N 0) else goS N (N 36) k
theorem goS_low {N : Nat → Nat} {i k : Nat} (h : k < 26 ∨ 36 ≤ k) (hi : i ≤ 5) : goS N i k = N k := by
  unfold goS; rw [if_neg (by omega), if_neg (by omega)]
theorem goT_low {N : Nat → Nat} {i k : Nat} (h : k < 18 ∨ 36 ≤ k) (hi : i ≤ 8) (h5 : N 36 ≤ 5) : goT N i k = N k := by
  unfold goT; rw [if_neg (by omega)]; exact goS_low (by omega) h5
theorem goT_done {N : Nat → Nat} (hs : N 36 ≤ 5) (ht : N 47 ≤ 8) (k : Nat) : goN N k = if k = 0 then N 0 + 1 else goT N (N 47) k := by
  unfold goN goT goS
  by_cases h0 : k = 0
  · simp only [h0, if_true]
  · simp only [h0, if_false]
theorem goS_step {N : Nat → Nat} {i : Nat} (hi : i < 5) (k : Nat) : goS N (i + 1) k = upN (goS N i) (if asleepB N i then 26 + i else 31 + i) (goS N i (if asleepB N i then 26 + i else 31 + i) + 1) k := by
  have g26 : goS N i (26 + i) = N (26 + i) := by
    unfold goS; rw [if_neg (by omega), if_neg (by omega)]
  have g31 : goS N i (31 + i) = N (31 + i) := by
    unfold goS; rw [if_neg (by omega), if_neg (by omega)]
  have h26 : goS N (i + 1) (26 + i) = N (26 + i) + (if asleepB N i then 1 else 0) := by
    unfold goS; rw [if_pos (by omega), Nat.add_sub_cancel_left]
  have h31 : goS N (i + 1) (31 + i) = N (31 + i) + (if asleepB N i then 0 else 1) := by
    unfold goS; rw [if_neg (by omega), if_pos (by omega), Nat.add_sub_cancel_left]
  have ho : k ≠ 26 + i → k ≠ 31 + i → goS N (i + 1) k = goS N i k := fun h1 h2 => by
    unfold goS
    by_cases h3 : 26 ≤ k ∧ k < 26 + i
    · rw [if_pos h3, if_pos (by omega)]
    · rw [if_neg h3, if_neg (by omega : ¬ (26 ≤ k ∧ k < 26 + (i + 1)))]
      by_cases h4 : 31 ≤ k ∧ k < 31 + i
      · rw [if_pos h4, if_pos (by omega)]
      · rw [if_neg h4, if_neg (by omega : ¬ (31 ≤ k ∧ k < 31 + (i + 1)))]
  by_cases h1 : k = 26 + i
  · subst h1
    by_cases hb : asleepB N i = true
    · rw [h26]; simp only [hb, if_true]; rw [upN_eq, g26]
    · have hb : asleepB N i = false := by simpa using hb
      rw [h26]; simp only [hb, Bool.false_eq_true, if_false]; rw [upN_ne (by omega), g26]; rfl
  · by_cases h2 : k = 31 + i
    · subst h2
      by_cases hb : asleepB N i = true
      · rw [h31]; simp only [hb, if_true]; rw [upN_ne (by omega), g31]; rfl
      · have hb : asleepB N i = false := by simpa using hb
        rw [h31]; simp only [hb, Bool.false_eq_true, if_false]; rw [upN_eq, g31]
    · rw [ho h1 h2, upN_ne (by split <;> assumption)]
theorem lp1_X2_spendNight (hh : is2 h) (hV : NV N) {Q : Option Int32 → sd_S → Prop} : ∀ (m i : Nat) (I : sd_I), N 36 - i < m → i ≤ N 36 → HR I h (goS N i) → (∀ q, q < 4 → I (h + 11) q = nI (loudR N q)) → (∀ I', Fr I I' (h + 16) (h + 17) → HR I' h (goS N (N 36)) → AW muX2_spendNight 0 0 62 [.ref h, .int (nI (wokenC N (N 36))), .int (nI (N 36))] [] (sk0, X, I', J) Q) → AW muX2_spendNight 0 0 8 [.ref h, .int (nI (wokenC N i)), .int (nI i)] [] (sk0, X, I, J) Q := by
  have h5 := hV.s5
  intro m
  induction m with
  | zero => intros; omega
  | succ m ih =>
    intro i I hm hi hR hL K
    have e36 : goS N i 36 = N 36 := goS_low (by omega) (by omega)
    have e47 : goS N i 47 = N 47 := goS_low (by omega) (by omega)
    have hVi : NV (goS N i) := by
      refine ⟨by rw [e36]; exact h5, by rw [e47]; exact hV.t8, fun s hs => ?_, fun t ht => ?_, ?_, ?_, fun t ht => ?_⟩
      · rw [goS_low (by omega) (by omega), goS_low (by omega) (by omega)]; exact hV.2.2.1 s (by rw [e36] at hs; exact hs)
      · rw [e47] at ht; have := hV.t8; rw [goS_low (by omega) (by omega), goS_low (by omega) (by omega)]; exact hV.2.2.2.1 t ht
      · rw [goS_low (by omega) (by omega)]; exact hV.ni
      · rw [goS_low (by omega) (by omega)]; exact hV.dw
      · rw [e47] at ht; have := hV.t8; rw [goS_low (by omega) (by omega), goS_low (by omega) (by omega), goS_low (by omega) (by omega)]; exact hV.2.2.2.2.2.2 t ht
    have eLT : ∀ t, t < N 47 → loudT (goS N i) t = loudT N t := fun t ht => by
      have := hV.t8
      unfold loudT; rw [goS_low (by omega) (by omega), goS_low (by omega) (by omega), goS_low (by omega) (by omega), goS_low (by omega) (by omega)]
    have eLR : ∀ r, loudR (goS N i) r = loudR N r := fun r => by
      have := hV.t8
      unfold loudR; rw [e47]; exact sumN_congr (fun t ht => by rw [eLT t ht, goS_low (by omega) (by omega)])
    have eAS : ∀ s, s < N 36 → asleepB (goS N i) s = asleepB N s := fun s hs => by
      unfold asleepB; rw [eLR, goS_low (by omega) (by omega), goS_low (by omega) (by omega)]
    have hRs := hR.sl
    rw [e36] at hRs
    refine AW.iload_n dX2_spendNight_8 rfl rfl ?_
    refine AW.aload_n dX2_spendNight_9 rfl rfl ?_
    refine g2_7 dX2_spendNight_10 wF_X2_63 (by first | assumption | rfl | (unfold is2; omega)) ?_
    refine AW.top (hRs) ?_
    first | refine AW.icmp_geN (tgt := 62) dX2_spendNight_13 (by decide) (by omega) (by omega) (fun c13 => ?_) (fun c13 => ?_) | refine AW.icmp_ge (tgt := 62) dX2_spendNight_13 (by decide) (fun c13 => ?_) (fun c13 => ?_)
    · obtain rfl : i = N 36 := by omega
      exact K I Fr.rf hR
    · refine AW.aload_n dX2_spendNight_16 rfl rfl ?_
      refine AW.iload_n dX2_spendNight_17 rfl rfl ?_
      refine cs_X2_spendNight_18 (by first | exact is4.a4 (is2.m hh) | exact is4.a5 (is2.m hh) | exact is2.a0 hh) (by decide) (by decide) (Nat.le_of_ble_eq_true rfl) (s_X2_isAsleep hh hR hVi (fun r hr => by rw [eLR]; exact hL r hr) (by rw [e36]; omega) (fun hb => ?_) (fun hb => ?_))
      · refine AW.ifeq1 (tgt := 40) dX2_spendNight_21 (by decide) ?_
        refine AW.aload_n dX2_spendNight_24 rfl rfl ?_
        show AW muX2_spendNight _ _ 25 _ _ _ _
        refine g2_6 dX2_spendNight_25 wF_X2_49 (by first | assumption | rfl | (unfold is2; omega)) ?_
        refine g4_3 dX2_spendNight_28 wF_X2_76 (by first | assumption | exact is2.m (by assumption) | rfl | (unfold is4; omega) | exact is6.m (by assumption) (by omega)) ?_
        refine AW.iload_n dX2_spendNight_31 rfl rfl ?_
        refine AW.dup2 dX2_spendNight_32 rfl rfl ?_
        refine AW.iald dX2_spendNight_33 (by first | exact is4.a4 (is2.m hh) | exact is4.a5 (is2.m hh) | exact is2.a0 hh) _ (by first | rfl | assumption) (by omega) (by first | decide | omega) ?_
        refine AW.top (hR.m.sp (by rw [e36]; omega)) ?_
        refine AW.iconst (v := nI 1) dX2_spendNight_34 (by decide) ?_
        show AW muX2_spendNight _ _ 35 _ _ _ _
        first | refine AW.iaddN dX2_spendNight_35 ?_ | refine AW.iadd dX2_spendNight_35 ?_
        refine AW.iast dX2_spendNight_36 (by first | exact is4.a4 (is2.m hh) | exact is4.a5 (is2.m hh) | exact is2.a0 hh) _ (by first | rfl | assumption) (by omega) (by first | decide | omega) ?_
        refine AW.goto (tgt := 56) dX2_spendNight_37 (by decide) ?_
        first | refine AW.iincN dX2_spendNight_56 rfl (by decide) rfl rfl ?_ | refine AW.iinc dX2_spendNight_56 rfl rfl (by decide) rfl rfl ?_
        refine AW.goto (tgt := 8) dX2_spendNight_59 (by decide) ?_
        rw [eAS i (by omega)] at hb
        first | rw [show wokenC N i + 1 = wokenC N (i + 1) by simp [wokenC, sumN, hb]] | rw [show nI (wokenC N i) = nI (wokenC N (i + 1)) by simp [wokenC, sumN, hb]]
        refine ih (i + 1) _ (by omega) (by omega) ?_ (fun q hq => ?_) (fun I' f H => K I' ((Fr.u (by omega) (by omega)).tr f) H)
        · have e1 : ∀ k, goS N (i + 1) k = upN (goS N i) (if asleepB N i then 26 + i else 31 + i) (goS N i (if asleepB N i then 26 + i else 31 + i) + 1) k := fun k => goS_step (by omega) k
          have e2 := funext e1
          rw [e2]
          simp only [hb, if_true, Bool.false_eq_true, if_false]
          exact HR.up hR (by omega) (by have := hV.t8; omega) (by rw [e36]; first | exact HT.sp (by omega) | exact HT.wk (by omega)) (by omega) (by omega)
        · rw [sd_u_ne (by omega)]; exact hL q hq
      · refine AW.ifeq0 (tgt := 40) dX2_spendNight_21 (by decide) ?_
        refine AW.aload_n dX2_spendNight_40 rfl rfl ?_
        refine g2_6 dX2_spendNight_41 wF_X2_49 (by first | assumption | rfl | (unfold is2; omega)) ?_
        refine g4_4 dX2_spendNight_44 wF_X2_79 (by first | assumption | exact is2.m (by assumption) | rfl | (unfold is4; omega) | exact is6.m (by assumption) (by omega)) ?_
        show AW muX2_spendNight _ _ 47 _ _ _ _
        refine AW.iload_n dX2_spendNight_47 rfl rfl ?_
        refine AW.dup2 dX2_spendNight_48 rfl rfl ?_
        refine AW.iald dX2_spendNight_49 (by first | exact is4.a4 (is2.m hh) | exact is4.a5 (is2.m hh) | exact is2.a0 hh) _ (by first | rfl | assumption) (by omega) (by first | decide | omega) ?_
        refine AW.top (hR.m.wk (by rw [e36]; omega)) ?_
        refine AW.iconst (v := nI 1) dX2_spendNight_50 (by decide) ?_
        first | refine AW.iaddN dX2_spendNight_51 ?_ | refine AW.iadd dX2_spendNight_51 ?_
        refine AW.iast dX2_spendNight_52 (by first | exact is4.a4 (is2.m hh) | exact is4.a5 (is2.m hh) | exact is2.a0 hh) _ (by first | rfl | assumption) (by omega) (by first | decide | omega) ?_
        show AW muX2_spendNight _ _ 53 _ _ _ _
        first | refine AW.iincN dX2_spendNight_53 rfl (by decide) rfl rfl ?_ | refine AW.iinc dX2_spendNight_53 rfl rfl (by decide) rfl rfl ?_
        first | refine AW.iincN dX2_spendNight_56 rfl (by decide) rfl rfl ?_ | refine AW.iinc dX2_spendNight_56 rfl rfl (by decide) rfl rfl ?_
        refine AW.goto (tgt := 8) dX2_spendNight_59 (by decide) ?_
        rw [eAS i (by omega)] at hb
        first | rw [show wokenC N i + 1 = wokenC N (i + 1) by simp [wokenC, sumN, hb]] | rw [show nI (wokenC N i) = nI (wokenC N (i + 1)) by simp [wokenC, sumN, hb]]
        refine ih (i + 1) _ (by omega) (by omega) ?_ (fun q hq => ?_) (fun I' f H => K I' ((Fr.u (by omega) (by omega)).tr f) H)
        · have e1 : ∀ k, goS N (i + 1) k = upN (goS N i) (if asleepB N i then 26 + i else 31 + i) (goS N i (if asleepB N i then 26 + i else 31 + i) + 1) k := fun k => goS_step (by omega) k
          have e2 := funext e1
          rw [e2]
          simp only [hb, if_true, Bool.false_eq_true, if_false]
          exact HR.up hR (by omega) (by have := hV.t8; omega) (by rw [e36]; first | exact HT.sp (by omega) | exact HT.wk (by omega)) (by omega) (by omega)
        · rw [sd_u_ne (by omega)]; exact hL q hq
end House2
