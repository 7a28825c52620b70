-- what is told of both at once, between two calls
abbrev sd_H : Type := Nat → Nat × Nat × Nat × (Nat → Int64)
def CLS (I : sd_I) (J : sd_J) (N f : Nat → Nat) (L : Nat) (sh : sd_H) (b : Nat) (K : Nat → Nat) : Prop := HR I 1 N ∧ PR I 19 N ∧ TPC I f L ∧ SHC I J sh ∧ I 0 4 = nI b ∧ (b = 1 → HR I 69 K ∧ PR I 87 K)
def MDL (I : sd_I) (J : sd_J) (N f : Nat → Nat) (L : Nat) (sh : sd_H) (b : Nat) (K : Nat → Nat) : Prop := MD I N ∧ TM I f L ∧ SHM I J sh ∧ I 170 11 = nI b ∧ (b = 1 → ∀ k, k < 353 → I 178 k = nI (K k))
def VLS (N f : Nat → Nat) (L : Nat) (sh : sd_H) (b : Nat) (K : Nat → Nat) : Prop := VAL N ∧ TPV f L ∧ SHV sh ∧ b < 2 ∧ (b = 1 → VAL K)
def REL (I : sd_I) (J : sd_J) : Prop := ∃ (N f : Nat → Nat) (L : Nat) (sh : sd_H) (b : Nat) (K : Nat → Nat), CLS I J N f L sh b K ∧ MDL I J N f L sh b K ∧ VLS N f L sh b K
theorem nI_inj {a b : Nat} {x : Int32} (ha : a < 2 ^ 31) (hb : b < 2 ^ 31) (h : x = nI a) (h' : x = nI b) : a = b := (nI_eq ha hb).mp (h.symm.trans h')
theorem lt0_le24 {z : Int32} (h : z < 0) : z ≤ nI 24 := by
  rw [i_lt] at h
  rw [i_le, nI_toInt (by decide)]
  have : (0 : Int32).toInt = 0 := rfl
  omega
theorem le24_of {z : Int32} {n : Nat} (h : z = nI n) (hn : n ≤ 24) : z ≤ nI 24 := by rw [h]; exact (nI_leI (by omega) (by omega)).mpr hn
theorem TPC.fre {I I' : sd_I} {f : Nat → Nat} {L : Nat} (h : TPC I f L) (e1 : I' 155 = I 155) (e2 : I' 156 = I 156) : TPC I' f L := ⟨by rw [e1]; exact h.1, fun k hk => by rw [e2]; exact h.2 k hk⟩
theorem SHC.fr {I I' : sd_I} {J J' : sd_J} {sh : sd_H} (h : SHC I J sh) (e : ∀ c, 161 < c → c < 170 → I' c = I c) (ej : ∀ c, 161 < c → c < 170 → J' c = J c) : SHC I' J' sh := fun s hs => by
  rw [e (162 + 2 * s) (by omega) (by omega), ej (162 + 2 * s + 1) (by omega) (by omega)]; exact h s hs
theorem SHM.fr {I I' : sd_I} {J J' : sd_J} {sh : sd_H} (h : SHM I J sh) (e1 : I' 171 = I 171) (e2 : I' 172 = I 172) (ej : J' 173 = J 173) : SHM I' J' sh := fun s hs => by
  rw [e1, e2, ej]; exact h s hs
theorem TM.fr {I I' : sd_I} {f : Nat → Nat} {L : Nat} (h : TM I f L) (e1 : I' 170 3 = I 170 3) (e2 : I' 174 = I 174) : TM I' f L := ⟨by rw [e1]; exact h.1, fun k hk => by rw [e2]; exact h.2 k hk⟩
section Rel
variable {I I1 I2 : sd_I} {J J1 J2 : sd_J} {N f : Nat → Nat} {L : Nat} {sh : sd_H} {b : Nat} {K : Nat → Nat}
theorem CLS.fr (h : CLS I J N f L sh b K) (e : ∀ c, c < 170 → c ≠ 12 → (c < 157 ∨ 160 < c) → I1 c = I c) (ej : ∀ c, c < 170 → J1 c = J c) : CLS I1 J1 N f L sh b K := by
  obtain ⟨a1, a2, a3, a4, a5, a6⟩ := h
  refine ⟨a1.of (fun c _ _ _ => e c (by omega) (by omega) (by omega)), a2.of (fun c _ _ => e c (by omega) (by omega) (by omega)), a3.fre (e 155 (by omega) (by omega) (by omega)) (e 156 (by omega) (by omega) (by omega)), a4.fr (fun c _ _ => e c (by omega) (by omega) (by omega)) (fun c _ _ => ej c (by omega)), by rw [e 0 (by omega) (by omega) (by omega)]; exact a5, fun hb => ⟨(a6 hb).1.of (fun c _ _ _ => e c (by omega) (by omega) (by omega)), (a6 hb).2.of (fun c _ _ => e c (by omega) (by omega) (by omega))⟩⟩
theorem MDL.fr (h : MDL I J N f L sh b K) (e : ∀ c, 170 ≤ c → c ≠ 176 → c ≠ 177 → I1 c = I c) (ej : ∀ c, 170 ≤ c → J1 c = J c) : MDL I1 J1 N f L sh b K := by
  obtain ⟨a1, a2, a3, a4, a5⟩ := h
  refine ⟨fun k hk => by rw [e 175 (by omega) (by omega) (by omega)]; exact a1 k hk, a2.fr (by rw [e 170 (by omega) (by omega) (by omega)]) (e 174 (by omega) (by omega) (by omega)), a3.fr (e 171 (by omega) (by omega) (by omega)) (e 172 (by omega) (by omega) (by omega)) (ej 173 (by omega)), by rw [e 170 (by omega) (by omega) (by omega)]; exact a4, fun hb k hk => by rw [e 178 (by omega) (by omega) (by omega)]; exact a5 hb k hk⟩
/-- the class has gone: the model's side stays -/
theorem MDL.c {a d : Nat} (h : MDL I J N f L sh b K) (e : Fr I I1 a d) (hd : d < 170) : MDL I1 J N f L sh b K := h.fr (fun c _ _ _ => e c (by omega)) (fun _ _ => rfl)
theorem MDL.j (h : MDL I J N f L sh b K) (ej : ∀ c, 170 ≤ c → J1 c = J c) : MDL I J1 N f L sh b K := h.fr (fun _ _ _ _ => rfl) ej
theorem REL.mk (hc : CLS I1 J1 N f L sh b K) (hm : MDL I2 J2 N f L sh b K) (hv : VLS N f L sh b K) (e : ∀ c, c < 170 → I2 c = I1 c) (ej : ∀ c, c < 170 → J2 c = J1 c) : REL I2 J2 := ⟨N, f, L, sh, b, K, hc.fr (fun c h _ _ => e c h) ej, hm, hv⟩
theorem REL.q (hc : CLS I J N f L sh b K) (hm : MDL I J N f L sh b K) (hv : VLS N f L sh b K) (e : ∀ c, c ≠ 12 → (c < 157 ∨ 160 < c) → c ≠ 176 → I1 c = I c) : REL I1 J := ⟨N, f, L, sh, b, K, hc.fr (fun c h h1 h2 => e c h1 h2 (by omega)) (fun _ _ => rfl), hm.fr (fun c h h1 h2 => e c (by omega) (by omega) (by omega)) (fun _ _ => rfl), hv⟩
theorem CLS.n {N' : Nat → Nat} (h : CLS I J N f L sh b K) (e : Fr I I1 1 68) (r1 : HR I1 1 N') (p1 : PR I1 19 N') : CLS I1 J N' f L sh b K := by
  obtain ⟨a1, a2, a3, a4, a5, a6⟩ := h
  exact ⟨r1, p1, a3.fre (e 155 (by omega)) (e 156 (by omega)), a4.fr (fun c _ _ => e c (by omega)) (fun c _ _ => rfl), by rw [e 0 (by omega)]; exact a5, fun hb => ⟨(a6 hb).1.of (fun c _ _ _ => e c (by omega)), (a6 hb).2.of (fun c _ _ => e c (by omega))⟩⟩
theorem MDL.n {N' : Nat → Nat} (h : MDL I J N f L sh b K) (s : AS I I1 175 353 N') : MDL I1 J N' f L sh b K := by
  obtain ⟨a1, a2, a3, a4, a5⟩ := h
  have e := s.1
  exact ⟨s.2, a2.fr (by rw [e 170 (by omega)]) (e 174 (by omega)), a3.fr (e 171 (by omega)) (e 172 (by omega)) rfl, by rw [e 170 (by omega)]; exact a4, fun hb k hk => by rw [e 178 (by omega)]; exact a5 hb k hk⟩
/-- both have the same new numbers -/
theorem REL.n {N' : Nat → Nat} (hc : CLS I J N f L sh b K) (hm : MDL I J N f L sh b K) (hv : VLS N f L sh b K) (f1 : Fr I I1 1 68) (r1 : HR I1 1 N') (p1 : PR I1 19 N') (s2 : AS I1 I2 175 353 N') (v : VAL N') : REL I2 J :=
  REL.mk (hc.n f1 r1 p1) ((hm.c f1 (by omega)).n s2) ⟨v, hv.2⟩ (fun c hc => s2.1 c (by omega)) (fun _ _ => rfl)
theorem REL.t {f' : Nat → Nat} {L' : Nat} (hc : CLS I J N f L sh b K) (hm : MDL I J N f L sh b K) (hv : VLS N f L sh b K) (f1 : Fr I I1 137 156) (t1 : TPC I1 f' L') (e2 : ∀ c, c ≠ 170 → c ≠ 174 → c ≠ 177 → I2 c = I1 c) (k2 : I2 170 11 = I1 170 11) (t2 : TM I2 f' L') (v : TPV f' L') : REL I2 J := by
  obtain ⟨a1, a2, a3, a4, a5, a6⟩ := hc
  obtain ⟨o1, o2, o3, o4, o5⟩ := hm
  have e : ∀ c, c ≠ 170 → c ≠ 174 → c ≠ 177 → (c < 137 ∨ 156 < c) → I2 c = I c := fun c h1 h2 h3 h4 => (e2 c h1 h2 h3).trans (f1 c h4)
  refine ⟨N, f', L', sh, b, K, ⟨a1.of (fun c _ _ _ => e c (by omega) (by omega) (by omega) (by omega)), a2.of (fun c _ _ => e c (by omega) (by omega) (by omega) (by omega)), t1.fre (e2 155 (by omega) (by omega) (by omega)) (e2 156 (by omega) (by omega) (by omega)), a4.fr (fun c _ _ => e c (by omega) (by omega) (by omega) (by omega)) (fun _ _ _ => rfl), by rw [e 0 (by omega) (by omega) (by omega) (by omega)]; exact a5, fun hb => ⟨(a6 hb).1.of (fun c _ _ _ => e c (by omega) (by omega) (by omega) (by omega)), (a6 hb).2.of (fun c _ _ => e c (by omega) (by omega) (by omega) (by omega))⟩⟩, ⟨fun k hk => by rw [e 175 (by omega) (by omega) (by omega) (by omega)]; exact o1 k hk, t2, o3.fr (e 171 (by omega) (by omega) (by omega) (by omega)) (e 172 (by omega) (by omega) (by omega) (by omega)) rfl, by rw [k2, f1 170 (by omega)]; exact o4, fun hb k hk => by rw [e 178 (by omega) (by omega) (by omega) (by omega)]; exact o5 hb k hk⟩, hv.1, v, hv.2.2⟩
/-- a sheet is another -/
theorem REL.s {sh' : sd_H} (hc : CLS I J N f L sh b K) (hm : MDL I J N f L sh b K) (hv : VLS N f L sh b K) (e : ∀ c, (c < 162 ∨ 169 < c) → c ≠ 171 → c ≠ 172 → c ≠ 176 → I2 c = I c) (s1 : SHC I2 J2 sh') (s2 : SHM I2 J2 sh') (v : SHV sh') : REL I2 J2 := by
  obtain ⟨a1, a2, a3, a4, a5, a6⟩ := hc
  obtain ⟨o1, o2, o3, o4, o5⟩ := hm
  exact ⟨N, f, L, sh', b, K, ⟨a1.of (fun c _ _ _ => e c (by omega) (by omega) (by omega) (by omega)), a2.of (fun c _ _ => e c (by omega) (by omega) (by omega) (by omega)), a3.fre (e 155 (by omega) (by omega) (by omega) (by omega)) (e 156 (by omega) (by omega) (by omega) (by omega)), s1, by rw [e 0 (by omega) (by omega) (by omega) (by omega)]; exact a5, fun hb => ⟨(a6 hb).1.of (fun c _ _ _ => e c (by omega) (by omega) (by omega) (by omega)), (a6 hb).2.of (fun c _ _ => e c (by omega) (by omega) (by omega) (by omega))⟩⟩, ⟨fun k hk => by rw [e 175 (by omega) (by omega) (by omega) (by omega)]; exact o1 k hk, o2.fr (by rw [e 170 (by omega) (by omega) (by omega) (by omega)]) (e 174 (by omega) (by omega) (by omega) (by omega)), s2, by rw [e 170 (by omega) (by omega) (by omega) (by omega)]; exact o4, fun hb k hk => by rw [e 178 (by omega) (by omega) (by omega) (by omega)]; exact o5 hb k hk⟩, hv.1, hv.2.1, v, hv.2.2.2⟩
end Rel
def upH (sh : sd_H) (s : Nat) (q : Nat × Nat × Nat × (Nat → Int64)) : sd_H := fun t => if t = s then q else sh t
theorem upH_eq {sh : sd_H} {s : Nat} {q : Nat × Nat × Nat × (Nat → Int64)} : upH sh s q s = q := if_pos rfl
theorem upH_ne {sh : sd_H} {s t : Nat} {q : Nat × Nat × Nat × (Nat → Int64)} (h : t ≠ s) : upH sh s q t = sh t := if_neg h
theorem SHV.up {sh : sd_H} {s : Nat} {q : Nat × Nat × Nat × (Nat → Int64)} (h : SHV sh) (h1 : q.1 < 2) (h2 : q.2.1 < 4) (h3 : q.2.2.1 ≤ 24) : SHV (upH sh s q) := fun t ht => by
  by_cases e : t = s
  · subst e; rw [upH_eq]; exact ⟨h1, h2, h3⟩
  · rw [upH_ne e]; exact h t ht
theorem SHC.up {I I' : sd_I} {J J' : sd_J} {sh : sd_H} {s : Nat} {q : Nat × Nat × Nat × (Nat → Int64)} (h : SHC I J sh) (e : ∀ t, t < 4 → t ≠ s → I' (162 + 2 * t) = I (162 + 2 * t)) (ej : ∀ t, t < 4 → t ≠ s → J' (162 + 2 * t + 1) = J (162 + 2 * t + 1)) (h1 : I' (162 + 2 * s) 1 = nI q.1) (h2 : I' (162 + 2 * s) 2 = nI q.2.1) (h3 : I' (162 + 2 * s) 3 = nI q.2.2.1) (h4 : ∀ i, i < 24 → J' (162 + 2 * s + 1) i = q.2.2.2 i) : SHC I' J' (upH sh s q) := fun t ht => by
  by_cases et : t = s
  · subst et; rw [upH_eq]; exact ⟨h1, h2, h3, h4⟩
  · rw [upH_ne et, e t ht et, ej t ht et]; exact h t ht
theorem SHM.up {I I' : sd_I} {J J' : sd_J} {sh : sd_H} {s : Nat} {q : Nat × Nat × Nat × (Nat → Int64)} (h : SHM I J sh) (e1 : ∀ t, t < 4 → t ≠ s → I' 171 t = I 171 t) (e2 : ∀ t, t < 4 → t ≠ s → I' 172 t = I 172 t) (ej : ∀ t j, t < 4 → t ≠ s → j < 24 → J' 173 (24 * t + j) = J 173 (24 * t + j)) (h1 : I' 171 s = if q.1 = 0 then -1 else nI q.2.1) (h2 : I' 172 s = nI q.2.2.1) (h4 : ∀ i, i < 24 → J' 173 (24 * s + i) = q.2.2.2 i) : SHM I' J' (upH sh s q) := fun t ht => by
  by_cases et : t = s
  · subst et; rw [upH_eq]; exact ⟨h1, h2, h4⟩
  · rw [upH_ne et, e1 t ht et, e2 t ht et]
    exact ⟨(h t ht).1, (h t ht).2.1, fun i hi => by rw [ej t i ht et hi]; exact (h t ht).2.2 i hi⟩
theorem leastP_eq {N : Nat → Nat} {n u v : Nat} (h : leastP N n u) (h' : leastP N n v) : u = v := by
  obtain ⟨a1, a2, a3⟩ := h
  obtain ⟨b1, b2, b3⟩ := h'
  rcases a3 v b1 b2 with p | p <;> rcases b3 u a1 a2 with q | q <;> omega
/-- a call of the class, and the same of the model behind it: the same answer, and what is told holds again -/
def BOTH (μ1 μ2 : sd_M) (as : List Value) : Prop := ∀ (X : Nat × (Nat → Int32)) (I : sd_I) (J : sd_J), REL I J → AWi μ1 (.ref 0 :: as) (sk0, X, I, J) (fun r σ => ∃ I1 J1, σ = (sk0, X, I1, J1) ∧ AWi μ2 (.ref 170 :: as) (sk0, X, I1, J1) (fun r' σ' => r' = r ∧ ∃ I2 J2, σ' = (sk0, X, I2, J2) ∧ REL I2 J2))
