-- what holds between two calls, and that it goes on to hold
def M9 (M : Nat → Nat) : Prop := M 0 ≤ 9999 ∧ MV M
def VAL (N : Nat → Nat) : Prop := NV N ∧ N 0 ≤ 9999 ∧ N 64 ≤ 8 ∧ ∀ j, j < N 64 → M9 (sl N j)
theorem M9.eq {M M' : Nat → Nat} (h : M9 M) (h8 : M 47 ≤ 8) (e : ∀ k, k ≤ 36 ∨ k = 47 → M' k = M k) : M9 M' := by
  unfold M9 MV at *
  rw [e 0 (by omega), e 1 (by omega), e 47 (by omega)]
  refine ⟨h.1, h.2.1, h.2.2.1, fun t ht => ?_⟩
  rw [e (2 + t) (by omega), e (10 + t) (by omega), e (18 + t) (by omega)]
  exact h.2.2.2 t ht
theorem VAL.low {N N' : Nat → Nat} (h : VAL N) (e : ∀ k, 64 ≤ k → N' k = N k) (e47 : N' 47 = N 47) (hn : NV N') (h9 : N' 0 ≤ 9999) : VAL N' := by
  refine ⟨hn, h9, by rw [e 64 (by omega)]; exact h.2.2.1, fun j hj => ?_⟩
  rw [e 64 (by omega)] at hj
  have hm := h.2.2.2 j hj
  have h8 := h.1.t8
  unfold M9 MV sl at *
  simp only [show (0 : Nat) < 36 from by decide, show (1 : Nat) < 36 from by decide, show ¬ (47 : Nat) < 36 from by decide, if_true, if_false] at *
  rw [e47, e (65 + 36 * j + 0) (by omega), e (65 + 36 * j + 1) (by omega)]
  refine ⟨hm.1, hm.2.1, hm.2.2.1, fun t ht => ?_⟩
  have := hm.2.2.2 t ht
  rw [if_pos (by omega), if_pos (by omega), if_pos (by omega)] at this ⊢
  rw [e (65 + 36 * j + (2 + t)) (by omega), e (65 + 36 * j + (10 + t)) (by omega), e (65 + 36 * j + (18 + t)) (by omega)]
  exact this
theorem VAL.zero {N : Nat → Nat} (hn : NV N) (h9 : N 0 ≤ 9999) (h0 : N 64 = 0) : VAL N := ⟨hn, h9, by omega, fun j hj => absurd hj (by omega)⟩
theorem VAL.m9 {N : Nat → Nat} (h : VAL N) : M9 N := ⟨h.2.1, h.1.2.2.2.2⟩
theorem VAL.note {N : Nat → Nat} (h : VAL N) : VAL (noteN N) := by
  have h8 := h.1.t8
  refine ⟨h.1.eqN (fun k hk => noteN_low hk), by rw [noteN_low (by omega)]; exact h.2.1, noteN_le8 h.2.2.1, fun j hj => ?_⟩
  have hc := h.2.2.1
  rw [noteN_64 hc] at hj
  by_cases e : j + 1 = min (N 64 + 1) 8
  · exact h.m9.eq h8 (noteN_new hc e)
  · have hlt : j + 1 < min (N 64 + 1) 8 := by omega
    refine (h.2.2.2 (if N 64 = 8 then j + 1 else j) (by split <;> omega)).eq ?_ (noteN_old hc hlt)
    unfold sl; rw [if_neg (by omega)]; exact h8
theorem VAL.draw {N : Nat → Nat} (h : VAL N) : VAL (drawN N) := by
  have h8 := h.1.t8
  exact h.low (fun k hk => drawN_hi h8 (by omega)) (drawN_hi h8 (by omega)) h.1.draw (by rw [drawN_hi h8 (by omega)]; exact h.2.1)
theorem VAL.go {N : Nat → Nat} (h : VAL N) (h9 : N 0 < 9999) : VAL (goN N) := by
  have h5 := h.1.s5
  have h8 := h.1.t8
  exact h.low (fun k hk => goN_hi h5 h8 (by omega) (by omega)) (goN_hi h5 h8 (by omega) (by omega)) (h.1.go (by omega)) (by unfold goN; rw [if_pos rfl]; omega)
theorem VAL.pre {N : Nat → Nat} (d : Bool) (h : VAL N) : VAL (preN d N) := by
  cases d with
  | false => rw [preN_f]; exact h.note
  | true => rw [preN_t]; exact h.note.draw
theorem VAL.it {N : Nat → Nat} (d : Bool) (h : VAL N) (k : Nat) (hk : N 0 + k ≤ 9999) : VAL (itN d N k) := by
  induction k with
  | zero => exact h
  | succ k ih =>
    have ih := ih (by omega)
    have hi := itN_inv (d := d) h.1 k (by omega)
    have hp := preN_0 (d := d) ih.1
    rw [itN_succ]
    exact (ih.pre d).go (by omega)
theorem VAL.undo {N : Nat → Nat} (h : VAL N) (h0 : N 64 ≠ 0) : VAL (undoN N) := by
  have hu : ∀ k, 36 ≤ k → k ≠ 64 → undoN N k = N k := fun k hk h64 => by unfold undoN; rw [if_neg (by omega), if_neg h64]
  have h64 : undoN N 64 = N 64 - 1 := by unfold undoN; rw [if_neg (by omega), if_pos rfl]
  have hs : ∀ k, k ≤ 36 ∨ k = 47 → undoN N k = sl N (N 64 - 1) k := fun k hk => by
    unfold undoN sl
    by_cases e : k < 36
    · rw [if_pos e, if_pos e]
    · rw [if_neg e, if_neg e, if_neg (by omega)]
  have h5 := h.1.s5
  have h8 := h.1.t8
  have hm : M9 (undoN N) := (h.2.2.2 (N 64 - 1) (by omega)).eq (by unfold sl; rw [if_neg (by omega)]; exact h8) hs
  refine ⟨⟨by rw [hu 36 (by omega) (by omega)]; exact h5, by rw [hu 47 (by omega) (by omega)]; exact h8, fun s hs => ?_, fun t ht => ?_, hm.2⟩, hm.1, by have := h.2.2.1; omega, fun j hj => ?_⟩
  · rw [hu 36 (by omega) (by omega)] at hs
    rw [hu (37 + s) (by omega) (by omega), hu (42 + s) (by omega) (by omega)]; exact ⟨h.1.bd hs, h.1.br hs⟩
  · rw [hu 47 (by omega) (by omega)] at ht
    rw [hu (48 + t) (by omega) (by omega), hu (56 + t) (by omega) (by omega)]; exact ⟨h.1.kd ht, h.1.dr ht⟩
  · refine (h.2.2.2 j (by omega)).eq (by unfold sl; rw [if_neg (by omega)]; exact h8) (fun k hk => ?_)
    unfold sl
    by_cases e : k < 36
    · rw [if_pos e, if_pos e]; exact hu _ (by omega) (by omega)
    · rw [if_neg e, if_neg e]; exact hu _ (by omega) (by omega)
theorem NV.plS {N : Nat → Nat} {r b : Nat} (h : NV N) (h5 : N 36 < 5) (hr : r < 4) (hb : b ≤ 60) : NV (addS N r b) := by
  have h8 := h.t8
  have e : ∀ k, k < 26 ∨ 47 ≤ k → addS N r b k = N k := fun k hk => by unfold addS; (repeat first | rw [ru_ne (by omega)] | rw [ru_j] | rw [ru_ij (by omega)] | rw [upN_ne (by omega)] | rw [upN_eq] | rw [rr_ne (by omega)] | rw [rr_eq] | rw [sb_cpy0 (by omega)])
  have e36 := addS_36 (N := N) (r := r) (b := b)
  refine ⟨by omega, by rw [e 47 (by omega)]; exact h8, fun s hs => ?_, fun t ht => ?_, by rw [e 0 (by omega)]; exact h.ni, by rw [e 1 (by omega)]; exact h.dw, fun t ht => ?_⟩
  · by_cases es : s = N 36
    · subst es
      refine ⟨?_, ?_⟩
      · have : addS N r b (37 + N 36) = r := by unfold addS; (repeat first | rw [ru_ne (by omega)] | rw [ru_j] | rw [ru_ij (by omega)] | rw [upN_ne (by omega)] | rw [upN_eq] | rw [rr_ne (by omega)] | rw [rr_eq] | rw [sb_cpy0 (by omega)])
        omega
      · have : addS N r b (42 + N 36) = b := by unfold addS; (repeat first | rw [ru_ne (by omega)] | rw [ru_j] | rw [ru_ij (by omega)] | rw [upN_ne (by omega)] | rw [upN_eq] | rw [rr_ne (by omega)] | rw [rr_eq] | rw [sb_cpy0 (by omega)])
        omega
    · have hs' : s < N 36 := by omega
      refine ⟨?_, ?_⟩
      · have : addS N r b (37 + s) = N (37 + s) := by unfold addS; (repeat first | rw [ru_ne (by omega)] | rw [ru_j] | rw [ru_ij (by omega)] | rw [upN_ne (by omega)] | rw [upN_eq] | rw [rr_ne (by omega)] | rw [rr_eq] | rw [sb_cpy0 (by omega)])
        rw [this]; exact h.bd hs'
      · have : addS N r b (42 + s) = N (42 + s) := by unfold addS; (repeat first | rw [ru_ne (by omega)] | rw [ru_j] | rw [ru_ij (by omega)] | rw [upN_ne (by omega)] | rw [upN_eq] | rw [rr_ne (by omega)] | rw [rr_eq] | rw [sb_cpy0 (by omega)])
        rw [this]; exact h.br hs'
  · rw [e 47 (by omega)] at ht
    rw [e (48 + t) (by omega), e (56 + t) (by omega)]; exact ⟨h.kd ht, h.dr ht⟩
  · rw [e 47 (by omega)] at ht
    rw [e (2 + t) (by omega), e (10 + t) (by omega), e (18 + t) (by omega)]; exact ⟨h.pl ht, h.gv ht, h.lf ht⟩
theorem NV.plT {N : Nat → Nat} {k g d r : Nat} (h : NV N) (h8 : N 47 < 8) (hk : k < 5) (hg : g < 10) (hd : d ≤ 9) (hr : r < 4) : NV (addT N k g d r) := by
  have h5 := h.s5
  have e47 := addT_47 (N := N) (k := k) (g := g) (d := d) (r := r)
  have e : ∀ q, q < 2 ∨ (26 ≤ q ∧ q < 47) → addT N k g d r q = N q := fun q hq => by unfold addT; (repeat first | rw [ru_ne (by omega)] | rw [ru_j] | rw [ru_ij (by omega)] | rw [upN_ne (by omega)] | rw [upN_eq] | rw [rr_ne (by omega)] | rw [rr_eq] | rw [sb_cpy0 (by omega)])
  have eo : ∀ t, t < N 47 → addT N k g d r (2 + t) = N (2 + t) ∧ addT N k g d r (10 + t) = N (10 + t) ∧ addT N k g d r (18 + t) = N (18 + t) ∧ addT N k g d r (48 + t) = N (48 + t) ∧ addT N k g d r (56 + t) = N (56 + t) := fun t ht => by
    refine ⟨?_, ?_, ?_, ?_, ?_⟩ <;> (unfold addT; (repeat first | rw [ru_ne (by omega)] | rw [ru_j] | rw [ru_ij (by omega)] | rw [upN_ne (by omega)] | rw [upN_eq] | rw [rr_ne (by omega)] | rw [rr_eq] | rw [sb_cpy0 (by omega)]))
  have en : addT N k g d r (2 + N 47) = r ∧ addT N k g d r (10 + N 47) = g ∧ addT N k g d r (18 + N 47) = min (10 * d) 99 ∧ addT N k g d r (48 + N 47) = k ∧ addT N k g d r (56 + N 47) = d := by
    refine ⟨?_, ?_, ?_, ?_, ?_⟩ <;> (unfold addT; (repeat first | rw [ru_ne (by omega)] | rw [ru_j] | rw [ru_ij (by omega)] | rw [upN_ne (by omega)] | rw [upN_eq] | rw [rr_ne (by omega)] | rw [rr_eq] | rw [sb_cpy0 (by omega)]))
  refine ⟨by rw [e 36 (by omega)]; exact h5, by omega, fun s hs => ?_, fun t ht => ?_, by rw [e 0 (by omega)]; exact h.ni, by rw [e 1 (by omega)]; exact h.dw, fun t ht => ?_⟩
  · rw [e 36 (by omega)] at hs
    rw [e (37 + s) (by omega), e (42 + s) (by omega)]; exact ⟨h.bd hs, h.br hs⟩
  · by_cases es : t = N 47
    · subst es; rw [en.2.2.2.1, en.2.2.2.2]; exact ⟨hk, hd⟩
    · have ht' : t < N 47 := by omega
      rw [(eo t ht').2.2.2.1, (eo t ht').2.2.2.2]; exact ⟨h.kd ht', h.dr ht'⟩
  · by_cases es : t = N 47
    · subst es; rw [en.1, en.2.1, en.2.2.1]; exact ⟨hr, hg, by omega⟩
    · have ht' : t < N 47 := by omega
      rw [(eo t ht').1, (eo t ht').2.1, (eo t ht').2.2.1]; exact ⟨h.pl ht', h.gv ht', h.lf ht'⟩
theorem NV.z64 {N : Nat → Nat} (h : NV N) : NV (upN N 64 0) := h.eqN (fun k hk => upN_ne (by omega))
theorem VAL.plS {N : Nat → Nat} {r b : Nat} (h : VAL N) (h5 : N 36 < 5) (hr : r < 4) (hb : b ≤ 60) : VAL (addS (upN N 64 0) r b) := by
  have h36 : upN N 64 0 36 < 5 := by rw [upN_ne (by omega)]; exact h5
  refine VAL.zero (h.1.z64.plS h36 hr hb) ?_ ?_
  · have : addS (upN N 64 0) r b 0 = N 0 := by unfold addS; (repeat first | rw [ru_ne (by omega)] | rw [ru_j] | rw [ru_ij (by omega)] | rw [upN_ne (by omega)] | rw [upN_eq] | rw [rr_ne (by omega)] | rw [rr_eq] | rw [sb_cpy0 (by omega)])
    rw [this]; exact h.2.1
  · unfold addS; (repeat first | rw [ru_ne (by omega)] | rw [ru_j] | rw [ru_ij (by omega)] | rw [upN_ne (by omega)] | rw [upN_eq] | rw [rr_ne (by omega)] | rw [rr_eq] | rw [sb_cpy0 (by omega)])
theorem VAL.plT {N : Nat → Nat} {k g d r : Nat} (h : VAL N) (h8 : N 47 < 8) (hk : k < 5) (hg : g < 10) (hd : d ≤ 9) (hr : r < 4) : VAL (addT (upN N 64 0) k g d r) := by
  have h47 : upN N 64 0 47 < 8 := by rw [upN_ne (by omega)]; exact h8
  refine VAL.zero (h.1.z64.plT h47 hk hg hd hr) ?_ ?_
  · have : addT (upN N 64 0) k g d r 0 = N 0 := by unfold addT; (repeat first | rw [ru_ne (by omega)] | rw [ru_j] | rw [ru_ij (by omega)] | rw [upN_ne (by omega)] | rw [upN_eq] | rw [rr_ne (by omega)] | rw [rr_eq] | rw [sb_cpy0 (by omega)])
    rw [this]; exact h.2.1
  · unfold addT; (repeat first | rw [ru_ne (by omega)] | rw [ru_j] | rw [ru_ij (by omega)] | rw [upN_ne (by omega)] | rw [upN_eq] | rw [rr_ne (by omega)] | rw [rr_eq] | rw [sb_cpy0 (by omega)])
theorem VAL.bed {N : Nat → Nat} {s r : Nat} (h : VAL N) (hs : s < N 36) (hr : r < 4) : VAL (upN N (37 + s) r) := by
  have h5 := h.1.s5
  exact h.low (fun k hk => upN_ne (by omega)) (upN_ne (by omega)) (h.1.beds (fun k hk _ => upN_ne (by omega)) (fun q hq => by by_cases e : q = s; (subst e; rw [upN_eq]; exact hr); (rw [upN_ne (by omega)]; exact h.1.bd hq))) (by rw [upN_ne (by omega)]; exact h.2.1)
theorem VAL.room {N : Nat → Nat} {t r : Nat} (h : VAL N) (ht : t < N 47) (hr : r < 4) : VAL (upN N (2 + t) r) := by
  have h8 := h.1.t8
  exact h.low (fun k hk => upN_ne (by omega)) (upN_ne (by omega)) (h.1.rooms (fun k hk _ => upN_ne (by omega)) (fun q hq => by by_cases e : q = t; (subst e; rw [upN_eq]; exact hr); (rw [upN_ne (by omega)]; exact h.1.pl hq))) (by rw [upN_ne (by omega)]; exact h.2.1)
theorem VAL.left {N : Nat → Nat} {t l : Nat} (h : VAL N) (ht : t < N 47) (hl : l ≤ 99) : VAL (upN N (18 + t) l) := by
  have h8 := h.1.t8
  exact h.low (fun k hk => upN_ne (by omega)) (upN_ne (by omega)) (h.1.lefts (fun k hk _ => upN_ne (by omega)) (fun q hq => by by_cases e : q = t; (subst e; rw [upN_eq]; exact hl); (rw [upN_ne (by omega)]; exact h.1.lf hq))) (by rw [upN_ne (by omega)]; exact h.2.1)
theorem VAL.giver {N : Nat → Nat} {t g : Nat} (h : VAL N) (ht : t < N 47) (hg : g < 10) : VAL (upN N (10 + t) g) := by
  have h8 := h.1.t8
  have h5 := h.1.s5
  have e : ∀ k, (k < 10 ∨ 18 ≤ k) → upN N (10 + t) g k = N k := fun k hk => upN_ne (by omega)
  refine h.low (fun k hk => e k (by omega)) (e 47 (by omega)) ⟨by rw [e 36 (by omega)]; exact h5, by rw [e 47 (by omega)]; exact h8, fun s hs => ?_, fun q hq => ?_, by rw [e 0 (by omega)]; exact h.1.ni, by rw [e 1 (by omega)]; exact h.1.dw, fun q hq => ?_⟩ (by rw [e 0 (by omega)]; exact h.2.1)
  · rw [e 36 (by omega)] at hs
    rw [e (37 + s) (by omega), e (42 + s) (by omega)]; exact ⟨h.1.bd hs, h.1.br hs⟩
  · rw [e 47 (by omega)] at hq
    rw [e (48 + q) (by omega), e (56 + q) (by omega)]; exact ⟨h.1.kd hq, h.1.dr hq⟩
  · rw [e 47 (by omega)] at hq
    rw [e (2 + q) (by omega), e (18 + q) (by omega)]
    refine ⟨h.1.pl hq, ?_, h.1.lf hq⟩
    by_cases eq : q = t
    · subst eq; rw [upN_eq]; exact hg
    · rw [upN_ne (by omega)]; exact h.1.gv hq
theorem VAL.seed {N : Nat → Nat} {d : Nat} (h : VAL N) (hd : d < 2 ^ 31) : VAL (upN N 1 d) := by
  have h8 := h.1.t8
  have h5 := h.1.s5
  have e : ∀ k, k ≠ 1 → upN N 1 d k = N k := fun k hk => upN_ne hk
  refine h.low (fun k hk => e k (by omega)) (e 47 (by omega)) ⟨by rw [e 36 (by omega)]; exact h5, by rw [e 47 (by omega)]; exact h8, fun s hs => ?_, fun q hq => ?_, by rw [e 0 (by omega)]; exact h.1.ni, by rw [upN_eq]; exact hd, fun q hq => ?_⟩ (by rw [e 0 (by omega)]; exact h.2.1)
  · rw [e 36 (by omega)] at hs
    rw [e (37 + s) (by omega), e (42 + s) (by omega)]; exact ⟨h.1.bd hs, h.1.br hs⟩
  · rw [e 47 (by omega)] at hq
    rw [e (48 + q) (by omega), e (56 + q) (by omega)]; exact ⟨h.1.kd hq, h.1.dr hq⟩
  · rw [e 47 (by omega)] at hq
    rw [e (2 + q) (by omega), e (10 + q) (by omega), e (18 + q) (by omega)]; exact ⟨h.1.pl hq, h.1.gv hq, h.1.lf hq⟩
/-- what a house that was read is -/
def RV (N : Nat → Nat) : Prop := NV N ∧ N 0 = 0 ∧ N 64 = 0
theorem zr_RV {d : Nat} (hd : d < 2 ^ 31) : RV (zrN d) := by
  have e : ∀ k, k ≠ 1 → zrN d k = 0 := fun k hk => by unfold zrN clrN; rw [upN_ne hk]; unfold upN; (repeat' split) <;> rfl
  have e1 : zrN d 1 = d := by unfold zrN clrN; rw [upN_eq]
  refine ⟨⟨by rw [e 36 (by omega)]; omega, by rw [e 47 (by omega)]; omega, fun s hs => absurd hs (by rw [e 36 (by omega)]; omega), fun t ht => absurd ht (by rw [e 47 (by omega)]; omega), by rw [e 0 (by omega)]; omega, by rw [e1]; exact hd, fun t ht => absurd ht (by rw [e 47 (by omega)]; omega)⟩, e 0 (by omega), e 64 (by omega)⟩
theorem rdH_RV {f : Nat → Nat} {L d : Nat} {N' : Nat → Nat} (hd : d < 2 ^ 31) (h : (rdH f L (zrN d)).2 = some N') : RV N' := by
  have h0 := zr_RV hd
  have z36 : zrN d 36 = 0 := by unfold zrN clrN; (repeat first | rw [ru_ne (by omega)] | rw [ru_j] | rw [ru_ij (by omega)] | rw [upN_ne (by omega)] | rw [upN_eq] | rw [rr_ne (by omega)] | rw [rr_eq] | rw [sb_cpy0 (by omega)])
  have z47 : zrN d 47 = 0 := by unfold zrN clrN; (repeat first | rw [ru_ne (by omega)] | rw [ru_j] | rw [ru_ij (by omega)] | rw [upN_ne (by omega)] | rw [upN_eq] | rw [rr_ne (by omega)] | rw [rr_eq] | rw [sb_cpy0 (by omega)])
  have hS : ∀ N1, (rdL f L (rdS f L) 5 0 (zrN d)).2 = some N1 → N1 36 + 0 ≤ 5 ∧ N1 47 = 0 ∧ RV N1 := fun N1 h1 =>
    rdLS_v (f := f) (L := L) (R := rdS f L) (P := fun n N => N 36 + n ≤ 5 ∧ N 47 = 0 ∧ RV N) (fun n p N N' hp hn => by
      obtain ⟨r, b, hr, hb, rfl⟩ := rdS_v hn
      refine ⟨by rw [addS_36]; omega, by rw [addS_47 (by omega)]; exact hp.2.1, hp.2.2.1.plS (by omega) hr hb, ?_, ?_⟩
      · have : addS N r b 0 = N 0 := by unfold addS; (repeat first | rw [upN_ne (by omega)])
        rw [this]; exact hp.2.2.2.1
      · have : addS N r b 64 = N 64 := by unfold addS; have := hp.1; (repeat first | rw [upN_ne (by omega)])
        rw [this]; exact hp.2.2.2.2) (fun n N hp => ⟨by omega, hp.2⟩) 5 0 (zrN d) N1 ⟨by omega, z47, h0⟩ h1
  have hT : ∀ p N1 N2, N1 47 = 0 → RV N1 → (rdL f L (rdT f L) 8 p N1).2 = some N2 → N2 47 + 0 ≤ 8 ∧ RV N2 := fun p N1 N2 h47 hr h1 =>
    rdLS_v (f := f) (L := L) (R := rdT f L) (P := fun n N => N 47 + n ≤ 8 ∧ RV N) (fun n p N N' hp hn => by
      obtain ⟨k, g, d, r, hk, hg, hd1, hd, hr, rfl⟩ := rdT_v hn
      refine ⟨by rw [addT_47]; omega, hp.2.1.plT (by omega) hk hg hd hr, ?_, ?_⟩
      · have : addT N k g d r 0 = N 0 := by unfold addT; (repeat first | rw [upN_ne (by omega)])
        rw [this]; exact hp.2.2.1
      · have : addT N k g d r 64 = N 64 := by unfold addT; have := hp.1; (repeat first | rw [upN_ne (by omega)])
        rw [this]; exact hp.2.2.2) (fun n N hp => ⟨by omega, hp.2⟩) 8 p N1 N2 ⟨by omega, hr⟩ h1
  have hE : ∀ p N1, (rdE f L p N1).2 = some N' → N1 = N' := fun p N1 e => by
    unfold rdE at e
    simp only at e
    split at e
    · simpa using e
    · simp at e
  unfold rdH at h
  split at h
  · simp at h
  · rename_i N1 h1
    obtain ⟨a1, a2, a3⟩ := hS N1 h1
    unfold rdH2 at h
    split at h
    · have := hE _ _ h; subst this; exact a3
    · split at h
      · simp at h
      · rename_i N2 h2
        have := hE _ _ h; subst this
        exact (hT _ N1 N2 a2 a3 h2).2
theorem RV.val {N : Nat → Nat} (h : RV N) : VAL N := VAL.zero h.1 (by rw [h.2.1]; omega) h.2.2
