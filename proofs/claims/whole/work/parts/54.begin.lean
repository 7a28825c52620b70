-- the law's first rows: both constructors; what holds then
theorem zr_ne {d k : Nat} (h : k ≠ 1) : zrN d k = 0 := by unfold zrN clrN; rw [upN_ne h]; unfold upN; (repeat' split) <;> rfl
theorem zr_1 {d : Nat} : zrN d 1 = d := by unfold zrN clrN; rw [upN_eq]
theorem ok_L_law_X11_init : sd_ok muL_law muX11_init 0 := ⟨by decide +kernel, by decide +kernel, ⟨by decide +kernel, by decide +kernel, by decide +kernel⟩, by decide, by decide⟩
theorem ok_L_law_X12_init : sd_ok muL_law muX12_init 0 := ⟨by decide +kernel, by decide +kernel, ⟨by decide +kernel, by decide +kernel, by decide +kernel⟩, by decide, by decide⟩
theorem nI_zero : (0 : Int32) = nI 0 := by decide
theorem REL.first {I : sd_I} {J : sd_J} (g0 : I 0 4 = 0) (g1 : I 1 7 = 0) (g2 : I 1 8 = 0) (g3 : I 13 5 = 0) (g4 : I 13 6 = nI 1) (g5 : I 19 1 = 0) (g6 : I 19 2 = 0) (g7 : I 155 1 = 0) (g8 : ∀ s, s < 4 → (∀ k, I (162 + 2 * s) k = 0) ∧ ∀ k, J (162 + 2 * s + 1) k = 0) (h0 : I 170 3 = 0) (h1 : I 170 11 = 0) (h2 : ∀ k, k < 4 → I 171 k = -1) (h3 : ∀ k, I 172 k = 0) (h4 : ∀ k, J 173 k = 0) (h5 : ∀ k, I 175 k = if k = 1 then nI 1 else 0) : REL I J := by
  have e36 : zrN 1 36 = 0 := zr_ne (by decide)
  have e47 : zrN 1 47 = 0 := zr_ne (by decide)
  have e64 : zrN 1 64 = 0 := zr_ne (by decide)
  have e0 : zrN 1 0 = 0 := zr_ne (by decide)
  have e1 : zrN 1 1 = 1 := zr_1
  refine ⟨zrN 1, fun _ => 0, 0, fun _ => (0, 0, 0, fun _ => 0), 0, fun _ => 0, ⟨⟨?_, ?_, ?_, ?_, ?_, ?_, ?_, ?_⟩, ⟨?_, ?_, 0, by decide, ?_, ?_⟩, ⟨?_, ?_⟩, ?_, ?_, ?_⟩, ⟨?_, ⟨?_, ?_⟩, ?_, ?_, ?_⟩, (zr_RV (by decide)).val, ⟨by decide, ?_⟩, ?_, by decide, ?_⟩
  · rw [e36, g1]; exact nI_zero
  · rw [e47, g2]; exact nI_zero
  · intro s hs; rw [e36] at hs; exact absurd hs (Nat.not_lt_zero s)
  · intro s hs; rw [e47] at hs; exact absurd hs (Nat.not_lt_zero s)
  · rw [e0]; exact g3.trans nI_zero
  · rw [e1]; exact g4
  · intro s hs; rw [e47] at hs; exact absurd hs (Nat.not_lt_zero s)
  · intro s hs; rw [e36] at hs; exact absurd hs (Nat.not_lt_zero s)
  · rw [e64, g6]; exact nI_zero
  · rw [e64]; exact Nat.zero_le 8
  · rw [g5]; exact nI_zero
  · intro s hs; rw [e64] at hs; exact absurd hs (Nat.not_lt_zero s)
  · rw [g7]; exact nI_zero
  · intro k hk; exact absurd hk (Nat.not_lt_zero k)
  · intro s hs
    exact ⟨((g8 s hs).1 1).trans nI_zero, ((g8 s hs).1 2).trans nI_zero, ((g8 s hs).1 3).trans nI_zero, fun i _ => (g8 s hs).2 i⟩
  · rw [g0]; exact nI_zero
  · intro h; exact absurd h (by decide)
  · intro k hk
    rw [h5 k]
    by_cases e : k = 1
    · subst e; rw [if_pos rfl, e1]
    · rw [if_neg e, zr_ne e]; exact nI_zero
  · rw [h0]; exact nI_zero
  · intro k hk; exact absurd hk (Nat.not_lt_zero k)
  · intro s hs
    exact ⟨(h2 s hs).trans (if_pos rfl).symm, (h3 s).trans nI_zero, fun i _ => h4 _⟩
  · rw [h1]; exact nI_zero
  · intro h; exact absurd h (by decide)
  · intro k hk; exact absurd hk (Nat.not_lt_zero k)
  · intro s hs; exact ⟨show 0 < 2 by decide, show 0 < 4 by decide, Nat.zero_le 24⟩
  · intro h; exact absurd h (by decide)
set_option maxHeartbeats 4000000 in
theorem l_start {X : Nat × (Nat → Int32)} {I : sd_I} {J : sd_J} (hX : X.1 ≤ 3584) : AW muL_law 0 0 0 [.ref 100000, .null, .null, .null] [] ([], X, I, J) (fun r _ => r = some (nI 1)) := by
  refine AW.cl (C' := [] ++ []) rfl ?_
  refine AW.newP (P := []) (a := 0) (L := []) (ci := 11) (q := 0) (L' := [(11, 0, [none, none, none, none, none, none, none, none, none])]) (kc' := 1) (ks' := 9) dL_law_0 rfl rfl rfl rfl wV_X11 tyX11 tyX11_ok rfl (by decide) df_X11 wL_L_7 wB_X11 wZ_X11 (by decide) rfl rfl (Nat.le_of_ble_eq_true rfl) (Nat.le_of_ble_eq_true rfl) (fun I1 e1 z1 => ?_)
  refine AW.dup dL_law_3 rfl ?_
  refine AW.cl (C' := [] ++ [(11, 0, List.replicate 9 none)]) rfl ?_
  refine AW.callC (μ' := muX11_init) (kc' := 170) (ks' := 1646) ok_L_law_X11_init rfl rfl wM_L_9 wI_X11_init wZ_X11 wC_X11_init dL_law_4 (by decide) (Nat.le_of_ble_eq_true rfl) rfl rfl (Nat.le_of_ble_eq_true rfl) (Nat.le_of_ble_eq_true rfl) (by decide) (s_X11_init (P := []) (a := 0) rfl (by decide) z1 (fun I2 J2 f2 fj2 g0 g1 g2 g3 g4 g5 g6 g7 a1 b1 a2 b2 a3 b3 a4 b4 => ?_))
  refine AW.cl (C' := sk0.take 170 ++ []) (by decide +kernel) ?_
  refine AW.astore_n dL_law_7 rfl (by decide) rfl rfl ?_
  refine AW.newP (P := sk0.take 170) (a := 170) (L := []) (ci := 12) (q := 170) (L' := [(12, 0, [none, none, none, none, none, none, none, none, none, none, none, none])]) (kc' := 171) (ks' := 1658) dL_law_8 (by decide +kernel) rfl rfl rfl wV_X12 tyX12 tyX12_ok rfl (by decide) df_X12 wL_L_10 wB_X12 wZ_X12 (by decide) rfl rfl (Nat.le_of_ble_eq_true rfl) (Nat.le_of_ble_eq_true rfl) (fun I3 e3 z3 => ?_)
  refine AW.dup dL_law_11 rfl ?_
  refine AW.cl (C' := sk0.take 170 ++ [(12, 0, List.replicate 12 none)]) rfl ?_
  refine AW.callC (μ' := muX12_init) (kc' := 179) (ks' := 3254) ok_L_law_X12_init rfl rfl wM_L_12 wI_X12_init wZ_X12 wC_X12_init dL_law_12 (by decide) (Nat.le_of_ble_eq_true rfl) rfl rfl (Nat.le_of_ble_eq_true rfl) (Nat.le_of_ble_eq_true rfl) (by decide) (s_X12_init (P := sk0.take 170) (a := 170) (by decide +kernel) (by decide) z3 (fun I4 J4 f4 fj4 h0 h1 h2 h3 h4 h5 => ?_))
  refine AW.cl (C' := sk0) (by decide +kernel) ?_
  refine AW.astore_n dL_law_15 rfl (by decide) rfl rfl ?_
  refine AW.iconst (v := nI 0) dL_law_16 (by decide) ?_
  refine AW.istore_n dL_law_17 rfl (by decide) rfl rfl ?_
  have e : ∀ c, c < 170 → I4 c = I2 c := fun c hc => (f4 c hc).trans (e3 c (by omega))
  have ej : ∀ c, c < 170 → J4 c = J2 c := fj4
  refine l_loop hX (X.1 + 1) 0 I4 J4 (by omega) (by omega) (REL.first ?_ ?_ ?_ ?_ ?_ ?_ ?_ ?_ (fun s hs => ?_) h0 h1 h2 h3 h4 h5)
  · rw [e 0 (by decide)]; exact g0
  · rw [e 1 (by decide)]; exact g1
  · rw [e 1 (by decide)]; exact g2
  · rw [e 13 (by decide)]; exact g3
  · rw [e 13 (by decide)]; exact g4
  · rw [e 19 (by decide)]; exact g5
  · rw [e 19 (by decide)]; exact g6
  · rw [e 155 (by decide)]; exact g7
  · rw [e _ (by omega), ej _ (by omega)]
    rcases (show s = 0 ∨ s = 1 ∨ s = 2 ∨ s = 3 by omega) with rfl | rfl | rfl | rfl
    · exact ⟨a1, b1⟩
    · exact ⟨a2, b2⟩
    · exact ⟨a3, b3⟩
    · exact ⟨a4, b4⟩
