-- both sides of each call
theorem b_sleeper (x : Int32) (y : Int32) : BOTH muX11_sleeper muX12_sleeper [.int x, .int y] := by
  intro X I J ⟨N, f, L, sh, b, K, hc, hm, hv⟩
  have h5 := hv.1.1.s5
  have h8 := hv.1.1.t8
  refine c_sleeper hv.1.1 hc.1 hc.2.1 (fun a1 => ?_) (fun a1 a2 a3 => ?_) (fun rc bc a1 a2 a3 a4 a5 Ivc f1 r1 p1 => ?_)
  · have hn := hm
    refine ⟨_, _, rfl, m_sleeper hv.1.1 hn.1 (fun o1 => ?_) (fun o1 o2 o3 => ?_) (fun rm bm o1 o2 o3 o4 o5 Ivm s2 => ?_)⟩
    · refine ⟨rfl, _, _, rfl, ?_⟩
      exact REL.q hc hm hv (fun c h1 h2 h3 => by first | rfl | exact f1 c (by omega) | exact f2 c (by omega) | exact (f2 c (by omega)).trans (f1 c (by omega)))
    · exfalso
      first | exact a1 ⟨(by first | assumption | (refine ⟨_, ?_, ?_, by assumption⟩ <;> omega)), (by first | assumption | (refine ⟨_, ?_, ?_, by assumption⟩ <;> omega))⟩ | omega | contradiction
    · exfalso
      first | exact a1 ⟨(by first | assumption | (refine ⟨_, ?_, ?_, by assumption⟩ <;> omega)), (by first | assumption | (refine ⟨_, ?_, ?_, by assumption⟩ <;> omega))⟩ | omega | contradiction
  · have hn := hm
    refine ⟨_, _, rfl, m_sleeper hv.1.1 hn.1 (fun o1 => ?_) (fun o1 o2 o3 => ?_) (fun rm bm o1 o2 o3 o4 o5 Ivm s2 => ?_)⟩
    · exfalso
      first | exact o1 ⟨(by first | assumption | (refine ⟨_, ?_, ?_, by assumption⟩ <;> omega)), (by first | assumption | (refine ⟨_, ?_, ?_, by assumption⟩ <;> omega))⟩ | omega | contradiction
    · refine ⟨rfl, _, _, rfl, ?_⟩
      exact REL.q hc hm hv (fun c h1 h2 h3 => by first | rfl | exact f1 c (by omega) | exact f2 c (by omega) | exact (f2 c (by omega)).trans (f1 c (by omega)))
    · exfalso
      first | omega | contradiction
  · have hn := hm.c f1 (by omega)
    refine ⟨_, _, rfl, m_sleeper hv.1.1 hn.1 (fun o1 => ?_) (fun o1 o2 o3 => ?_) (fun rm bm o1 o2 o3 o4 o5 Ivm s2 => ?_)⟩
    · exfalso
      first | exact o1 ⟨(by first | assumption | (refine ⟨_, ?_, ?_, by assumption⟩ <;> omega)), (by first | assumption | (refine ⟨_, ?_, ?_, by assumption⟩ <;> omega))⟩ | omega | contradiction
    · exfalso
      first | omega | contradiction
    · obtain rfl : rc = rm := nI_inj (by omega) (by omega) a3 o3
      obtain rfl : bc = bm := nI_inj (by omega) (by omega) a4 o4
      refine ⟨rfl, _, _, rfl, ?_⟩
      exact REL.n hc hm hv f1 r1 p1 s2 (hv.1.plS (by omega) (by omega) (by omega))
theorem b_thing (x : Int32) (y : Int32) (z : Int32) (u : Int32) : BOTH muX11_thing muX12_thing [.int x, .int y, .int z, .int u] := by
  intro X I J ⟨N, f, L, sh, b, K, hc, hm, hv⟩
  have h5 := hv.1.1.s5
  have h8 := hv.1.1.t8
  refine c_thing hv.1.1 hc.1 hc.2.1 (fun a1 => ?_) (fun a1 a2 a3 a4 a5 => ?_) (fun kdc gc dc rc a1 a2 a3 a4 a5 a6 a7 a8 a9 a10 Ivc f1 r1 p1 => ?_)
  · have hn := hm
    refine ⟨_, _, rfl, m_thing hv.1.1 hn.1 (fun o1 => ?_) (fun o1 o2 o3 o4 o5 => ?_) (fun kdm gm dm rm o1 o2 o3 o4 o5 o6 o7 o8 o9 o10 Ivm s2 => ?_)⟩
    · refine ⟨rfl, _, _, rfl, ?_⟩
      exact REL.q hc hm hv (fun c h1 h2 h3 => by first | rfl | exact f1 c (by omega) | exact f2 c (by omega) | exact (f2 c (by omega)).trans (f1 c (by omega)))
    · exfalso
      first | exact a1 ⟨(by first | assumption | (refine ⟨_, ?_, ?_, by assumption⟩ <;> omega)), (by first | assumption | (refine ⟨_, ?_, ?_, by assumption⟩ <;> omega)), (by first | assumption | (refine ⟨_, ?_, ?_, by assumption⟩ <;> omega)), (by first | assumption | (refine ⟨_, ?_, ?_, by assumption⟩ <;> omega))⟩ | omega | contradiction
    · exfalso
      first | exact a1 ⟨(by first | assumption | (refine ⟨_, ?_, ?_, by assumption⟩ <;> omega)), (by first | assumption | (refine ⟨_, ?_, ?_, by assumption⟩ <;> omega)), (by first | assumption | (refine ⟨_, ?_, ?_, by assumption⟩ <;> omega)), (by first | assumption | (refine ⟨_, ?_, ?_, by assumption⟩ <;> omega))⟩ | omega | contradiction
  · have hn := hm
    refine ⟨_, _, rfl, m_thing hv.1.1 hn.1 (fun o1 => ?_) (fun o1 o2 o3 o4 o5 => ?_) (fun kdm gm dm rm o1 o2 o3 o4 o5 o6 o7 o8 o9 o10 Ivm s2 => ?_)⟩
    · exfalso
      first | exact o1 ⟨(by first | assumption | (refine ⟨_, ?_, ?_, by assumption⟩ <;> omega)), (by first | assumption | (refine ⟨_, ?_, ?_, by assumption⟩ <;> omega)), (by first | assumption | (refine ⟨_, ?_, ?_, by assumption⟩ <;> omega)), (by first | assumption | (refine ⟨_, ?_, ?_, by assumption⟩ <;> omega))⟩ | omega | contradiction
    · refine ⟨rfl, _, _, rfl, ?_⟩
      exact REL.q hc hm hv (fun c h1 h2 h3 => by first | rfl | exact f1 c (by omega) | exact f2 c (by omega) | exact (f2 c (by omega)).trans (f1 c (by omega)))
    · exfalso
      first | omega | contradiction
  · have hn := hm.c f1 (by omega)
    refine ⟨_, _, rfl, m_thing hv.1.1 hn.1 (fun o1 => ?_) (fun o1 o2 o3 o4 o5 => ?_) (fun kdm gm dm rm o1 o2 o3 o4 o5 o6 o7 o8 o9 o10 Ivm s2 => ?_)⟩
    · exfalso
      first | exact o1 ⟨(by first | assumption | (refine ⟨_, ?_, ?_, by assumption⟩ <;> omega)), (by first | assumption | (refine ⟨_, ?_, ?_, by assumption⟩ <;> omega)), (by first | assumption | (refine ⟨_, ?_, ?_, by assumption⟩ <;> omega)), (by first | assumption | (refine ⟨_, ?_, ?_, by assumption⟩ <;> omega))⟩ | omega | contradiction
    · exfalso
      first | omega | contradiction
    · obtain rfl : kdc = kdm := nI_inj (by omega) (by omega) a6 o6
      obtain rfl : gc = gm := nI_inj (by omega) (by omega) a7 o7
      obtain rfl : dc = dm := nI_inj (by omega) (by omega) a8 o8
      obtain rfl : rc = rm := nI_inj (by omega) (by omega) a9 o9
      refine ⟨rfl, _, _, rfl, ?_⟩
      exact REL.n hc hm hv f1 r1 p1 s2 (hv.1.plT (by omega) (by omega) (by omega) (by omega) (by omega))
theorem b_of (x : Int32) (y : Int32) : BOTH muX11_of muX12_of [.int x, .int y] := by
  intro X I J ⟨N, f, L, sh, b, K, hc, hm, hv⟩
  have h5 := hv.1.1.s5
  have h8 := hv.1.1.t8
  refine c_of hv.1.1 hc.1 (fun a1 => ?_) (fun sc wc a1 a2 a3 a4 Ivc f1 => ?_)
  · have hn := hm
    refine ⟨_, _, rfl, m_of hv.1.1 hn.1 (fun o1 => ?_) (fun sm wm o1 o2 o3 o4 => ?_)⟩
    · refine ⟨rfl, _, _, rfl, ?_⟩
      exact REL.q hc hm hv (fun c h1 h2 h3 => by first | rfl | exact f1 c (by omega) | exact f2 c (by omega) | exact (f2 c (by omega)).trans (f1 c (by omega)))
    · exfalso
      first | exact a1 ⟨(by first | assumption | (refine ⟨_, ?_, ?_, by assumption⟩ <;> omega)), (by first | assumption | (refine ⟨_, ?_, ?_, by assumption⟩ <;> omega))⟩ | omega | contradiction
  · have hn := hm.c f1 (by omega)
    refine ⟨_, _, rfl, m_of hv.1.1 hn.1 (fun o1 => ?_) (fun sm wm o1 o2 o3 o4 => ?_)⟩
    · exfalso
      first | exact o1 ⟨(by first | assumption | (refine ⟨_, ?_, ?_, by assumption⟩ <;> omega)), (by first | assumption | (refine ⟨_, ?_, ?_, by assumption⟩ <;> omega))⟩ | omega | contradiction
    · obtain rfl : sc = sm := nI_inj (by omega) (by omega) a3 o3
      obtain rfl : wc = wm := nI_inj (by omega) (by omega) a4 o4
      refine ⟨rfl, _, _, rfl, ?_⟩
      exact REL.q hc hm hv (fun c h1 h2 h3 => by first | rfl | exact f1 c (by omega) | exact f2 c (by omega) | exact (f2 c (by omega)).trans (f1 c (by omega)))
theorem b_gift (x : Int32) (y : Int32) : BOTH muX11_gift muX12_gift [.int x, .int y] := by
  intro X I J ⟨N, f, L, sh, b, K, hc, hm, hv⟩
  have h5 := hv.1.1.s5
  have h8 := hv.1.1.t8
  refine c_gift hv.1.1 hc.1 (fun a1 => ?_) (fun tc wc a1 a2 a3 a4 => ?_)
  · have hn := hm
    refine ⟨_, _, rfl, m_gift hv.1.1 hn.1 (fun o1 => ?_) (fun tm wm o1 o2 o3 o4 => ?_)⟩
    · refine ⟨rfl, _, _, rfl, ?_⟩
      exact REL.q hc hm hv (fun c h1 h2 h3 => by first | rfl | exact f1 c (by omega) | exact f2 c (by omega) | exact (f2 c (by omega)).trans (f1 c (by omega)))
    · exfalso
      first | exact a1 ⟨(by first | assumption | (refine ⟨_, ?_, ?_, by assumption⟩ <;> omega)), (by first | assumption | (refine ⟨_, ?_, ?_, by assumption⟩ <;> omega))⟩ | omega | contradiction
  · have hn := hm
    refine ⟨_, _, rfl, m_gift hv.1.1 hn.1 (fun o1 => ?_) (fun tm wm o1 o2 o3 o4 => ?_)⟩
    · exfalso
      first | exact o1 ⟨(by first | assumption | (refine ⟨_, ?_, ?_, by assumption⟩ <;> omega)), (by first | assumption | (refine ⟨_, ?_, ?_, by assumption⟩ <;> omega))⟩ | omega | contradiction
    · obtain rfl : tc = tm := nI_inj (by omega) (by omega) a3 o3
      obtain rfl : wc = wm := nI_inj (by omega) (by omega) a4 o4
      refine ⟨rfl, _, _, rfl, ?_⟩
      exact REL.q hc hm hv (fun c h1 h2 h3 => by first | rfl | exact f1 c (by omega) | exact f2 c (by omega) | exact (f2 c (by omega)).trans (f1 c (by omega)))
theorem b_room (x : Int32) (y : Int32) : BOTH muX11_room muX12_room [.int x, .int y] := by
  intro X I J ⟨N, f, L, sh, b, K, hc, hm, hv⟩
  have h5 := hv.1.1.s5
  have h8 := hv.1.1.t8
  refine c_room hv.1.1 hc.1 (fun a1 => ?_) (fun rc wc a1 a2 a3 a4 Ivc f1 => ?_)
  · have hn := hm
    refine ⟨_, _, rfl, m_room hv.1.1 hn.1 (fun o1 => ?_) (fun rm wm o1 o2 o3 o4 => ?_)⟩
    · refine ⟨rfl, _, _, rfl, ?_⟩
      exact REL.q hc hm hv (fun c h1 h2 h3 => by first | rfl | exact f1 c (by omega) | exact f2 c (by omega) | exact (f2 c (by omega)).trans (f1 c (by omega)))
    · exfalso
      first | exact a1 ⟨(by first | assumption | (refine ⟨_, ?_, ?_, by assumption⟩ <;> omega)), (by first | assumption | (refine ⟨_, ?_, ?_, by assumption⟩ <;> omega))⟩ | omega | contradiction
  · have hn := hm.c f1 (by omega)
    refine ⟨_, _, rfl, m_room hv.1.1 hn.1 (fun o1 => ?_) (fun rm wm o1 o2 o3 o4 => ?_)⟩
    · exfalso
      first | exact o1 ⟨(by first | assumption | (refine ⟨_, ?_, ?_, by assumption⟩ <;> omega)), (by first | assumption | (refine ⟨_, ?_, ?_, by assumption⟩ <;> omega))⟩ | omega | contradiction
    · obtain rfl : rc = rm := nI_inj (by omega) (by omega) a3 o3
      obtain rfl : wc = wm := nI_inj (by omega) (by omega) a4 o4
      refine ⟨rfl, _, _, rfl, ?_⟩
      exact REL.q hc hm hv (fun c h1 h2 h3 => by first | rfl | exact f1 c (by omega) | exact f2 c (by omega) | exact (f2 c (by omega)).trans (f1 c (by omega)))
theorem b_bed (x : Int32) (y : Int32) : BOTH muX11_bed muX12_bed [.int x, .int y] := by
  intro X I J ⟨N, f, L, sh, b, K, hc, hm, hv⟩
  have h5 := hv.1.1.s5
  have h8 := hv.1.1.t8
  refine c_bed hv.1.1 hc.1 (fun a1 => ?_) (fun sc rc a1 a2 a3 a4 Ivc f1 r1 => ?_)
  · have hn := hm
    refine ⟨_, _, rfl, m_bed hv.1.1 hn.1 (fun o1 => ?_) (fun sm rm o1 o2 o3 o4 Ivm s2 => ?_)⟩
    · refine ⟨rfl, _, _, rfl, ?_⟩
      exact REL.q hc hm hv (fun c h1 h2 h3 => by first | rfl | exact f1 c (by omega) | exact f2 c (by omega) | exact (f2 c (by omega)).trans (f1 c (by omega)))
    · exfalso
      first | exact a1 ⟨(by first | assumption | (refine ⟨_, ?_, ?_, by assumption⟩ <;> omega)), (by first | assumption | (refine ⟨_, ?_, ?_, by assumption⟩ <;> omega))⟩ | omega | contradiction
  · have hn := hm.c f1 (by omega)
    refine ⟨_, _, rfl, m_bed hv.1.1 hn.1 (fun o1 => ?_) (fun sm rm o1 o2 o3 o4 Ivm s2 => ?_)⟩
    · exfalso
      first | exact o1 ⟨(by first | assumption | (refine ⟨_, ?_, ?_, by assumption⟩ <;> omega)), (by first | assumption | (refine ⟨_, ?_, ?_, by assumption⟩ <;> omega))⟩ | omega | contradiction
    · obtain rfl : sc = sm := nI_inj (by omega) (by omega) a3 o3
      obtain rfl : rc = rm := nI_inj (by omega) (by omega) a4 o4
      refine ⟨rfl, _, _, rfl, ?_⟩
      exact REL.n hc hm hv (f1.w (by omega) (by omega)) r1 ((hc.2.1.of (fun c _ _ => f1 c (by omega))).eqN (fun k hk => upN_ne (by omega)) h5 h8) s2 (hv.1.bed (by omega) (by omega))
theorem b_type (x : Int32) : BOTH muX11_type muX12_type [.int x] := by
  intro X I J ⟨N, f, L, sh, b, K, hc, hm, hv⟩
  have h5 := hv.1.1.s5
  have h8 := hv.1.1.t8
  refine c_type hv.2.1 hc.2.2.1 (fun a1 => ?_) (fun a1 a2 => ?_) (fun cc a1 a2 a3 a4 Ivc f1 t1 => ?_)
  · have hn := hm
    refine ⟨_, _, rfl, m_type hv.2.1 hn.2.1 (fun o1 => ?_) (fun o1 o2 => ?_) (fun cm o1 o2 o3 o4 Ivm o5 o6 t2 => ?_)⟩
    · refine ⟨rfl, _, _, rfl, ?_⟩
      exact REL.q hc hm hv (fun c h1 h2 h3 => by first | rfl | exact f1 c (by omega) | exact f2 c (by omega) | exact (f2 c (by omega)).trans (f1 c (by omega)))
    · exfalso
      first | exact a1 (by first | assumption | (refine ⟨_, ?_, ?_, by assumption⟩ <;> omega)) | omega | contradiction
    · exfalso
      first | exact a1 (by first | assumption | (refine ⟨_, ?_, ?_, by assumption⟩ <;> omega)) | omega | contradiction
  · have hn := hm
    refine ⟨_, _, rfl, m_type hv.2.1 hn.2.1 (fun o1 => ?_) (fun o1 o2 => ?_) (fun cm o1 o2 o3 o4 Ivm o5 o6 t2 => ?_)⟩
    · exfalso
      first | exact o1 (by first | assumption | (refine ⟨_, ?_, ?_, by assumption⟩ <;> omega)) | omega | contradiction
    · refine ⟨rfl, _, _, rfl, ?_⟩
      exact REL.q hc hm hv (fun c h1 h2 h3 => by first | rfl | exact f1 c (by omega) | exact f2 c (by omega) | exact (f2 c (by omega)).trans (f1 c (by omega)))
    · exfalso
      first | omega | contradiction
  · have hn := hm.c f1 (by omega)
    refine ⟨_, _, rfl, m_type hv.2.1 hn.2.1 (fun o1 => ?_) (fun o1 o2 => ?_) (fun cm o1 o2 o3 o4 Ivm o5 o6 t2 => ?_)⟩
    · exfalso
      first | exact o1 (by first | assumption | (refine ⟨_, ?_, ?_, by assumption⟩ <;> omega)) | omega | contradiction
    · exfalso
      first | omega | contradiction
    · obtain rfl : cc = cm := nI_inj (by omega) (by omega) a3 o3
      refine ⟨rfl, _, _, rfl, ?_⟩
      refine REL.t hc hm hv (f1.w (by omega) (by omega)) t1 (fun c h1 h2 _ => o5 c h1 h2) (o6 11 (by omega)) t2 ⟨by omega, fun k hk => ?_⟩
      by_cases e : k = L
      · subst e; rw [upN_eq]; omega
      · rw [upN_ne e]; exact hv.2.1.2 k (by omega)
theorem b_house : BOTH muX11_house muX12_house [] := by
  intro X I J ⟨N, f, L, sh, b, K, hc, hm, hv⟩
  have h5 := hv.1.1.s5
  have h8 := hv.1.1.t8
  have hd := hv.1.1.dw
  refine c_house hv.2.1 hc.2.2.1 hv.1.1 hc.1 hc.2.1 (fun a1 Ivc f1 t1 => ?_) (fun Nvc a1 a2 a3 a4 Ivc a5 t1 r1 p1 => ?_) (fun M e => by obtain ⟨h1, h2, h3⟩ := rdH_RV hd e; exact ⟨h1.s5, h1.t8, h3⟩)
  · have hn := hm.c f1 (by omega)
    refine ⟨_, _, rfl, m_house hv.2.1 hn.2.1 hn.1 (fun o1 Ivm o2 o3 o4 => ?_) (fun Nvm o1 Ivm o2 o3 o4 d2 => ?_)⟩
    · refine ⟨rfl, _, _, rfl, ?_⟩
      exact REL.t hc hm hv f1 t1 (fun c h1 _ h3 => o2 c h1 h3) (o3 11 (by omega) (by omega) (by omega)) ⟨o4, fun k hk => absurd hk (by omega)⟩ ⟨by omega, fun k hk => absurd hk (by omega)⟩
    · exfalso
      rw [a1] at o1; cases o1
  · have hn := hm.fr (fun c h1 _ _ => a5 c (by omega) (by omega)) (fun _ _ => rfl)
    refine ⟨_, _, rfl, m_house hv.2.1 hn.2.1 hn.1 (fun o1 Ivm o2 o3 o4 => ?_) (fun Nvm o1 Ivm o2 o3 o4 d2 => ?_)⟩
    · exfalso
      rw [o1] at a1; cases a1
    · obtain rfl : Nvc = Nvm := Option.some.inj (a1.symm.trans o1)
      refine ⟨rfl, _, _, rfl, ?_⟩
      have hR := (rdH_RV hd a1).val
      obtain ⟨b1, b2, b3, b4, b5, b6⟩ := hc
      obtain ⟨n1, n2, n3, n4, n5⟩ := hn
      have e : ∀ c, (c = 0 ∨ 69 ≤ c) → (c < 137 ∨ 156 < c) → c < 170 → Ivm c = I c := fun c g1 g2 g3 => (o2 c (by omega) (by omega) (by omega)).trans (a5 c g1 g2)
      refine ⟨Nvc, f, 0, sh, b, K, ⟨r1.of (fun c _ _ _ => o2 c (by omega) (by omega) (by omega)), p1.of (fun c _ _ => o2 c (by omega) (by omega) (by omega)), t1.fre (o2 155 (by omega) (by omega) (by omega)) (o2 156 (by omega) (by omega) (by omega)), b4.fr (fun c _ _ => e c (by omega) (by omega) (by omega)) (fun _ _ _ => rfl), by rw [e 0 (by omega) (by omega) (by omega)]; exact b5, fun hb => ⟨(b6 hb).1.of (fun c _ _ _ => e c (by omega) (by omega) (by omega)), (b6 hb).2.of (fun c _ _ => e c (by omega) (by omega) (by omega))⟩⟩, ⟨d2, ⟨o4, fun k hk => absurd hk (by omega)⟩, n3.fr (o2 171 (by omega) (by omega) (by omega)) (o2 172 (by omega) (by omega) (by omega)) rfl, by rw [o3 11 (by omega) (by omega) (by omega)]; exact n4, fun hb k hk => by rw [o2 178 (by omega) (by omega) (by omega)]; exact n5 hb k hk⟩, hR, ⟨by omega, fun k hk => absurd hk (by omega)⟩, hv.2.2⟩
theorem b_count (x : Int32) : BOTH muX11_count muX12_count [.int x] := by
  intro X I J ⟨N, f, L, sh, b, K, hc, hm, hv⟩
  have h5 := hv.1.1.s5
  have h8 := hv.1.1.t8
  refine c_count hv.1.1 hc.1 hc.2.1 (fun a1 => ?_) (fun wc a1 a2 => ?_)
  · have hn := hm
    refine ⟨_, _, rfl, m_count hv.1.1 hn.1 (fun o1 => ?_) (fun wm o1 o2 => ?_)⟩
    · refine ⟨rfl, _, _, rfl, ?_⟩
      exact REL.q hc hm hv (fun c h1 h2 h3 => by first | rfl | exact f1 c (by omega) | exact f2 c (by omega) | exact (f2 c (by omega)).trans (f1 c (by omega)))
    · exfalso
      first | exact a1 (by first | assumption | (refine ⟨_, ?_, ?_, by assumption⟩ <;> omega)) | omega | contradiction
  · have hn := hm
    refine ⟨_, _, rfl, m_count hv.1.1 hn.1 (fun o1 => ?_) (fun wm o1 o2 => ?_)⟩
    · exfalso
      first | exact o1 (by first | assumption | (refine ⟨_, ?_, ?_, by assumption⟩ <;> omega)) | omega | contradiction
    · obtain rfl : wc = wm := nI_inj (by omega) (by omega) a2 o2
      refine ⟨rfl, _, _, rfl, ?_⟩
      exact REL.q hc hm hv (fun c h1 h2 h3 => by first | rfl | exact f1 c (by omega) | exact f2 c (by omega) | exact (f2 c (by omega)).trans (f1 c (by omega)))
theorem b_nights (x : Int32) : BOTH muX11_nights muX12_nights [.int x] := by
  intro X I J ⟨N, f, L, sh, b, K, hc, hm, hv⟩
  have h5 := hv.1.1.s5
  have h8 := hv.1.1.t8
  refine c_nights hv.1.1 hv.1.2.1 hc.1 hc.2.1 (fun a1 => ?_) (fun nc a1 a2 a3 a4 => ?_) (fun nc a1 a2 a3 a4 Ivc f1 r1 p1 => ?_)
  · have hn := hm
    refine ⟨_, _, rfl, m_nights hv.1.1 hv.1.2.1 hv.1.2.2.1 hn.1 (fun o1 => ?_) (fun nm o1 o2 o3 o4 => ?_) (fun nm o1 o2 o3 o4 Ivm s2 => ?_)⟩
    · refine ⟨rfl, _, _, rfl, ?_⟩
      exact REL.q hc hm hv (fun c h1 h2 h3 => by first | rfl | exact f1 c (by omega) | exact f2 c (by omega) | exact (f2 c (by omega)).trans (f1 c (by omega)))
    · exfalso
      first | exact a1 (by first | assumption | (refine ⟨_, ?_, ?_, by assumption⟩ <;> omega)) | omega | contradiction
    · exfalso
      first | exact a1 (by first | assumption | (refine ⟨_, ?_, ?_, by assumption⟩ <;> omega)) | omega | contradiction
  · have hn := hm
    refine ⟨_, _, rfl, m_nights hv.1.1 hv.1.2.1 hv.1.2.2.1 hn.1 (fun o1 => ?_) (fun nm o1 o2 o3 o4 => ?_) (fun nm o1 o2 o3 o4 Ivm s2 => ?_)⟩
    · exfalso
      first | exact o1 (by first | assumption | (refine ⟨_, ?_, ?_, by assumption⟩ <;> omega)) | omega | contradiction
    · obtain rfl : nc = nm := nI_inj (by omega) (by omega) a3 o3
      refine ⟨rfl, _, _, rfl, ?_⟩
      exact REL.q hc hm hv (fun c h1 h2 h3 => by first | rfl | exact f1 c (by omega) | exact f2 c (by omega) | exact (f2 c (by omega)).trans (f1 c (by omega)))
    · obtain rfl : nc = nm := nI_inj (by omega) (by omega) a3 o3
      exfalso
      first | omega | contradiction
  · have hn := hm.c f1 (by omega)
    refine ⟨_, _, rfl, m_nights hv.1.1 hv.1.2.1 hv.1.2.2.1 hn.1 (fun o1 => ?_) (fun nm o1 o2 o3 o4 => ?_) (fun nm o1 o2 o3 o4 Ivm s2 => ?_)⟩
    · exfalso
      first | exact o1 (by first | assumption | (refine ⟨_, ?_, ?_, by assumption⟩ <;> omega)) | omega | contradiction
    · obtain rfl : nc = nm := nI_inj (by omega) (by omega) a3 o3
      exfalso
      first | omega | contradiction
    · obtain rfl : nc = nm := nI_inj (by omega) (by omega) a3 o3
      refine ⟨rfl, _, _, rfl, ?_⟩
      exact REL.n hc hm hv f1 r1 p1 s2 (hv.1.it false _ (by omega))
theorem b_move (x : Int32) (y : Int32) : BOTH muX11_move muX12_move [.int x, .int y] := by
  intro X I J ⟨N, f, L, sh, b, K, hc, hm, hv⟩
  have h5 := hv.1.1.s5
  have h8 := hv.1.1.t8
  refine c_move hv.1.1 hc.1 hc.2.1 (fun a1 => ?_) (fun tc rc a1 a2 a3 a4 a5 => ?_) (fun tc rc a1 a2 a3 a4 a5 Ivc f1 r1 p1 => ?_)
  · have hn := hm
    refine ⟨_, _, rfl, m_move hv.1.1 hv.1.2.2.1 hn.1 (fun o1 => ?_) (fun tm rm o1 o2 o3 o4 o5 => ?_) (fun tm rm o1 o2 o3 o4 o5 Ivm s2 => ?_)⟩
    · refine ⟨rfl, _, _, rfl, ?_⟩
      exact REL.q hc hm hv (fun c h1 h2 h3 => by first | rfl | exact f1 c (by omega) | exact f2 c (by omega) | exact (f2 c (by omega)).trans (f1 c (by omega)))
    · exfalso
      first | exact a1 ⟨(by first | assumption | (refine ⟨_, ?_, ?_, by assumption⟩ <;> omega)), (by first | assumption | (refine ⟨_, ?_, ?_, by assumption⟩ <;> omega))⟩ | omega | contradiction
    · exfalso
      first | exact a1 ⟨(by first | assumption | (refine ⟨_, ?_, ?_, by assumption⟩ <;> omega)), (by first | assumption | (refine ⟨_, ?_, ?_, by assumption⟩ <;> omega))⟩ | omega | contradiction
  · have hn := hm
    refine ⟨_, _, rfl, m_move hv.1.1 hv.1.2.2.1 hn.1 (fun o1 => ?_) (fun tm rm o1 o2 o3 o4 o5 => ?_) (fun tm rm o1 o2 o3 o4 o5 Ivm s2 => ?_)⟩
    · exfalso
      first | exact o1 ⟨(by first | assumption | (refine ⟨_, ?_, ?_, by assumption⟩ <;> omega)), (by first | assumption | (refine ⟨_, ?_, ?_, by assumption⟩ <;> omega))⟩ | omega | contradiction
    · obtain rfl : tc = tm := nI_inj (by omega) (by omega) a3 o3
      obtain rfl : rc = rm := nI_inj (by omega) (by omega) a4 o4
      refine ⟨rfl, _, _, rfl, ?_⟩
      exact REL.q hc hm hv (fun c h1 h2 h3 => by first | rfl | exact f1 c (by omega) | exact f2 c (by omega) | exact (f2 c (by omega)).trans (f1 c (by omega)))
    · obtain rfl : tc = tm := nI_inj (by omega) (by omega) a3 o3
      obtain rfl : rc = rm := nI_inj (by omega) (by omega) a4 o4
      exfalso
      first | omega | contradiction
  · have hn := hm.c f1 (by omega)
    refine ⟨_, _, rfl, m_move hv.1.1 hv.1.2.2.1 hn.1 (fun o1 => ?_) (fun tm rm o1 o2 o3 o4 o5 => ?_) (fun tm rm o1 o2 o3 o4 o5 Ivm s2 => ?_)⟩
    · exfalso
      first | exact o1 ⟨(by first | assumption | (refine ⟨_, ?_, ?_, by assumption⟩ <;> omega)), (by first | assumption | (refine ⟨_, ?_, ?_, by assumption⟩ <;> omega))⟩ | omega | contradiction
    · obtain rfl : tc = tm := nI_inj (by omega) (by omega) a3 o3
      obtain rfl : rc = rm := nI_inj (by omega) (by omega) a4 o4
      exfalso
      first | omega | contradiction
    · obtain rfl : tc = tm := nI_inj (by omega) (by omega) a3 o3
      obtain rfl : rc = rm := nI_inj (by omega) (by omega) a4 o4
      refine ⟨rfl, _, _, rfl, ?_⟩
      exact REL.n hc hm hv f1 r1 p1 s2 (hv.1.note.room (by rw [noteN_low (by omega)]; omega) (by omega))
theorem b_pass (x : Int32) (y : Int32) : BOTH muX11_pass muX12_pass [.int x, .int y] := by
  intro X I J ⟨N, f, L, sh, b, K, hc, hm, hv⟩
  have h5 := hv.1.1.s5
  have h8 := hv.1.1.t8
  refine c_pass hv.1.1 hc.1 hc.2.1 (fun a1 => ?_) (fun tc gc a1 a2 a3 a4 a5 => ?_) (fun tc gc a1 a2 a3 a4 a5 Ivc f1 r1 p1 => ?_)
  · have hn := hm
    refine ⟨_, _, rfl, m_pass hv.1.1 hv.1.2.2.1 hn.1 (fun o1 => ?_) (fun tm gm o1 o2 o3 o4 o5 => ?_) (fun tm gm o1 o2 o3 o4 o5 Ivm s2 => ?_)⟩
    · refine ⟨rfl, _, _, rfl, ?_⟩
      exact REL.q hc hm hv (fun c h1 h2 h3 => by first | rfl | exact f1 c (by omega) | exact f2 c (by omega) | exact (f2 c (by omega)).trans (f1 c (by omega)))
    · exfalso
      first | exact a1 ⟨(by first | assumption | (refine ⟨_, ?_, ?_, by assumption⟩ <;> omega)), (by first | assumption | (refine ⟨_, ?_, ?_, by assumption⟩ <;> omega))⟩ | omega | contradiction
    · exfalso
      first | exact a1 ⟨(by first | assumption | (refine ⟨_, ?_, ?_, by assumption⟩ <;> omega)), (by first | assumption | (refine ⟨_, ?_, ?_, by assumption⟩ <;> omega))⟩ | omega | contradiction
  · have hn := hm
    refine ⟨_, _, rfl, m_pass hv.1.1 hv.1.2.2.1 hn.1 (fun o1 => ?_) (fun tm gm o1 o2 o3 o4 o5 => ?_) (fun tm gm o1 o2 o3 o4 o5 Ivm s2 => ?_)⟩
    · exfalso
      first | exact o1 ⟨(by first | assumption | (refine ⟨_, ?_, ?_, by assumption⟩ <;> omega)), (by first | assumption | (refine ⟨_, ?_, ?_, by assumption⟩ <;> omega))⟩ | omega | contradiction
    · obtain rfl : tc = tm := nI_inj (by omega) (by omega) a3 o3
      obtain rfl : gc = gm := nI_inj (by omega) (by omega) a4 o4
      refine ⟨rfl, _, _, rfl, ?_⟩
      exact REL.q hc hm hv (fun c h1 h2 h3 => by first | rfl | exact f1 c (by omega) | exact f2 c (by omega) | exact (f2 c (by omega)).trans (f1 c (by omega)))
    · obtain rfl : tc = tm := nI_inj (by omega) (by omega) a3 o3
      obtain rfl : gc = gm := nI_inj (by omega) (by omega) a4 o4
      exfalso
      first | omega | contradiction
  · have hn := hm.c f1 (by omega)
    refine ⟨_, _, rfl, m_pass hv.1.1 hv.1.2.2.1 hn.1 (fun o1 => ?_) (fun tm gm o1 o2 o3 o4 o5 => ?_) (fun tm gm o1 o2 o3 o4 o5 Ivm s2 => ?_)⟩
    · exfalso
      first | exact o1 ⟨(by first | assumption | (refine ⟨_, ?_, ?_, by assumption⟩ <;> omega)), (by first | assumption | (refine ⟨_, ?_, ?_, by assumption⟩ <;> omega))⟩ | omega | contradiction
    · obtain rfl : tc = tm := nI_inj (by omega) (by omega) a3 o3
      obtain rfl : gc = gm := nI_inj (by omega) (by omega) a4 o4
      exfalso
      first | omega | contradiction
    · obtain rfl : tc = tm := nI_inj (by omega) (by omega) a3 o3
      obtain rfl : gc = gm := nI_inj (by omega) (by omega) a4 o4
      refine ⟨rfl, _, _, rfl, ?_⟩
      exact REL.n hc hm hv f1 r1 p1 s2 ((hv.1.note.giver (by rw [noteN_low (by omega)]; omega) (by omega)).left (by rw [upN_ne (by omega), noteN_low (by omega)]; omega) (Nat.min_le_right _ _))
theorem b_back (x : Int32) : BOTH muX11_back muX12_back [.int x] := by
  intro X I J ⟨N, f, L, sh, b, K, hc, hm, hv⟩
  have h5 := hv.1.1.s5
  have h8 := hv.1.1.t8
  refine c_back hv.1.1 hc.1 hc.2.1 (fun a1 => ?_) (fun tc a1 a2 a3 => ?_) (fun tc a1 a2 a3 Ivc f1 r1 p1 => ?_)
  · have hn := hm
    refine ⟨_, _, rfl, m_back hv.1.1 hv.1.2.2.1 hn.1 (fun o1 => ?_) (fun tm o1 o2 o3 => ?_) (fun tm o1 o2 o3 Ivm s2 => ?_)⟩
    · refine ⟨rfl, _, _, rfl, ?_⟩
      exact REL.q hc hm hv (fun c h1 h2 h3 => by first | rfl | exact f1 c (by omega) | exact f2 c (by omega) | exact (f2 c (by omega)).trans (f1 c (by omega)))
    · exfalso
      first | exact a1 (by first | assumption | (refine ⟨_, ?_, ?_, by assumption⟩ <;> omega)) | omega | contradiction
    · exfalso
      first | exact a1 (by first | assumption | (refine ⟨_, ?_, ?_, by assumption⟩ <;> omega)) | omega | contradiction
  · have hn := hm
    refine ⟨_, _, rfl, m_back hv.1.1 hv.1.2.2.1 hn.1 (fun o1 => ?_) (fun tm o1 o2 o3 => ?_) (fun tm o1 o2 o3 Ivm s2 => ?_)⟩
    · exfalso
      first | exact o1 (by first | assumption | (refine ⟨_, ?_, ?_, by assumption⟩ <;> omega)) | omega | contradiction
    · obtain rfl : tc = tm := nI_inj (by omega) (by omega) a2 o2
      refine ⟨rfl, _, _, rfl, ?_⟩
      exact REL.q hc hm hv (fun c h1 h2 h3 => by first | rfl | exact f1 c (by omega) | exact f2 c (by omega) | exact (f2 c (by omega)).trans (f1 c (by omega)))
    · obtain rfl : tc = tm := nI_inj (by omega) (by omega) a2 o2
      exfalso
      first | omega | contradiction
  · have hn := hm.c f1 (by omega)
    refine ⟨_, _, rfl, m_back hv.1.1 hv.1.2.2.1 hn.1 (fun o1 => ?_) (fun tm o1 o2 o3 => ?_) (fun tm o1 o2 o3 Ivm s2 => ?_)⟩
    · exfalso
      first | exact o1 (by first | assumption | (refine ⟨_, ?_, ?_, by assumption⟩ <;> omega)) | omega | contradiction
    · obtain rfl : tc = tm := nI_inj (by omega) (by omega) a2 o2
      exfalso
      first | omega | contradiction
    · obtain rfl : tc = tm := nI_inj (by omega) (by omega) a2 o2
      refine ⟨rfl, _, _, rfl, ?_⟩
      exact REL.n hc hm hv f1 r1 p1 s2 (hv.1.note.left (by rw [noteN_low (by omega)]; omega) (by omega))
theorem b_drift (x : Int32) : BOTH muX11_drift muX12_drift [.int x] := by
  intro X I J ⟨N, f, L, sh, b, K, hc, hm, hv⟩
  have h5 := hv.1.1.s5
  have h8 := hv.1.1.t8
  refine c_drift hv.1.1 hv.1.2.1 hc.1 hc.2.1 (fun a1 => ?_) (fun nc a1 a2 a3 a4 => ?_) (fun nc a1 a2 a3 a4 Ivc f1 r1 p1 => ?_)
  · have hn := hm
    refine ⟨_, _, rfl, m_drift hv.1.1 hv.1.2.1 hv.1.2.2.1 hn.1 (fun o1 => ?_) (fun nm o1 o2 o3 o4 => ?_) (fun nm o1 o2 o3 o4 Ivm s2 => ?_)⟩
    · refine ⟨rfl, _, _, rfl, ?_⟩
      exact REL.q hc hm hv (fun c h1 h2 h3 => by first | rfl | exact f1 c (by omega) | exact f2 c (by omega) | exact (f2 c (by omega)).trans (f1 c (by omega)))
    · exfalso
      first | exact a1 (by first | assumption | (refine ⟨_, ?_, ?_, by assumption⟩ <;> omega)) | omega | contradiction
    · exfalso
      first | exact a1 (by first | assumption | (refine ⟨_, ?_, ?_, by assumption⟩ <;> omega)) | omega | contradiction
  · have hn := hm
    refine ⟨_, _, rfl, m_drift hv.1.1 hv.1.2.1 hv.1.2.2.1 hn.1 (fun o1 => ?_) (fun nm o1 o2 o3 o4 => ?_) (fun nm o1 o2 o3 o4 Ivm s2 => ?_)⟩
    · exfalso
      first | exact o1 (by first | assumption | (refine ⟨_, ?_, ?_, by assumption⟩ <;> omega)) | omega | contradiction
    · obtain rfl : nc = nm := nI_inj (by omega) (by omega) a3 o3
      refine ⟨rfl, _, _, rfl, ?_⟩
      exact REL.q hc hm hv (fun c h1 h2 h3 => by first | rfl | exact f1 c (by omega) | exact f2 c (by omega) | exact (f2 c (by omega)).trans (f1 c (by omega)))
    · obtain rfl : nc = nm := nI_inj (by omega) (by omega) a3 o3
      exfalso
      first | omega | contradiction
  · have hn := hm.c f1 (by omega)
    refine ⟨_, _, rfl, m_drift hv.1.1 hv.1.2.1 hv.1.2.2.1 hn.1 (fun o1 => ?_) (fun nm o1 o2 o3 o4 => ?_) (fun nm o1 o2 o3 o4 Ivm s2 => ?_)⟩
    · exfalso
      first | exact o1 (by first | assumption | (refine ⟨_, ?_, ?_, by assumption⟩ <;> omega)) | omega | contradiction
    · obtain rfl : nc = nm := nI_inj (by omega) (by omega) a3 o3
      exfalso
      first | omega | contradiction
    · obtain rfl : nc = nm := nI_inj (by omega) (by omega) a3 o3
      refine ⟨rfl, _, _, rfl, ?_⟩
      exact REL.n hc hm hv f1 r1 p1 s2 (hv.1.it true _ (by omega))
theorem b_undo : BOTH muX11_undo muX12_undo [] := by
  intro X I J ⟨N, f, L, sh, b, K, hc, hm, hv⟩
  have h5 := hv.1.1.s5
  have h8 := hv.1.1.t8
  refine c_undo hv.1.1 hc.1 hc.2.1 (fun a1 => ?_) (fun a1 Ivc f1 r1 p1 => ?_)
  · have hn := hm
    refine ⟨_, _, rfl, m_undo hn.1 hv.1.2.2.1 (fun o1 => ?_) (fun o1 Ivm s2 => ?_)⟩
    · refine ⟨rfl, _, _, rfl, ?_⟩
      exact REL.q hc hm hv (fun c h1 h2 h3 => by first | rfl | exact f1 c (by omega) | exact f2 c (by omega) | exact (f2 c (by omega)).trans (f1 c (by omega)))
    · exfalso
      first | omega | contradiction
  · have hn := hm.c f1 (by omega)
    refine ⟨_, _, rfl, m_undo hn.1 hv.1.2.2.1 (fun o1 => ?_) (fun o1 Ivm s2 => ?_)⟩
    · exfalso
      first | omega | contradiction
    · refine ⟨rfl, _, _, rfl, ?_⟩
      exact REL.n hc hm hv f1 r1 p1 s2 (hv.1.undo (by omega))
theorem b_seed (x : Int32) : BOTH muX11_seed muX12_seed [.int x] := by
  intro X I J ⟨N, f, L, sh, b, K, hc, hm, hv⟩
  have h5 := hv.1.1.s5
  have h8 := hv.1.1.t8
  refine c_seed hv.1.1 hc.1 (fun a1 => ?_) (fun dc a1 a2 Ivc f1 r1 => ?_)
  · have hn := hm
    refine ⟨_, _, rfl, m_seed hn.1 (fun o1 => ?_) (fun dm o1 o2 Ivm s2 => ?_)⟩
    · refine ⟨rfl, _, _, rfl, ?_⟩
      exact REL.q hc hm hv (fun c h1 h2 h3 => by first | rfl | exact f1 c (by omega) | exact f2 c (by omega) | exact (f2 c (by omega)).trans (f1 c (by omega)))
    · exfalso
      first | omega | contradiction | exact nI_pos (by omega) (o2 ▸ a1)
  · have hn := hm.c f1 (by omega)
    refine ⟨_, _, rfl, m_seed hn.1 (fun o1 => ?_) (fun dm o1 o2 Ivm s2 => ?_)⟩
    · exfalso
      first | omega | contradiction | exact nI_pos (by omega) (a2 ▸ o1)
    · obtain rfl : dc = dm := nI_inj (by omega) (by omega) a2 o2
      refine ⟨rfl, _, _, rfl, ?_⟩
      exact REL.n hc hm hv (f1.w (by omega) (by omega)) r1 ((hc.2.1.of (fun c _ _ => f1 c (by omega))).eqN (fun k hk => upN_ne (by omega)) h5 h8) s2 (hv.1.seed (by omega))
theorem b_ahead (x : Int32) (y : Int32) : BOTH muX11_ahead muX12_ahead [.int x, .int y] := by
  intro X I J ⟨N, f, L, sh, b, K, hc, hm, hv⟩
  have h5 := hv.1.1.s5
  have h8 := hv.1.1.t8
  refine c_ahead hv.1.1 hc.1 (fun a1 => ?_) (fun tc nc a1 a2 a3 a4 => ?_)
  · have hn := hm
    refine ⟨_, _, rfl, m_ahead hv.1.1 hv.1.2.1 hn.1 (fun o1 => ?_) (fun tm nm o1 o2 o3 o4 Ivm f2 => ?_)⟩
    · refine ⟨rfl, _, _, rfl, ?_⟩
      exact REL.q hc hm hv (fun c h1 h2 h3 => by first | rfl | exact f1 c (by omega) | exact f2 c (by omega) | exact (f2 c (by omega)).trans (f1 c (by omega)))
    · exfalso
      first | exact a1 ⟨(by first | assumption | (refine ⟨_, ?_, ?_, by assumption⟩ <;> omega)), (by first | assumption | (refine ⟨_, ?_, ?_, by assumption⟩ <;> omega))⟩ | omega | contradiction
  · have hn := hm
    refine ⟨_, _, rfl, m_ahead hv.1.1 hv.1.2.1 hn.1 (fun o1 => ?_) (fun tm nm o1 o2 o3 o4 Ivm f2 => ?_)⟩
    · exfalso
      first | exact o1 ⟨(by first | assumption | (refine ⟨_, ?_, ?_, by assumption⟩ <;> omega)), (by first | assumption | (refine ⟨_, ?_, ?_, by assumption⟩ <;> omega))⟩ | omega | contradiction
    · obtain rfl : tc = tm := nI_inj (by omega) (by omega) a3 o3
      obtain rfl : nc = nm := nI_inj (by omega) (by omega) a4 o4
      refine ⟨rfl, _, _, rfl, ?_⟩
      exact REL.q hc hm hv (fun c h1 h2 h3 => by first | rfl | exact f1 c (by omega) | exact f2 c (by omega) | exact (f2 c (by omega)).trans (f1 c (by omega)))
theorem b_loudAhead (x : Int32) (y : Int32) : BOTH muX11_loudAhead muX12_loudAhead [.int x, .int y] := by
  intro X I J ⟨N, f, L, sh, b, K, hc, hm, hv⟩
  have h5 := hv.1.1.s5
  have h8 := hv.1.1.t8
  refine c_loudAhead hv.1.1 hc.1 (fun a1 => ?_) (fun rc nc a1 a2 a3 a4 Ivc f1 => ?_)
  · have hn := hm
    refine ⟨_, _, rfl, m_loudAhead hv.1.1 hv.1.2.1 hn.1 (fun o1 => ?_) (fun rm nm o1 o2 o3 o4 Ivm f2 => ?_)⟩
    · refine ⟨rfl, _, _, rfl, ?_⟩
      exact REL.q hc hm hv (fun c h1 h2 h3 => by first | rfl | exact f1 c (by omega) | exact f2 c (by omega) | exact (f2 c (by omega)).trans (f1 c (by omega)))
    · exfalso
      first | exact a1 ⟨(by first | assumption | (refine ⟨_, ?_, ?_, by assumption⟩ <;> omega)), (by first | assumption | (refine ⟨_, ?_, ?_, by assumption⟩ <;> omega))⟩ | omega | contradiction
  · have hn := hm.c f1 (by omega)
    refine ⟨_, _, rfl, m_loudAhead hv.1.1 hv.1.2.1 hn.1 (fun o1 => ?_) (fun rm nm o1 o2 o3 o4 Ivm f2 => ?_)⟩
    · exfalso
      first | exact o1 ⟨(by first | assumption | (refine ⟨_, ?_, ?_, by assumption⟩ <;> omega)), (by first | assumption | (refine ⟨_, ?_, ?_, by assumption⟩ <;> omega))⟩ | omega | contradiction
    · obtain rfl : rc = rm := nI_inj (by omega) (by omega) a3 o3
      obtain rfl : nc = nm := nI_inj (by omega) (by omega) a4 o4
      refine ⟨rfl, _, _, rfl, ?_⟩
      exact REL.q hc hm hv (fun c h1 h2 h3 => by first | rfl | exact f1 c (by omega) | exact f2 c (by omega) | exact (f2 c (by omega)).trans (f1 c (by omega)))
theorem b_sleeps (x : Int32) (y : Int32) : BOTH muX11_sleeps muX12_sleeps [.int x, .int y] := by
  intro X I J ⟨N, f, L, sh, b, K, hc, hm, hv⟩
  have h5 := hv.1.1.s5
  have h8 := hv.1.1.t8
  refine c_sleeps hv.1.1 hc.1 (fun a1 => ?_) (fun sc nc a1 a2 a3 a4 Ivc f1 => ?_)
  · have hn := hm
    refine ⟨_, _, rfl, m_sleeps hv.1.1 hv.1.2.1 hn.1 (fun o1 => ?_) (fun sm nm o1 o2 o3 o4 Ivm f2 => ?_)⟩
    · refine ⟨rfl, _, _, rfl, ?_⟩
      exact REL.q hc hm hv (fun c h1 h2 h3 => by first | rfl | exact f1 c (by omega) | exact f2 c (by omega) | exact (f2 c (by omega)).trans (f1 c (by omega)))
    · exfalso
      first | exact a1 ⟨(by first | assumption | (refine ⟨_, ?_, ?_, by assumption⟩ <;> omega)), (by first | assumption | (refine ⟨_, ?_, ?_, by assumption⟩ <;> omega))⟩ | omega | contradiction
  · have hn := hm.c f1 (by omega)
    refine ⟨_, _, rfl, m_sleeps hv.1.1 hv.1.2.1 hn.1 (fun o1 => ?_) (fun sm nm o1 o2 o3 o4 Ivm f2 => ?_)⟩
    · exfalso
      first | exact o1 ⟨(by first | assumption | (refine ⟨_, ?_, ?_, by assumption⟩ <;> omega)), (by first | assumption | (refine ⟨_, ?_, ?_, by assumption⟩ <;> omega))⟩ | omega | contradiction
    · obtain rfl : sc = sm := nI_inj (by omega) (by omega) a3 o3
      obtain rfl : nc = nm := nI_inj (by omega) (by omega) a4 o4
      refine ⟨rfl, _, _, rfl, ?_⟩
      exact REL.q hc hm hv (fun c h1 h2 h3 => by first | rfl | exact f1 c (by omega) | exact f2 c (by omega) | exact (f2 c (by omega)).trans (f1 c (by omega)))
theorem b_peace : BOTH muX11_peace muX12_peace [] := by
  intro X I J ⟨N, f, L, sh, b, K, hc, hm, hv⟩
  have h5 := hv.1.1.s5
  have h8 := hv.1.1.t8
  refine c_peace hv.1.1 hc.1 (fun a1 Ivc f1 => ?_) (fun kc a1 a2 a3 Ivc f1 => ?_)
  · have hn := hm.c f1 (by omega)
    refine ⟨_, _, rfl, m_peace hv.1.1 hv.1.2.1 hn.1 (fun o1 Ivm f2 => ?_) (fun km o1 o2 o3 Ivm f2 => ?_)⟩
    · refine ⟨rfl, _, _, rfl, ?_⟩
      exact REL.q hc hm hv (fun c h1 h2 h3 => by first | rfl | exact f1 c (by omega) | exact f2 c (by omega) | exact (f2 c (by omega)).trans (f1 c (by omega)))
    · exfalso
      exact a1 _ o1 o2
  · have hn := hm.c f1 (by omega)
    refine ⟨_, _, rfl, m_peace hv.1.1 hv.1.2.1 hn.1 (fun o1 Ivm f2 => ?_) (fun km o1 o2 o3 Ivm f2 => ?_)⟩
    · exfalso
      exact o1 _ a1 a2
    · obtain rfl : kc = km := by
        rcases Nat.lt_trichotomy kc km with h | h | h
        · exact absurd a2 (o3 _ h)
        · exact h
        · exact absurd o2 (a3 _ h)
      refine ⟨rfl, _, _, rfl, ?_⟩
      exact REL.q hc hm hv (fun c h1 h2 h3 => by first | rfl | exact f1 c (by omega) | exact f2 c (by omega) | exact (f2 c (by omega)).trans (f1 c (by omega)))
theorem b_best (x : Int32) (y : Int32) (z : Int32) : BOTH muX11_best muX12_best [.int x, .int y, .int z] := by
  intro X I J ⟨N, f, L, sh, b, K, hc, hm, hv⟩
  have h5 := hv.1.1.s5
  have h8 := hv.1.1.t8
  refine c_best hv.1.1 hc.1 (fun a1 => ?_) (fun tc nc wc a1 a2 a3 a4 a5 a6 a7 Ivc f1 => ?_)
  · have hn := hm
    refine ⟨_, _, rfl, m_best hv.1.1 hv.1.2.1 hn.1 (fun o1 => ?_) (fun tm nm wm o1 o2 o3 o4 o5 o6 o7 Ivm f2 => ?_)⟩
    · refine ⟨rfl, _, _, rfl, ?_⟩
      exact REL.q hc hm hv (fun c h1 h2 h3 => by first | rfl | exact f1 c (by omega) | exact f2 c (by omega) | exact (f2 c (by omega)).trans (f1 c (by omega)))
    · exfalso
      first | exact a1 ⟨(by first | assumption | (refine ⟨_, ?_, ?_, by assumption⟩ <;> omega)), (by first | assumption | (refine ⟨_, ?_, ?_, by assumption⟩ <;> omega)), (by first | assumption | (refine ⟨_, ?_, ?_, by assumption⟩ <;> omega))⟩ | omega | contradiction
  · have hn := hm.c f1 (by omega)
    refine ⟨_, _, rfl, m_best hv.1.1 hv.1.2.1 hn.1 (fun o1 => ?_) (fun tm nm wm o1 o2 o3 o4 o5 o6 o7 Ivm f2 => ?_)⟩
    · exfalso
      first | exact o1 ⟨(by first | assumption | (refine ⟨_, ?_, ?_, by assumption⟩ <;> omega)), (by first | assumption | (refine ⟨_, ?_, ?_, by assumption⟩ <;> omega)), (by first | assumption | (refine ⟨_, ?_, ?_, by assumption⟩ <;> omega))⟩ | omega | contradiction
    · obtain rfl : tc = tm := nI_inj (by omega) (by omega) a5 o5
      obtain rfl : nc = nm := nI_inj (by omega) (by omega) a6 o6
      obtain rfl : wc = wm := nI_inj (by omega) (by omega) a7 o7
      refine ⟨rfl, _, _, rfl, ?_⟩
      exact REL.q hc hm hv (fun c h1 h2 h3 => by first | rfl | exact f1 c (by omega) | exact f2 c (by omega) | exact (f2 c (by omega)).trans (f1 c (by omega)))
theorem b_bestBed (x : Int32) (y : Int32) (z : Int32) : BOTH muX11_bestBed muX12_bestBed [.int x, .int y, .int z] := by
  intro X I J ⟨N, f, L, sh, b, K, hc, hm, hv⟩
  have h5 := hv.1.1.s5
  have h8 := hv.1.1.t8
  refine c_bestBed hv.1.1 hc.1 (fun a1 => ?_) (fun sc nc wc a1 a2 a3 a4 a5 a6 a7 Ivc f1 => ?_)
  · have hn := hm
    refine ⟨_, _, rfl, m_bestBed hv.1.1 hv.1.2.1 hn.1 (fun o1 => ?_) (fun sm nm wm o1 o2 o3 o4 o5 o6 o7 Ivm f2 => ?_)⟩
    · refine ⟨rfl, _, _, rfl, ?_⟩
      exact REL.q hc hm hv (fun c h1 h2 h3 => by first | rfl | exact f1 c (by omega) | exact f2 c (by omega) | exact (f2 c (by omega)).trans (f1 c (by omega)))
    · exfalso
      first | exact a1 ⟨(by first | assumption | (refine ⟨_, ?_, ?_, by assumption⟩ <;> omega)), (by first | assumption | (refine ⟨_, ?_, ?_, by assumption⟩ <;> omega)), (by first | assumption | (refine ⟨_, ?_, ?_, by assumption⟩ <;> omega))⟩ | omega | contradiction
  · have hn := hm.c f1 (by omega)
    refine ⟨_, _, rfl, m_bestBed hv.1.1 hv.1.2.1 hn.1 (fun o1 => ?_) (fun sm nm wm o1 o2 o3 o4 o5 o6 o7 Ivm f2 => ?_)⟩
    · exfalso
      first | exact o1 ⟨(by first | assumption | (refine ⟨_, ?_, ?_, by assumption⟩ <;> omega)), (by first | assumption | (refine ⟨_, ?_, ?_, by assumption⟩ <;> omega)), (by first | assumption | (refine ⟨_, ?_, ?_, by assumption⟩ <;> omega))⟩ | omega | contradiction
    · obtain rfl : sc = sm := nI_inj (by omega) (by omega) a5 o5
      obtain rfl : nc = nm := nI_inj (by omega) (by omega) a6 o6
      obtain rfl : wc = wm := nI_inj (by omega) (by omega) a7 o7
      refine ⟨rfl, _, _, rfl, ?_⟩
      exact REL.q hc hm hv (fun c h1 h2 h3 => by first | rfl | exact f1 c (by omega) | exact f2 c (by omega) | exact (f2 c (by omega)).trans (f1 c (by omega)))
theorem b_change (x : Int32) (y : Int32) : BOTH muX11_change muX12_change [.int x, .int y] := by
  intro X I J ⟨N, f, L, sh, b, K, hc, hm, hv⟩
  have h5 := hv.1.1.s5
  have h8 := hv.1.1.t8
  refine c_change hv.1.1 hc.1 (fun a1 => ?_) (fun nc wc a1 a2 a3 a4 a5 Ivc f1 => ?_)
  · have hn := hm
    refine ⟨_, _, rfl, m_change hv.1.1 hv.1.2.1 hn.1 (fun o1 => ?_) (fun nm wm o1 o2 o3 o4 o5 Ivm f2 => ?_)⟩
    · refine ⟨rfl, _, _, rfl, ?_⟩
      exact REL.q hc hm hv (fun c h1 h2 h3 => by first | rfl | exact f1 c (by omega) | exact f2 c (by omega) | exact (f2 c (by omega)).trans (f1 c (by omega)))
    · exfalso
      first | exact a1 ⟨(by first | assumption | (refine ⟨_, ?_, ?_, by assumption⟩ <;> omega)), (by first | assumption | (refine ⟨_, ?_, ?_, by assumption⟩ <;> omega))⟩ | omega | contradiction
  · have hn := hm.c f1 (by omega)
    refine ⟨_, _, rfl, m_change hv.1.1 hv.1.2.1 hn.1 (fun o1 => ?_) (fun nm wm o1 o2 o3 o4 o5 Ivm f2 => ?_)⟩
    · exfalso
      first | exact o1 ⟨(by first | assumption | (refine ⟨_, ?_, ?_, by assumption⟩ <;> omega)), (by first | assumption | (refine ⟨_, ?_, ?_, by assumption⟩ <;> omega))⟩ | omega | contradiction
    · obtain rfl : nc = nm := nI_inj (by omega) (by omega) a4 o4
      obtain rfl : wc = wm := nI_inj (by omega) (by omega) a5 o5
      refine ⟨rfl, _, _, rfl, ?_⟩
      exact REL.q hc hm hv (fun c h1 h2 h3 => by first | rfl | exact f1 c (by omega) | exact f2 c (by omega) | exact (f2 c (by omega)).trans (f1 c (by omega)))
theorem b_backs (x : Int32) (y : Int32) : BOTH muX11_backs muX12_backs [.int x, .int y] := by
  intro X I J ⟨N, f, L, sh, b, K, hc, hm, hv⟩
  have h5 := hv.1.1.s5
  have h8 := hv.1.1.t8
  refine c_backs hv.1.1 hc.1 (fun a1 => ?_) (fun nc wc a1 a2 a3 a4 a5 a6 Ivc f1 => ?_) (fun nc wc uc a1 a2 a3 a4 a5 a6 Ivc f1 => ?_)
  · have hn := hm
    refine ⟨_, _, rfl, m_backs hv.1.1 hv.1.2.1 hn.1 (fun o1 => ?_) (fun nm wm o1 o2 o3 o4 o5 o6 Ivm f2 => ?_) (fun nm wm um o1 o2 o3 o4 o5 o6 Ivm f2 => ?_)⟩
    · refine ⟨rfl, _, _, rfl, ?_⟩
      exact REL.q hc hm hv (fun c h1 h2 h3 => by first | rfl | exact f1 c (by omega) | exact f2 c (by omega) | exact (f2 c (by omega)).trans (f1 c (by omega)))
    · exfalso
      first | exact a1 ⟨(by first | assumption | (refine ⟨_, ?_, ?_, by assumption⟩ <;> omega)), (by first | assumption | (refine ⟨_, ?_, ?_, by assumption⟩ <;> omega))⟩ | omega | contradiction
    · exfalso
      first | exact a1 ⟨(by first | assumption | (refine ⟨_, ?_, ?_, by assumption⟩ <;> omega)), (by first | assumption | (refine ⟨_, ?_, ?_, by assumption⟩ <;> omega))⟩ | omega | contradiction
  · have hn := hm.c f1 (by omega)
    refine ⟨_, _, rfl, m_backs hv.1.1 hv.1.2.1 hn.1 (fun o1 => ?_) (fun nm wm o1 o2 o3 o4 o5 o6 Ivm f2 => ?_) (fun nm wm um o1 o2 o3 o4 o5 o6 Ivm f2 => ?_)⟩
    · exfalso
      first | exact o1 ⟨(by first | assumption | (refine ⟨_, ?_, ?_, by assumption⟩ <;> omega)), (by first | assumption | (refine ⟨_, ?_, ?_, by assumption⟩ <;> omega))⟩ | omega | contradiction
    · obtain rfl : nc = nm := nI_inj (by omega) (by omega) a4 o4
      obtain rfl : wc = wm := nI_inj (by omega) (by omega) a5 o5
      refine ⟨rfl, _, _, rfl, ?_⟩
      exact REL.q hc hm hv (fun c h1 h2 h3 => by first | rfl | exact f1 c (by omega) | exact f2 c (by omega) | exact (f2 c (by omega)).trans (f1 c (by omega)))
    · obtain rfl : nc = nm := nI_inj (by omega) (by omega) a4 o4
      obtain rfl : wc = wm := nI_inj (by omega) (by omega) a5 o5
      exfalso
      exact a6 _ o6.1 (popc_lt _ _ h8 o6.1) o6.2.1
  · have hn := hm.c f1 (by omega)
    refine ⟨_, _, rfl, m_backs hv.1.1 hv.1.2.1 hn.1 (fun o1 => ?_) (fun nm wm o1 o2 o3 o4 o5 o6 Ivm f2 => ?_) (fun nm wm um o1 o2 o3 o4 o5 o6 Ivm f2 => ?_)⟩
    · exfalso
      first | exact o1 ⟨(by first | assumption | (refine ⟨_, ?_, ?_, by assumption⟩ <;> omega)), (by first | assumption | (refine ⟨_, ?_, ?_, by assumption⟩ <;> omega))⟩ | omega | contradiction
    · obtain rfl : nc = nm := nI_inj (by omega) (by omega) a4 o4
      obtain rfl : wc = wm := nI_inj (by omega) (by omega) a5 o5
      exfalso
      exact o6 _ a6.1 a6.2.1
    · obtain rfl : nc = nm := nI_inj (by omega) (by omega) a4 o4
      obtain rfl : wc = wm := nI_inj (by omega) (by omega) a5 o5
      obtain rfl : uc = um := leastP_eq a6 o6
      refine ⟨rfl, _, _, rfl, ?_⟩
      exact REL.q hc hm hv (fun c h1 h2 h3 => by first | rfl | exact f1 c (by omega) | exact f2 c (by omega) | exact (f2 c (by omega)).trans (f1 c (by omega)))
theorem b_luck (x : Int32) (y : Int32) (z : Int32) : BOTH muX11_luck muX12_luck [.int x, .int y, .int z] := by
  intro X I J ⟨N, f, L, sh, b, K, hc, hm, hv⟩
  have h5 := hv.1.1.s5
  have h8 := hv.1.1.t8
  refine c_luck hv.1.1 hc.1 (fun a1 => ?_) (fun sc cc wc a1 a2 a3 a4 a5 a6 => ?_)
  · have hn := hm
    refine ⟨_, _, rfl, m_luck hv.1.1 hn.1 (fun o1 => ?_) (fun sm cm wm o1 o2 o3 o4 o5 o6 => ?_)⟩
    · refine ⟨rfl, _, _, rfl, ?_⟩
      exact REL.q hc hm hv (fun c h1 h2 h3 => by first | rfl | exact f1 c (by omega) | exact f2 c (by omega) | exact (f2 c (by omega)).trans (f1 c (by omega)))
    · exfalso
      first | exact a1 ⟨(by first | assumption | (refine ⟨_, ?_, ?_, by assumption⟩ <;> omega)), (by first | assumption | (refine ⟨_, ?_, ?_, by assumption⟩ <;> omega)), (by first | assumption | (refine ⟨_, ?_, ?_, by assumption⟩ <;> omega))⟩ | omega | contradiction
  · have hn := hm
    refine ⟨_, _, rfl, m_luck hv.1.1 hn.1 (fun o1 => ?_) (fun sm cm wm o1 o2 o3 o4 o5 o6 => ?_)⟩
    · exfalso
      first | exact o1 ⟨(by first | assumption | (refine ⟨_, ?_, ?_, by assumption⟩ <;> omega)), (by first | assumption | (refine ⟨_, ?_, ?_, by assumption⟩ <;> omega)), (by first | assumption | (refine ⟨_, ?_, ?_, by assumption⟩ <;> omega))⟩ | omega | contradiction
    · obtain rfl : sc = sm := nI_inj (by omega) (by omega) a4 o4
      obtain rfl : cc = cm := nI_inj (by omega) (by omega) a5 o5
      obtain rfl : wc = wm := nI_inj (by omega) (by omega) a6 o6
      refine ⟨rfl, _, _, rfl, ?_⟩
      exact REL.q hc hm hv (fun c h1 h2 h3 => by first | rfl | exact f1 c (by omega) | exact f2 c (by omega) | exact (f2 c (by omega)).trans (f1 c (by omega)))
theorem b_thanked (x : Int32) : BOTH muX11_thanked muX12_thanked [.int x] := by
  intro X I J ⟨N, f, L, sh, b, K, hc, hm, hv⟩
  have h5 := hv.1.1.s5
  have h8 := hv.1.1.t8
  refine c_thanked hv.1.1 hc.1 (fun a1 => ?_) (fun gc a1 a2 => ?_)
  · have hn := hm
    refine ⟨_, _, rfl, m_thanked hv.1.1 hn.1 (fun o1 => ?_) (fun gm o1 o2 => ?_)⟩
    · refine ⟨rfl, _, _, rfl, ?_⟩
      exact REL.q hc hm hv (fun c h1 h2 h3 => by first | rfl | exact f1 c (by omega) | exact f2 c (by omega) | exact (f2 c (by omega)).trans (f1 c (by omega)))
    · exfalso
      first | exact a1 (by first | assumption | (refine ⟨_, ?_, ?_, by assumption⟩ <;> omega)) | omega | contradiction
  · have hn := hm
    refine ⟨_, _, rfl, m_thanked hv.1.1 hn.1 (fun o1 => ?_) (fun gm o1 o2 => ?_)⟩
    · exfalso
      first | exact o1 (by first | assumption | (refine ⟨_, ?_, ?_, by assumption⟩ <;> omega)) | omega | contradiction
    · obtain rfl : gc = gm := nI_inj (by omega) (by omega) a2 o2
      refine ⟨rfl, _, _, rfl, ?_⟩
      exact REL.q hc hm hv (fun c h1 h2 h3 => by first | rfl | exact f1 c (by omega) | exact f2 c (by omega) | exact (f2 c (by omega)).trans (f1 c (by omega)))
theorem b_image : BOTH muX11_image muX12_image [] := by
  intro X I J ⟨N, f, L, sh, b, K, hc, hm, hv⟩
  have h5 := hv.1.1.s5
  have h8 := hv.1.1.t8
  refine c_image hv.1.1 hc.1 hc.2.1 (fun Ivc a1 a2 r1 p1 => ?_)
  · have hn := hm.fr (fun c h1 _ _ => a1 c (by omega) (by omega)) (fun _ _ => rfl)
    refine ⟨_, _, rfl, m_image hn.1 (fun Ivm o1 o2 o3 o4 => ?_)⟩
    · refine ⟨rfl, _, _, rfl, ?_⟩
      obtain ⟨b1, b2, b3, b4, b5, b6⟩ := hc
      obtain ⟨n1, n2, n3, n4, n5⟩ := hn
      have e : ∀ c, c ≠ 0 → (c < 69 ∨ 136 < c) → c < 170 → Ivm c = I c := fun c g1 g2 g3 => (o1 c (by omega) (by omega)).trans (a1 c g1 g2)
      exact ⟨N, f, L, sh, 1, N, ⟨b1.of (fun c _ _ _ => e c (by omega) (by omega) (by omega)), b2.of (fun c _ _ => e c (by omega) (by omega) (by omega)), b3.fre (e 155 (by omega) (by omega) (by omega)) (e 156 (by omega) (by omega) (by omega)), b4.fr (fun c _ _ => e c (by omega) (by omega) (by omega)) (fun _ _ _ => rfl), by rw [o1 0 (by omega) (by omega)]; exact a2, fun _ => ⟨r1.of (fun c _ _ _ => o1 c (by omega) (by omega)), p1.of (fun c _ _ => o1 c (by omega) (by omega))⟩⟩, ⟨fun k hk => by rw [o1 175 (by omega) (by omega)]; exact n1 k hk, n2.fr (o2 3 (by omega)) (o1 174 (by omega) (by omega)), n3.fr (o1 171 (by omega) (by omega)) (o1 172 (by omega) (by omega)) rfl, o3, fun _ => o4⟩, hv.1, hv.2.1, hv.2.2.1, by omega, fun _ => hv.1⟩
theorem b_restore : BOTH muX11_restore muX12_restore [] := by
  intro X I J ⟨N, f, L, sh, b, K, hc, hm, hv⟩
  have h5 := hv.1.1.s5
  have h8 := hv.1.1.t8
  refine c_restore hv.2.2.2.1 hc.2.2.2.2.1 (fun e => ⟨(hv.2.2.2.2 e).1, hc.2.2.2.2.2 e⟩) (fun a1 => ?_) (fun a1 Ivc f1 r1 p1 => ?_)
  · have hn := hm
    refine ⟨_, _, rfl, m_restore hv.2.2.2.1 hn.2.2.2.1 hn.2.2.2.2 (fun o1 => ?_) (fun o1 Ivm s2 => ?_)⟩
    · refine ⟨rfl, _, _, rfl, ?_⟩
      exact REL.q hc hm hv (fun c h1 h2 h3 => by first | rfl | exact f1 c (by omega) | exact f2 c (by omega) | exact (f2 c (by omega)).trans (f1 c (by omega)))
    · exfalso
      first | omega | contradiction
  · have hn := hm.c f1 (by omega)
    refine ⟨_, _, rfl, m_restore hv.2.2.2.1 hn.2.2.2.1 hn.2.2.2.2 (fun o1 => ?_) (fun o1 Ivm s2 => ?_)⟩
    · exfalso
      first | omega | contradiction
    · refine ⟨rfl, _, _, rfl, ?_⟩
      exact REL.n hc hm hv f1 r1 p1 s2 (hv.2.2.2.2 a1)
theorem b_heard (x : Int32) (y : Int32) (z : Int32) (u : Int32) (v : Int32) (w' : Int32) : BOTH muX11_heard muX12_heard [.int x, .int y, .int z, .int u, .int v, .int w'] := by
  intro X I J ⟨N, f, L, sh, b, K, hc, hm, hv⟩
  have h5 := hv.1.1.s5
  have h8 := hv.1.1.t8
  refine c_heard hv.1.1 hc.1 hc.2.2.2.1 hv.2.2.1 (fun a1 => ?_) (fun sc lc nc a1 a2 a3 a4 a5 a6 a7 a8 a9 a10 => ?_) (fun sc lc nc a1 a2 a3 a4 a5 a6 a7 a8 a9 a10 a11 => ?_) (fun sc lc nc a1 a2 a3 a4 a5 a6 a7 a8 a9 a10 a11 a12 => ?_) (fun tc sc lc ic nc wc a1 a2 a3 a4 a5 a6 a7 a8 a9 a10 a11 a12 a13 a14 a15 => ?_)
  · have hn := hm
    refine ⟨_, _, rfl, m_heard hv.1.1 hn.1 hn.2.2.1 hv.2.2.1 (fun o1 => ?_) (fun sm lm nm o1 o2 o3 o4 o5 o6 o7 o8 o9 o10 => ?_) (fun sm lm nm o1 o2 o3 o4 o5 o6 o7 o8 o9 o10 o11 => ?_) (fun sm lm nm o1 o2 o3 o4 o5 o6 o7 o8 o9 o10 o11 o12 => ?_) (fun tm sm lm im nm wm o1 o2 o3 o4 o5 o6 o7 o8 o9 o10 o11 o12 o13 o14 o15 => ?_)⟩
    · refine ⟨rfl, _, _, rfl, ?_⟩
      exact REL.q hc hm hv (fun c h1 h2 h3 => by first | rfl | exact f1 c (by omega) | exact f2 c (by omega) | exact (f2 c (by omega)).trans (f1 c (by omega)))
    · exfalso
      first | exact a1 ⟨(by first | assumption | (refine ⟨_, ?_, ?_, by assumption⟩ <;> omega)), (by first | assumption | (refine ⟨_, ?_, ?_, by assumption⟩ <;> omega)), (by first | assumption | (refine ⟨_, ?_, ?_, by assumption⟩ <;> omega)), (by first | assumption | (refine ⟨_, ?_, ?_, by assumption⟩ <;> omega)), (by first | assumption | (refine ⟨_, ?_, ?_, by assumption⟩ <;> omega))⟩ | omega | contradiction
    · exfalso
      first | exact a1 ⟨(by first | assumption | (refine ⟨_, ?_, ?_, by assumption⟩ <;> omega)), (by first | assumption | (refine ⟨_, ?_, ?_, by assumption⟩ <;> omega)), (by first | assumption | (refine ⟨_, ?_, ?_, by assumption⟩ <;> omega)), (by first | assumption | (refine ⟨_, ?_, ?_, by assumption⟩ <;> omega)), (by first | assumption | (refine ⟨_, ?_, ?_, by assumption⟩ <;> omega))⟩ | omega | contradiction
    · exfalso
      first | exact a1 ⟨(by first | assumption | (refine ⟨_, ?_, ?_, by assumption⟩ <;> omega)), (by first | assumption | (refine ⟨_, ?_, ?_, by assumption⟩ <;> omega)), (by first | assumption | (refine ⟨_, ?_, ?_, by assumption⟩ <;> omega)), (by first | assumption | (refine ⟨_, ?_, ?_, by assumption⟩ <;> omega)), (by first | assumption | (refine ⟨_, ?_, ?_, by assumption⟩ <;> omega))⟩ | exact o12 ⟨_, _, by assumption, by first | assumption | rfl, by omega⟩ | omega | contradiction
    · exfalso
      first | exact a1 ⟨(by first | assumption | (refine ⟨_, ?_, ?_, by assumption⟩ <;> omega)), (by first | assumption | (refine ⟨_, ?_, ?_, by assumption⟩ <;> omega)), (by first | assumption | (refine ⟨_, ?_, ?_, by assumption⟩ <;> omega)), (by first | assumption | (refine ⟨_, ?_, ?_, by assumption⟩ <;> omega)), (by first | assumption | (refine ⟨_, ?_, ?_, by assumption⟩ <;> omega))⟩ | omega | contradiction
  · have hn := hm
    have hVs := (hv.2.2.1 sc (by omega)).2.2
    refine ⟨_, _, rfl, m_heard hv.1.1 hn.1 hn.2.2.1 hv.2.2.1 (fun o1 => ?_) (fun sm lm nm o1 o2 o3 o4 o5 o6 o7 o8 o9 o10 => ?_) (fun sm lm nm o1 o2 o3 o4 o5 o6 o7 o8 o9 o10 o11 => ?_) (fun sm lm nm o1 o2 o3 o4 o5 o6 o7 o8 o9 o10 o11 o12 => ?_) (fun tm sm lm im nm wm o1 o2 o3 o4 o5 o6 o7 o8 o9 o10 o11 o12 o13 o14 o15 => ?_)⟩
    · exfalso
      first | exact o1 ⟨(by first | assumption | (refine ⟨_, ?_, ?_, by assumption⟩ <;> omega)), (by first | assumption | (refine ⟨_, ?_, ?_, by assumption⟩ <;> omega)), (by first | assumption | (refine ⟨_, ?_, ?_, by assumption⟩ <;> omega)), (by first | assumption | (refine ⟨_, ?_, ?_, by assumption⟩ <;> omega)), (by first | assumption | (refine ⟨_, ?_, ?_, by assumption⟩ <;> omega))⟩ | omega | contradiction
    · obtain rfl : sc = sm := nI_inj (by omega) (by omega) a6 o6
      obtain rfl : lc = lm := nI_inj (by omega) (by omega) a7 o7
      obtain rfl : nc = nm := nI_inj (by omega) (by omega) a8 o8
      refine ⟨rfl, _, _, rfl, ?_⟩
      exact REL.q hc hm hv (fun c h1 h2 h3 => by first | rfl | exact f1 c (by omega) | exact f2 c (by omega) | exact (f2 c (by omega)).trans (f1 c (by omega)))
    · obtain rfl : sc = sm := nI_inj (by omega) (by omega) a6 o6
      obtain rfl : lc = lm := nI_inj (by omega) (by omega) a7 o7
      obtain rfl : nc = nm := nI_inj (by omega) (by omega) a8 o8
      exfalso
      first | omega | contradiction
    · obtain rfl : sc = sm := nI_inj (by omega) (by omega) a6 o6
      obtain rfl : lc = lm := nI_inj (by omega) (by omega) a7 o7
      obtain rfl : nc = nm := nI_inj (by omega) (by omega) a8 o8
      exfalso
      first | exact o12 ⟨_, _, by assumption, by first | assumption | rfl, by omega⟩ | omega | contradiction
    · obtain rfl : sc = sm := nI_inj (by omega) (by omega) a6 o8
      obtain rfl : lc = lm := nI_inj (by omega) (by omega) a7 o9
      obtain rfl : nc = nm := nI_inj (by omega) (by omega) a8 o11
      exfalso
      first | omega | contradiction
  · have hn := hm
    have hVs := (hv.2.2.1 sc (by omega)).2.2
    refine ⟨_, _, rfl, m_heard hv.1.1 hn.1 hn.2.2.1 hv.2.2.1 (fun o1 => ?_) (fun sm lm nm o1 o2 o3 o4 o5 o6 o7 o8 o9 o10 => ?_) (fun sm lm nm o1 o2 o3 o4 o5 o6 o7 o8 o9 o10 o11 => ?_) (fun sm lm nm o1 o2 o3 o4 o5 o6 o7 o8 o9 o10 o11 o12 => ?_) (fun tm sm lm im nm wm o1 o2 o3 o4 o5 o6 o7 o8 o9 o10 o11 o12 o13 o14 o15 => ?_)⟩
    · exfalso
      first | exact o1 ⟨(by first | assumption | (refine ⟨_, ?_, ?_, by assumption⟩ <;> omega)), (by first | assumption | (refine ⟨_, ?_, ?_, by assumption⟩ <;> omega)), (by first | assumption | (refine ⟨_, ?_, ?_, by assumption⟩ <;> omega)), (by first | assumption | (refine ⟨_, ?_, ?_, by assumption⟩ <;> omega)), (by first | assumption | (refine ⟨_, ?_, ?_, by assumption⟩ <;> omega))⟩ | omega | contradiction
    · obtain rfl : sc = sm := nI_inj (by omega) (by omega) a6 o6
      obtain rfl : lc = lm := nI_inj (by omega) (by omega) a7 o7
      obtain rfl : nc = nm := nI_inj (by omega) (by omega) a8 o8
      exfalso
      first | omega | contradiction
    · obtain rfl : sc = sm := nI_inj (by omega) (by omega) a6 o6
      obtain rfl : lc = lm := nI_inj (by omega) (by omega) a7 o7
      obtain rfl : nc = nm := nI_inj (by omega) (by omega) a8 o8
      refine ⟨rfl, _, _, rfl, ?_⟩
      exact REL.q hc hm hv (fun c h1 h2 h3 => by first | rfl | exact f1 c (by omega) | exact f2 c (by omega) | exact (f2 c (by omega)).trans (f1 c (by omega)))
    · obtain rfl : sc = sm := nI_inj (by omega) (by omega) a6 o6
      obtain rfl : lc = lm := nI_inj (by omega) (by omega) a7 o7
      obtain rfl : nc = nm := nI_inj (by omega) (by omega) a8 o8
      exfalso
      first | exact o12 ⟨_, _, by assumption, by first | assumption | rfl, by omega⟩ | omega | contradiction
    · obtain rfl : sc = sm := nI_inj (by omega) (by omega) a6 o8
      obtain rfl : lc = lm := nI_inj (by omega) (by omega) a7 o9
      obtain rfl : nc = nm := nI_inj (by omega) (by omega) a8 o11
      exfalso
      first | omega | contradiction
  · have hn := hm
    have hVs := (hv.2.2.1 sc (by omega)).2.2
    refine ⟨_, _, rfl, m_heard hv.1.1 hn.1 hn.2.2.1 hv.2.2.1 (fun o1 => ?_) (fun sm lm nm o1 o2 o3 o4 o5 o6 o7 o8 o9 o10 => ?_) (fun sm lm nm o1 o2 o3 o4 o5 o6 o7 o8 o9 o10 o11 => ?_) (fun sm lm nm o1 o2 o3 o4 o5 o6 o7 o8 o9 o10 o11 o12 => ?_) (fun tm sm lm im nm wm o1 o2 o3 o4 o5 o6 o7 o8 o9 o10 o11 o12 o13 o14 o15 => ?_)⟩
    · exfalso
      first | exact a12 ⟨_, _, by assumption, by first | assumption | rfl, by omega⟩ | exact o1 ⟨(by first | assumption | (refine ⟨_, ?_, ?_, by assumption⟩ <;> omega)), (by first | assumption | (refine ⟨_, ?_, ?_, by assumption⟩ <;> omega)), (by first | assumption | (refine ⟨_, ?_, ?_, by assumption⟩ <;> omega)), (by first | assumption | (refine ⟨_, ?_, ?_, by assumption⟩ <;> omega)), (by first | assumption | (refine ⟨_, ?_, ?_, by assumption⟩ <;> omega))⟩ | omega | contradiction
    · obtain rfl : sc = sm := nI_inj (by omega) (by omega) a6 o6
      obtain rfl : lc = lm := nI_inj (by omega) (by omega) a7 o7
      obtain rfl : nc = nm := nI_inj (by omega) (by omega) a8 o8
      exfalso
      first | exact a12 ⟨_, _, by assumption, by first | assumption | rfl, by omega⟩ | omega | contradiction
    · obtain rfl : sc = sm := nI_inj (by omega) (by omega) a6 o6
      obtain rfl : lc = lm := nI_inj (by omega) (by omega) a7 o7
      obtain rfl : nc = nm := nI_inj (by omega) (by omega) a8 o8
      exfalso
      first | exact a12 ⟨_, _, by assumption, by first | assumption | rfl, by omega⟩ | omega | contradiction
    · obtain rfl : sc = sm := nI_inj (by omega) (by omega) a6 o6
      obtain rfl : lc = lm := nI_inj (by omega) (by omega) a7 o7
      obtain rfl : nc = nm := nI_inj (by omega) (by omega) a8 o8
      refine ⟨rfl, _, _, rfl, ?_⟩
      exact REL.q hc hm hv (fun c h1 h2 h3 => by first | rfl | exact f1 c (by omega) | exact f2 c (by omega) | exact (f2 c (by omega)).trans (f1 c (by omega)))
    · obtain rfl : sc = sm := nI_inj (by omega) (by omega) a6 o8
      obtain rfl : lc = lm := nI_inj (by omega) (by omega) a7 o9
      obtain rfl : nc = nm := nI_inj (by omega) (by omega) a8 o11
      exfalso
      first | exact a12 ⟨_, _, by assumption, by first | assumption | rfl, by omega⟩ | omega | contradiction
  · have hn := hm
    have hVs := (hv.2.2.1 sc (by omega)).2.2
    refine ⟨_, _, rfl, m_heard hv.1.1 hn.1 hn.2.2.1 hv.2.2.1 (fun o1 => ?_) (fun sm lm nm o1 o2 o3 o4 o5 o6 o7 o8 o9 o10 => ?_) (fun sm lm nm o1 o2 o3 o4 o5 o6 o7 o8 o9 o10 o11 => ?_) (fun sm lm nm o1 o2 o3 o4 o5 o6 o7 o8 o9 o10 o11 o12 => ?_) (fun tm sm lm im nm wm o1 o2 o3 o4 o5 o6 o7 o8 o9 o10 o11 o12 o13 o14 o15 => ?_)⟩
    · exfalso
      first | exact o1 ⟨(by first | assumption | (refine ⟨_, ?_, ?_, by assumption⟩ <;> omega)), (by first | assumption | (refine ⟨_, ?_, ?_, by assumption⟩ <;> omega)), (by first | assumption | (refine ⟨_, ?_, ?_, by assumption⟩ <;> omega)), (by first | assumption | (refine ⟨_, ?_, ?_, by assumption⟩ <;> omega)), (by first | assumption | (refine ⟨_, ?_, ?_, by assumption⟩ <;> omega))⟩ | omega | contradiction
    · obtain rfl : sc = sm := nI_inj (by omega) (by omega) a8 o6
      obtain rfl : lc = lm := nI_inj (by omega) (by omega) a9 o7
      obtain rfl : nc = nm := nI_inj (by omega) (by omega) a11 o8
      exfalso
      first | omega | contradiction
    · obtain rfl : sc = sm := nI_inj (by omega) (by omega) a8 o6
      obtain rfl : lc = lm := nI_inj (by omega) (by omega) a9 o7
      obtain rfl : nc = nm := nI_inj (by omega) (by omega) a11 o8
      exfalso
      first | omega | contradiction
    · obtain rfl : sc = sm := nI_inj (by omega) (by omega) a8 o6
      obtain rfl : lc = lm := nI_inj (by omega) (by omega) a9 o7
      obtain rfl : nc = nm := nI_inj (by omega) (by omega) a11 o8
      exfalso
      first | exact o12 ⟨_, _, by assumption, by first | assumption | rfl, by omega⟩ | omega | contradiction
    · obtain rfl : tc = tm := nI_inj (by omega) (by omega) a7 o7
      obtain rfl : sc = sm := nI_inj (by omega) (by omega) a8 o8
      obtain rfl : lc = lm := nI_inj (by omega) (by omega) a9 o9
      obtain rfl : ic = im := nI_inj (by omega) (by omega) a10 o10
      obtain rfl : nc = nm := nI_inj (by omega) (by omega) a11 o11
      obtain rfl : wc = wm := nI_inj (by omega) (by omega) a12 o12
      refine ⟨rfl, _, _, rfl, ?_⟩
      exact REL.q hc hm hv (fun c h1 h2 h3 => by first | rfl | exact f1 c (by omega) | exact f2 c (by omega) | exact (f2 c (by omega)).trans (f1 c (by omega)))
theorem b_film (x : Int32) (y : Int32) (z : Int32) (u : Int32) (v : Int32) : BOTH muX11_film muX12_film [.int x, .int y, .int z, .int u, .int v] := by
  intro X I J ⟨N, f, L, sh, b, K, hc, hm, hv⟩
  have h5 := hv.1.1.s5
  have h8 := hv.1.1.t8
  refine c_film hv.1.1 hc.1 hc.2.2.2.1 hv.2.2.1 (fun a1 => ?_) (fun sc lc nc a1 a2 a3 a4 a5 a6 a7 a8 a9 => ?_) (fun sc lc nc a1 a2 a3 a4 a5 a6 a7 a8 a9 a10 => ?_) (fun sc lc nc a1 a2 a3 a4 a5 a6 a7 a8 a9 a10 a11 => ?_) (fun tc sc lc ic nc a1 a2 a3 a4 a5 a6 a7 a8 a9 a10 a11 a12 a13 Jvc a14 a15 => ?_)
  · have hn := hm
    refine ⟨_, _, rfl, m_film hv.1.1 hv.1.2.1 hn.1 hn.2.2.1 hv.2.2.1 (fun o1 => ?_) (fun sm lm nm o1 o2 o3 o4 o5 o6 o7 o8 o9 => ?_) (fun sm lm nm o1 o2 o3 o4 o5 o6 o7 o8 o9 o10 => ?_) (fun sm lm nm o1 o2 o3 o4 o5 o6 o7 o8 o9 o10 o11 => ?_) (fun tm sm lm im nm o1 o2 o3 o4 o5 o6 o7 o8 o9 o10 o11 o12 o13 Ivm Jvm f2 o14 o15 o16 => ?_)⟩
    · refine ⟨rfl, _, _, rfl, ?_⟩
      exact REL.q hc hm hv (fun c h1 h2 h3 => by first | rfl | exact f1 c (by omega) | exact f2 c (by omega) | exact (f2 c (by omega)).trans (f1 c (by omega)))
    · exfalso
      first | exact a1 ⟨(by first | assumption | (refine ⟨_, ?_, ?_, by assumption⟩ <;> omega)), (by first | assumption | (refine ⟨_, ?_, ?_, by assumption⟩ <;> omega)), (by first | assumption | (refine ⟨_, ?_, ?_, by assumption⟩ <;> omega)), (by first | assumption | (refine ⟨_, ?_, ?_, by assumption⟩ <;> omega))⟩ | omega | contradiction
    · exfalso
      first | exact a1 ⟨(by first | assumption | (refine ⟨_, ?_, ?_, by assumption⟩ <;> omega)), (by first | assumption | (refine ⟨_, ?_, ?_, by assumption⟩ <;> omega)), (by first | assumption | (refine ⟨_, ?_, ?_, by assumption⟩ <;> omega)), (by first | assumption | (refine ⟨_, ?_, ?_, by assumption⟩ <;> omega))⟩ | omega | contradiction
    · exfalso
      first | exact a1 ⟨(by first | assumption | (refine ⟨_, ?_, ?_, by assumption⟩ <;> omega)), (by first | assumption | (refine ⟨_, ?_, ?_, by assumption⟩ <;> omega)), (by first | assumption | (refine ⟨_, ?_, ?_, by assumption⟩ <;> omega)), (by first | assumption | (refine ⟨_, ?_, ?_, by assumption⟩ <;> omega))⟩ | exact o11 ⟨_, _, by assumption, by first | assumption | rfl, by omega⟩ | omega | contradiction
    · exfalso
      first | exact a1 ⟨(by first | assumption | (refine ⟨_, ?_, ?_, by assumption⟩ <;> omega)), (by first | assumption | (refine ⟨_, ?_, ?_, by assumption⟩ <;> omega)), (by first | assumption | (refine ⟨_, ?_, ?_, by assumption⟩ <;> omega)), (by first | assumption | (refine ⟨_, ?_, ?_, by assumption⟩ <;> omega))⟩ | omega | contradiction
  · have hn := hm
    have hVs := (hv.2.2.1 sc (by omega)).2.2
    refine ⟨_, _, rfl, m_film hv.1.1 hv.1.2.1 hn.1 hn.2.2.1 hv.2.2.1 (fun o1 => ?_) (fun sm lm nm o1 o2 o3 o4 o5 o6 o7 o8 o9 => ?_) (fun sm lm nm o1 o2 o3 o4 o5 o6 o7 o8 o9 o10 => ?_) (fun sm lm nm o1 o2 o3 o4 o5 o6 o7 o8 o9 o10 o11 => ?_) (fun tm sm lm im nm o1 o2 o3 o4 o5 o6 o7 o8 o9 o10 o11 o12 o13 Ivm Jvm f2 o14 o15 o16 => ?_)⟩
    · exfalso
      first | exact o1 ⟨(by first | assumption | (refine ⟨_, ?_, ?_, by assumption⟩ <;> omega)), (by first | assumption | (refine ⟨_, ?_, ?_, by assumption⟩ <;> omega)), (by first | assumption | (refine ⟨_, ?_, ?_, by assumption⟩ <;> omega)), (by first | assumption | (refine ⟨_, ?_, ?_, by assumption⟩ <;> omega))⟩ | omega | contradiction
    · obtain rfl : nc = nm := nI_inj (by omega) (by omega) a6 o6
      obtain rfl : sc = sm := nI_inj (by omega) (by omega) a7 o7
      obtain rfl : lc = lm := nI_inj (by omega) (by omega) a8 o8
      refine ⟨rfl, _, _, rfl, ?_⟩
      exact REL.q hc hm hv (fun c h1 h2 h3 => by first | rfl | exact f1 c (by omega) | exact f2 c (by omega) | exact (f2 c (by omega)).trans (f1 c (by omega)))
    · obtain rfl : nc = nm := nI_inj (by omega) (by omega) a6 o6
      obtain rfl : sc = sm := nI_inj (by omega) (by omega) a7 o7
      obtain rfl : lc = lm := nI_inj (by omega) (by omega) a8 o8
      exfalso
      first | omega | contradiction
    · obtain rfl : nc = nm := nI_inj (by omega) (by omega) a6 o6
      obtain rfl : sc = sm := nI_inj (by omega) (by omega) a7 o7
      obtain rfl : lc = lm := nI_inj (by omega) (by omega) a8 o8
      exfalso
      first | exact o11 ⟨_, _, by assumption, by first | assumption | rfl, by omega⟩ | omega | contradiction
    · obtain rfl : nc = nm := nI_inj (by omega) (by omega) a6 o7
      obtain rfl : sc = sm := nI_inj (by omega) (by omega) a7 o8
      obtain rfl : lc = lm := nI_inj (by omega) (by omega) a8 o9
      exfalso
      first | omega | contradiction
  · have hn := hm
    have hVs := (hv.2.2.1 sc (by omega)).2.2
    refine ⟨_, _, rfl, m_film hv.1.1 hv.1.2.1 hn.1 hn.2.2.1 hv.2.2.1 (fun o1 => ?_) (fun sm lm nm o1 o2 o3 o4 o5 o6 o7 o8 o9 => ?_) (fun sm lm nm o1 o2 o3 o4 o5 o6 o7 o8 o9 o10 => ?_) (fun sm lm nm o1 o2 o3 o4 o5 o6 o7 o8 o9 o10 o11 => ?_) (fun tm sm lm im nm o1 o2 o3 o4 o5 o6 o7 o8 o9 o10 o11 o12 o13 Ivm Jvm f2 o14 o15 o16 => ?_)⟩
    · exfalso
      first | exact o1 ⟨(by first | assumption | (refine ⟨_, ?_, ?_, by assumption⟩ <;> omega)), (by first | assumption | (refine ⟨_, ?_, ?_, by assumption⟩ <;> omega)), (by first | assumption | (refine ⟨_, ?_, ?_, by assumption⟩ <;> omega)), (by first | assumption | (refine ⟨_, ?_, ?_, by assumption⟩ <;> omega))⟩ | omega | contradiction
    · obtain rfl : nc = nm := nI_inj (by omega) (by omega) a6 o6
      obtain rfl : sc = sm := nI_inj (by omega) (by omega) a7 o7
      obtain rfl : lc = lm := nI_inj (by omega) (by omega) a8 o8
      exfalso
      first | omega | contradiction
    · obtain rfl : nc = nm := nI_inj (by omega) (by omega) a6 o6
      obtain rfl : sc = sm := nI_inj (by omega) (by omega) a7 o7
      obtain rfl : lc = lm := nI_inj (by omega) (by omega) a8 o8
      refine ⟨rfl, _, _, rfl, ?_⟩
      exact REL.q hc hm hv (fun c h1 h2 h3 => by first | rfl | exact f1 c (by omega) | exact f2 c (by omega) | exact (f2 c (by omega)).trans (f1 c (by omega)))
    · obtain rfl : nc = nm := nI_inj (by omega) (by omega) a6 o6
      obtain rfl : sc = sm := nI_inj (by omega) (by omega) a7 o7
      obtain rfl : lc = lm := nI_inj (by omega) (by omega) a8 o8
      exfalso
      first | exact o11 ⟨_, _, by assumption, by first | assumption | rfl, by omega⟩ | omega | contradiction
    · obtain rfl : nc = nm := nI_inj (by omega) (by omega) a6 o7
      obtain rfl : sc = sm := nI_inj (by omega) (by omega) a7 o8
      obtain rfl : lc = lm := nI_inj (by omega) (by omega) a8 o9
      exfalso
      first | omega | contradiction
  · have hn := hm
    have hVs := (hv.2.2.1 sc (by omega)).2.2
    refine ⟨_, _, rfl, m_film hv.1.1 hv.1.2.1 hn.1 hn.2.2.1 hv.2.2.1 (fun o1 => ?_) (fun sm lm nm o1 o2 o3 o4 o5 o6 o7 o8 o9 => ?_) (fun sm lm nm o1 o2 o3 o4 o5 o6 o7 o8 o9 o10 => ?_) (fun sm lm nm o1 o2 o3 o4 o5 o6 o7 o8 o9 o10 o11 => ?_) (fun tm sm lm im nm o1 o2 o3 o4 o5 o6 o7 o8 o9 o10 o11 o12 o13 Ivm Jvm f2 o14 o15 o16 => ?_)⟩
    · exfalso
      first | exact a11 ⟨_, _, by assumption, by first | assumption | rfl, by omega⟩ | exact o1 ⟨(by first | assumption | (refine ⟨_, ?_, ?_, by assumption⟩ <;> omega)), (by first | assumption | (refine ⟨_, ?_, ?_, by assumption⟩ <;> omega)), (by first | assumption | (refine ⟨_, ?_, ?_, by assumption⟩ <;> omega)), (by first | assumption | (refine ⟨_, ?_, ?_, by assumption⟩ <;> omega))⟩ | omega | contradiction
    · obtain rfl : nc = nm := nI_inj (by omega) (by omega) a6 o6
      obtain rfl : sc = sm := nI_inj (by omega) (by omega) a7 o7
      obtain rfl : lc = lm := nI_inj (by omega) (by omega) a8 o8
      exfalso
      first | exact a11 ⟨_, _, by assumption, by first | assumption | rfl, by omega⟩ | omega | contradiction
    · obtain rfl : nc = nm := nI_inj (by omega) (by omega) a6 o6
      obtain rfl : sc = sm := nI_inj (by omega) (by omega) a7 o7
      obtain rfl : lc = lm := nI_inj (by omega) (by omega) a8 o8
      exfalso
      first | exact a11 ⟨_, _, by assumption, by first | assumption | rfl, by omega⟩ | omega | contradiction
    · obtain rfl : nc = nm := nI_inj (by omega) (by omega) a6 o6
      obtain rfl : sc = sm := nI_inj (by omega) (by omega) a7 o7
      obtain rfl : lc = lm := nI_inj (by omega) (by omega) a8 o8
      refine ⟨rfl, _, _, rfl, ?_⟩
      exact REL.q hc hm hv (fun c h1 h2 h3 => by first | rfl | exact f1 c (by omega) | exact f2 c (by omega) | exact (f2 c (by omega)).trans (f1 c (by omega)))
    · obtain rfl : nc = nm := nI_inj (by omega) (by omega) a6 o7
      obtain rfl : sc = sm := nI_inj (by omega) (by omega) a7 o8
      obtain rfl : lc = lm := nI_inj (by omega) (by omega) a8 o9
      exfalso
      first | exact a11 ⟨_, _, by assumption, by first | assumption | rfl, by omega⟩ | omega | contradiction
  · have hn := hm.j (J1 := Jvc) (fun c hc => a14 c (by omega))
    have hVs := (hv.2.2.1 sc (by omega)).2.2
    refine ⟨_, _, rfl, m_film hv.1.1 hv.1.2.1 hn.1 hn.2.2.1 hv.2.2.1 (fun o1 => ?_) (fun sm lm nm o1 o2 o3 o4 o5 o6 o7 o8 o9 => ?_) (fun sm lm nm o1 o2 o3 o4 o5 o6 o7 o8 o9 o10 => ?_) (fun sm lm nm o1 o2 o3 o4 o5 o6 o7 o8 o9 o10 o11 => ?_) (fun tm sm lm im nm o1 o2 o3 o4 o5 o6 o7 o8 o9 o10 o11 o12 o13 Ivm Jvm f2 o14 o15 o16 => ?_)⟩
    · exfalso
      first | exact o1 ⟨(by first | assumption | (refine ⟨_, ?_, ?_, by assumption⟩ <;> omega)), (by first | assumption | (refine ⟨_, ?_, ?_, by assumption⟩ <;> omega)), (by first | assumption | (refine ⟨_, ?_, ?_, by assumption⟩ <;> omega)), (by first | assumption | (refine ⟨_, ?_, ?_, by assumption⟩ <;> omega))⟩ | omega | contradiction
    · obtain rfl : nc = nm := nI_inj (by omega) (by omega) a7 o6
      obtain rfl : sc = sm := nI_inj (by omega) (by omega) a8 o7
      obtain rfl : lc = lm := nI_inj (by omega) (by omega) a9 o8
      exfalso
      first | omega | contradiction
    · obtain rfl : nc = nm := nI_inj (by omega) (by omega) a7 o6
      obtain rfl : sc = sm := nI_inj (by omega) (by omega) a8 o7
      obtain rfl : lc = lm := nI_inj (by omega) (by omega) a9 o8
      exfalso
      first | omega | contradiction
    · obtain rfl : nc = nm := nI_inj (by omega) (by omega) a7 o6
      obtain rfl : sc = sm := nI_inj (by omega) (by omega) a8 o7
      obtain rfl : lc = lm := nI_inj (by omega) (by omega) a9 o8
      exfalso
      first | exact o11 ⟨_, _, by assumption, by first | assumption | rfl, by omega⟩ | omega | contradiction
    · obtain rfl : tc = tm := nI_inj (by omega) (by omega) a6 o6
      obtain rfl : nc = nm := nI_inj (by omega) (by omega) a7 o7
      obtain rfl : sc = sm := nI_inj (by omega) (by omega) a8 o8
      obtain rfl : lc = lm := nI_inj (by omega) (by omega) a9 o9
      obtain rfl : ic = im := nI_inj (by omega) (by omega) a10 o10
      refine ⟨rfl, _, _, rfl, ?_⟩
      have hV := hv.2.2.1 sc (by omega)
      refine REL.s (sh' := upH sh sc ((sh sc).1, (sh sc).2.1, (sh sc).2.2.1, fmI (sh sc).2.2.2 N tc ic nc)) hc hm hv (fun c h1 h2 h3 h4 => f2 c (by omega)) ?_ ?_ (hv.2.2.1.up hV.1 hV.2.1 hV.2.2)
      · have hS := hc.2.2.2.1 sc (by omega)
        refine hc.2.2.2.1.up (fun t h1 h2 => f2 _ (by omega)) (fun t h1 h2 => (o14 _ (by omega)).trans (a14 _ (by omega))) ?_ ?_ ?_ (fun i hi => ?_)
        · rw [f2 _ (by omega)]; exact hS.1
        · rw [f2 _ (by omega)]; exact hS.2.1
        · rw [f2 _ (by omega)]; exact hS.2.2.1
        · rw [o14 _ (by omega)]; exact a15 i hi
      · have hS := hn.2.2.1 sc (by omega)
        refine hn.2.2.1.up (fun t h1 h2 => by rw [f2 _ (by omega)]) (fun t h1 h2 => by rw [f2 _ (by omega)]) (fun t j h1 h2 h3 => o16 t j h1 h2 h3) ?_ ?_ o15
        · rw [f2 _ (by omega)]; exact hS.1
        · rw [f2 _ (by omega)]; exact hS.2.1
theorem b_sheet (x : Int32) (y : Int32) (z : Int32) : BOTH muX11_sheet muX12_sheet [.int x, .int y, .int z] := by
  intro X I J ⟨N, f, L, sh, b, K, hc, hm, hv⟩
  have h5 := hv.1.1.s5
  have h8 := hv.1.1.t8
  refine c_sheet (fun a1 => ?_) (fun a1 a2 a3 => ?_) (fun sc lc nc a1 a2 a3 a4 a5 a6 Ivc Jvc f1 a7 a8 a9 a10 a11 => ?_)
  · have hn := hm
    refine ⟨_, _, rfl, m_sheet (fun o1 => ?_) (fun o1 o2 o3 => ?_) (fun sm lm nm o1 o2 o3 o4 o5 o6 Ivm Jvm f2 o7 o8 o9 o10 o11 o12 => ?_)⟩
    · refine ⟨rfl, _, _, rfl, ?_⟩
      exact REL.q hc hm hv (fun c h1 h2 h3 => by first | rfl | exact f1 c (by omega) | exact f2 c (by omega) | exact (f2 c (by omega)).trans (f1 c (by omega)))
    · exfalso
      first | exact a1 ⟨(by first | assumption | (refine ⟨_, ?_, ?_, by assumption⟩ <;> omega)), (by first | assumption | (refine ⟨_, ?_, ?_, by assumption⟩ <;> omega)), (by first | exact lt0_le24 (by assumption) | exact le24_of (by assumption) (by omega))⟩ | omega | contradiction
    · exfalso
      first | exact a1 ⟨(by first | assumption | (refine ⟨_, ?_, ?_, by assumption⟩ <;> omega)), (by first | assumption | (refine ⟨_, ?_, ?_, by assumption⟩ <;> omega)), (by first | exact lt0_le24 (by assumption) | exact le24_of (by assumption) (by omega))⟩ | omega | contradiction
  · have hn := hm
    refine ⟨_, _, rfl, m_sheet (fun o1 => ?_) (fun o1 o2 o3 => ?_) (fun sm lm nm o1 o2 o3 o4 o5 o6 Ivm Jvm f2 o7 o8 o9 o10 o11 o12 => ?_)⟩
    · exfalso
      first | exact o1 ⟨(by first | assumption | (refine ⟨_, ?_, ?_, by assumption⟩ <;> omega)), (by first | assumption | (refine ⟨_, ?_, ?_, by assumption⟩ <;> omega)), (by first | exact lt0_le24 (by assumption) | exact le24_of (by assumption) (by omega))⟩ | omega | contradiction
    · refine ⟨rfl, _, _, rfl, ?_⟩
      exact REL.q hc hm hv (fun c h1 h2 h3 => by first | rfl | exact f1 c (by omega) | exact f2 c (by omega) | exact (f2 c (by omega)).trans (f1 c (by omega)))
    · exfalso
      first | omega | contradiction | exact nI_pos (by omega) (o6 ▸ a3)
  · have hn := (hm.c f1 (by omega)).j (fun c hc => a10 c (by omega))
    refine ⟨_, _, rfl, m_sheet (fun o1 => ?_) (fun o1 o2 o3 => ?_) (fun sm lm nm o1 o2 o3 o4 o5 o6 Ivm Jvm f2 o7 o8 o9 o10 o11 o12 => ?_)⟩
    · exfalso
      first | exact o1 ⟨(by first | assumption | (refine ⟨_, ?_, ?_, by assumption⟩ <;> omega)), (by first | assumption | (refine ⟨_, ?_, ?_, by assumption⟩ <;> omega)), (by first | exact lt0_le24 (by assumption) | exact le24_of (by assumption) (by omega))⟩ | omega | contradiction
    · exfalso
      first | omega | contradiction | exact nI_pos (by omega) (a6 ▸ o3)
    · obtain rfl : sc = sm := nI_inj (by omega) (by omega) a4 o4
      obtain rfl : lc = lm := nI_inj (by omega) (by omega) a5 o5
      obtain rfl : nc = nm := nI_inj (by omega) (by omega) a6 o6
      refine ⟨rfl, _, _, rfl, ?_⟩
      refine REL.s (sh' := upH sh sc (1, lc, nc, fun _ => lN 0)) hc hm hv (fun c h1 h2 h3 h4 => (f2 c (by omega)).trans (f1 c (by omega))) ?_ ?_ (hv.2.2.1.up (show 1 < 2 by decide) (show lc < 4 by omega) (show nc ≤ 24 by omega))
      · refine hc.2.2.2.1.up (fun t h1 h2 => (f2 _ (by omega)).trans (f1 _ (by omega))) (fun t h1 h2 => (o10 _ (by omega)).trans (a10 _ (by omega))) ?_ ?_ ?_ (fun i hi => ?_)
        · rw [f2 _ (by omega)]; exact a7
        · rw [f2 _ (by omega)]; exact a8
        · rw [f2 _ (by omega)]; exact a9
        · rw [o10 _ (by omega)]; exact a11 i hi
      · exact hn.2.2.1.up (fun t h1 h2 => (o9 t h2).1) (fun t h1 h2 => (o9 t h2).2) (fun t j h1 h2 h3 => o12 t j h1 h2 h3) o7 o8 o11
theorem b_drop (x : Int32) : BOTH muX11_drop muX12_drop [.int x] := by
  intro X I J ⟨N, f, L, sh, b, K, hc, hm, hv⟩
  have h5 := hv.1.1.s5
  have h8 := hv.1.1.t8
  refine c_drop hc.2.2.2.1 hv.2.2.1 (fun a1 => ?_) (fun sc a1 a2 a3 => ?_) (fun sc a1 a2 a3 Ivc a4 => ?_)
  · have hn := hm
    refine ⟨_, _, rfl, m_drop hn.2.2.1 hv.2.2.1 (fun o1 => ?_) (fun sm o1 o2 o3 => ?_) (fun sm o1 o2 o3 Ivm o4 => ?_)⟩
    · refine ⟨rfl, _, _, rfl, ?_⟩
      exact REL.q hc hm hv (fun c h1 h2 h3 => by first | rfl | exact f1 c (by omega) | exact f2 c (by omega) | exact (f2 c (by omega)).trans (f1 c (by omega)))
    · exfalso
      first | exact a1 (by first | assumption | (refine ⟨_, ?_, ?_, by assumption⟩ <;> omega)) | omega | contradiction
    · exfalso
      first | exact a1 (by first | assumption | (refine ⟨_, ?_, ?_, by assumption⟩ <;> omega)) | omega | contradiction
  · have hn := hm
    have hVs := (hv.2.2.1 sc (by omega)).2.2
    refine ⟨_, _, rfl, m_drop hn.2.2.1 hv.2.2.1 (fun o1 => ?_) (fun sm o1 o2 o3 => ?_) (fun sm o1 o2 o3 Ivm o4 => ?_)⟩
    · exfalso
      first | exact o1 (by first | assumption | (refine ⟨_, ?_, ?_, by assumption⟩ <;> omega)) | omega | contradiction
    · obtain rfl : sc = sm := nI_inj (by omega) (by omega) a2 o2
      refine ⟨rfl, _, _, rfl, ?_⟩
      exact REL.q hc hm hv (fun c h1 h2 h3 => by first | rfl | exact f1 c (by omega) | exact f2 c (by omega) | exact (f2 c (by omega)).trans (f1 c (by omega)))
    · obtain rfl : sc = sm := nI_inj (by omega) (by omega) a2 o2
      exfalso
      first | omega | contradiction
  · have hn := hm.fr (I1 := Ivc) (fun c h1 _ _ => by rw [a4]; exact sd_u_ne (by omega)) (fun _ _ => rfl)
    have hVs := (hv.2.2.1 sc (by omega)).2.2
    refine ⟨_, _, rfl, m_drop hn.2.2.1 hv.2.2.1 (fun o1 => ?_) (fun sm o1 o2 o3 => ?_) (fun sm o1 o2 o3 Ivm o4 => ?_)⟩
    · exfalso
      first | exact o1 (by first | assumption | (refine ⟨_, ?_, ?_, by assumption⟩ <;> omega)) | omega | contradiction
    · obtain rfl : sc = sm := nI_inj (by omega) (by omega) a2 o2
      exfalso
      first | omega | contradiction
    · obtain rfl : sc = sm := nI_inj (by omega) (by omega) a2 o2
      refine ⟨rfl, _, _, rfl, ?_⟩
      subst a4
      subst o4
      refine REL.s (sh' := upH sh sc (0, (sh sc).2)) hc hm hv (fun c h1 h2 h3 h4 => by rw [sd_u_ne (by omega), sd_u_ne (by omega)]) ?_ ?_ (hv.2.2.1.up (show 0 < 2 by decide) (hv.2.2.1 sc (by omega)).2.1 (hv.2.2.1 sc (by omega)).2.2)
      · have hS := hc.2.2.2.1 sc (by omega)
        refine hc.2.2.2.1.up (fun t h1 h2 => by rw [sd_u_ne (by omega), sd_u_ne (by omega)]) (fun t h1 h2 => rfl) ?_ ?_ ?_ (fun i hi => hS.2.2.2 i hi)
        · rw [sd_u_ne (by omega)]; (repeat first | rw [ru_ne (by omega)] | rw [ru_j] | rw [ru_ij (by omega)] | rw [upN_ne (by omega)] | rw [upN_eq] | rw [rr_ne (by omega)] | rw [rr_eq] | rw [sb_cpy0 (by omega)])
        · rw [sd_u_ne (by omega)]; (repeat first | rw [ru_ne (by omega)] | rw [ru_j] | rw [ru_ij (by omega)] | rw [upN_ne (by omega)] | rw [upN_eq] | rw [rr_ne (by omega)] | rw [rr_eq] | rw [sb_cpy0 (by omega)]); exact hS.2.1
        · rw [sd_u_ne (by omega)]; (repeat first | rw [ru_ne (by omega)] | rw [ru_j] | rw [ru_ij (by omega)] | rw [upN_ne (by omega)] | rw [upN_eq] | rw [rr_ne (by omega)] | rw [rr_eq] | rw [sb_cpy0 (by omega)]); exact hS.2.2.1
      · have hS := hn.2.2.1 sc (by omega)
        refine hn.2.2.1.up (fun t h1 h2 => ?_) (fun t h1 h2 => by rw [sd_u_ne (by omega)]) (fun t j h1 h2 h3 => rfl) ?_ ?_ (fun i hi => hS.2.2 i hi)
        · (repeat first | rw [ru_ne (by omega)] | rw [ru_j] | rw [ru_ij (by omega)] | rw [upN_ne (by omega)] | rw [upN_eq] | rw [rr_ne (by omega)] | rw [rr_eq] | rw [sb_cpy0 (by omega)])
        · rw [if_pos rfl]; (repeat first | rw [ru_ne (by omega)] | rw [ru_j] | rw [ru_ij (by omega)] | rw [upN_ne (by omega)] | rw [upN_eq] | rw [rr_ne (by omega)] | rw [rr_eq] | rw [sb_cpy0 (by omega)])
        · rw [sd_u_ne (by omega)]; exact hS.2.1
theorem b_item (x : Int32) (y : Int32) (z : Int32) (v : Int64) : BOTH muX11_item muX12_item [.int x, .int y, .int z, .long v] := by
  intro X I J ⟨N, f, L, sh, b, K, hc, hm, hv⟩
  have h5 := hv.1.1.s5
  have h8 := hv.1.1.t8
  refine c_item hc.2.2.2.1 hv.2.2.1 (fun a1 => ?_) (fun sc lc a1 a2 a3 a4 a5 => ?_) (fun sc lc a1 a2 a3 a4 a5 a6 => ?_) (fun sc lc a1 a2 a3 a4 a5 a6 a7 => ?_) (fun sc lc ic a1 a2 a3 a4 a5 a6 a7 a8 => ?_)
  · have hn := hm
    refine ⟨_, _, rfl, m_item hn.2.2.1 hv.2.2.1 (fun o1 => ?_) (fun sm lm o1 o2 o3 o4 o5 => ?_) (fun sm lm o1 o2 o3 o4 o5 o6 => ?_) (fun sm lm o1 o2 o3 o4 o5 o6 o7 => ?_) (fun sm lm im o1 o2 o3 o4 o5 o6 o7 o8 => ?_)⟩
    · refine ⟨rfl, _, _, rfl, ?_⟩
      exact REL.q hc hm hv (fun c h1 h2 h3 => by first | rfl | exact f1 c (by omega) | exact f2 c (by omega) | exact (f2 c (by omega)).trans (f1 c (by omega)))
    · exfalso
      first | exact a1 ⟨(by first | assumption | (refine ⟨_, ?_, ?_, by assumption⟩ <;> omega)), (by first | assumption | (refine ⟨_, ?_, ?_, by assumption⟩ <;> omega))⟩ | omega | contradiction
    · exfalso
      first | exact a1 ⟨(by first | assumption | (refine ⟨_, ?_, ?_, by assumption⟩ <;> omega)), (by first | assumption | (refine ⟨_, ?_, ?_, by assumption⟩ <;> omega))⟩ | omega | contradiction
    · exfalso
      first | exact a1 ⟨(by first | assumption | (refine ⟨_, ?_, ?_, by assumption⟩ <;> omega)), (by first | assumption | (refine ⟨_, ?_, ?_, by assumption⟩ <;> omega))⟩ | exact o7 ⟨_, _, by assumption, by first | assumption | rfl, by omega⟩ | omega | contradiction
    · exfalso
      first | exact a1 ⟨(by first | assumption | (refine ⟨_, ?_, ?_, by assumption⟩ <;> omega)), (by first | assumption | (refine ⟨_, ?_, ?_, by assumption⟩ <;> omega))⟩ | omega | contradiction
  · have hn := hm
    have hVs := (hv.2.2.1 sc (by omega)).2.2
    refine ⟨_, _, rfl, m_item hn.2.2.1 hv.2.2.1 (fun o1 => ?_) (fun sm lm o1 o2 o3 o4 o5 => ?_) (fun sm lm o1 o2 o3 o4 o5 o6 => ?_) (fun sm lm o1 o2 o3 o4 o5 o6 o7 => ?_) (fun sm lm im o1 o2 o3 o4 o5 o6 o7 o8 => ?_)⟩
    · exfalso
      first | exact o1 ⟨(by first | assumption | (refine ⟨_, ?_, ?_, by assumption⟩ <;> omega)), (by first | assumption | (refine ⟨_, ?_, ?_, by assumption⟩ <;> omega))⟩ | omega | contradiction
    · obtain rfl : sc = sm := nI_inj (by omega) (by omega) a3 o3
      obtain rfl : lc = lm := nI_inj (by omega) (by omega) a4 o4
      refine ⟨rfl, _, _, rfl, ?_⟩
      exact REL.q hc hm hv (fun c h1 h2 h3 => by first | rfl | exact f1 c (by omega) | exact f2 c (by omega) | exact (f2 c (by omega)).trans (f1 c (by omega)))
    · obtain rfl : sc = sm := nI_inj (by omega) (by omega) a3 o3
      obtain rfl : lc = lm := nI_inj (by omega) (by omega) a4 o4
      exfalso
      first | omega | contradiction
    · obtain rfl : sc = sm := nI_inj (by omega) (by omega) a3 o3
      obtain rfl : lc = lm := nI_inj (by omega) (by omega) a4 o4
      exfalso
      first | exact o7 ⟨_, _, by assumption, by first | assumption | rfl, by omega⟩ | omega | contradiction
    · obtain rfl : sc = sm := nI_inj (by omega) (by omega) a3 o3
      obtain rfl : lc = lm := nI_inj (by omega) (by omega) a4 o4
      exfalso
      first | omega | contradiction
  · have hn := hm
    have hVs := (hv.2.2.1 sc (by omega)).2.2
    refine ⟨_, _, rfl, m_item hn.2.2.1 hv.2.2.1 (fun o1 => ?_) (fun sm lm o1 o2 o3 o4 o5 => ?_) (fun sm lm o1 o2 o3 o4 o5 o6 => ?_) (fun sm lm o1 o2 o3 o4 o5 o6 o7 => ?_) (fun sm lm im o1 o2 o3 o4 o5 o6 o7 o8 => ?_)⟩
    · exfalso
      first | exact o1 ⟨(by first | assumption | (refine ⟨_, ?_, ?_, by assumption⟩ <;> omega)), (by first | assumption | (refine ⟨_, ?_, ?_, by assumption⟩ <;> omega))⟩ | omega | contradiction
    · obtain rfl : sc = sm := nI_inj (by omega) (by omega) a3 o3
      obtain rfl : lc = lm := nI_inj (by omega) (by omega) a4 o4
      exfalso
      first | omega | contradiction
    · obtain rfl : sc = sm := nI_inj (by omega) (by omega) a3 o3
      obtain rfl : lc = lm := nI_inj (by omega) (by omega) a4 o4
      refine ⟨rfl, _, _, rfl, ?_⟩
      exact REL.q hc hm hv (fun c h1 h2 h3 => by first | rfl | exact f1 c (by omega) | exact f2 c (by omega) | exact (f2 c (by omega)).trans (f1 c (by omega)))
    · obtain rfl : sc = sm := nI_inj (by omega) (by omega) a3 o3
      obtain rfl : lc = lm := nI_inj (by omega) (by omega) a4 o4
      exfalso
      first | exact o7 ⟨_, _, by assumption, by first | assumption | rfl, by omega⟩ | omega | contradiction
    · obtain rfl : sc = sm := nI_inj (by omega) (by omega) a3 o3
      obtain rfl : lc = lm := nI_inj (by omega) (by omega) a4 o4
      exfalso
      first | omega | contradiction
  · have hn := hm
    have hVs := (hv.2.2.1 sc (by omega)).2.2
    refine ⟨_, _, rfl, m_item hn.2.2.1 hv.2.2.1 (fun o1 => ?_) (fun sm lm o1 o2 o3 o4 o5 => ?_) (fun sm lm o1 o2 o3 o4 o5 o6 => ?_) (fun sm lm o1 o2 o3 o4 o5 o6 o7 => ?_) (fun sm lm im o1 o2 o3 o4 o5 o6 o7 o8 => ?_)⟩
    · exfalso
      first | exact a7 ⟨_, _, by assumption, by first | assumption | rfl, by omega⟩ | exact o1 ⟨(by first | assumption | (refine ⟨_, ?_, ?_, by assumption⟩ <;> omega)), (by first | assumption | (refine ⟨_, ?_, ?_, by assumption⟩ <;> omega))⟩ | omega | contradiction
    · obtain rfl : sc = sm := nI_inj (by omega) (by omega) a3 o3
      obtain rfl : lc = lm := nI_inj (by omega) (by omega) a4 o4
      exfalso
      first | exact a7 ⟨_, _, by assumption, by first | assumption | rfl, by omega⟩ | omega | contradiction
    · obtain rfl : sc = sm := nI_inj (by omega) (by omega) a3 o3
      obtain rfl : lc = lm := nI_inj (by omega) (by omega) a4 o4
      exfalso
      first | exact a7 ⟨_, _, by assumption, by first | assumption | rfl, by omega⟩ | omega | contradiction
    · obtain rfl : sc = sm := nI_inj (by omega) (by omega) a3 o3
      obtain rfl : lc = lm := nI_inj (by omega) (by omega) a4 o4
      refine ⟨rfl, _, _, rfl, ?_⟩
      exact REL.q hc hm hv (fun c h1 h2 h3 => by first | rfl | exact f1 c (by omega) | exact f2 c (by omega) | exact (f2 c (by omega)).trans (f1 c (by omega)))
    · obtain rfl : sc = sm := nI_inj (by omega) (by omega) a3 o3
      obtain rfl : lc = lm := nI_inj (by omega) (by omega) a4 o4
      exfalso
      first | exact a7 ⟨_, _, by assumption, by first | assumption | rfl, by omega⟩ | omega | contradiction
  · have hn := hm.j (J1 := sd_u J (162 + 2 * sc + 1) ic (cutL lc v)) (fun c h => sd_u_ne (by omega))
    have hVs := (hv.2.2.1 sc (by omega)).2.2
    refine ⟨_, _, rfl, m_item hn.2.2.1 hv.2.2.1 (fun o1 => ?_) (fun sm lm o1 o2 o3 o4 o5 => ?_) (fun sm lm o1 o2 o3 o4 o5 o6 => ?_) (fun sm lm o1 o2 o3 o4 o5 o6 o7 => ?_) (fun sm lm im o1 o2 o3 o4 o5 o6 o7 o8 => ?_)⟩
    · exfalso
      first | exact o1 ⟨(by first | assumption | (refine ⟨_, ?_, ?_, by assumption⟩ <;> omega)), (by first | assumption | (refine ⟨_, ?_, ?_, by assumption⟩ <;> omega))⟩ | omega | contradiction
    · obtain rfl : sc = sm := nI_inj (by omega) (by omega) a3 o3
      obtain rfl : lc = lm := nI_inj (by omega) (by omega) a4 o4
      exfalso
      first | omega | contradiction
    · obtain rfl : sc = sm := nI_inj (by omega) (by omega) a3 o3
      obtain rfl : lc = lm := nI_inj (by omega) (by omega) a4 o4
      exfalso
      first | omega | contradiction
    · obtain rfl : sc = sm := nI_inj (by omega) (by omega) a3 o3
      obtain rfl : lc = lm := nI_inj (by omega) (by omega) a4 o4
      exfalso
      first | exact o7 ⟨_, _, by assumption, by first | assumption | rfl, by omega⟩ | omega | contradiction
    · obtain rfl : sc = sm := nI_inj (by omega) (by omega) a3 o3
      obtain rfl : lc = lm := nI_inj (by omega) (by omega) a4 o4
      obtain rfl : ic = im := nI_inj (by omega) (by omega) a5 o5
      refine ⟨rfl, _, _, rfl, ?_⟩
      have hV := hv.2.2.1 sc (by omega)
      refine REL.s (sh' := upH sh sc ((sh sc).1, (sh sc).2.1, (sh sc).2.2.1, fun j => if j = ic then cutL lc v else (sh sc).2.2.2 j)) hc hm hv (fun c h1 h2 h3 h4 => rfl) ?_ ?_ (hv.2.2.1.up hV.1 hV.2.1 hV.2.2)
      · have hS := hc.2.2.2.1 sc (by omega)
        refine hc.2.2.2.1.up (fun t h1 h2 => rfl) (fun t h1 h2 => by rw [sd_u_ne (by omega), sd_u_ne (by omega)]) hS.1 hS.2.1 hS.2.2.1 (fun i hi => ?_)
        rw [sd_u_ne (by omega), sd_u_eq]
        show (if i = ic then cutL lc v else J (162 + 2 * sc + 1) i) = if i = ic then cutL lc v else (sh sc).2.2.2 i
        rw [hS.2.2.2 i hi]
      · have hS := hn.2.2.1 sc (by omega)
        refine hn.2.2.1.up (fun t h1 h2 => rfl) (fun t h1 h2 => rfl) (fun t j h1 h2 h3 => ?_) hS.1 hS.2.1 (fun i hi => ?_)
        · rw [sd_u_eq]; exact if_neg (by omega)
        · rw [sd_u_eq]
          show (if 24 * sc + i = 24 * sc + ic then cutL lc v else _) = if i = ic then cutL lc v else (sh sc).2.2.2 i
          by_cases e : i = ic
          · rw [if_pos (by omega), if_pos e]
          · rw [if_neg (by omega), if_neg e]; exact hS.2.2 i hi
theorem b_copy (x : Int32) (y : Int32) (z : Int32) (u : Int32) (v : Int32) : BOTH muX11_copy muX12_copy [.int x, .int y, .int z, .int u, .int v] := by
  intro X I J ⟨N, f, L, sh, b, K, hc, hm, hv⟩
  have h5 := hv.1.1.s5
  have h8 := hv.1.1.t8
  refine c_copy hc.2.2.2.1 hv.2.2.1 (fun a1 => ?_) (fun fc tc a1 a2 a3 a4 a5 => ?_) (fun fc tc a1 a2 a3 a4 a5 a6 a7 => ?_) (fun fc tc a1 a2 a3 a4 a5 a6 a7 a8 => ?_) (fun fc tc ic jc nc a1 a2 a3 a4 a5 a6 a7 a8 a9 a10 a11 a12 => ?_)
  · have hn := hm
    refine ⟨_, _, rfl, m_copy hn.2.2.1 hv.2.2.1 (fun o1 => ?_) (fun fm tm o1 o2 o3 o4 o5 => ?_) (fun fm tm o1 o2 o3 o4 o5 o6 o7 => ?_) (fun fm tm o1 o2 o3 o4 o5 o6 o7 o8 => ?_) (fun fm tm im jm nm o1 o2 o3 o4 o5 o6 o7 o8 o9 o10 o11 o12 Jvm o13 o14 o15 => ?_)⟩
    · refine ⟨rfl, _, _, rfl, ?_⟩
      exact REL.q hc hm hv (fun c h1 h2 h3 => by first | rfl | exact f1 c (by omega) | exact f2 c (by omega) | exact (f2 c (by omega)).trans (f1 c (by omega)))
    · exfalso
      first | exact a1 ⟨(by first | assumption | (refine ⟨_, ?_, ?_, by assumption⟩ <;> omega)), (by first | assumption | (refine ⟨_, ?_, ?_, by assumption⟩ <;> omega))⟩ | omega | contradiction
    · exfalso
      first | exact a1 ⟨(by first | assumption | (refine ⟨_, ?_, ?_, by assumption⟩ <;> omega)), (by first | assumption | (refine ⟨_, ?_, ?_, by assumption⟩ <;> omega))⟩ | omega | contradiction
    · exfalso
      first | exact a1 ⟨(by first | assumption | (refine ⟨_, ?_, ?_, by assumption⟩ <;> omega)), (by first | assumption | (refine ⟨_, ?_, ?_, by assumption⟩ <;> omega))⟩ | exact o8 ⟨⟨_, _, by assumption, by first | assumption | rfl, by omega⟩, ⟨_, _, by assumption, by first | assumption | rfl, by omega⟩⟩ | omega | contradiction
    · exfalso
      first | exact a1 ⟨(by first | assumption | (refine ⟨_, ?_, ?_, by assumption⟩ <;> omega)), (by first | assumption | (refine ⟨_, ?_, ?_, by assumption⟩ <;> omega))⟩ | omega | contradiction
  · have hn := hm
    have hVf := (hv.2.2.1 fc (by omega)).2.2
    have hVt := (hv.2.2.1 tc (by omega)).2.2
    refine ⟨_, _, rfl, m_copy hn.2.2.1 hv.2.2.1 (fun o1 => ?_) (fun fm tm o1 o2 o3 o4 o5 => ?_) (fun fm tm o1 o2 o3 o4 o5 o6 o7 => ?_) (fun fm tm o1 o2 o3 o4 o5 o6 o7 o8 => ?_) (fun fm tm im jm nm o1 o2 o3 o4 o5 o6 o7 o8 o9 o10 o11 o12 Jvm o13 o14 o15 => ?_)⟩
    · exfalso
      first | exact o1 ⟨(by first | assumption | (refine ⟨_, ?_, ?_, by assumption⟩ <;> omega)), (by first | assumption | (refine ⟨_, ?_, ?_, by assumption⟩ <;> omega))⟩ | omega | contradiction
    · obtain rfl : fc = fm := nI_inj (by omega) (by omega) a3 o3
      obtain rfl : tc = tm := nI_inj (by omega) (by omega) a4 o4
      refine ⟨rfl, _, _, rfl, ?_⟩
      exact REL.q hc hm hv (fun c h1 h2 h3 => by first | rfl | exact f1 c (by omega) | exact f2 c (by omega) | exact (f2 c (by omega)).trans (f1 c (by omega)))
    · obtain rfl : fc = fm := nI_inj (by omega) (by omega) a3 o3
      obtain rfl : tc = tm := nI_inj (by omega) (by omega) a4 o4
      exfalso
      first | omega | contradiction
    · obtain rfl : fc = fm := nI_inj (by omega) (by omega) a3 o3
      obtain rfl : tc = tm := nI_inj (by omega) (by omega) a4 o4
      exfalso
      first | exact o8 ⟨⟨_, _, by assumption, by first | assumption | rfl, by omega⟩, ⟨_, _, by assumption, by first | assumption | rfl, by omega⟩⟩ | omega | contradiction
    · obtain rfl : fc = fm := nI_inj (by omega) (by omega) a3 o3
      obtain rfl : tc = tm := nI_inj (by omega) (by omega) a4 o5
      exfalso
      first | omega | contradiction
  · have hn := hm
    have hVf := (hv.2.2.1 fc (by omega)).2.2
    have hVt := (hv.2.2.1 tc (by omega)).2.2
    refine ⟨_, _, rfl, m_copy hn.2.2.1 hv.2.2.1 (fun o1 => ?_) (fun fm tm o1 o2 o3 o4 o5 => ?_) (fun fm tm o1 o2 o3 o4 o5 o6 o7 => ?_) (fun fm tm o1 o2 o3 o4 o5 o6 o7 o8 => ?_) (fun fm tm im jm nm o1 o2 o3 o4 o5 o6 o7 o8 o9 o10 o11 o12 Jvm o13 o14 o15 => ?_)⟩
    · exfalso
      first | exact o1 ⟨(by first | assumption | (refine ⟨_, ?_, ?_, by assumption⟩ <;> omega)), (by first | assumption | (refine ⟨_, ?_, ?_, by assumption⟩ <;> omega))⟩ | omega | contradiction
    · obtain rfl : fc = fm := nI_inj (by omega) (by omega) a3 o3
      obtain rfl : tc = tm := nI_inj (by omega) (by omega) a4 o4
      exfalso
      first | omega | contradiction
    · obtain rfl : fc = fm := nI_inj (by omega) (by omega) a3 o3
      obtain rfl : tc = tm := nI_inj (by omega) (by omega) a4 o4
      refine ⟨rfl, _, _, rfl, ?_⟩
      exact REL.q hc hm hv (fun c h1 h2 h3 => by first | rfl | exact f1 c (by omega) | exact f2 c (by omega) | exact (f2 c (by omega)).trans (f1 c (by omega)))
    · obtain rfl : fc = fm := nI_inj (by omega) (by omega) a3 o3
      obtain rfl : tc = tm := nI_inj (by omega) (by omega) a4 o4
      exfalso
      first | exact o8 ⟨⟨_, _, by assumption, by first | assumption | rfl, by omega⟩, ⟨_, _, by assumption, by first | assumption | rfl, by omega⟩⟩ | omega | contradiction
    · obtain rfl : fc = fm := nI_inj (by omega) (by omega) a3 o3
      obtain rfl : tc = tm := nI_inj (by omega) (by omega) a4 o5
      exfalso
      first | omega | contradiction
  · have hn := hm
    have hVf := (hv.2.2.1 fc (by omega)).2.2
    have hVt := (hv.2.2.1 tc (by omega)).2.2
    refine ⟨_, _, rfl, m_copy hn.2.2.1 hv.2.2.1 (fun o1 => ?_) (fun fm tm o1 o2 o3 o4 o5 => ?_) (fun fm tm o1 o2 o3 o4 o5 o6 o7 => ?_) (fun fm tm o1 o2 o3 o4 o5 o6 o7 o8 => ?_) (fun fm tm im jm nm o1 o2 o3 o4 o5 o6 o7 o8 o9 o10 o11 o12 Jvm o13 o14 o15 => ?_)⟩
    · exfalso
      first | exact a8 ⟨⟨_, _, by assumption, by first | assumption | rfl, by omega⟩, ⟨_, _, by assumption, by first | assumption | rfl, by omega⟩⟩ | exact o1 ⟨(by first | assumption | (refine ⟨_, ?_, ?_, by assumption⟩ <;> omega)), (by first | assumption | (refine ⟨_, ?_, ?_, by assumption⟩ <;> omega))⟩ | omega | contradiction
    · obtain rfl : fc = fm := nI_inj (by omega) (by omega) a3 o3
      obtain rfl : tc = tm := nI_inj (by omega) (by omega) a4 o4
      exfalso
      first | exact a8 ⟨⟨_, _, by assumption, by first | assumption | rfl, by omega⟩, ⟨_, _, by assumption, by first | assumption | rfl, by omega⟩⟩ | omega | contradiction
    · obtain rfl : fc = fm := nI_inj (by omega) (by omega) a3 o3
      obtain rfl : tc = tm := nI_inj (by omega) (by omega) a4 o4
      exfalso
      first | exact a8 ⟨⟨_, _, by assumption, by first | assumption | rfl, by omega⟩, ⟨_, _, by assumption, by first | assumption | rfl, by omega⟩⟩ | omega | contradiction
    · obtain rfl : fc = fm := nI_inj (by omega) (by omega) a3 o3
      obtain rfl : tc = tm := nI_inj (by omega) (by omega) a4 o4
      refine ⟨rfl, _, _, rfl, ?_⟩
      exact REL.q hc hm hv (fun c h1 h2 h3 => by first | rfl | exact f1 c (by omega) | exact f2 c (by omega) | exact (f2 c (by omega)).trans (f1 c (by omega)))
    · obtain rfl : fc = fm := nI_inj (by omega) (by omega) a3 o3
      obtain rfl : tc = tm := nI_inj (by omega) (by omega) a4 o5
      exfalso
      first | exact a8 ⟨⟨_, _, by assumption, by first | assumption | rfl, by omega⟩, ⟨_, _, by assumption, by first | assumption | rfl, by omega⟩⟩ | omega | contradiction
  · have hn := hm.j (J1 := sd_r J (162 + 2 * tc + 1) (va_cpy (J (162 + 2 * fc + 1)) (J (162 + 2 * tc + 1)) ic jc nc)) (fun c h => sd_r_ne (by omega))
    have hVf := (hv.2.2.1 fc (by omega)).2.2
    have hVt := (hv.2.2.1 tc (by omega)).2.2
    refine ⟨_, _, rfl, m_copy hn.2.2.1 hv.2.2.1 (fun o1 => ?_) (fun fm tm o1 o2 o3 o4 o5 => ?_) (fun fm tm o1 o2 o3 o4 o5 o6 o7 => ?_) (fun fm tm o1 o2 o3 o4 o5 o6 o7 o8 => ?_) (fun fm tm im jm nm o1 o2 o3 o4 o5 o6 o7 o8 o9 o10 o11 o12 Jvm o13 o14 o15 => ?_)⟩
    · exfalso
      first | exact o1 ⟨(by first | assumption | (refine ⟨_, ?_, ?_, by assumption⟩ <;> omega)), (by first | assumption | (refine ⟨_, ?_, ?_, by assumption⟩ <;> omega))⟩ | omega | contradiction
    · obtain rfl : fc = fm := nI_inj (by omega) (by omega) a3 o3
      obtain rfl : tc = tm := nI_inj (by omega) (by omega) a5 o4
      exfalso
      first | omega | contradiction
    · obtain rfl : fc = fm := nI_inj (by omega) (by omega) a3 o3
      obtain rfl : tc = tm := nI_inj (by omega) (by omega) a5 o4
      exfalso
      first | omega | contradiction
    · obtain rfl : fc = fm := nI_inj (by omega) (by omega) a3 o3
      obtain rfl : tc = tm := nI_inj (by omega) (by omega) a5 o4
      exfalso
      first | exact o8 ⟨⟨_, _, by assumption, by first | assumption | rfl, by omega⟩, ⟨_, _, by assumption, by first | assumption | rfl, by omega⟩⟩ | omega | contradiction
    · obtain rfl : fc = fm := nI_inj (by omega) (by omega) a3 o3
      obtain rfl : ic = im := nI_inj (by omega) (by omega) a4 o4
      obtain rfl : tc = tm := nI_inj (by omega) (by omega) a5 o5
      obtain rfl : jc = jm := nI_inj (by omega) (by omega) a6 o6
      obtain rfl : nc = nm := nI_inj (by omega) (by omega) a7 o7
      refine ⟨rfl, _, _, rfl, ?_⟩
      have hV := hv.2.2.1 tc (by omega)
      have hF := hv.2.2.1 fc (by omega)
      refine REL.s (sh' := upH sh tc ((sh tc).1, (sh tc).2.1, (sh tc).2.2.1, cpI (sh fc).2.2.2 (sh tc).2.2.2 ic jc 0 nc)) hc hm hv (fun c h1 h2 h3 h4 => rfl) ?_ ?_ (hv.2.2.1.up hV.1 hV.2.1 hV.2.2)
      · have hS := hc.2.2.2.1 tc (by omega)
        have hG := hc.2.2.2.1 fc (by omega)
        refine hc.2.2.2.1.up (fun t h1 h2 => rfl) (fun t h1 h2 => by rw [o13 _ (by omega), sd_r_ne (by omega)]) hS.1 hS.2.1 hS.2.2.1 (fun i hi => ?_)
        rw [o13 _ (by omega), sd_r_eq]
        show va_cpy _ _ ic jc nc i = cpI _ _ ic jc 0 nc i
        unfold va_cpy cpI
        by_cases e : jc ≤ i ∧ i < jc + nc
        · rw [if_pos e, if_pos (by omega)]; exact hG.2.2.2 _ (by omega)
        · rw [if_neg e, if_neg (by omega)]; exact hS.2.2.2 i hi
      · have hS := hn.2.2.1 tc (by omega)
        exact hn.2.2.1.up (fun t h1 h2 => rfl) (fun t h1 h2 => rfl) (fun t j h1 h2 h3 => o15 t j h1 h2 h3) hS.1 hS.2.1 o14
