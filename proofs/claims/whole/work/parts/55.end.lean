-- the claim out of the walk of the law
/-! THE CLAIM OUT OF ONE WALK OF THE LAW'S BODY. Your part is whole_start (and what it stands on); all else here is the same for every law, but numbers. -/
def R_law : String := "ThankingGiftsLaw"
def lw_P (b : Addr) (xs : List Int32) (args : Array Value) (s : State) : Prop := args = #[.ref b] ∧ s.IntsAt b xs ∧ xs.length ≤ 3584 ∧ (Jvm.Cond.and given_1 narrow_1).before args s = true
def lw_Q (_ : Array Value) (s : State) (o : Outcome) (t : State) : Prop := o = .returned (some (.int 1)) ∧ Framed s o t [] 600000 7302250
def lw_Z (below : List Frame) (a : Array Value) (s : State) : State → Prop := fun t => ∃ o, t.status = .running ∧ Ended t below o ∧ lw_Q a s o t
/-- the law's own end, with 1 on the stack, nothing written that was there before, its room as the claim has it -/
theorem lw_ret {p : Program} {l : Launch} {e : Env} {s : State} {m : MethodId} {below : List Frame} {meth : Method} {c : Code} {b : Nat} (hx : p.tables.exec = Jvm.exec) (hb : c.code = code) (hr : meth.sig.returnType = ret) (hlocks : meth.locks = false) {pc : Nat} {H : Heap} {ls : Array Slot} (hdg : decode code pc = .ok (.ireturn, 1)) : W p l e room_1 s m #[Value.ref b] below meth c H [] 600000 7302250 (lw_Z below #[Value.ref b] s) (F0 m pc ls [.int 1]) := by
  intro T hT X
  obtain ⟨fs, hret, hrun, hended, hW, hframe⟩ := X.leave (v := some (.int 1)) (hlocks := hlocks) (fun h => by rw [hr] at h; cases h)
  have hmeth' : T.vm.method? m = some meth := X.method'
  refine ⟨T.setFrames fs, ?_, .returned (some (.int 1)), hrun, hended, rfl, ⟨_, rfl⟩, hW, hframe⟩
  jvm_step X.here [X.here.top, hx, hb, hdg, hmeth', hr, ret, narrow_b1]
  (try refine ⟨rfl, ?_⟩); (try refine ⟨rfl, ?_⟩)
  first | (intro acts; rw [hret _ acts rfl rfl rfl]) | rw [hret _ _ rfl rfl rfl]
  exact Steps.refl _
/-- what holds at the law's entry: the machine, the code, the tables' words (any of lw_tbl by 'hts w (by decide +kernel)'), the script of L ints xs at the cell b, what the Statement gives of the start (any of its parts by flat_of_before) -/
def lw_At (p : Program) (s : State) (m : MethodId) (meth : Method) (c : Code) (b L : Nat) (xs : Nat → Int32) : Prop :=
  p.tables.exec = Jvm.exec ∧ c.code = code ∧ meth.sig.returnType = ret ∧ c.maxLocals = 4 ∧ s.vm.findClass R_law = some m.cls ∧ (∀ w ∈ lw_tbl, w.before #[Value.ref b] s = true) ∧ va_X b L xs s s.heap ∧ b < s.heap.size ∧ meth.locks = false ∧ (Jvm.Cond.and given_1 narrow_1).before #[Value.ref b] s = true ∧ meth.name = x.name
theorem sd_arr {args : Array Value} {s : State} {ty : FieldType} (h : (Cond.arrayClass ty).before args s = true) : ∃ cA, ArrOfT s cA ty ∧ s.vm.findClass ("[" ++ ty.toString) = some cA := by
  obtain ⟨cA, kA, comp, h1, h2, h3⟩ := Cond.arrayClass_spec h
  exact ⟨cA, fun n z => ⟨fun k h => (by cases h), kA, h2, comp, h3⟩, h1⟩
theorem sd_arrO {args : Array Value} {s : State} {C : String} (h : (Cond.arrayOver (.object C)).before args s = true) : ∃ cA, ArrOfT s cA (.object C) ∧ va_RA s cA (.object C) := by
  obtain ⟨comp, c, k, h1, h2, h3, h4, h5⟩ := Cond.arrayOver_spec h
  exact ⟨c, fun n z => ⟨fun k h => (by cases h), k, h3, comp, h4⟩, ⟨k, comp, h3, h4, h1, h5⟩⟩
theorem sd_cls {args : Array Value} {s : State} (hts : ∀ w ∈ sd_gd, w.before args s = true) : ∃ (dC : Nat → ClassId) (dI : Nat → Nat → Nat), ∀ (k : Nat) (q : vw_C), vwCl[k]? = some q → u_Kn s q.1 q.2.1 q.2.2 (dC k) (dI k) := by
  have h : ∀ k : Nat, ∃ q : ClassId × (Nat → Nat), ∀ w : vw_C, vwCl[k]? = some w → u_Kn s w.1 w.2.1 w.2.2 q.1 q.2 := by
    intro k
    have go : ∀ {C : String} {T : u_T} {N : Nat}, vwCl[k]? = some (C, T, N) → (∀ w ∈ u_ws C T N, w ∈ sd_gd) → Cond.instantiable C N ∈ sd_gd → ∃ q : ClassId × (Nat → Nat), ∀ w : vw_C, vwCl[k]? = some w → u_Kn s w.1 w.2.1 w.2.2 q.1 q.2 := by
      intro C T N hk hin hi
      obtain ⟨cC, iS, hK⟩ := u_known hts hin (hts _ hi)
      exact ⟨(cC, iS), fun w hw => by cases hk.symm.trans hw; exact hK⟩
    match k with
    | 0 => exact go rfl wV_X0 wB_X0
    | 1 => exact go rfl wV_X1 wB_X1
    | 2 => exact go rfl wV_X2 wB_X2
    | 3 => exact go rfl wV_X3 wB_X3
    | 4 => exact go rfl wV_X4 wB_X4
    | 5 => exact go rfl wV_X5 wB_X5
    | 6 => exact go rfl wV_X6 wB_X6
    | 7 => exact go rfl wV_X7 wB_X7
    | 8 => exact go rfl wV_X8 wB_X8
    | 9 => exact go rfl wV_X9 wB_X9
    | 10 => exact go rfl wV_X10 wB_X10
    | 11 => exact go rfl wV_X11 wB_X11
    | 12 => exact go rfl wV_X12 wB_X12
    | k + 13 => exact ⟨(0, fun _ => 0), fun w hw => by simp [vwCl] at hw⟩
  obtain ⟨f, hf⟩ := Classical.axiomOfChoice h
  exact ⟨fun k => (f k).1, fun k => (f k).2, fun k q hq => hf k q hq⟩
/-- what the start gives of the text and the tables -/
theorem sd_begin {s : State} (b : Nat) (hts : ∀ w ∈ lw_tbl, w.before #[Value.ref b] s = true) (hg : (Jvm.Cond.and given_1 narrow_1).before #[Value.ref b] s = true) : ∃ G : sd_G, G.2.2.1 = s.heap ∧ G.2.2.2.1 = b ∧ sd_F G s := by
  have hs := flat_of_before _ hg
  have hgd : ∀ w ∈ sd_gd, w.before #[Value.ref b] s = true := fun w hw => hts w (List.mem_filter.mp hw).1
  obtain ⟨dC, dI, hK⟩ := sd_cls hgd
  obtain ⟨c0, p0, q0⟩ := sd_arr (hgd _ wY_int)
  obtain ⟨c1, p1, q1⟩ := sd_arr (hgd _ wY_char)
  obtain ⟨c2, p2, q2⟩ := sd_arr (hgd _ wY_long)
  obtain ⟨c3, p3, q3⟩ := sd_arrO (hts _ (sd_overs_in RX7 (List.mem_of_getElem? (i := 0) rfl)))
  obtain ⟨c4, p4, q4⟩ := sd_arrO (hts _ (sd_overs_in RX4 (List.mem_of_getElem? (i := 1) rfl)))
  obtain ⟨c5, p5, q5⟩ := sd_arrO (hts _ (sd_overs_in RX9 (List.mem_of_getElem? (i := 2) rfl)))
  have hA : ∀ a : Nat, a < s.heap.size → ¬ (fun q : Nat => s.heap.size ≤ q) a := fun a ha => Nat.not_le.mpr ha
  obtain ⟨ta, c, cA, kA, r1, r2, r3, r4, r5, r6, -⟩ := Cond.exactly_spec (args := #[Value.ref b]) (first := s) (o := none) (s := s) (idx := []) (t := .string "ThankingGifts$Reader" 63) (cls := "java/lang/String") (hs (.exactly (.string "ThankingGifts$Reader" 63) "java/lang/String") (by decide +kernel))
  have he : ∀ j : Nat, j < 5 → (Term.elem (.field (.string "ThankingGifts$Reader" 63) "java/lang/String" "value" "[B") (.int (Int32.ofNat j))).eval #[Value.ref b] s none [] s = some (Value.int ([112, 102, 99, 116, 104].getD j 0)) := fun j hj => by
    rcases (show j = 0 ∨ j = 1 ∨ j = 2 ∨ j = 3 ∨ j = 4 by omega) with rfl | rfl | rfl | rfl | rfl
    · exact va_eqt (hs (.eq (.elem (.field (.string "ThankingGifts$Reader" 63) "java/lang/String" "value" "[B") (.int 0)) (.int 112)) (by decide +kernel))
    · exact va_eqt (hs (.eq (.elem (.field (.string "ThankingGifts$Reader" 63) "java/lang/String" "value" "[B") (.int 1)) (.int 102)) (by decide +kernel))
    · exact va_eqt (hs (.eq (.elem (.field (.string "ThankingGifts$Reader" 63) "java/lang/String" "value" "[B") (.int 2)) (.int 99)) (by decide +kernel))
    · exact va_eqt (hs (.eq (.elem (.field (.string "ThankingGifts$Reader" 63) "java/lang/String" "value" "[B") (.int 3)) (.int 116)) (by decide +kernel))
    · exact va_eqt (hs (.eq (.elem (.field (.string "ThankingGifts$Reader" 63) "java/lang/String" "value" "[B") (.int 4)) (.int 104)) (by decide +kernel))
  obtain ⟨tb, ht, hT⟩ := va_Tof (N := 5) (f := fun j => Value.int ([112, 102, 99, 116, 104].getD j 0)) (A := fun q : Nat => s.heap.size ≤ q) (by decide) (hs (.arrayOf (.field (.string "ThankingGifts$Reader" 63) "java/lang/String" "value" "[B") .byte) (by decide +kernel)) (va_eqt (hs (.eq (.length (.field (.string "ThankingGifts$Reader" 63) "java/lang/String" "value" "[B")) (.int 5)) (by decide +kernel))) he hA
  have hco := va_eqt (hs (.eq (.field (.string "ThankingGifts$Reader" 63) "java/lang/String" "coder" "B") (.int 0)) (by decide +kernel))
  have hcs := va_eqt (hs (.eq (.static "java/lang/String" "COMPACT_STRINGS" "Z") (.int 1)) (by decide +kernel))
  refine ⟨((dC, dI), fun k => if k = 20 then c0 else if k = 21 then c1 else if k = 22 then c2 else if k = 23 then c3 else if k = 24 then c4 else c5, s.heap, b, ta, tb), rfl, rfl, ⟨hK, fun k q hq => ?_⟩, fun q hq => va_Nw.of rfl (hts _ (sd_nest_in q hq)), fun q hq => va_Nw.of rfl (hts _ (sd_casts_in q hq)), fun q hq => va_AO.of (hts _ (sd_overs_in q hq)), vk_R.of (hts _ wR_str) r1, ⟨cA, r3, r5, by rw [r6]; exact r2, hA ta (Array.getElem?_eq_some_iff.mp r3).1⟩, vk_OFof r1 hco hA, vk_OFof r1 ht hA, hT, va_Zof (hts _ (sd_m2 (i := 212) (by decide +kernel))) (hgd _ wZ_J0) hcs hA⟩
  match k, hq with
  | 0, hq => cases hq; exact ⟨p0, q0⟩
  | 1, hq => cases hq; exact ⟨p1, q1⟩
  | 2, hq => cases hq; exact ⟨p2, q2⟩
  | 3, hq => cases hq; exact ⟨p3, q3⟩
  | 4, hq => cases hq; exact ⟨p4, q4⟩
  | 5, hq => cases hq; exact ⟨p5, q5⟩
  | k + 6, hq => simp at hq
theorem whole_start {p : Program} {e : Env} {s : State} {m : MethodId} {below : List Frame} {meth : Method} {c : Code} (l : Launch) {b L : Nat} {xs : Nat → Int32} (hL : L ≤ 3584) (C0 : lw_At p s m meth c b L xs) : W p l e room_1 s m #[Value.ref b] below meth c s.heap [] 0 0 (lw_Z below #[Value.ref b] s) (entryFrame m ([Value.ref b] : List Value).toArray 4) := by
  obtain ⟨hx, hb, hr, hml, hown, hts, hX, hbl, hlocks, hgv, hnm⟩ := id C0
  obtain ⟨G, hG1, hG2, hF⟩ := sd_begin b hts hgv
  have hl := lv_entry ([.ref b]) (n := 4) (Nat.le_of_ble_eq_true rfl)
  rw [lg_entry_eq]
  generalize (lg_sl ([.ref b]) ++ List.replicate (4 - (lg_sl ([.ref b])).length) Slot.unset).toArray = ls at hl ⊢
  have hXX : sd_X muL_law p s m #[Value.ref b] meth c G := ⟨hx, hb, hr, hml, hown, fun w hw => hts w (List.mem_filter.mp hw).1, hlocks, hnm, hF, fun q _ => by rw [hG1], by rw [hG1]; exact Nat.le_refl _⟩
  have hSc : sd_Sc muL_law G (L, xs) s := fun _ => ⟨by rw [hG2]; exact hX, by rw [hG2]; exact hbl, by rw [hG2]; unfold sd_A; rw [hG1]; exact Nat.not_le.mpr hbl⟩
  have hZ : sd_Z muL_law p l e s m #[Value.ref b] below meth c G (L, xs) (lw_Z below #[Value.ref b] s) (fun r _ => r = some (nI 1)) := by
    intro r C I J H locs lsA pc hret hq hR hS
    subst hq
    refine va_forget (fun q hq => by have := hS.2.2 q hq; unfold sd_A at this; rw [hG1] at this; exact this) ?_
    exact lw_ret hx hb hr hlocks hret.2
  have hR : sd_R G [] (fun _ _ => 0) (fun _ _ => 0) s.heap := ⟨by rw [hG1]; rfl, Nat.zero_le _, fun q _ => by rw [hG1], fun k q h => by simp [sd_ws] at h⟩
  have hLs : sd_L G 4 [.ref 100000, .null, .null, .null] ls := by
    refine ⟨hl.1, hl.2.1, fun i v hi hv => ?_⟩
    match i, hi with
    | 0, hi =>
      cases hi
      show ls[0]? = some (.val (.ref (sd_ad G 100000)))
      have : sd_ad G 100000 = b := by unfold sd_ad; rw [if_pos rfl]; exact hG2
      rw [this]
      exact hl.2.2 _ (List.mem_cons_self)
    | 1, hi => cases hi; exact absurd rfl hv
    | 2, hi => cases hi; exact absurd rfl hv
    | 3, hi => cases hi; exact absurd rfl hv
    | i + 4, hi => simp at hi
  exact l_start (X := (L, xs)) (I := fun _ _ => 0) (J := fun _ _ => 0) hL p l e s m #[Value.ref b] below meth c G (lw_Z below #[Value.ref b] s) hXX hSc hZ s.heap [] ls hR va_S.rf hLs
set_option maxHeartbeats 4000000 in
theorem lw_walk (l : Launch) (b : Addr) (xs : List Int32) : MetFree l x (headSpec (Jvm.Cond.code x code maxLocals ret :: tables_1) room_1) (lw_P b xs) (fun _ _ _ _ _ => True) lw_Q := by
  refine MetFree.of_bodyS (code := code) (maxLocals := maxLocals) (ret := ret) (by decide) ?_ ?_
  · intro args s m h hn
    obtain ⟨meth, c, h1, h2, h3, h4, h5, h6, -, -⟩ := Cond.code_spec hn (atoms_spec (ws := Jvm.Cond.code x code maxLocals ret :: tables_1) h _ List.mem_cons_self)
    exact ⟨meth, c, h1, h2, h3, h4, h5, h6⟩
  · intro p e s m args below meth c s₁ B hml0 hP _
    obtain ⟨rfl, hx, hbd, hgv⟩ := hP
    obtain ⟨scr, harrAt, hlist, hof, hsmall⟩ := hx
    obtain ⟨hcb, hkn, -, -⟩ := State.arrayAt?_spec harrAt
    have hown : s.vm.findClass R_law = some m.cls := findClass_of_methodNamed B.named
    have hts0 : ∀ c ∈ (Jvm.Cond.code x code maxLocals ret :: tables_1), c.before #[Value.ref b] s = true := atoms_spec (ws := Jvm.Cond.code x code maxLocals ret :: tables_1) B.pre
    have hts : ∀ w ∈ lw_tbl, w.before #[Value.ref b] s = true := k2_hts_sels lw_privs (fun w hw => hts0 w (List.mem_cons_of_mem _ hw)) lw_privs_ok
    have hml : c.maxLocals = 4 := B.maxLocals_eq (hts0 _ List.mem_cons_self)
    have X₀ : Stand p l e room_1 s m #[Value.ref b] below meth c s₁ [] 0 0 := Stand.of_body B
    have hh0 : s₁.heap = s.heap := by rw [B.state]; rfl
    have hsz : scr.slots.size = xs.length := by rw [← Array.length_toList, hlist, List.length_map]
    have hval : ∀ j : Nat, j < xs.length → scr.slots[j]? = some (.int (xs.getD j 0)) := fun j hj => by
      rw [← Array.getElem?_toList, hlist]
      simp [hj]
    have hbl : b < s.heap.size := (Array.getElem?_eq_some_iff.mp hcb).1
    have hX : va_X b xs.length (fun j => xs.getD j 0) s s.heap := ⟨scr, hcb, hof, hkn, hsz, hval⟩
    have K : W p l e room_1 s m #[Value.ref b] below meth c s₁.heap [] 0 0 (lw_Z below #[Value.ref b] s) (entryFrame m ([Value.ref b] : List Value).toArray 4) := by
      rw [hh0]
      exact whole_start l hbd ⟨B.exec, B.bytes, B.returns, hml, hown, hts, hX, hbl, B.notSynchronized, hgv, (name_of_methodNamed B.named B.method).1⟩
    obtain ⟨t, a1, o, b1, b2, b3⟩ := K s₁ rfl X₀
    exact ⟨t, o, a1, b1, b2, b3⟩
theorem lw_pre_spec {args : Array Value} {s : State} (h : (Jvm.Cond.and given_1 narrow_1).before args s = true) (hr : rest_1_c.before args s = true) : ∃ (b : Addr) (xs : List Int32), lw_P b xs args s := by
  have hs := flat_of_before _ h
  have hq := flat_of_before _ hr
  have hc : (Cond.count 1).before args s = true := hs _ (by decide +kernel)
  have harr : (Cond.arrayOf (.arg 0) .int).before args s = true := hs _ (by decide +kernel)
  have hle : (Cond.le (.length (.arg 0)) (.int 3584)).before args s = true := hs _ (by decide +kernel)
  have hlen : (Cond.isInt (.length (.arg 0))).before args s = true := hq _ (by decide +kernel)
  have hall : (Cond.all (.arg 0) (.isInt (.elem (.arg 0) (.index 0)))).before args s = true := hq _ (by decide +kernel)
  obtain ⟨b, xs, hb, hx⟩ := State.ints_of_pre rfl harr hlen hall
  have hsm : xs.length < 2 ^ 31 := hx.choose_spec.2.2.2
  have hev : (Term.length (.arg 0)).eval args s none [] s = some (.int xs.length.toInt32) := hx.length_eval hb
  have hv := Cond.le_ints hev (show (Term.int 3584).eval args s none [] s = some (.int 3584) from rfl)
  have hd : xs.length.toInt32 ≤ 3584 := by
    simpa [Cond.before, Cond.holds, hv] using hle
  have hN : xs.length ≤ 3584 := (Int32.ofNat_le_ofNat hsm (by decide)).mp (show Int32.ofNat xs.length ≤ Int32.ofNat 3584 from hd)
  exact ⟨b, xs, Cond.one_arg hc (show args[0]? = some (.ref b) from hb), hx, hN, h⟩
theorem lw_comes (l : Launch) : Comes l x (Jvm.Cond.code x code maxLocals ret :: tables_1) room_1 (fun tb e args s => Calls_1 tb e args s ∧ rest_1 tb e args s ∧ Pre_1 tb e args s)
    (fun _ _ args s o t => lw_Q args s o t) := by
  intro p e ha hc hk s m args below hf hfit hheap happ hpre
  obtain ⟨b, xs, hP⟩ := lw_pre_spec hpre.2.2 hpre.2.1
  obtain ⟨k, o, h1, h2, h3, hQ⟩ := lw_walk l b xs p e ha hc hk s m args below hf ((Spec.applies_iff_loose hf).mp happ).1 hP trivial
  exact ⟨k, o, h1, h2, h3, hQ⟩
theorem lw_frame {s t : State} {o : Outcome} {args : Array Value} (h : Framed s o t [] 600000 7302250) :
    Framed s o t (fieldLocs frame_1_writes args s ++ arrayLocs frame_1_arrays args s ++ staticLocs frame_1_statics s) 600000 7302250 := h
theorem lw_limb (L : Cond) (hL : ∀ (args : Array Value) (s t : State), L.after args s (.returned (some (.int 1))) t = true) :
    ArmFor flags0 classFile x code maxLocals ret World_1 tables_1 room_1 Calls_1 rest_1 Pre_1
      (fun tb e a s o t => postC L tb e a s o t ∧ Framed s o t (fieldLocs frame_1_writes a s ++ arrayLocs frame_1_arrays a s ++ staticLocs frame_1_statics s) 600000 7302250) := by
  intro l _ _ _ p e ha hc hk s m args below hf hfit hheap happ hpre
  obtain ⟨k, o, h1, h2, h3, rfl, hF⟩ := lw_comes l p e ha hc hk s m args below hf hfit hheap happ hpre
  exact ⟨k, _, h1, h2, h3, hL args s _, lw_frame hF⟩
theorem i_vc : Claimed_1_1 ∧ Claimed_1_2 := ⟨lw_limb limb_1_1 (fun args s t => by simp [limb_1_1, Cond.after, Cond.holds, Cond.value]), lw_limb limb_1_2 (fun args s t => Cond.after_iff.mpr (by
  first | (rw [show limb_1_2 = Cond.eq .result (.int 1) from rfl, Cond.eq_ints (x := 1) (y := 1) rfl rfl]; simp; done) | (simp [limb_1_2, Cond.value, Term.eval]; done)))⟩
