set_option maxHeartbeats 4000000 in
set_option maxRecDepth 20000 in
theorem law_new {q : NG} {K : NK} {b : Nat} (B : Nx q K code 4 "LeafOrderLaw" 7 129 6329 false) (k : NW q K 4 16 [(2, .ref (q.2.2.1 + 106)), (1, .ref (q.2.2.1 + 0)), (0, .ref b)] [] (eF q) 129 129 6329) : NW q K 4 0 [(0, .ref b)] [] e00 0 0 0 := by
  refine n_newo (ci := 6) (N := 11) (T := F_Lo) (ty := t_Lo) (fs := [.null, .null, .null, .null, .null, .null, .null, .null, .null, .int 0, .int 0]) B rfl i_Lo t_Lo_ok df_Lo wl_Law_7 wi_Lo wn_Lo d_law_0 (by decide) (by decide) ?_
  refine n_dup B d_law_3 ?_
  refine n_callI (d1 := 2) (C1 := 105) (S1 := 3407) B (tN_Lo (q := q) (en := _) rfl) d_law_4 wk_Law_9 wm_Lo wn_Lo wc_Lo rfl (by decide +kernel) (by decide) (by decide) (Nat.le_of_ble_eq_true rfl) (by decide) (by decide) ?_
  refine n_astore (lv1 := [(1, .ref (q.2.2.1 + 0)), (0, .ref b)]) B d_law_7 (by decide) rfl ?_
  refine n_newo (ci := 7) (N := 31) (T := F_Mo) (ty := t_Mo) (fs := [.int 0, .null, .int 0, .int 0, .null, .null, .null, .null, .null, .null, .null, .null, .null, .null, .null, .int 0, .int 0, .null, .null, .null, .null, .null, .int 0, .null, .null, .int 0, .int 0, .null, .null, .int 0, .null]) B rfl i_Mo t_Mo_ok df_Mo wl_Law_10 wi_Mo wn_Mo d_law_8 (by decide) (by decide) ?_
  refine n_dup B d_law_11 ?_
  refine n_callI (d1 := 1) (C1 := 22) (S1 := 2880) B (tN_Mo (q := q) (en := _) rfl) d_law_12 wk_Law_12 wm_Mo wn_Mo wc_Mo rfl (by decide +kernel) (by decide) (by decide) (Nat.le_of_ble_eq_true rfl) (by decide) (by decide) ?_
  refine n_astore (lv1 := [(2, .ref (q.2.2.1 + 106)), (1, .ref (q.2.2.1 + 0)), (0, .ref b)]) B d_law_15 (by decide) rfl ?_
  exact k
/-! THE CLAIM OUT OF ONE WALK OF THE LAW'S BODY. Your part is whole_start (and what it stands on); all else here is the same for every law, but numbers. -/
def R_law : String := "LeafOrderLaw"
def lw_P (b : Addr) (xs : List Int32) (args : Array Value) (s : State) : Prop := args = #[.ref b] ∧ s.IntsAt b xs ∧ xs.length ≤ 3072 ∧ (Jvm.Cond.and given_1 narrow_1).before args s = true
def lw_Q (_ : Array Value) (s : State) (o : Outcome) (t : State) : Prop := o = .returned (some (.int 1)) ∧ Framed s o t [] 600000 7302250
def lw_Z (below : List Frame) (a : Array Value) (s : State) : State → Prop := fun t => ∃ o, t.status = .running ∧ Ended t below o ∧ lw_Q a s o t
/-- the law's own end, with 1 on the stack, nothing written that was there before, its room as the claim has it -/
theorem lw_ret {p : Program} {l : Launch} {e : Env} {s : State} {m : MethodId} {below : List Frame} {meth : Method} {c : Code} {b : Nat} (hx : p.tables.exec = Jvm.exec) (hb : c.code = code) (hr : meth.sig.returnType = ret) (hlocks : meth.locks = false) {pc : Nat} {H : Heap} {ls : Array Slot} (hdg : decode code pc = .ok (.ireturn, 1)) : W p l e room_1 s m #[Value.ref b] below meth c H [] 600000 7302250 (lw_Z below #[Value.ref b] s) (F0 m pc ls [.int 1]) := by
  intro T hT X
  obtain ⟨fs, hret, hrun, hended, hW, hframe⟩ := X.leave (v := some (.int 1)) (hlocks := hlocks) (fun h => by rw [hr] at h; cases h)
  have hmeth' : T.vm.method? m = some meth := X.method'
  refine ⟨T.setFrames fs, ?_, .returned (some (.int 1)), hrun, hended, rfl, ⟨_, rfl⟩, hW, hframe⟩
  jvm_step X.here [X.here.top, hx, hb, hdg, hmeth', hr, ret, narrow_b1]
  (try refine ⟨rfl, ?_⟩); (try refine ⟨rfl, ?_⟩)
  first | (intro acts; rw [hret _ acts rfl rfl rfl]) | rw [hret _ _ rfl rfl rfl]
  exact Steps.refl _
/-- what holds at the law's entry: the machine, the code, the tables' words (any of lw_tbl by 'hts w (by decide +kernel)'), the script of L ints xs at the cell b, what the Statement gives of the start (any of its parts by flat_of_before) -/
def lw_At (p : Program) (s : State) (m : MethodId) (meth : Method) (c : Code) (b L : Nat) (xs : Nat → Int32) : Prop :=
  p.tables.exec = Jvm.exec ∧ c.code = code ∧ meth.sig.returnType = ret ∧ c.maxLocals = 4 ∧ s.vm.findClass R_law = some m.cls ∧ (∀ w ∈ lw_tbl, w.before #[Value.ref b] s = true) ∧ va_X b L xs s s.heap ∧ b < s.heap.size ∧ meth.locks = false ∧ (Jvm.Cond.and given_1 narrow_1).before #[Value.ref b] s = true
theorem wv_Tr : Cond.arrayOver (.object R_Tr) ∈ lw_tbl := in_t1 (List.mem_of_getElem? (i := 45) rfl)
theorem wv_I : Cond.arrayOver (.array .int) ∈ lw_tbl := in_t1 (List.mem_of_getElem? (i := 27) rfl)
theorem wv_J : Cond.arrayOver (.array .long) ∈ lw_tbl := in_t1 (List.mem_of_getElem? (i := 131) rfl)
theorem wx_Ro : Cond.methodLinkNest R_Lo 11 m_Ro_init.1 R_Lo ∈ lw_tbl := in_t1 (List.mem_of_getElem? (i := 22) rfl)
theorem wx_Tr : Cond.methodLinkNest R_Lo 22 m_Tr_init.1 R_Lo ∈ lw_tbl := in_t1 (List.mem_of_getElem? (i := 47) rfl)
theorem wx_Mk : Cond.methodLinkNest R_Lo 25 m_Mk_init.1 R_Lo ∈ lw_tbl := in_t1 (List.mem_of_getElem? (i := 112) rfl)
theorem wx_Bt : Cond.methodLinkNest R_Lo 32 m_Bt_init.1 R_Lo ∈ lw_tbl := in_t1 (List.mem_of_getElem? (i := 126) rfl)
theorem wx_Ax : Cond.methodLinkNest R_Lo 39 m_Ax_init.1 R_Lo ∈ lw_tbl := in_t1 (List.mem_of_getElem? (i := 143) rfl)
theorem wx_Fi : Cond.methodLinkNest R_Lo 46 m_Fi_init.1 R_Lo ∈ lw_tbl := in_t1 (List.mem_of_getElem? (i := 170) rfl)
/-- the classes, the array classes and the links, as the tables tell them -/
theorem law_K {s : State} {args : Array Value} (l : Launch) (hts : ∀ w ∈ lw_tbl, w.before args s = true) : ∃ q : NG, q.1 = l ∧ q.2.2.1 = s.heap.size ∧ va_K q.2.1 cls8 (tyN q) s ∧ xN q s := by
  obtain ⟨c0, iS0, hKn0⟩ := u_known (C := R_Ax) (T := F_Ax) (N := 5) (n := 5) hts i_Ax (hts _ wi_Ax)
  obtain ⟨c1, iS1, hKn1⟩ := u_known (C := R_Bt) (T := F_Bt) (N := 2) (n := 2) hts i_Bt (hts _ wi_Bt)
  obtain ⟨c2, iS2, hKn2⟩ := u_known (C := R_Fi) (T := F_Fi) (N := 2) (n := 2) hts i_Fi (hts _ wi_Fi)
  obtain ⟨c3, iS3, hKn3⟩ := u_known (C := R_Mk) (T := F_Mk) (N := 2) (n := 2) hts i_Mk (hts _ wi_Mk)
  obtain ⟨c4, iS4, hKn4⟩ := u_known (C := R_Ro) (T := F_Ro) (N := 3) (n := 3) hts i_Ro (hts _ wi_Ro)
  obtain ⟨c5, iS5, hKn5⟩ := u_known (C := R_Tr) (T := F_Tr) (N := 14) (n := 14) hts i_Tr (hts _ wi_Tr)
  obtain ⟨c6, iS6, hKn6⟩ := u_known (C := R_Lo) (T := F_Lo) (N := 11) (n := 11) hts i_Lo (hts _ wi_Lo)
  obtain ⟨c7, iS7, hKn7⟩ := u_known (C := R_Mo) (T := F_Mo) (N := 31) (n := 31) hts i_Mo (hts _ wi_Mo)
  obtain ⟨aI, kI, pI, fI, gI, eI⟩ := Cond.arrayClass_spec (hts _ wa_int)
  obtain ⟨aB, kB, pB, fB, gB, eB⟩ := Cond.arrayClass_spec (hts _ wa_boolean)
  obtain ⟨aL, kL, pL, fL, gL, eL⟩ := Cond.arrayClass_spec (hts _ wa_long)
  obtain ⟨pT, aT, kT, xT, -, gT, eT, fT⟩ := Cond.arrayOver_spec (hts _ wv_Tr)
  obtain ⟨pII, aII, kII, xII, -, gII, eII, fII⟩ := arrayOverA_spec (hts _ wv_I)
  obtain ⟨pJJ, aJJ, kJJ, xJJ, -, gJJ, eJJ, fJJ⟩ := arrayOverA_spec (hts _ wv_J)
  have e1 : pII = aI := Option.some.inj (xII.symm.trans fI)
  have e2 : pJJ = aL := Option.some.inj (xJJ.symm.trans fL)
  rw [e1] at eII
  rw [e2] at eJJ
  refine ⟨(l, (fun k => if k = 0 then c0 else if k = 1 then c1 else if k = 2 then c2 else if k = 3 then c3 else if k = 4 then c4 else if k = 5 then c5 else if k = 6 then c6 else c7, fun k => if k = 0 then iS0 else if k = 1 then iS1 else if k = 2 then iS2 else if k = 3 then iS3 else if k = 4 then iS4 else if k = 5 then iS5 else if k = 6 then iS6 else iS7), s.heap.size, fun k => if k = 0 then aI else if k = 1 then aB else if k = 2 then aL else if k = 3 then aT else if k = 4 then aII else aJJ), rfl, rfl, ⟨?_, ?_⟩, ?_⟩
  · intro k q hq
    match k, hq with
    | 0, hq => cases hq; exact hKn0
    | 1, hq => cases hq; exact hKn1
    | 2, hq => cases hq; exact hKn2
    | 3, hq => cases hq; exact hKn3
    | 4, hq => cases hq; exact hKn4
    | 5, hq => cases hq; exact hKn5
    | 6, hq => cases hq; exact hKn6
    | 7, hq => cases hq; exact hKn7
    | k + 8, hq => simp [cls8] at hq
  · intro k q hq
    match k, hq with
    | 0, hq => cases hq; exact ⟨fun N z => ⟨(fun k h => by cases h), kI, gI, _, eI⟩, fI⟩
    | 1, hq => cases hq; exact ⟨fun N z => ⟨(fun k h => by cases h), kB, gB, _, eB⟩, fB⟩
    | 2, hq => cases hq; exact ⟨fun N z => ⟨(fun k h => by cases h), kL, gL, _, eL⟩, fL⟩
    | 3, hq => cases hq; exact ⟨fun N z => ⟨(fun k h => by cases h), kT, gT, _, eT⟩, ⟨kT, pT, gT, eT, xT, fT⟩⟩
    | 4, hq => cases hq; exact ⟨fun N z => ⟨(fun k h => by cases h), kII, gII, _, eII⟩, fII⟩
    | 5, hq => cases hq; exact ⟨fun N z => ⟨(fun k h => by cases h), kJJ, gJJ, _, eJJ⟩, fJJ⟩
    | k + 6, hq => simp [tyN] at hq
  · refine ⟨⟨kII, gII, eII⟩, ⟨kJJ, gJJ, eJJ⟩, va_AO.of (hts _ wv_Tr), ?_⟩
    intro w hw
    unfold NT at hw
    simp only [List.mem_cons, List.not_mem_nil, or_false] at hw
    rcases hw with rfl | rfl | rfl | rfl | rfl | rfl
    · exact va_Nw.of rfl (hts _ wx_Ro)
    · exact va_Nw.of rfl (hts _ wx_Tr)
    · exact va_Nw.of rfl (hts _ wx_Mk)
    · exact va_Nw.of rfl (hts _ wx_Bt)
    · exact va_Nw.of rfl (hts _ wx_Ax)
    · exact va_Nw.of rfl (hts _ wx_Fi)
set_option maxHeartbeats 4000000 in
set_option maxRecDepth 20000 in
/-- THE LAW, from its entry -/
theorem whole_start {p : Program} {e : Env} {s : State} {m : MethodId} {below : List Frame} {meth : Method} {c : Code} (l : Launch) {b L : Nat} {xs : Nat → Int32} (hL : L ≤ 3072) (C0 : lw_At p s m meth c b L xs) : W p l e room_1 s m #[Value.ref b] below meth c s.heap [] 0 0 (lw_Z below #[Value.ref b] s) (entryFrame m ([Value.ref b] : List Value).toArray 4) := by
  obtain ⟨hx, hb, hr, hml, hown, hts, hX, hbl, hlocks, hgv⟩ := id C0
  have hGT : ∀ w ∈ GT, w.before #[Value.ref b] s = true := fun w h => hts w (List.mem_filter.mp h).1
  obtain ⟨q, rfl, hz, hK, hN⟩ := law_K l hts
  have hl := lv_entry ([.ref b]) (n := 4) (Nat.le_of_ble_eq_true rfl)
  rw [lg_entry_eq]
  generalize (lg_sl ([.ref b]) ++ List.replicate (4 - (lg_sl ([.ref b])).length) Slot.unset).toArray = ls at hl ⊢
  have hl : lv_has ls 4 [(0, .ref b)] := hl
  obtain ⟨K, eK⟩ : ∃ K : NK, K = (fun H locs ls pc st cells slots => va_S (nA q) s.heap H locs → W p q.1 e room_1 s m #[Value.ref b] below meth c H locs cells slots (lw_Z below #[Value.ref b] s) (F0 m pc ls st)) := ⟨_, rfl⟩
  have B : Nx q K code 4 "LeafOrderLaw" 7 129 6329 false := ⟨p, e, room_1, s, m, #[Value.ref b], below, meth, c, _, eK, hx, hb, hml, hown, hGT, hK, hN, (fun h => by cases h), Nat.le_of_eq hz, Nat.le_of_ble_eq_true rfl, Nat.le_of_ble_eq_true rfl, Nat.le_of_ble_eq_true rfl, Nat.le_of_ble_eq_true rfl⟩
  have BL : CxL (gN q b) (fun H locs ls pc st => K H locs ls pc st 129 6329) code 4 "LeafOrderLaw" 7 L xs := ⟨p, e, room_1, s, m, #[Value.ref b], below, meth, c, 129, 6329, lw_Z below #[Value.ref b] s, ⟨by rw [eK]; rfl, hx, hb, hml, hown, hGT, hK, gN_ok q b, Nat.le_of_ble_eq_true rfl, Nat.le_of_ble_eq_true rfl, Nat.le_of_ble_eq_true rfl, Nat.le_of_ble_eq_true rfl⟩, hX, hbl, fun h9 => by have h9 : q.2.2.1 ≤ b := h9; omega⟩
  have Rt : ∀ (pc : Nat) (lv : LV) (σ : AH), decode code pc = .ok (.ireturn, 1) → AW (gN q b) (fun H locs ls pc st => K H locs ls pc st 129 6329) 4 pc lv [iV 1] σ := by
    intro pc lv σ dg H locs ls _ _
    rw [eK]
    intro hS
    refine va_forget (fun a ha => by have h9 : q.2.2.1 ≤ a.base := hS.2.2 a ha; omega) ?_
    refine W.widen (k := 600000) (n := 7302250) (by decide) (by decide) ?_
    exact lw_ret hx hb hr hlocks dg
  have k : NW q K 4 16 [(2, .ref (q.2.2.1 + 106)), (1, .ref (q.2.2.1 + 0)), (0, .ref b)] [] (eF q) 129 129 6329 := by
    intro H locs ls hP hl
    have aw : AW (gN q b) (fun H locs ls pc st => K H locs ls pc st 129 6329) 4 16 [(0, rV 129), (1, rV 0), (2, rV 106)] [] σI := by
      refine a_iconst BL.cx d_law_16 ci_0 ?_
      refine a_istore_n (lv1 := lvL 0) BL.cx d_law_17 rfl (by decide) rfl ?_
      exact law_loop (gN_ok q b) BL hL Rt RelC_I RelM_I
    exact aw H locs ls (wdF (b := b) hP) (lv_sub hl [2, 1, 0] rfl)
  have fin := law_new (b := b) B k s.heap [] ls ⟨by omega, fun i hi => absurd hi (Nat.not_lt_zero i)⟩ hl
  rw [eK] at fin
  exact fin va_S.rf
set_option maxHeartbeats 4000000 in
theorem lw_walk (l : Launch) (b : Addr) (xs : List Int32) : MetFree l x (headSpec (Jvm.Cond.code x code maxLocals ret :: tables_1) room_1) (lw_P b xs) (fun _ _ _ _ _ => True) lw_Q := by
  refine MetFree.of_bodyS (code := code) (maxLocals := maxLocals) (ret := ret) (by decide) ?_ ?_
  · intro args s m h hn
    obtain ⟨meth, c, h1, h2, h3, h4, h5, h6, -, -⟩ := Cond.code_spec hn (atoms_spec (ws := Jvm.Cond.code x code maxLocals ret :: tables_1) h _ List.mem_cons_self)
    exact ⟨meth, c, h1, h2, h3, h4, h5, h6⟩
  · intro p e s m args below meth c s₁ B hml0 hP _
    obtain ⟨rfl, hx, hbd, hgv⟩ := hP
    obtain ⟨scr, harrAt, hlist, hof, hsmall⟩ := hx
    obtain ⟨hcb, hkn, -, -⟩ := State.arrayAt?_spec harrAt
    have hown : s.vm.findClass R_law = some m.cls := findClass_of_methodNamed B.named
    have hts0 : ∀ c ∈ (Jvm.Cond.code x code maxLocals ret :: tables_1), c.before #[Value.ref b] s = true := atoms_spec (ws := Jvm.Cond.code x code maxLocals ret :: tables_1) B.pre
    have hts : ∀ w ∈ lw_tbl, w.before #[Value.ref b] s = true := k2_hts_sels lw_privs (fun w hw => hts0 w (List.mem_cons_of_mem _ hw)) lw_privs_ok
    have hml : c.maxLocals = 4 := B.maxLocals_eq (hts0 _ List.mem_cons_self)
    have X₀ : Stand p l e room_1 s m #[Value.ref b] below meth c s₁ [] 0 0 := Stand.of_body B
    have hh0 : s₁.heap = s.heap := by rw [B.state]; rfl
    have hsz : scr.slots.size = xs.length := by rw [← Array.length_toList, hlist, List.length_map]
    have hval : ∀ j : Nat, j < xs.length → scr.slots[j]? = some (.int (xs.getD j 0)) := fun j hj => by
      rw [← Array.getElem?_toList, hlist]
      simp [hj]
    have hbl : b < s.heap.size := (Array.getElem?_eq_some_iff.mp hcb).1
    have hX : va_X b xs.length (fun j => xs.getD j 0) s s.heap := ⟨scr, hcb, hof, hkn, hsz, hval⟩
    have K : W p l e room_1 s m #[Value.ref b] below meth c s₁.heap [] 0 0 (lw_Z below #[Value.ref b] s) (entryFrame m ([Value.ref b] : List Value).toArray 4) := by
      rw [hh0]
      exact whole_start l hbd ⟨B.exec, B.bytes, B.returns, hml, hown, hts, hX, hbl, B.notSynchronized, hgv⟩
    obtain ⟨t, a1, o, b1, b2, b3⟩ := K s₁ rfl X₀
    exact ⟨t, o, a1, b1, b2, b3⟩
theorem lw_pre_spec {args : Array Value} {s : State} (h : (Jvm.Cond.and given_1 narrow_1).before args s = true) (hr : rest_1_c.before args s = true) : ∃ (b : Addr) (xs : List Int32), lw_P b xs args s := by
  have hs := flat_of_before _ h
  have hq := flat_of_before _ hr
  have hc : (Cond.count 1).before args s = true := hs _ (by decide +kernel)
  have harr : (Cond.arrayOf (.arg 0) .int).before args s = true := hs _ (by decide +kernel)
  have hle : (Cond.le (.length (.arg 0)) (.int 3072)).before args s = true := hs _ (by decide +kernel)
  have hlen : (Cond.isInt (.length (.arg 0))).before args s = true := hq _ (by decide +kernel)
  have hall : (Cond.all (.arg 0) (.isInt (.elem (.arg 0) (.index 0)))).before args s = true := hq _ (by decide +kernel)
  obtain ⟨b, xs, hb, hx⟩ := State.ints_of_pre rfl harr hlen hall
  have hsm : xs.length < 2 ^ 31 := hx.choose_spec.2.2.2
  have hev : (Term.length (.arg 0)).eval args s none [] s = some (.int xs.length.toInt32) := hx.length_eval hb
  have hv := Cond.le_ints hev (show (Term.int 3072).eval args s none [] s = some (.int 3072) from rfl)
  have hd : xs.length.toInt32 ≤ 3072 := by
    simpa [Cond.before, Cond.holds, hv] using hle
  have hN : xs.length ≤ 3072 := (Int32.ofNat_le_ofNat hsm (by decide)).mp (show Int32.ofNat xs.length ≤ Int32.ofNat 3072 from hd)
  exact ⟨b, xs, Cond.one_arg hc (show args[0]? = some (.ref b) from hb), hx, hN, h⟩
theorem lw_comes (l : Launch) : Comes l x (Jvm.Cond.code x code maxLocals ret :: tables_1) room_1 (fun tb e args s => Calls_1 tb e args s ∧ rest_1 tb e args s ∧ Pre_1 tb e args s)
    (fun _ _ args s o t => lw_Q args s o t) := by
  intro p e ha hc hk s m args below hf hfit hheap happ hpre
  obtain ⟨b, xs, hP⟩ := lw_pre_spec hpre.2.2 hpre.2.1
  obtain ⟨k, o, h1, h2, h3, hQ⟩ := lw_walk l b xs p e ha hc hk s m args below hf ((Spec.applies_iff_loose hf).mp happ).1 hP trivial
  exact ⟨k, o, h1, h2, h3, hQ⟩
theorem lw_frame {s t : State} {o : Outcome} {args : Array Value} (h : Framed s o t [] 600000 7302250) :
    Framed s o t (fieldLocs frame_1_writes args s ++ arrayLocs frame_1_arrays args s ++ staticLocs frame_1_statics s) 600000 7302250 := h
theorem lw_limb (L : Cond) (hL : ∀ (args : Array Value) (s t : State), L.after args s (.returned (some (.int 1))) t = true) :
    ArmFor flags0 classFile x code maxLocals ret World_1 tables_1 room_1 Calls_1 rest_1 Pre_1
      (fun tb e a s o t => postC L tb e a s o t ∧ Framed s o t (fieldLocs frame_1_writes a s ++ arrayLocs frame_1_arrays a s ++ staticLocs frame_1_statics s) 600000 7302250) := by
  intro l _ _ _ p e ha hc hk s m args below hf hfit hheap happ hpre
  obtain ⟨k, o, h1, h2, h3, rfl, hF⟩ := lw_comes l p e ha hc hk s m args below hf hfit hheap happ hpre
  exact ⟨k, _, h1, h2, h3, hL args s _, lw_frame hF⟩
theorem i_vc : Claimed_1_1 ∧ Claimed_1_2 := ⟨lw_limb limb_1_1 (fun args s t => by simp [limb_1_1, Cond.after, Cond.holds, Cond.value]), lw_limb limb_1_2 (fun args s t => Cond.after_iff.mpr (by
  first | (rw [show limb_1_2 = Cond.eq .result (.int 1) from rfl, Cond.eq_ints (x := 1) (y := 1) rfl rfl]; simp; done) | (simp [limb_1_2, Cond.value, Term.eval]; done)))⟩

