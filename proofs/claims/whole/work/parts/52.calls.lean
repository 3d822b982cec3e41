/-! making: contracts, calls, arrays of arrays, fill -/
def mulE (en : Nat → va_E) (cnt N : Nat) (eo ei : va_E) : Nat → va_E := fun i => if i = cnt then eo else if cnt < i ∧ i ≤ cnt + N then ei else en i
def refE (cA : ClassId) (N a : Nat) : va_E := .inl (cA, N, .inr (.inr (.inr (.inr (fun x => if x < N then some (a + x) else none)))))
def preN (q : NG) (en : Nat → va_E) (cnt : Nat) (U : State) : Prop := NP q en cnt U.heap ∧ va_K q.2.1 cls8 (tyN q) U ∧ xN q U
def TerN (q : NG) (d C S : Nat) (mi : MI) (as : List Value) (en : Nat → va_E) (cnt : Nat) (en' : Nat → va_E) (cnt' : Nat) : Prop :=
  Met q.1 mi.1 (wsM mi) { frames := d, cells := C, slots := S, locals := 40 * d } (va_Pc as (preN q en cnt)) (va_Qv (fun _ : Unit => True) (fun _ t => NP q en' cnt' t.heap) (nA q)) C S (nA q)
theorem preN_blind {q : NG} {as : List Value} {en : Nat → va_E} {cnt : Nat} : FrameBlind (va_Pc as (preN q en cnt)) := fun a U fg mk h => ⟨h.1, h.2.1, va_K.moved (u := U) (U := U.calling fg mk a) (Vm.Alike.refl U.vm) h.2.2.1, xN_same (u := U) (U := U.calling fg mk a) rfl h.2.2.2⟩
section NCALL
variable {q : NG} {K : NK} {cc : ByteArray} {nL : Nat} {own : String} {d C S : Nat} {ini : Bool} {pc : Nat} {lv : List (Nat × Value)} {st : List Value} {en : Nat → va_E} {cnt cells slots : Nat}
theorem TerN.mk {mi : MI} {as : List Value} {en' : Nat → va_E} {cnt' : Nat} (hy : plainName mi.1.cls = true) (hr : mi.2.2.2 = none) (hn : (lg_sl as).length ≤ mi.2.2.1) (hin : ini = true → mi.1.name = "<init>") (body : ∀ K : NK, Nx q K mi.2.1 mi.2.2.1 mi.1.cls d C S ini → (∀ (pc : Nat) (lv : List (Nat × Value)), decode mi.2.1 pc = .ok (.return_, 1) → NW q K mi.2.2.1 pc lv [] en' cnt' C S) → NW q K mi.2.2.1 0 (lv_args 0 as) [] en cnt 0 0) : TerN q d C S mi as en cnt en' cnt' := by
  refine Met.ofW (cc := mi.2.1) (maxL := mi.2.2.1) (ret := mi.2.2.2) hy rfl ?_
  intro p e s m args below meth c s₁ B hml hv
  obtain ⟨rfl, hP, hK, hX⟩ := hv
  have hx := B.exec
  have hb := B.bytes
  have hrt := B.returns
  rw [hr] at hrt
  have hts := hts_G (atoms_spec (ws := wsM mi) B.pre)
  have hown : s.vm.findClass mi.1.cls = some m.cls := findClass_of_methodNamed B.named
  have hlocks := B.notSynchronized
  have hnm : meth.name = mi.1.name := (name_of_methodNamed B.named B.method).1
  have hl := lv_entry as (n := mi.2.2.1) hn
  rw [lg_entry_eq]
  generalize (lg_sl as ++ List.replicate (mi.2.2.1 - (lg_sl as).length) Slot.unset).toArray = ls at hl ⊢
  refine body (fun H locs ls pc st cells slots => va_S (nA q) s.heap H locs → W p q.1 e _ s m _ below meth c H locs cells slots _ (F0 m pc ls st)) ⟨p, e, _, s, m, _, below, meth, c, _, rfl, hx, hb, hml, hown, hts, hK, hX, fun h => hnm.trans (hin h), by rw [hP.1]; exact Nat.le_add_right _ _, Nat.le_refl _, Nat.le_refl _, Nat.le_refl _, Nat.le_refl _⟩ ?_ s.heap [] ls hP hl va_S.rf
  intro pc lv dg H locs ls hP hl hS
  exact W.vret hx hb hrt (fun t ht hW => ⟨⟨(), rfl, trivial, by show NP q en' cnt' t.heap; rw [ht]; exact hP⟩, hS.F ht⟩) hS.2.2 dg
theorem n_callIN (B : Nx q K cc nL R_Lo d C S ini) {mi : MI} {d1 C1 S1 idx a : Nat} {en' : Nat → va_E} {cnt' : Nat} (T : TerN q d1 C1 S1 mi [.ref a] en cnt en' cnt') (dg : decode cc pc = .ok (.invokespecial idx, 3)) (hN : (idx, mi.1) ∈ NT) (hi0 : Cond.instanceMethod mi.1 ∈ lw_tbl) (hn0 : Cond.initialized mi.1.cls ∈ lw_tbl) (hc0 : Cond.code mi.1 mi.2.1 mi.2.2.1 mi.2.2.2 ∈ lw_tbl) (hr : mi.2.2.2 = none) (h6 : mi.1.name = "<init>" ∧ mi.1.cls ≠ "java/lang/invoke/MethodHandle" ∧ mi.1.cls ≠ "java/lang/invoke/VarHandle" ∧ (parseMethodDescriptor mi.1.desc).map (fun d => d.parameters.length) = some 0) (hd : d1 + 1 ≤ d) (hm : mi.2.2.1 ≤ 21) (hcat : (st.map fun v => v.category).sum ≤ 8) (hC : cells + C1 ≤ C) (hS0 : slots + S1 ≤ S) (k : NW q K nL (pc + 3) lv st en' cnt' (cells + C1) (slots + S1)) : NW q K nL pc lv (.ref a :: st) en cnt cells slots := by
  obtain ⟨p, e, R, s, m, args, below, meth, c, Q, rfl, hx, hb, hml, hown, hts, hK, hX, hin, hz, hR1, hR2, hR3, hR4⟩ := B
  intro H locs ls hP hl hS
  have cw : va_CN R s args R_Lo idx mi.1 R_Lo mi.2.1 mi.2.2.1 none (wsM mi) { frames := d1, cells := C1, slots := S1, locals := 40 * d1 } C1 S1 0 ∧ mi.1.name = "<init>" ∧ (Cond.instanceMethod mi.1).before args s = true := ⟨va_cnB (ws' := GT) 0 hts (wsM_good hc0) (by show Cond.code mi.1 mi.2.1 mi.2.2.1 mi.2.2.2 :: GT = _; rw [hr]) rfl rfl (hX.2.2.2 _ hN) (hts _ (inG hn0 rfl)) h6.2 ⟨by show d1 + 1 ≤ _; omega, by show 8 + (_ + 11) + 40 * d1 ≤ _; omega⟩, h6.1, hts _ (inG hi0 rfl)⟩
  exact va_callv (va_runIN (As := []) (rest := st) (b := a) ⟨hx, hb, hml, hown, hts⟩ T cw ⟨preN_blind, fun U hU hW => ⟨rfl, by rw [hU]; exact hP, va_K.moved hW.alike hK, xN_warm hW hX⟩⟩ rfl rfl hl.1 rfl (lv_room hcat) dg ⟨by omega, by omega⟩) hS (fun x _ h => h) (fun x h => h) (fun u t H1 locs1 ht hvm hw hB hz1 hk1 hS1 => k H1 locs1 ls (by rw [← ht]; exact hB) hl hS1)
theorem n_callI (B : Nx q K cc nL own d C S ini) {mi : MI} {d1 C1 S1 idx a : Nat} {en' : Nat → va_E} {cnt' : Nat} (T : TerN q d1 C1 S1 mi [.ref a] en cnt en' cnt') (dg : decode cc pc = .ok (.invokespecial idx, 3)) (hl0 : Cond.methodLink own idx mi.1 ∈ lw_tbl) (hi0 : Cond.instanceMethod mi.1 ∈ lw_tbl) (hn0 : Cond.initialized mi.1.cls ∈ lw_tbl) (hc0 : Cond.code mi.1 mi.2.1 mi.2.2.1 mi.2.2.2 ∈ lw_tbl) (hr : mi.2.2.2 = none) (h6 : mi.1.name = "<init>" ∧ mi.1.cls ≠ "java/lang/invoke/MethodHandle" ∧ mi.1.cls ≠ "java/lang/invoke/VarHandle" ∧ (parseMethodDescriptor mi.1.desc).map (fun d => d.parameters.length) = some 0) (hd : d1 + 1 ≤ d) (hm : mi.2.2.1 ≤ 21) (hcat : (st.map fun v => v.category).sum ≤ 8) (hC : cells + C1 ≤ C) (hS0 : slots + S1 ≤ S) (k : NW q K nL (pc + 3) lv st en' cnt' (cells + C1) (slots + S1)) : NW q K nL pc lv (.ref a :: st) en cnt cells slots := by
  obtain ⟨p, e, R, s, m, args, below, meth, c, Q, rfl, hx, hb, hml, hown, hts, hK, hX, hin, hz, hR1, hR2, hR3, hR4⟩ := B
  intro H locs ls hP hl hS
  have cw := cwI (R := R) (own := own) (index := idx) (y := mi.1) (bytes := mi.2.1) (maxL := mi.2.2.1) (ws := wsM mi) (rm := { frames := d1, cells := C1, slots := S1, locals := 40 * d1 }) (mc := C1) (ms := S1) (ws' := GT) 0 hts (wsM_good hc0) (by show Cond.code mi.1 mi.2.1 mi.2.2.1 mi.2.2.2 :: GT = _; rw [hr]) rfl rfl (hts _ (inG hn0 rfl)) (hts _ (inG hl0 rfl)) (hts _ (inG hi0 rfl)) h6.1 h6.2 ⟨by show d1 + 1 ≤ _; omega, by show 8 + (_ + 11) + 40 * d1 ≤ _; omega⟩
  exact va_callv (va_runI (As := []) (rest := st) (b := a) ⟨hx, hb, hml, hown, hts⟩ T cw ⟨preN_blind, fun U hU hW => ⟨rfl, by rw [hU]; exact hP, va_K.moved hW.alike hK, xN_warm hW hX⟩⟩ rfl rfl hl.1 rfl (lv_room hcat) dg ⟨by omega, by omega⟩) hS (fun x _ h => h) (fun x h => h) (fun u t H1 locs1 ht hvm hw hB hz1 hk1 hS1 => k H1 locs1 ls (by rw [← ht]; exact hB) hl hS1)
theorem n_callS (B : Nx q K cc nL own d C S ini) {mi : MI} {d1 n idx : Nat} {as : List Value} {en' : Nat → va_E} {cnt' : Nat} (T : TerN q d1 0 0 mi as en cnt en' cnt') (dg : decode cc pc = .ok (.invokestatic idx, 3)) (hok : okS mi n) (ml : Cond.methodLink own idx mi.1 ∈ lw_tbl) (hlen : as.length = n) (hd : d1 + 1 ≤ d) (hm : mi.2.2.1 ≤ 21) {st0 : List Value} (hst : st0 = as.reverse ++ st) (hcat : (st.map fun v => v.category).sum ≤ 8) (hC : cells ≤ C) (hS0 : slots ≤ S) (k : NW q K nL (pc + 3) lv st en' cnt' cells slots) : NW q K nL pc lv st0 en cnt cells slots := by
  obtain ⟨p, e, R, s, m, args, below, meth, c, Q, rfl, hx, hb, hml, hown, hts, hK, hX, hin, hz, hR1, hR2, hR3, hR4⟩ := B
  intro H locs ls hP hl hS
  obtain ⟨o1, o3, o4, o6⟩ := hok
  have cw : CallB R s args own idx mi.1 mi.2.1 mi.2.2.1 mi.2.2.2 (wsM mi) { frames := d1, cells := 0, slots := 0, locals := 40 * d1 } 0 0 n ∧ (Cond.static mi.1).before args s = true := ⟨callB_of n hts (wsM_good o4) rfl rfl rfl (hts _ (inG o3 rfl)) (hts _ (inG ml rfl)) o6 ⟨by show d1 + 1 ≤ _; omega, by show 8 + (_ + 11) + 40 * d1 ≤ _; omega⟩, hts _ (inG o1 rfl)⟩
  exact va_callv (va_runS (As := as) (rest := st) ⟨hx, hb, hml, hown, hts⟩ T cw ⟨preN_blind, fun U hU hW => ⟨rfl, by rw [hU]; exact hP, va_K.moved hW.alike hK, xN_warm hW hX⟩⟩ rfl hlen hl.1 hst (lv_room hcat) dg ⟨by omega, by omega⟩) hS (fun x _ h => h) (fun x h => h) (fun u t H1 locs1 ht hvm hw hB hz1 hk1 hS1 => k H1 locs1 ls (by rw [← ht]; exact hB) hl hS1)
theorem n_alen (B : Nx q K cc nL own d C S ini) {i N : Nat} {f : Nat → Int32} (hi : i < cnt) (he : en i = .inl (q.2.2.2 0, N, .inl f)) (dg : decode cc pc = .ok (.arraylength, 1)) (k : NW q K nL (pc + 1) lv (.int (nI N) :: st) en cnt cells slots) : NW q K nL pc lv (.ref (q.2.2.1 + i) :: st) en cnt cells slots := by
  obtain ⟨p, e, R, s, m, args, below, meth, c, Q, rfl, hx, hb, hml, hown, hts, hK, hX, hin, hz, hR⟩ := B
  intro H locs ls hP hl hS
  have h1 := NP_one hP hi
  rw [he] at h1
  exact va_alen hx hb hK h1 0 0 rfl rfl rfl dg (k H locs ls hP hl hS)
theorem n_iast (B : Nx q K cc nL own d C S ini) {i N n : Nat} {x : Int32} {f : Nat → Int32} (hi : i < cnt) (he : en i = .inl (q.2.2.2 0, N, .inl f)) (hn : n < N) (hN : N < 2 ^ 31) (dg : decode cc pc = .ok (.iastore, 1)) (k : NW q K nL (pc + 1) lv st (va_up en i (.inl (q.2.2.2 0, N, .inl (upd f n x)))) cnt cells slots) : NW q K nL pc lv (.int x :: .int (nI n) :: .ref (q.2.2.1 + i) :: st) en cnt cells slots := by
  obtain ⟨p, e, R, s, m, args, below, meth, c, Q, rfl, hx, hb, hml, hown, hts, hK, hX, hin, hz, hR⟩ := B
  intro H locs ls hP hl hS
  have hA := hP.2 i hi
  rw [he] at hA
  have hA : H[q.2.2.1 + i]? = some (vp_cell (q.2.2.2 0) (N, .inl f)) := hA
  have hv : vp_in (nI n) N := vp_in_nI hn (by omega)
  refine W.iast hx hb hA ((hK.2 0 _ rfl).1 N (fun j => .int (f j))) (fun z => by cases z) (by rw [vp_cell_i, arrV_size]; exact hv) rfl rfl dg (fun H1 e1 e2 e3 => ?_)
  refine k H1 _ ls (NP_set hP e2 e3 ?_) hl (hS.put e2 e3 (Nat.le_add_right _ _))
  show H1[q.2.2.1 + i]? = some (vp_cell _ _)
  rw [e1, vp_cell_i, vp_cell_i, arrV_store, nI_clamp (by omega)]
  congr 2
  funext y
  by_cases hy : y = n
  · subst hy; simp [updV, upd]
  · simp [updV, upd, hy]
theorem n_eq {en2 : Nat → va_E} (h : en = en2) (k : NW q K nL pc lv st en2 cnt cells slots) : NW q K nL pc lv st en cnt cells slots := h ▸ k
theorem NP_mul {H H1 : Heap} {N : Nat} {eo ei : va_E} (h : NP q en cnt H) (z : H1.size = H.size + 1 + N) (o : ∀ x, x < H.size → H1[x]? = H[x]?) (h0 : va_at q.2.1 cls8 (q.2.2.1 + cnt, eo) H1) (h1 : ∀ j, j < N → va_at q.2.1 cls8 (q.2.2.1 + (cnt + 1 + j), ei) H1) : NP q (mulE en cnt N eo ei) (cnt + 1 + N) H1 := by
  refine ⟨by rw [z, h.1]; omega, fun i hi => ?_⟩
  unfold mulE
  by_cases e9 : i = cnt
  · rw [if_pos e9, e9]; exact h0
  · rw [if_neg e9]
    by_cases e8 : cnt < i ∧ i ≤ cnt + N
    · rw [if_pos e8]
      have := h1 (i - (cnt + 1)) (by omega)
      rw [show cnt + 1 + (i - (cnt + 1)) = i by omega] at this
      exact this
    · rw [if_neg e8]
      exact (h.2 i (by omega)).kept (o _ (by have := h.1; show q.2.2.1 + i < _; omega))
theorem nS_mul {H0 H H1 : Heap} {locs : List Loc} {N a : Nat} (hS : va_S (nA q) H0 H locs) (ha : nA q a) (z : H1.size = H.size + 1 + N) (o : ∀ x, x < H.size → H1[x]? = H[x]?) : va_S (nA q) H0 H1 (locs ++ (List.range N).map (fun j => ⟨a, j⟩)) := ⟨by have := hS.1; omega, fun x h1 h2 => (o x (by have := hS.1; omega)).trans (hS.2.1 x h1 h2), fun l9 hl9 => by
  rcases List.mem_append.mp hl9 with h | h
  · exact hS.2.2 l9 h
  · obtain ⟨j, -, rfl⟩ := List.mem_map.mp h
    exact ha⟩
theorem ref_cell (cA : ClassId) (N a h : Nat) (e : h + 1 = a) : mC cA N h N = vp_cell cA (N, .inr (.inr (.inr (.inr (fun x => if x < N then some (a + x) else none))))) := by
  rw [vp_cell_q]
  unfold mC
  congr 1
  funext x
  by_cases hx : x < N
  · rw [if_pos hx, if_pos hx, e]; rfl
  · rw [if_neg hx, if_neg hx]; rfl
theorem n_multiI (B : Nx q K cc nL own d C S ini) {n m9 : Int32} {N M idx : Nat} (hl0 : Cond.classLink own idx "[[I" ∈ lw_tbl) (dg : decode cc pc = .ok (.multianewarray idx 2, 4)) (hn : ¬ n < 0) (hn0 : (n == 0) = false) (hm : ¬ m9 < 0) (hN : n.toNatClampNeg = N) (hM : m9.toNatClampNeg = M) (hs : N ≤ 10000) (hs2 : M ≤ 10000) (hC : cells + (1 + N) ≤ C) (hS0 : slots + (N + N * M) ≤ S) (k : NW q K nL (pc + 4) lv (.ref (q.2.2.1 + cnt) :: st) (mulE en cnt N (refE (q.2.2.2 4) N (q.2.2.1 + cnt + 1)) (.inl (q.2.2.2 0, M, .inl (fun _ => 0)))) (cnt + 1 + N) (cells + 1 + N) (slots + N + N * M)) : NW q K nL pc lv (.int m9 :: .int n :: st) en cnt cells slots := by
  obtain ⟨p, e, R, s, m, args, below, meth, c, Q, rfl, hx, hb, hml, hown, hts, hK, hX, hin, hz, hR1, hR2, hR3, hR4⟩ := B
  intro H locs ls hP hl hS
  subst hN; subst hM
  obtain ⟨kA, ha1, ha2⟩ := hX.1
  obtain ⟨-, kI, hi1, comp, hi2⟩ := (hK.2 0 _ rfl).1 0 (fun _ => .null)
  refine W_multi (t := .int) hx hb hown (hts _ (inG hl0 rfl)) ((hK.2 4 _ rfl).2) ha1 ha2 hi1 hi2 rfl dg rfl hn hn0 hm (by omega) (by show _ * 4 ≤ _; omega) (by omega) (by omega) (by omega) (fun H1 z1 e1 o1 i1 => ?_)
  have k9 := k H1 _ ls (NP_mul hP z1 o1 (by show H1[q.2.2.1 + cnt]? = some (vp_cell _ _); rw [← ref_cell (q.2.2.2 4) n.toNatClampNeg (q.2.2.1 + cnt + 1) (q.2.2.1 + cnt) rfl, ← hP.1]; exact e1) (fun j hj => by show H1[q.2.2.1 + (cnt + 1 + j)]? = some (vp_cell _ _); rw [vp_cell_i, show q.2.2.1 + (cnt + 1 + j) = H.size + 1 + j by rw [hP.1]; omega]; exact i1 j hj)) hl (nS_mul hS (show nA q H.size by rw [hP.1]; exact Nat.le_add_right _ _) z1 o1)
  rw [← hP.1] at k9
  exact k9
theorem n_multiL (B : Nx q K cc nL own d C S ini) {n m9 : Int32} {N M idx : Nat} (hl0 : Cond.classLink own idx "[[J" ∈ lw_tbl) (dg : decode cc pc = .ok (.multianewarray idx 2, 4)) (hn : ¬ n < 0) (hn0 : (n == 0) = false) (hm : ¬ m9 < 0) (hN : n.toNatClampNeg = N) (hM : m9.toNatClampNeg = M) (hs : N ≤ 10000) (hs2 : M ≤ 10000) (hC : cells + (1 + N) ≤ C) (hS0 : slots + (N + N * M) ≤ S) (k : NW q K nL (pc + 4) lv (.ref (q.2.2.1 + cnt) :: st) (mulE en cnt N (refE (q.2.2.2 5) N (q.2.2.1 + cnt + 1)) (.inl (q.2.2.2 2, M, .inr (.inl (fun _ => 0))))) (cnt + 1 + N) (cells + 1 + N) (slots + N + N * M)) : NW q K nL pc lv (.int m9 :: .int n :: st) en cnt cells slots := by
  obtain ⟨p, e, R, s, m, args, below, meth, c, Q, rfl, hx, hb, hml, hown, hts, hK, hX, hin, hz, hR1, hR2, hR3, hR4⟩ := B
  intro H locs ls hP hl hS
  subst hN; subst hM
  obtain ⟨kA, ha1, ha2⟩ := hX.2.1
  obtain ⟨-, kI, hi1, comp, hi2⟩ := (hK.2 2 _ rfl).1 0 (fun _ => .null)
  refine W_multi (t := .long) hx hb hown (hts _ (inG hl0 rfl)) ((hK.2 5 _ rfl).2) ha1 ha2 hi1 hi2 rfl dg rfl hn hn0 hm (by omega) (by show _ * 8 ≤ _; omega) (by omega) (by omega) (by omega) (fun H1 z1 e1 o1 i1 => ?_)
  have k9 := k H1 _ ls (NP_mul hP z1 o1 (by show H1[q.2.2.1 + cnt]? = some (vp_cell _ _); rw [← ref_cell (q.2.2.2 5) n.toNatClampNeg (q.2.2.1 + cnt + 1) (q.2.2.1 + cnt) rfl, ← hP.1]; exact e1) (fun j hj => by show H1[q.2.2.1 + (cnt + 1 + j)]? = some (vp_cell _ _); rw [vp_cell_l, show q.2.2.1 + (cnt + 1 + j) = H.size + 1 + j by rw [hP.1]; omega]; exact i1 j hj)) hl (nS_mul hS (show nA q H.size by rw [hP.1]; exact Nat.le_add_right _ _) z1 o1)
  rw [← hP.1] at k9
  exact k9
end NCALL
theorem t_N_fill {q : NG} {i N cnt : Nat} {f : Nat → Int32} {en : Nat → va_E} (v : Int32) (hi : i < cnt) (he : en i = .inl (q.2.2.2 0, N, .inl f)) (hN : N < 2 ^ 31) : TerN q 0 0 0 m_Ar_fill_IIV [.ref (q.2.2.1 + i), .int v] en cnt (va_up en i (.inl (q.2.2.2 0, N, .inl (fillF f N v)))) cnt := by
  refine TerN.mk (ini := false) (by decide +kernel) rfl (Nat.le_of_ble_eq_true rfl) (fun h => by cases h) (fun K B Rt => ?_)
  have B : Nx q K prog_12_method_103_code 4 "java/util/Arrays" 0 0 0 false := B
  show NW q K 4 0 [(0, .ref (q.2.2.1 + i)), (1, .int v)] [] en cnt 0 0
  refine n_iconst B d_Ar_fill_IIV_0 ci_0 ?_
  refine n_istore (lv1 := [(2, .int (nI 0)), (0, .ref (q.2.2.1 + i)), (1, .int v)]) B d_Ar_fill_IIV_1 (by decide) rfl ?_
  refine n_aload B 1 d_Ar_fill_IIV_2 rfl ?_
  refine n_alen B hi he d_Ar_fill_IIV_3 ?_
  refine n_istore (lv1 := [(3, .int (nI N)), (2, .int (nI 0)), (0, .ref (q.2.2.1 + i)), (1, .int v)]) B d_Ar_fill_IIV_4 (by decide) rfl ?_
  have e0 : en = va_up en i (.inl (q.2.2.2 0, N, .inl (fillF f 0 v))) := by
    funext x
    by_cases h : x = i
    · rw [h, va_up_s, he, fillF_0]
    · rw [va_up_o h]
  refine n_eq e0 ?_
  have key : ∀ k j, k + j = N → ∀ lv1, (lv1 = [(3, .int (nI N)), (2, .int (nI j)), (0, .ref (q.2.2.1 + i)), (1, .int v)] ∨ lv1 = [(2, .int (nI j)), (3, .int (nI N)), (0, .ref (q.2.2.1 + i)), (1, .int v)]) → NW q K 4 5 lv1 [] (va_up en i (.inl (q.2.2.2 0, N, .inl (fillF f j v)))) cnt 0 0 := by
    intro k
    induction k with
    | zero =>
      intro j hj lv1 hlv
      have hj : j = N := by omega
      subst hj
      rcases hlv with rfl | rfl
      · refine n_iload B 1 d_Ar_fill_IIV_5 rfl ?_
        refine n_iload B 0 d_Ar_fill_IIV_6 rfl ?_
        refine n_icmp_ge B 20 d_Ar_fill_IIV_7 rfl (fun _ => ?_) (fun c9 => absurd (Int32.le_refl _) c9)
        exact Rt _ _ d_Ar_fill_IIV_20
      · refine n_iload B 0 d_Ar_fill_IIV_5 rfl ?_
        refine n_iload B 1 d_Ar_fill_IIV_6 rfl ?_
        refine n_icmp_ge B 20 d_Ar_fill_IIV_7 rfl (fun _ => ?_) (fun c9 => absurd (Int32.le_refl _) c9)
        exact Rt _ _ d_Ar_fill_IIV_20
    | succ k ih =>
      intro j hj lv1 hlv
      have hlt : j < N := by omega
      have fin_ : ∀ lv2, (lv2 = [(3, .int (nI N)), (2, .int (nI j)), (0, .ref (q.2.2.1 + i)), (1, .int v)] ∨ lv2 = [(2, .int (nI j)), (3, .int (nI N)), (0, .ref (q.2.2.1 + i)), (1, .int v)]) → NW q K 4 10 lv2 [] (va_up en i (.inl (q.2.2.2 0, N, .inl (fillF f j v)))) cnt 0 0 := by
        intro lv2 hlv2
        have e1 : va_up (va_up en i (.inl (q.2.2.2 0, N, .inl (fillF f j v)))) i (.inl (q.2.2.2 0, N, .inl (upd (fillF f j v) j v))) = va_up en i (.inl (q.2.2.2 0, N, .inl (fillF f (j + 1) v))) := by
          rw [fillF_upd]
          funext x
          by_cases h : x = i
          · rw [h, va_up_s, va_up_s]
          · rw [va_up_o h, va_up_o h, va_up_o h]
        rcases hlv2 with rfl | rfl
        · refine n_aload B 2 d_Ar_fill_IIV_10 rfl ?_
          refine n_iload B 1 d_Ar_fill_IIV_11 rfl ?_
          refine n_iload B 3 d_Ar_fill_IIV_12 rfl ?_
          refine n_iast B hi va_up_s hlt hN d_Ar_fill_IIV_13 ?_
          refine n_eq e1 ?_
          refine n_iinc (lv1 := [(2, .int (nI (j + 1))), (3, .int (nI N)), (0, .ref (q.2.2.1 + i)), (1, .int v)]) B 1 d_Ar_fill_IIV_14 rfl (by rw [ci_1, nI_ad]) (by decide) rfl ?_
          refine n_goto B 5 d_Ar_fill_IIV_17 rfl ?_
          exact ih (j + 1) (by omega) _ (Or.inr rfl)
        · refine n_aload B 2 d_Ar_fill_IIV_10 rfl ?_
          refine n_iload B 0 d_Ar_fill_IIV_11 rfl ?_
          refine n_iload B 3 d_Ar_fill_IIV_12 rfl ?_
          refine n_iast B hi va_up_s hlt hN d_Ar_fill_IIV_13 ?_
          refine n_eq e1 ?_
          refine n_iinc (lv1 := [(2, .int (nI (j + 1))), (3, .int (nI N)), (0, .ref (q.2.2.1 + i)), (1, .int v)]) B 0 d_Ar_fill_IIV_14 rfl (by rw [ci_1, nI_ad]) (by decide) rfl ?_
          refine n_goto B 5 d_Ar_fill_IIV_17 rfl ?_
          exact ih (j + 1) (by omega) _ (Or.inr rfl)
      rcases hlv with rfl | rfl
      · refine n_iload B 1 d_Ar_fill_IIV_5 rfl ?_
        refine n_iload B 0 d_Ar_fill_IIV_6 rfl ?_
        refine n_icmp_ge B 20 d_Ar_fill_IIV_7 rfl (fun c9 => absurd ((nI_le' hN (by omega)).mp c9) (by omega)) (fun _ => ?_)
        exact fin_ _ (Or.inl rfl)
      · refine n_iload B 0 d_Ar_fill_IIV_5 rfl ?_
        refine n_iload B 1 d_Ar_fill_IIV_6 rfl ?_
        refine n_icmp_ge B 20 d_Ar_fill_IIV_7 rfl (fun c9 => absurd ((nI_le' hN (by omega)).mp c9) (by omega)) (fun _ => ?_)
        exact fin_ _ (Or.inr rfl)
  exact key N 0 (by omega) _ (Or.inl rfl)
