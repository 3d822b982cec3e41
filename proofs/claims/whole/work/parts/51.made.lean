/-! making: the cells by the order in which they come -/
/-- the launch, the classes' numbers, the first address, the array classes -/
abbrev NG : Type := Launch × va_G × Nat × (Nat → ClassId)
def nA (q : NG) : Nat → Prop := fun a => q.2.2.1 ≤ a
def tyN (q : NG) : List (ClassId × FieldType) := [(q.2.2.2 0, .int), (q.2.2.2 1, .boolean), (q.2.2.2 2, .long), (q.2.2.2 3, .object R_Tr), (q.2.2.2 4, .array .int), (q.2.2.2 5, .array .long)]
def NT : List (Nat × MethodName) := [(11, m_Ro_init.1), (22, m_Tr_init.1), (25, m_Mk_init.1), (32, m_Bt_init.1), (39, m_Ax_init.1), (46, m_Fi_init.1)]
def xN (q : NG) (U : State) : Prop := (∃ k : Class, U.vm.classes[q.2.2.2 4]? = some k ∧ k.kind = .array (q.2.2.2 0) (.array .int)) ∧ (∃ k : Class, U.vm.classes[q.2.2.2 5]? = some k ∧ k.kind = .array (q.2.2.2 2) (.array .long)) ∧ va_AO R_Tr U ∧ ∀ w ∈ NT, va_Nw (.methodLinkNest R_Lo w.1 w.2 R_Lo) U
theorem xN_warm {q : NG} {u U : State} (hW : u.WarmedH U.vm) (h : xN q u) : xN q U := by
  obtain ⟨⟨k1, a1, b1⟩, ⟨k2, a2, b2⟩, h3, h4⟩ := h
  obtain ⟨k1', c1, e1⟩ := hW.alike.2.2 _ _ a1
  obtain ⟨k2', c2, e2⟩ := hW.alike.2.2 _ _ a2
  exact ⟨⟨k1', c1, by rw [e1]; exact b1⟩, ⟨k2', c2, by rw [e2]; exact b2⟩, va_AO.moved hW.alike h3, fun w hw => va_Nw.warmM hW (h4 w hw)⟩
theorem xN_same {q : NG} {u U : State} (e : u.vm = U.vm) (h : xN q u) : xN q U := by
  obtain ⟨h1, h2, h3, h4⟩ := h
  exact ⟨by rw [← e]; exact h1, by rw [← e]; exact h2, va_AO.moved (by rw [← e]; exact Vm.Alike.refl u.vm) h3, fun w hw => va_Nw.same rfl e (h4 w hw)⟩
def NP (q : NG) (en : Nat → va_E) (cnt : Nat) (H : Heap) : Prop := H.size = q.2.2.1 + cnt ∧ ∀ i, i < cnt → va_at q.2.1 cls8 (q.2.2.1 + i, en i) H
theorem NP_push {q : NG} {en : Nat → va_E} {cnt : Nat} {H H1 : Heap} {e : va_E} (h : NP q en cnt H) (z : H1.size = H.size + 1) (o : ∀ x, x < H.size → H1[x]? = H[x]?) (hn : va_at q.2.1 cls8 (q.2.2.1 + cnt, e) H1) : NP q (va_up en cnt e) (cnt + 1) H1 := by
  refine ⟨by rw [z, h.1]; omega, fun i hi => ?_⟩
  by_cases e9 : i = cnt
  · rw [e9, va_up_s]; exact hn
  · rw [va_up_o e9]
    exact (h.2 i (by omega)).kept (o _ (by have := h.1; show q.2.2.1 + i < _; omega))
theorem NP_set {q : NG} {en : Nat → va_E} {cnt i : Nat} {H H1 : Heap} {e : va_E} (h : NP q en cnt H) (z : H1.size = H.size) (o : ∀ x, x ≠ q.2.2.1 + i → H1[x]? = H[x]?) (hn : va_at q.2.1 cls8 (q.2.2.1 + i, e) H1) : NP q (va_up en i e) cnt H1 := by
  refine ⟨by rw [z, h.1], fun j hj => ?_⟩
  by_cases e9 : j = i
  · rw [e9, va_up_s]; exact hn
  · rw [va_up_o e9]
    exact (h.2 j hj).kept (o _ (by show q.2.2.1 + j ≠ _; omega))
theorem NP_one {q : NG} {en : Nat → va_E} {cnt i : Nat} {H : Heap} (h : NP q en cnt H) (hi : i < cnt) : va_P q.2.1 cls8 [(q.2.2.1 + i, en i)] H := fun k x hk => by
  have hz : k < 1 := (List.getElem?_eq_some_iff.mp hk).1
  rw [show k = 0 by omega] at hk
  cases hk
  exact h.2 i hi
abbrev NK : Type := Heap → List Loc → Array Slot → Nat → List Value → Nat → Nat → Prop
def Nx (q : NG) (K : NK) (cc : ByteArray) (nL : Nat) (own : String) (d C S : Nat) (ini : Bool) : Prop :=
  ∃ (p : Program) (e : Env) (R : Room) (s : State) (m : MethodId) (args : Array Value) (below : List Frame) (meth : Method) (c : Code) (Q : State → Prop),
    K = (fun H locs ls pc st cells slots => va_S (nA q) s.heap H locs → W p q.1 e R s m args below meth c H locs cells slots Q (F0 m pc ls st)) ∧
    p.tables.exec = Jvm.exec ∧ c.code = cc ∧ c.maxLocals = nL ∧ s.vm.findClass own = some m.cls ∧ (∀ w ∈ GT, w.before args s = true) ∧ va_K q.2.1 cls8 (tyN q) s ∧ xN q s ∧ (ini = true → meth.name = "<init>") ∧ q.2.2.1 ≤ s.heap.size ∧ d ≤ R.frames ∧ 40 * d ≤ R.locals ∧ C ≤ R.cells ∧ S ≤ R.slots
def NW (q : NG) (K : NK) (nL pc : Nat) (lv : List (Nat × Value)) (st : List Value) (en : Nat → va_E) (cnt cells slots : Nat) : Prop :=
  ∀ (H : Heap) (locs : List Loc) (ls : Array Slot), NP q en cnt H → lv_has ls nL lv → K H locs ls pc st cells slots
theorem nS_push {q : NG} {H0 H H1 : Heap} {locs : List Loc} (hS : va_S (nA q) H0 H locs) (z : H1.size = H.size + 1) (o : ∀ x, x < H.size → H1[x]? = H[x]?) : va_S (nA q) H0 H1 locs := ⟨by have := hS.1; omega, fun x h1 h2 => (o x (by have := hS.1; omega)).trans (hS.2.1 x h1 h2), hS.2.2⟩
theorem inU {C : String} {T : u_T} {N : Nat} (hin : ∀ w ∈ u_ws C T N, w ∈ lw_tbl) : ∀ w ∈ u_ws C T N, w ∈ GT := fun w hw => inG (hin w hw) (by obtain ⟨k0, -, rfl⟩ := List.mem_map.mp hw; unfold u_lay; split <;> rfl)
section NROW
variable {q : NG} {K : NK} {cc : ByteArray} {nL : Nat} {own : String} {d C S : Nat} {ini : Bool} {pc : Nat} {lv : List (Nat × Value)} {st : List Value} {en : Nat → va_E} {cnt cells slots : Nat}
theorem n_aload (B : Nx q K cc nL own d C S ini) {n : Fin 4} {a : Nat} (i : Nat) (dg : decode cc pc = .ok (.aload_n n, 1)) (h : lv[i]? = some ((n : Nat), .ref a)) (k : NW q K nL (pc + 1) lv (.ref a :: st) en cnt cells slots) : NW q K nL pc lv st en cnt cells slots := by
  obtain ⟨p, e, R, s, m, args, below, meth, c, Q, rfl, hx, hb, hml, hown, hts, hK, hX, hin, hz, hR⟩ := B
  intro H locs ls hP hl hS
  exact lv_aload_n hx hb dg rfl (lv_at hl i h) (k H locs ls hP hl hS)
theorem n_iload (B : Nx q K cc nL own d C S ini) {n : Fin 4} {x : Int32} (i : Nat) (dg : decode cc pc = .ok (.iload_n n, 1)) (h : lv[i]? = some ((n : Nat), .int x)) (k : NW q K nL (pc + 1) lv (.int x :: st) en cnt cells slots) : NW q K nL pc lv st en cnt cells slots := by
  obtain ⟨p, e, R, s, m, args, below, meth, c, Q, rfl, hx, hb, hml, hown, hts, hK, hX, hin, hz, hR⟩ := B
  intro H locs ls hP hl hS
  exact lv_iload_n hx hb dg rfl (lv_at hl i h) (k H locs ls hP hl hS)
theorem n_istore (B : Nx q K cc nL own d C S ini) {n : Fin 4} {x : Int32} {lv1 : List (Nat × Value)} (dg : decode cc pc = .ok (.istore_n n, 1)) (hn : (n : Nat) < nL) (h : ((n : Nat), Value.int x) :: lv.filter (fun q => !(q.1 == (n : Nat)) && !(q.1 + 1 == (n : Nat) && q.2.category == 2)) = lv1) (k : NW q K nL (pc + 1) lv1 st en cnt cells slots) : NW q K nL pc lv (.int x :: st) en cnt cells slots := by
  obtain ⟨p, e, R, s, m, args, below, meth, c, Q, rfl, hx, hb, hml, hown, hts, hK, hX, hin, hz, hR⟩ := B
  intro H locs ls hP hl hS
  exact lv_istore_n hx hb dg rfl hl hn rfl (fun ls h9 => k H locs ls hP (h ▸ h9) hS)
theorem n_astore (B : Nx q K cc nL own d C S ini) {n : Fin 4} {a : Nat} {lv1 : List (Nat × Value)} (dg : decode cc pc = .ok (.astore_n n, 1)) (hn : (n : Nat) < nL) (h : ((n : Nat), Value.ref a) :: lv.filter (fun q => !(q.1 == (n : Nat)) && !(q.1 + 1 == (n : Nat) && q.2.category == 2)) = lv1) (k : NW q K nL (pc + 1) lv1 st en cnt cells slots) : NW q K nL pc lv (.ref a :: st) en cnt cells slots := by
  obtain ⟨p, e, R, s, m, args, below, meth, c, Q, rfl, hx, hb, hml, hown, hts, hK, hX, hin, hz, hR⟩ := B
  intro H locs ls hP hl hS
  exact lv_astore_n hx hb dg rfl hl hn rfl (fun ls h9 => k H locs ls hP (h ▸ h9) hS)
theorem n_iinc (B : Nx q K cc nL own d C S ini) {i : Nat} {n : Int} {x v : Int32} {lv1 : List (Nat × Value)} (j : Nat) (dg : decode cc pc = .ok (.iinc i n, 3)) (hj : lv[j]? = some (i, .int x)) (hv : x + Int32.ofInt n = v) (hn : i < nL) (h : (i, Value.int v) :: lv.filter (fun q => !(q.1 == i) && !(q.1 + 1 == i && q.2.category == 2)) = lv1) (k : NW q K nL (pc + 3) lv1 st en cnt cells slots) : NW q K nL pc lv st en cnt cells slots := by
  obtain ⟨p, e, R, s, m, args, below, meth, c, Q, rfl, hx, hb, hml, hown, hts, hK, hX, hin, hz, hR⟩ := B
  intro H locs ls hP hl hS
  exact lv_iinc hx hb dg hl hj hv hn rfl (fun ls h9 => k H locs ls hP (h ▸ h9) hS)
theorem n_iconst (B : Nx q K cc nL own d C S ini) {n : Int} {v : Int32} (dg : decode cc pc = .ok (.iconst n, 1)) (hv : Int32.ofInt n = v) (k : NW q K nL (pc + 1) lv (.int v :: st) en cnt cells slots) : NW q K nL pc lv st en cnt cells slots := by
  obtain ⟨p, e, R, s, m, args, below, meth, c, Q, rfl, hx, hb, hml, hown, hts, hK, hX, hin, hz, hR⟩ := B
  intro H locs ls hP hl hS
  exact lv_iconst hx hb dg hv (k H locs ls hP hl hS)
theorem n_bipush (B : Nx q K cc nL own d C S ini) {n : Int} {v : Int32} (dg : decode cc pc = .ok (.bipush n, 2)) (hv : (Int8.ofInt n).toInt32 = v) (k : NW q K nL (pc + 2) lv (.int v :: st) en cnt cells slots) : NW q K nL pc lv st en cnt cells slots := by
  obtain ⟨p, e, R, s, m, args, below, meth, c, Q, rfl, hx, hb, hml, hown, hts, hK, hX, hin, hz, hR⟩ := B
  intro H locs ls hP hl hS
  exact lv_bipush hx hb dg hv (k H locs ls hP hl hS)
theorem n_sipush (B : Nx q K cc nL own d C S ini) {n : Int} {v : Int32} (dg : decode cc pc = .ok (.sipush n, 3)) (hv : (Int16.ofInt n).toInt32 = v) (k : NW q K nL (pc + 3) lv (.int v :: st) en cnt cells slots) : NW q K nL pc lv st en cnt cells slots := by
  obtain ⟨p, e, R, s, m, args, below, meth, c, Q, rfl, hx, hb, hml, hown, hts, hK, hX, hin, hz, hR⟩ := B
  intro H locs ls hP hl hS
  exact lv_sipush hx hb dg hv (k H locs ls hP hl hS)
theorem n_dup (B : Nx q K cc nL own d C S ini) {a : Nat} (dg : decode cc pc = .ok (.dup, 1)) (k : NW q K nL (pc + 1) lv (.ref a :: .ref a :: st) en cnt cells slots) : NW q K nL pc lv (.ref a :: st) en cnt cells slots := by
  obtain ⟨p, e, R, s, m, args, below, meth, c, Q, rfl, hx, hb, hml, hown, hts, hK, hX, hin, hz, hR⟩ := B
  intro H locs ls hP hl hS
  exact lv_dup hx hb dg rfl (k H locs ls hP hl hS)
theorem n_icmp_ge (B : Nx q K cc nL own d C S ini) {x y : Int32} {off : Int} (tgt : Nat) (dg : decode cc pc = .ok (.if_icmp .ge off, 3)) (ht : (pc : Int) + off = (tgt : Int)) (kt : y ≤ x → NW q K nL tgt lv st en cnt cells slots) (kf : ¬ y ≤ x → NW q K nL (pc + 3) lv st en cnt cells slots) : NW q K nL pc lv (.int y :: .int x :: st) en cnt cells slots := by
  obtain ⟨p, e, R, s, m, args, below, meth, c, Q, rfl, hx, hb, hml, hown, hts, hK, hX, hin, hz, hR⟩ := B
  intro H locs ls hP hl hS
  exact lv_icmp_ge hx hb dg ht (fun h9 => kt h9 H locs ls hP hl hS) (fun h9 => kf h9 H locs ls hP hl hS)
theorem n_goto (B : Nx q K cc nL own d C S ini) {off : Int} (tgt : Nat) (dg : decode cc pc = .ok (.goto off, 3)) (ht : (pc : Int) + off = (tgt : Int)) (k : NW q K nL tgt lv st en cnt cells slots) : NW q K nL pc lv st en cnt cells slots := by
  obtain ⟨p, e, R, s, m, args, below, meth, c, Q, rfl, hx, hb, hml, hown, hts, hK, hX, hin, hz, hR⟩ := B
  intro H locs ls hP hl hS
  exact lv_goto hx hb dg ht (k H locs ls hP hl hS)
theorem n_objInit (B : Nx q K cc nL own d C S ini) {a idx : Nat} (dg : decode cc pc = .ok (.invokespecial idx, 3)) (hl0 : Cond.methodLink own idx Lib.objectInit ∈ lw_tbl) (hi0 : Cond.instanceMethod Lib.objectInit ∈ lw_tbl) (hc0 : Cond.code Lib.objectInit ⟨#[0xb1]⟩ 1 none ∈ lw_tbl) (hd : 1 ≤ d) (k : NW q K nL (pc + 3) lv [] en cnt cells slots) : NW q K nL pc lv [.ref a] en cnt cells slots := by
  obtain ⟨p, e, R, s, m, args, below, meth, c, Q, rfl, hx, hb, hml, hown, hts, hK, hX, hin, hz, hR1, hR2, hR3, hR4⟩ := B
  intro H locs ls hP hl hS
  exact W.objInit hx hb hown (hts _ (inG hl0 rfl)) (hts _ (inG hi0 rfl)) (hts _ (inG hc0 rfl)) rfl (by rw [hml]; exact hl.1) rfl dg (by omega) (by show 2 * 0 + 0 + 12 ≤ _; omega) (k H locs ls hP hl hS)
theorem n_newa (B : Nx q K cc nL own d C S ini) {at0 : ArrayType} {n : Int32} {N j : Nat} {ty : FieldType} (hty : newarray.typeOf at0 = ty) (hj : (j = 0 ∧ ty = .int) ∨ (j = 1 ∧ ty = .boolean)) (ha : Cond.arrayClass ty ∈ lw_tbl) (dg : decode cc pc = .ok (.newarray at0, 2)) (hn : ¬ n < 0) (hN : n.toNatClampNeg = N) (hs : N ≤ 10000) (hC : cells + 1 ≤ C) (hS0 : slots + N ≤ S) (k : NW q K nL (pc + 2) lv (.ref (q.2.2.1 + cnt) :: st) (va_up en cnt (.inl (q.2.2.2 j, N, .inl (fun _ => 0)))) (cnt + 1) (cells + 1) (slots + N)) : NW q K nL pc lv (.int n :: st) en cnt cells slots := by
  obtain ⟨p, e, R, s, m, args, below, meth, c, Q, rfl, hx, hb, hml, hown, hts, hK, hX, hin, hz, hR1, hR2, hR3, hR4⟩ := B
  intro H locs ls hP hl hS
  subst hty
  have hcb : componentBytes (newarray.typeOf at0) ≤ 8 := by cases at0 <;> decide
  have hmul := Nat.mul_le_mul hs hcb
  refine va_newaK hx hb (hts _ (inG ha rfl)) rfl dg rfl hn hN (by omega) (by omega) (by omega) hP.1 (fun H1 cA e1 z1 o1 hAr hNm => ?_)
  have ec : cA = q.2.2.2 j := by
    rcases hj with ⟨rfl, ht⟩ | ⟨rfl, ht⟩
    · have h9 := (hK.2 0 _ rfl).2
      rw [ht] at hNm
      exact Option.some.inj (hNm.symm.trans h9)
    · have h9 := (hK.2 1 _ rfl).2
      rw [ht] at hNm
      exact Option.some.inj (hNm.symm.trans h9)
  subst ec
  have ed : defaultValue (newarray.typeOf at0) = .int 0 := by
    rcases hj with ⟨-, ht⟩ | ⟨-, ht⟩ <;> rw [ht] <;> rfl
  rw [ed] at e1
  have hz1 : H1.size = H.size + 1 := by rw [z1, hP.1]
  have ho1 : ∀ x, x < H.size → H1[x]? = H[x]? := fun x hx => o1 x (by rw [← hP.1]; exact hx)
  exact k H1 locs ls (NP_push hP hz1 ho1 e1) hl (nS_push hS hz1 ho1)
theorem n_newo (B : Nx q K cc nL own d C S ini) {ci N idx : Nat} {Cn : String} {T : u_T} {ty : Nat → FieldType} {fs : List Value} (hc : cls8[ci]? = some (Cn, T, N)) (hin0 : ∀ w ∈ u_ws Cn T N, w ∈ lw_tbl) (hty : ∀ k, k < N → parseFieldDescriptor (T k).2.2.1 = some (ty k)) (hfs : ∀ j, j < N → defaultValue (ty j) = vp_V fs j) (hl0 : Cond.classLink own idx Cn ∈ lw_tbl) (hi0 : Cond.instantiable Cn N ∈ lw_tbl) (hn0 : Cond.initialized Cn ∈ lw_tbl) (dg : decode cc pc = .ok (.new idx, 3)) (hC : cells + 1 ≤ C) (hS0 : slots + N ≤ S) (k : NW q K nL (pc + 3) lv (.ref (q.2.2.1 + cnt) :: st) (va_up en cnt (.inr (ci, fs))) (cnt + 1) (cells + 1) (slots + N)) : NW q K nL pc lv st en cnt cells slots := by
  obtain ⟨p, e, R, s, m, args, below, meth, c, Q, rfl, hx, hb, hml, hown, hts, hK, hX, hin, hz, hR1, hR2, hR3, hR4⟩ := B
  intro H locs ls hP hl hS
  have hKn := hK.1 ci _ hc
  refine W.newcK hx hb hown (hts _ (inG hl0 rfl)) (hts _ (inG hi0 rfl)) (hts _ (inG hn0 rfl)) rfl dg (by omega) (by omega) hKn.2.1 hP.1 (fun H1 kC hkC e1 z1 o1 => ?_)
  have hz1 : H1.size = H.size + 1 := by rw [z1, hP.1]
  have ho1 : ∀ x, x < H.size → H1[x]? = H[x]? := fun x hx => o1 x (by rw [← hP.1]; exact hx)
  exact k H1 locs ls (NP_push hP hz1 ho1 ⟨_, hc, (u_born ty hts (inU hin0) hKn hkC e1 hty).to hfs⟩) hl (nS_push hS hz1 ho1)
theorem n_newq (B : Nx q K cc nL own d C S ini) {n : Int32} {N idx : Nat} (hl0 : Cond.classLink own idx R_Tr ∈ lw_tbl) (dg : decode cc pc = .ok (.anewarray idx, 3)) (hn : ¬ n < 0) (hN : n.toNatClampNeg = N) (hs : N ≤ 10000) (hC : cells + 1 ≤ C) (hS0 : slots + N ≤ S) (k : NW q K nL (pc + 3) lv (.ref (q.2.2.1 + cnt) :: st) (va_up en cnt (.inl (q.2.2.2 3, N, .inr (.inr (.inr (.inr (fun _ => none))))))) (cnt + 1) (cells + 1) (slots + N)) : NW q K nL pc lv (.int n :: st) en cnt cells slots := by
  obtain ⟨p, e, R, s, m, args, below, meth, c, Q, rfl, hx, hb, hml, hown, hts, hK, hX, hin, hz, hR1, hR2, hR3, hR4⟩ := B
  intro H locs ls hP hl hS
  subst hN
  refine W.anew hx hb hown (hts _ (inG hl0 rfl)) (va_AO.use hX.2.2.1) rfl dg rfl hn (by omega) (by omega) (by omega) (fun cA kA comp f1 f2 f3 f4 => ?_)
  obtain ⟨kB, comp2, -, -, -, g4⟩ := (hK.2 3 _ rfl).2
  have ec : cA = q.2.2.2 3 := Option.some.inj (f1.symm.trans g4)
  subst ec
  have hz1 : (H.push ({ cls := q.2.2.2 3, slots := Array.replicate n.toNatClampNeg .null, vm := .none } : Cell)).size = H.size + 1 := Array.size_push ..
  have ho1 : ∀ x, x < H.size → (H.push ({ cls := q.2.2.2 3, slots := Array.replicate n.toNatClampNeg .null, vm := .none } : Cell))[x]? = H[x]? := fun x hx => by rw [Array.getElem?_push, if_neg (Nat.ne_of_lt hx)]
  have e1 : (H.push ({ cls := q.2.2.2 3, slots := Array.replicate n.toNatClampNeg .null, vm := .none } : Cell))[q.2.2.1 + cnt]? = some (arrV (q.2.2.2 3) n.toNatClampNeg (fun _ => .null)) := by rw [← hP.1, Array.getElem?_push_size, ← arrV_new]
  have k9 := k _ locs ls (NP_push (e := .inl (q.2.2.2 3, n.toNatClampNeg, .inr (.inr (.inr (.inr (fun _ => none)))))) hP hz1 ho1 e1) hl (nS_push hS hz1 ho1)
  rw [← hP.1] at k9
  exact k9
theorem n_putF (B : Nx q K cc nL own d C S true) {i ci N j idx : Nat} {T : u_T} {ty : Nat → FieldType} {fs : List Value} {v : Value} (hi : i < cnt) (he : en i = .inr (ci, fs)) (hc : cls8[ci]? = some (own, T, N)) (hin0 : ∀ w ∈ u_ws own T N, w ∈ lw_tbl) (hty : ∀ k, k < N → parseFieldDescriptor (T k).2.2.1 = some (ty k)) (hnm : ∀ a, a < N → ∀ b, b < N → a ≠ b → (T a).2.1 ≠ (T b).2.1) (hj : j < N) (hl0 : Cond.fieldLink own idx own (T j).2.1 (T j).2.2.1 ∈ lw_tbl) (hC : (T j).1 = own) (hnr : narrow (ty j) v = v) (hft : fits (ty j) v = true) (hlen : j < fs.length) (dg : decode cc pc = .ok (.putfield idx, 3)) (k : NW q K nL (pc + 3) lv st (va_up en i (.inr (ci, fs.set j v))) cnt cells slots) : NW q K nL pc lv (v :: .ref (q.2.2.1 + i) :: st) en cnt cells slots := by
  obtain ⟨p, e, R, s, m, args, below, meth, c, Q, rfl, hx, hb, hml, hown, hts, hK, hX, hin, hz, hR1, hR2, hR3, hR4⟩ := B
  intro H locs ls hP hl hS
  have hap := va_apart (own := own) hts (inU hin0) ty hty hnm hK hc
  have h0 := hP.2 i hi
  rw [he] at h0
  obtain ⟨r, h1, cell, q1, q2, q3, q4⟩ := h0
  cases h1.symm.trans hc
  obtain ⟨hSl, hfc, kC, hkC, hkind⟩ := hK.1 ci _ hc
  obtain ⟨cf, kf, fi, f, hfi, hsl⟩ := hSl j hj
  have hld := u_lays hts (inU hin0) hj
  have hst := (u_facts hfc hkC hld hfi).1
  have h6 := u_fits hfc hkC hkind hld hfi (hty j hj) hnr hft
  have hA : nA q (q.2.2.1 + i) := Nat.le_add_right _ _
  have fin_ : ∀ H1 : Heap, H1[q.2.2.1 + i]? = some (cell.setSlot f.slot v) → H1.size = H.size → (∀ x, x ≠ q.2.2.1 + i → H1[x]? = H[x]?) → NP q (va_up en i (.inr (ci, fs.set j v))) cnt H1 := fun H1 e1 e2 e3 => NP_set hP e2 e3 ⟨_, hc, t_OB.to (V := updV (vp_V fs) j v) ⟨_, e1, q2, q3, by rw [hsl]; exact t_set q4 hap hj v⟩ (fun j9 _ => vp_updV_set hlen v j9)⟩
  by_cases hfn : (T j).2.2.2 = true
  · have hlay := hts _ (inU hin0 _ (u_in_lay hj))
    unfold u_lay at hlay
    rw [if_pos hfn] at hlay
    have hcf : m.cls = cf := by
      obtain ⟨_, _, c', _, _, _, -, -, hf', -, -, -, hown2, -⟩ := Cond.laysFinal_spec hlay
      have e1 : c' = cf := by have := hfi.symm.trans hf'; simp at this; exact this.1.symm
      rw [hC] at hown2
      rw [← e1]; exact Option.some.inj (hown.symm.trans hown2)
    refine W.putFinK hx hb hown (hts _ (inG hl0 rfl)) (by rw [← hC]; exact hfi) hst hcf (hin rfl) (by rw [q2]; exact h6) q1 q3 (by rw [hsl]; exact k2_hasslot (q4 j hj)) rfl rfl dg (fun H1 e1 e2 e3 => ?_)
    exact k H1 _ ls (fin_ H1 e1 e2 e3) hl (hS.put e2 e3 hA)
  · have hlay := hts _ (inU hin0 _ (u_in_lay hj))
    unfold u_lay at hlay
    rw [if_neg hfn] at hlay
    have h7 := u_store hfc hkC hkind hlay hfi (hty j hj) hnr hft
    refine W.putK hx hb (f := f) ⟨hown, hts _ (inG hl0 rfl), ⟨_, _, _, by rw [← hC]; exact hfi⟩, hst⟩ (by rw [q2]; exact h7) q1 q3 (by rw [hsl]; exact k2_hasslot (q4 j hj)) rfl rfl dg (fun H1 e1 e2 e3 => ?_)
    exact k H1 _ ls (fin_ H1 e1 e2 e3) hl (hS.put e2 e3 hA)
theorem n_get (B : Nx q K cc nL own d C S ini) {i ci N j idx : Nat} {T : u_T} {fs : List Value} {v : Value} (hi : i < cnt) (he : en i = .inr (ci, fs)) (hc : cls8[ci]? = some (own, T, N)) (hin0 : ∀ w ∈ u_ws own T N, w ∈ lw_tbl) (hj : j < N) (hl0 : Cond.fieldLink own idx own (T j).2.1 (T j).2.2.1 ∈ lw_tbl) (hC : (T j).1 = own) (hv : fs[j]? = some v) (dg : decode cc pc = .ok (.getfield idx, 3)) (k : NW q K nL (pc + 3) lv (v :: st) en cnt cells slots) : NW q K nL pc lv (.ref (q.2.2.1 + i) :: st) en cnt cells slots := by
  obtain ⟨p, e, R, s, m, args, below, meth, c, Q, rfl, hx, hb, hml, hown, hts, hK, hX, hin, hz, hR⟩ := B
  intro H locs ls hP hl hS
  have h1 := NP_one hP hi
  rw [he] at h1
  exact va_get hx hb hts (inU hin0) hown hK h1 0 rfl hc j hj (hts _ (inG hl0 rfl)) (fun x h => by rw [hC] at h; exact h) hv dg (k H locs ls hP hl hS)
theorem n_aast (B : Nx q K cc nL own d C S ini) {i i2 N : Nat} {x : Int32} {f : Nat → Option Nat} {fs : List Value} (hi : i < cnt) (he : en i = .inl (q.2.2.2 3, N, .inr (.inr (.inr (.inr f))))) (hi2 : i2 < cnt) (he2 : en i2 = .inr (5, fs)) (hin0 : vp_in x N) (dg : decode cc pc = .ok (.aastore, 1)) (k : NW q K nL (pc + 1) lv st (va_up en i (.inl (q.2.2.2 3, N, .inr (.inr (.inr (.inr (va_up f x.toNatClampNeg (some (q.2.2.1 + i2))))))))) cnt cells slots) : NW q K nL pc lv (.ref (q.2.2.1 + i2) :: .int x :: .ref (q.2.2.1 + i) :: st) en cnt cells slots := by
  obtain ⟨p, e, R, s, m, args, below, meth, c, Q, rfl, hx, hb, hml, hown, hts, hK, hX, hin, hz, hR⟩ := B
  intro H locs ls hP hl hS
  have hlt : x.toNatClampNeg < N := Nat.not_le.mp fun z => hin0 (Or.inr z)
  have h0 : ¬ x < 0 := fun z => hin0 (Or.inl z)
  have hA := hP.2 i hi
  rw [he] at hA
  have hA : H[q.2.2.1 + i]? = some (vp_cell (q.2.2.2 3) (N, .inr (.inr (.inr (.inr f))))) := hA
  have hO := hP.2 i2 hi2
  rw [he2] at hO
  obtain ⟨r, h1, cellV, g1, g2, g3, -⟩ := hO
  have hcls := (hK.1 5 _ rfl).2
  obtain ⟨kA, comp, k1, k2, k3, -⟩ := (hK.2 3 _ rfl).2
  have hcomp : comp = q.2.1.1 5 := Option.some.inj (k3.symm.trans hcls.1)
  subst hcomp
  obtain ⟨kC, hkC, -⟩ := hcls.2
  refine W.aast hx hb hA (fun z h => by cases h) (fun h => by cases h) k1 k2 rfl hkC ⟨h0, by rw [vp_cell_q, arrV_size]; exact hlt⟩ g1 (fun z h => by rw [g3] at h; cases h) (by rw [g2]; exact hkC) (by rw [g2]; exact va_assign hcls) rfl rfl dg (fun H1 e1 e2 e3 => ?_)
  refine k H1 _ ls (NP_set hP e2 e3 ?_) hl (hS.put e2 e3 (Nat.le_add_right _ _))
  show H1[q.2.2.1 + i]? = some (vp_cell _ _)
  rw [e1, vp_cell_q, vp_cell_q, arrV_store]
  congr 2
  funext y
  by_cases hy : y = x.toNatClampNeg
  · subst hy
    simp [updV, va_up, va_rf]
  · simp [updV, va_up, hy]
end NROW
