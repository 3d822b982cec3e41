/-! an array of arrays, made by one instruction -/
def mC (cA : ClassId) (N z i : Nat) : Cell := arrV cA N (fun j => if j < i then .ref (z + 1 + j) else .null)
def mS (T : State) (cA cI : ClassId) (N M : Nat) (dv : Value) : Nat → State
  | 0 => T.pushCell (mC cA N T.heap.size 0)
  | i + 1 => ((mS T cA cI N M dv i).pushCell (arrV cI M (fun _ => dv))).setCell T.heap.size (mC cA N T.heap.size (i + 1))
theorem mC_0 (cA : ClassId) (N z : Nat) : ({ cls := cA, slots := Array.replicate N .null, vm := .none } : Cell) = mC cA N z 0 := by
  rw [arrV_new]
  rfl
theorem mC_s (cA : ClassId) (N z i : Nat) : (mC cA N z i).setSlot i (.ref (z + 1 + i)) = mC cA N z (i + 1) := by
  unfold mC
  rw [arrV_store]
  congr 1
  funext j
  unfold updV
  by_cases h : j = i
  · rw [if_pos h, if_pos (by omega), h]
  · rw [if_neg h]
    show (if j < i then Value.ref (z + 1 + j) else Value.null) = _
    by_cases h2 : j < i
    · rw [if_pos h2, if_pos (by omega)]
    · rw [if_neg h2, if_neg (by omega)]
theorem mS_facts (T : State) (cA cI : ClassId) (N M : Nat) (dv : Value) : ∀ i, (mS T cA cI N M dv i).heap.size = T.heap.size + 1 + i ∧ (mS T cA cI N M dv i).heap[T.heap.size]? = some (mC cA N T.heap.size i) ∧ (∀ q, q < T.heap.size → (mS T cA cI N M dv i).heap[q]? = T.heap[q]?) ∧ (∀ j, j < i → (mS T cA cI N M dv i).heap[T.heap.size + 1 + j]? = some (arrV cI M (fun _ => dv))) ∧ (mS T cA cI N M dv i).vm = T.vm ∧ (mS T cA cI N M dv i).slotsUsed = T.slotsUsed + N + i * M
  | 0 => by
    refine ⟨?_, ?_, fun q hq => ?_, fun j hj => absurd hj (Nat.not_lt_zero j), rfl, ?_⟩
    · show (T.heap.push _).size = _
      rw [Array.size_push]
    · show (T.heap.push _)[T.heap.size]? = _
      rw [Array.getElem?_push_size]
    · show (T.heap.push _)[q]? = _
      rw [Array.getElem?_push, if_neg (Nat.ne_of_lt hq)]
    · show T.slotsUsed + (mC cA N T.heap.size 0).slots.size = _
      unfold mC
      rw [arrV_size]
      omega
  | i + 1 => by
    obtain ⟨h1, h2, h3, h4, h5, h6⟩ := mS_facts T cA cI N M dv i
    have key : ∀ q : Nat, (mS T cA cI N M dv (i + 1)).heap[q]? = if q = T.heap.size then some (mC cA N T.heap.size (i + 1)) else ((mS T cA cI N M dv i).heap.push (arrV cI M (fun _ => dv)))[q]? := by
      intro q
      show (((mS T cA cI N M dv i).heap.push (arrV cI M (fun _ => dv))).setIfInBounds T.heap.size _)[q]? = _
      rw [Array.getElem?_setIfInBounds]
      by_cases e : T.heap.size = q
      · rw [if_pos e, if_pos (by rw [Array.size_push]; omega), if_pos e.symm]
      · rw [if_neg e, if_neg (fun z => e z.symm)]
    refine ⟨?_, by rw [key, if_pos rfl], fun q hq => ?_, fun j hj => ?_, h5, ?_⟩
    · show (((mS T cA cI N M dv i).heap.push (arrV cI M (fun _ => dv))).setIfInBounds T.heap.size _).size = _
      rw [Array.size_setIfInBounds, Array.size_push]
      omega
    · rw [key, if_neg (by omega), Array.getElem?_push, if_neg (by omega)]
      exact h3 q hq
    · rw [key, if_neg (by omega), Array.getElem?_push]
      by_cases e : j = i
      · rw [if_pos (by omega)]
      · rw [if_neg (by omega)]
        exact h4 j (by omega)
    · show (mS T cA cI N M dv i).slotsUsed + (arrV cI M (fun _ => dv)).slots.size = _
      rw [h6, arrV_size, Nat.succ_mul]
      omega
theorem mS_top (T : State) (f : JFrame) (cA cI : ClassId) (N M : Nat) (dv : Value) : ∀ i, mS (T.setTop f) cA cI N M dv i = (mS T cA cI N M dv i).setTop f
  | 0 => rfl
  | i + 1 => by
    show ((mS (T.setTop f) cA cI N M dv i).pushCell _).setCell T.heap.size _ = (((mS T cA cI N M dv i).pushCell _).setCell T.heap.size _).setTop f
    rw [mS_top T f cA cI N M dv i]
    rfl
theorem mS_stand {p : Program} {l : Launch} {e : Env} {R : Room} {s : State} {m : MethodId} {args : Array Value} {below : List Frame} {meth : Method} {c : Code} {T : State} {locs : List Loc} {cells slots : Nat} (X : Stand p l e R s m args below meth c T locs cells slots) (cA cI : ClassId) (N M : Nat) (dv : Value) : ∀ i, Stand p l e R s m args below meth c (mS T cA cI N M dv i) (locs ++ (List.range i).map (fun j => ⟨T.heap.size, j⟩)) (cells + 1 + i) (slots + N + i * M)
  | 0 => by
    have h := X.pushed (mC cA N T.heap.size 0)
    have e : (mC cA N T.heap.size 0).slots.size = N := by unfold mC; rw [arrV_size]
    rw [e] at h
    rw [List.range_zero, List.map_nil, List.append_nil, Nat.zero_mul]
    exact h
  | i + 1 => by
    have ih := mS_stand X cA cI N M dv i
    obtain ⟨h1, h2, h3, h4, h5, h6⟩ := mS_facts T cA cI N M dv i
    have Y := ih.pushed (arrV cI M (fun _ => dv))
    have hc : ((mS T cA cI N M dv i).pushCell (arrV cI M (fun _ => dv))).heap[T.heap.size]? = some (mC cA N T.heap.size i) := by
      show ((mS T cA cI N M dv i).heap.push _)[T.heap.size]? = _
      rw [Array.getElem?_push, if_neg (by omega)]
      exact h2
    have Z := Y.stored hc i (.ref (T.heap.size + 1 + i))
    rw [mC_s, arrV_size] at Z
    rw [List.range_succ, List.map_append, ← List.append_assoc, Nat.succ_mul]
    have e2 : slots + N + (i * M + M) = slots + N + i * M + M := by omega
    rw [e2]
    exact Z
section MM
variable {E : CtlPost} {e : Env} {d : Bool} {acts : List Action} {T : State}
theorem m_inner {cI comp : ClassId} {kI : Class} {t : FieldType} {n : Int32} {Q : Addr → Pre} (hkI : T.vm.classes[cI]? = some kI) (hkindI : kI.kind = .array comp t) (hn : ¬ n < 0) (hl : ¬ n.toNatClampNeg > e.platform.arrayLengthLimit) (hb : ¬ n.toNatClampNeg * componentBytes t > e.platform.maxHeapBytes) (hc : T.heap.size < e.platform.maxCells) (hs : T.slotsUsed + n.toNatClampNeg ≤ e.platform.maxSlots)
    (hq : ∀ acts', Q T.heap.size d acts' (T.pushCell (arrV cI n.toNatClampNeg (fun _ => defaultValue t)))) : wp (Jvm.Op.multianewarray.make cI [n]) Q E e d acts T := by
  unfold Jvm.Op.multianewarray.make
  simp only [wp_bind', W.ite, hn, if_false, wp_pure', W.theClass, hkI, Option.some.injEq, exists_eq_left', hkindI]
  refine W.newArray_of hkI hkindI hl hb hc hs (fits_default t) (fun acts' => ?_)
  have := hq acts'
  rw [← arrV_new] at this
  exact this
theorem m_make {cA cI comp : ClassId} {kA kI : Class} {t : FieldType} {n k : Int32} {Q : Addr → Pre} (hkA : T.vm.classes[cA]? = some kA) (hkindA : kA.kind = .array cI (.array t)) (hkI : T.vm.classes[cI]? = some kI) (hkindI : kI.kind = .array comp t) (hn : ¬ n < 0) (hn0 : (n == 0) = false) (hk : ¬ k < 0)
    (hl1 : ¬ n.toNatClampNeg > e.platform.arrayLengthLimit) (hb1 : ¬ n.toNatClampNeg * componentBytes (.array t) > e.platform.maxHeapBytes) (hl2 : ¬ k.toNatClampNeg > e.platform.arrayLengthLimit) (hb2 : ¬ k.toNatClampNeg * componentBytes t > e.platform.maxHeapBytes)
    (hc : T.heap.size + 1 + n.toNatClampNeg ≤ e.platform.maxCells) (hs : T.slotsUsed + n.toNatClampNeg + n.toNatClampNeg * k.toNatClampNeg ≤ e.platform.maxSlots)
    (hq : ∀ d' acts', Q T.heap.size d' acts' (mS T cA cI n.toNatClampNeg k.toNatClampNeg (defaultValue t) n.toNatClampNeg)) : wp (Jvm.Op.multianewarray.make cA [n, k]) Q E e d acts T := by
  unfold Jvm.Op.multianewarray.make
  simp only [wp_bind', W.ite, hn, if_false, wp_pure', W.theClass, hkA, Option.some.injEq, exists_eq_left', hkindA]
  refine W.newArray_of hkA hkindA hl1 hb1 (by omega) (by omega) rfl (fun acts' => ?_)
  rw [hn0]
  simp only [Bool.false_eq_true, if_false, wp_pure', wp_bind']
  rw [mC_0 cA n.toNatClampNeg T.heap.size]
  rw [Std.Legacy.Range.forIn_eq_forIn_range']
  have hsz : ({ stop := n.toNatClampNeg, step_pos := Nat.zero_lt_one } : Std.Legacy.Range).size = n.toNatClampNeg := by simp [Std.Legacy.Range.size]
  rw [hsz]
  have hdv := arrV_size cI k.toNatClampNeg (fun _ => defaultValue t)
  refine wp_forIn_inv (fun rest s' => ∃ i, i + rest.length = n.toNatClampNeg ∧ rest = List.range' i rest.length ∧ s' = mS T cA cI n.toNatClampNeg k.toNatClampNeg (defaultValue t) i) _ _ ⟨0, by rw [List.length_range']; omega, by rw [List.length_range'], rfl⟩ ?_ ?_
  · rintro x rest s' d' acts9 Q' ⟨i, h1, h2, rfl⟩ hQ
    rw [List.length_cons, List.range'_succ] at h2
    obtain ⟨rfl, h3⟩ := List.cons.inj h2
    rw [List.length_cons] at h1
    obtain ⟨f1, f2, f3, f4, f5, f6⟩ := mS_facts T cA cI n.toNatClampNeg k.toNatClampNeg (defaultValue t) x
    have hmul : x * k.toNatClampNeg + k.toNatClampNeg ≤ n.toNatClampNeg * k.toNatClampNeg := by
      rw [← Nat.succ_mul]
      exact Nat.mul_le_mul_right _ (by omega)
    simp only [wp_bind']
    refine m_inner (by rw [f5]; exact hkI) hkindI hk hl2 hb2 (by omega) (by omega) (fun acts8 => ?_)
    simp only [wp_bind', W.writeLoc, wp_pure']
    have hcell : ((mS T cA cI n.toNatClampNeg k.toNatClampNeg (defaultValue t) x).pushCell (arrV cI k.toNatClampNeg (fun _ => defaultValue t))).heap[T.heap.size]? = some (mC cA n.toNatClampNeg T.heap.size x) := by
      show ((mS T cA cI n.toNatClampNeg k.toNatClampNeg (defaultValue t) x).heap.push _)[T.heap.size]? = _
      rw [Array.getElem?_push, if_neg (by omega)]
      exact f2
    refine ⟨_, hcell, (fun q => by cases q), by unfold mC; rw [arrV_size]; omega, ?_, hQ _ _ _ ⟨x + 1, by omega, h3, ?_⟩⟩
    · show (mS T cA cI n.toNatClampNeg k.toNatClampNeg (defaultValue t) x).fitsSlot cA .none x _ = true
      simp [State.fitsSlot, State.slotType?, f5, hkA, hkindA, fits]
    · rw [f1, mC_s]
      rfl
  · rintro s' d' acts9 ⟨i, h1, h2, rfl⟩
    rw [List.length_nil, Nat.add_zero] at h1
    rw [h1]
    simp only [wp_pure']
    exact hq _ _
end MM
section MW
variable {p : Program} {l : Launch} {e : Env} {R : Room} {s : State} {m : MethodId} {args : Array Value} {below : List Frame} {meth : Method} {c : Code} {H : Heap} {locs : List Loc} {cells slots : Nat} {Q : State → Prop}
theorem W_multi {cc : ByteArray} (hexec : p.tables.exec = Jvm.exec) (hb : c.code = cc) {own C2 : String} {index : Nat} {t : FieldType} (hown : s.vm.findClass own = some m.cls) (hclink : (Cond.classLink own index C2).before args s = true)
    {cA cI comp : ClassId} {kA kI : Class} (hC2 : s.vm.findClass C2 = some cA) (hkA : s.vm.classes[cA]? = some kA) (hkindA : kA.kind = .array cI (.array t)) (hkI : s.vm.classes[cI]? = some kI) (hkindI : kI.kind = .array comp t)
    {g : JFrame} (hg : g.method = m) (hdg : decode cc g.pc = .ok (.multianewarray index 2, 4)) {n k : Int32} {rest : List Value} (hstack : g.stack = .int k :: .int n :: rest) (hn : ¬ n < 0) (hn0 : (n == 0) = false) (hk : ¬ k < 0)
    (hb1 : n.toNatClampNeg * 4 ≤ 536870912) (hb2 : k.toNatClampNeg * componentBytes t ≤ 536870912) (hb3 : k.toNatClampNeg ≤ 536870912) (hcells : cells + (1 + n.toNatClampNeg) ≤ R.cells) (hslots : slots + (n.toNatClampNeg + n.toNatClampNeg * k.toNatClampNeg) ≤ R.slots)
    (kk : ∀ H' : Heap, H'.size = H.size + 1 + n.toNatClampNeg → H'[H.size]? = some (mC cA n.toNatClampNeg H.size n.toNatClampNeg) → (∀ q, q < H.size → H'[q]? = H[q]?) → (∀ j, j < n.toNatClampNeg → H'[H.size + 1 + j]? = some (arrV cI k.toNatClampNeg (fun _ => defaultValue t))) →
      W p l e R s m args below meth c H' (locs ++ (List.range n.toNatClampNeg).map (fun j => ⟨H.size, j⟩)) (cells + 1 + n.toNatClampNeg) (slots + n.toNatClampNeg + n.toNatClampNeg * k.toNatClampNeg) Q { g with pc := g.pc + 4, stack := .ref H.size :: rest }) : W p l e R s m args below meth c H locs cells slots Q g := by
  intro T hT X
  subst hT; subst hb; subst hg
  have hpl : e.platform.magicAccessors = ({} : Platform).magicAccessors := by rw [X.admits.platform]
  obtain ⟨cc', hfcc, hcl⟩ := Cond.classLink_spec hown hclink e.platform hpl
  cases hC2.symm.trans hfcc
  obtain ⟨hg₁, hwarm₁, hready₁⟩ := State.classEntry (e := e) X.warmed hcl
  generalize T.vm.noted g.method.cls index (.cls cA) = vm₁ at hg₁ hwarm₁ hready₁
  have hal : s.vm.Alike vm₁ := hwarm₁.alike
  obtain ⟨kA₁, hkA₁, heA⟩ := hal.2.2 _ _ hkA
  obtain ⟨kI₁, hkI₁, heI⟩ := hal.2.2 _ _ hkI
  have hkindA₁ : kA₁.kind = .array cI (.array t) := by rw [heA]; exact hkindA
  have hkindI₁ : kI₁.kind = .array comp t := by rw [heI]; exact hkindI
  have hl1 : ¬ n.toNatClampNeg > e.platform.arrayLengthLimit := by rw [Launch.admits_arrayLengthLimit X.admits]; omega
  have hl2 : ¬ k.toNatClampNeg > e.platform.arrayLengthLimit := by rw [Launch.admits_arrayLengthLimit X.admits]; omega
  have hh1 : ¬ n.toNatClampNeg * componentBytes (.array t) > e.platform.maxHeapBytes := by
    rw [Launch.admits_maxHeapBytes X.admits]; show ¬ n.toNatClampNeg * 4 > 536870912; omega
  have hh2 : ¬ k.toNatClampNeg * componentBytes t > e.platform.maxHeapBytes := by
    rw [Launch.admits_maxHeapBytes X.admits]; omega
  have X₁ := X.noted hwarm₁
  have X₂ := mS_stand X₁ cA cI n.toNatClampNeg k.toNatClampNeg (defaultValue t) n.toNatClampNeg
  obtain ⟨f1, f2, f3, f4, f5, f6⟩ := mS_facts (T.setVm vm₁) cA cI n.toNatClampNeg k.toNatClampNeg (defaultValue t) n.toNatClampNeg
  obtain ⟨hr1, hr2⟩ := X.roomAbove hcells hslots
  obtain ⟨t', a1, b1⟩ := kk _ f1 f2 f3 f4 _ rfl X₂
  refine ⟨t', ?_, b1⟩
  refine Steps.instr (c := _) (by simpa using X.here) ?_
  rw [hdg, hexec]
  have hts : (T.setVm vm₁).topJava?.isSome := X.here.top
  simp only [wpRun]
  show wp (Jvm.Op.multianewarray.sem index 2) _ _ _ _ _ _
  unfold Jvm.Op.multianewarray.sem
  simp only [wp_bind']
  refine (W.resolveClassAt_transfer (s := T.setTop g) (State.method?_setTop g X.here.top) hg₁ hready₁).mpr ?_
  refine (W.resolveClassAt_ready (s := (T.setVm vm₁).setTop g) (State.method?_setTop g hts) hready₁).mpr ?_
  simp only [wp_bind']
  refine (popN_top (s := T.setVm vm₁) (f := g) (args := [.int n, .int k]) (rest := rest) hts hstack).mpr ?_
  simp only [List.mapM_cons, List.mapM_nil, wp_bind', wp_pure']
  refine m_make (T := (T.setVm vm₁).setTop { g with stack := rest }) hkA₁ hkindA₁ hkI₁ hkindI₁ hn hn0 hk hl1 hh1 hl2 hh2 (by show T.heap.size + 1 + _ ≤ _; omega) (by show T.slotsUsed + _ + _ ≤ _; omega) (fun d' acts' => ?_)
  rw [mS_top]
  simp only [W.mark, wp_bind', W.pushRef]
  refine ⟨{ g with stack := rest }, State.topJava?_setTop' _ ?_, fun acts9 => ?_⟩
  · exact X₂.here.top
  · rw [State.setTop_setTop, afterInstr_ok]
    exact a1
end MW
