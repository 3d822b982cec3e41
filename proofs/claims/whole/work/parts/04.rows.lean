section ARW
variable {g : GG} {K : AK} {cc : ByteArray} {nL : Nat} {own : String} {d : Nat} {pc : Nat} {lv : LV} {st : List AV} {σ : AH}
theorem a_iconst (B : Cx g K cc nL own d) {n : Int} {v : Int32} (dg : decode cc pc = .ok (.iconst n, 1)) (hv : Int32.ofInt n = v) (k : AW g K nL (pc + 1) (lv) (iV v :: st) (σ)) : AW g K nL pc (lv) (st) (σ) := by
  obtain ⟨p, e, R, s, m, args, below, meth, c, cells, slots, Q, rfl, hx, hb, hml, hown, hts, hK, hD, hR⟩ := B
  intro H locs ls hP hl hS
  exact lv_iconst hx hb dg hv (k H locs ls hP hl hS)
theorem a_bipush (B : Cx g K cc nL own d) {n : Int} {v : Int32} (dg : decode cc pc = .ok (.bipush n, 2)) (hv : (Int8.ofInt n).toInt32 = v) (k : AW g K nL (pc + 2) (lv) (iV v :: st) (σ)) : AW g K nL pc (lv) (st) (σ) := by
  obtain ⟨p, e, R, s, m, args, below, meth, c, cells, slots, Q, rfl, hx, hb, hml, hown, hts, hK, hD, hR⟩ := B
  intro H locs ls hP hl hS
  exact lv_bipush hx hb dg hv (k H locs ls hP hl hS)
theorem a_sipush (B : Cx g K cc nL own d) {n : Int} {v : Int32} (dg : decode cc pc = .ok (.sipush n, 3)) (hv : (Int16.ofInt n).toInt32 = v) (k : AW g K nL (pc + 3) (lv) (iV v :: st) (σ)) : AW g K nL pc (lv) (st) (σ) := by
  obtain ⟨p, e, R, s, m, args, below, meth, c, cells, slots, Q, rfl, hx, hb, hml, hown, hts, hK, hD, hR⟩ := B
  intro H locs ls hP hl hS
  exact lv_sipush hx hb dg hv (k H locs ls hP hl hS)
theorem a_lconst (B : Cx g K cc nL own d) {n : Fin 2} {v : Int64} (dg : decode cc pc = .ok (.lconst n, 1)) (hv : Int64.ofNat (n : Nat) = v) (k : AW g K nL (pc + 1) (lv) (lV v :: st) (σ)) : AW g K nL pc (lv) (st) (σ) := by
  obtain ⟨p, e, R, s, m, args, below, meth, c, cells, slots, Q, rfl, hx, hb, hml, hown, hts, hK, hD, hR⟩ := B
  intro H locs ls hP hl hS
  exact lv_lconst hx hb dg hv (k H locs ls hP hl hS)
theorem a_ldc (B : Cx g K cc nL own d) {index : Nat} {v : Int32} (dg : decode cc pc = .ok (.ldc index, 2)) (hc : Cond.constant own index v ∈ lw_tbl) (k : AW g K nL (pc + 2) (lv) (iV v :: st) (σ)) : AW g K nL pc (lv) (st) (σ) := by
  obtain ⟨p, e, R, s, m, args, below, meth, c, cells, slots, Q, rfl, hx, hb, hml, hown, hts, hK, hD, hR⟩ := B
  intro H locs ls hP hl hS
  exact lv_ldc hx hb hown (hts _ (inG hc rfl)) dg (k H locs ls hP hl hS)
theorem a_ldc2 (B : Cx g K cc nL own d) {index : Nat} {v : Int64} (dg : decode cc pc = .ok (.ldc2_w index, 3)) (hc : Cond.constantLong own index v ∈ lw_tbl) (k : AW g K nL (pc + 3) (lv) (lV v :: st) (σ)) : AW g K nL pc (lv) (st) (σ) := by
  obtain ⟨p, e, R, s, m, args, below, meth, c, cells, slots, Q, rfl, hx, hb, hml, hown, hts, hK, hD, hR⟩ := B
  intro H locs ls hP hl hS
  exact lv_ldc2 hx hb hown (hts _ (inG hc rfl)) dg (k H locs ls hP hl hS)
theorem a_iload_n (B : Cx g K cc nL own d) {n : Fin 4} {i : Nat} {x : Int32} (dg : decode cc pc = .ok (.iload_n n, 1)) (hi : (n : Nat) = i) (h : lkV lv i = some (iV x)) (k : AW g K nL (pc + 1) (lv) (iV x :: st) (σ)) : AW g K nL pc (lv) (st) (σ) := by
  obtain ⟨p, e, R, s, m, args, below, meth, c, cells, slots, Q, rfl, hx, hb, hml, hown, hts, hK, hD, hR⟩ := B
  intro H locs ls hP hl hS
  exact lv_iload_n hx hb dg hi (lv_look hl h) (k H locs ls hP hl hS)
theorem a_iload (B : Cx g K cc nL own d) {i : Nat} {x : Int32} (dg : decode cc pc = .ok (.iload i, 2)) (h : lkV lv i = some (iV x)) (k : AW g K nL (pc + 2) (lv) (iV x :: st) (σ)) : AW g K nL pc (lv) (st) (σ) := by
  obtain ⟨p, e, R, s, m, args, below, meth, c, cells, slots, Q, rfl, hx, hb, hml, hown, hts, hK, hD, hR⟩ := B
  intro H locs ls hP hl hS
  exact lv_iload hx hb dg (lv_look hl h) (k H locs ls hP hl hS)
theorem a_istore_n (B : Cx g K cc nL own d) {n : Fin 4} {i : Nat} {x : Int32} {lv1 : LV} (dg : decode cc pc = .ok (.istore_n n, 1)) (hi : (n : Nat) = i) (hn : i < nL) (h : st1 lv i (iV x) = lv1) (k : AW g K nL (pc + 1) (lv1) (st) (σ)) : AW g K nL pc (lv) (iV x :: st) (σ) := by
  obtain ⟨p, e, R, s, m, args, below, meth, c, cells, slots, Q, rfl, hx, hb, hml, hown, hts, hK, hD, hR⟩ := B
  intro H locs ls hP hl hS
  exact lv_istore_n hx hb dg hi hl hn rfl (fun ls h9 => k H locs ls hP (h ▸ lv_put1 (v := iV x) h9) hS)
theorem a_istore (B : Cx g K cc nL own d) {i : Nat} {x : Int32} {lv1 : LV} (dg : decode cc pc = .ok (.istore i, 2)) (hn : i < nL) (h : st1 lv i (iV x) = lv1) (k : AW g K nL (pc + 2) (lv1) (st) (σ)) : AW g K nL pc (lv) (iV x :: st) (σ) := by
  obtain ⟨p, e, R, s, m, args, below, meth, c, cells, slots, Q, rfl, hx, hb, hml, hown, hts, hK, hD, hR⟩ := B
  intro H locs ls hP hl hS
  exact lv_istore hx hb dg hl hn rfl (fun ls h9 => k H locs ls hP (h ▸ lv_put1 (v := iV x) h9) hS)
theorem a_lload_n (B : Cx g K cc nL own d) {n : Fin 4} {i : Nat} {x : Int64} (dg : decode cc pc = .ok (.lload_n n, 1)) (hi : (n : Nat) = i) (h : lkV lv i = some (lV x)) (k : AW g K nL (pc + 1) (lv) (lV x :: st) (σ)) : AW g K nL pc (lv) (st) (σ) := by
  obtain ⟨p, e, R, s, m, args, below, meth, c, cells, slots, Q, rfl, hx, hb, hml, hown, hts, hK, hD, hR⟩ := B
  intro H locs ls hP hl hS
  exact lv_lload_n hx hb dg hi (lv_look hl h) (k H locs ls hP hl hS)
theorem a_lload (B : Cx g K cc nL own d) {i : Nat} {x : Int64} (dg : decode cc pc = .ok (.lload i, 2)) (h : lkV lv i = some (lV x)) (k : AW g K nL (pc + 2) (lv) (lV x :: st) (σ)) : AW g K nL pc (lv) (st) (σ) := by
  obtain ⟨p, e, R, s, m, args, below, meth, c, cells, slots, Q, rfl, hx, hb, hml, hown, hts, hK, hD, hR⟩ := B
  intro H locs ls hP hl hS
  exact lv_lload hx hb dg (lv_look hl h) (k H locs ls hP hl hS)
theorem a_lstore_n (B : Cx g K cc nL own d) {n : Fin 4} {i : Nat} {x : Int64} {lv1 : LV} (dg : decode cc pc = .ok (.lstore_n n, 1)) (hi : (n : Nat) = i) (hn : i + 1 < nL) (h : st2 lv i (lV x) = lv1) (k : AW g K nL (pc + 1) (lv1) (st) (σ)) : AW g K nL pc (lv) (lV x :: st) (σ) := by
  obtain ⟨p, e, R, s, m, args, below, meth, c, cells, slots, Q, rfl, hx, hb, hml, hown, hts, hK, hD, hR⟩ := B
  intro H locs ls hP hl hS
  exact lv_lstore_n hx hb dg hi hl hn rfl (fun ls h9 => k H locs ls hP (h ▸ lv_put2 (v := lV x) h9) hS)
theorem a_lstore (B : Cx g K cc nL own d) {i : Nat} {x : Int64} {lv1 : LV} (dg : decode cc pc = .ok (.lstore i, 2)) (hn : i + 1 < nL) (h : st2 lv i (lV x) = lv1) (k : AW g K nL (pc + 2) (lv1) (st) (σ)) : AW g K nL pc (lv) (lV x :: st) (σ) := by
  obtain ⟨p, e, R, s, m, args, below, meth, c, cells, slots, Q, rfl, hx, hb, hml, hown, hts, hK, hD, hR⟩ := B
  intro H locs ls hP hl hS
  exact lv_lstore hx hb dg hl hn rfl (fun ls h9 => k H locs ls hP (h ▸ lv_put2 (v := lV x) h9) hS)
theorem a_aload_n (B : Cx g K cc nL own d) {n : Fin 4} {i : Nat} {x : Nat} (dg : decode cc pc = .ok (.aload_n n, 1)) (hi : (n : Nat) = i) (h : lkV lv i = some (rV x)) (k : AW g K nL (pc + 1) (lv) (rV x :: st) (σ)) : AW g K nL pc (lv) (st) (σ) := by
  obtain ⟨p, e, R, s, m, args, below, meth, c, cells, slots, Q, rfl, hx, hb, hml, hown, hts, hK, hD, hR⟩ := B
  intro H locs ls hP hl hS
  exact lv_aload_n hx hb dg hi (lv_look hl h) (k H locs ls hP hl hS)
theorem a_aload (B : Cx g K cc nL own d) {i : Nat} {x : Nat} (dg : decode cc pc = .ok (.aload i, 2)) (h : lkV lv i = some (rV x)) (k : AW g K nL (pc + 2) (lv) (rV x :: st) (σ)) : AW g K nL pc (lv) (st) (σ) := by
  obtain ⟨p, e, R, s, m, args, below, meth, c, cells, slots, Q, rfl, hx, hb, hml, hown, hts, hK, hD, hR⟩ := B
  intro H locs ls hP hl hS
  exact lv_aload hx hb dg (lv_look hl h) (k H locs ls hP hl hS)
theorem a_astore_n (B : Cx g K cc nL own d) {n : Fin 4} {i : Nat} {x : Nat} {lv1 : LV} (dg : decode cc pc = .ok (.astore_n n, 1)) (hi : (n : Nat) = i) (hn : i < nL) (h : st1 lv i (rV x) = lv1) (k : AW g K nL (pc + 1) (lv1) (st) (σ)) : AW g K nL pc (lv) (rV x :: st) (σ) := by
  obtain ⟨p, e, R, s, m, args, below, meth, c, cells, slots, Q, rfl, hx, hb, hml, hown, hts, hK, hD, hR⟩ := B
  intro H locs ls hP hl hS
  exact lv_astore_n hx hb dg hi hl hn rfl (fun ls h9 => k H locs ls hP (h ▸ lv_put1 (v := rV x) h9) hS)
theorem a_astore (B : Cx g K cc nL own d) {i : Nat} {x : Nat} {lv1 : LV} (dg : decode cc pc = .ok (.astore i, 2)) (hn : i < nL) (h : st1 lv i (rV x) = lv1) (k : AW g K nL (pc + 2) (lv1) (st) (σ)) : AW g K nL pc (lv) (rV x :: st) (σ) := by
  obtain ⟨p, e, R, s, m, args, below, meth, c, cells, slots, Q, rfl, hx, hb, hml, hown, hts, hK, hD, hR⟩ := B
  intro H locs ls hP hl hS
  exact lv_astore hx hb dg hl hn rfl (fun ls h9 => k H locs ls hP (h ▸ lv_put1 (v := rV x) h9) hS)
theorem lkV_at {ad : Nat → Nat} : ∀ {lv : LV} {k : Nat} {v : AV}, lkV lv k = some v → ∃ j : Nat, (cvL ad lv)[j]? = some (k, cvV ad v) := fun h => List.getElem?_of_mem (List.mem_map.mpr ⟨_, lkV_mem h, rfl⟩)
theorem a_iinc (B : Cx g K cc nL own d) {i : Nat} {n : Int} {x v : Int32} {lv1 : LV} (dg : decode cc pc = .ok (.iinc i n, 3)) (h0 : lkV lv i = some (iV x)) (hv : x + Int32.ofInt n = v) (hn : i < nL) (h : st1 lv i (iV v) = lv1) (k : AW g K nL (pc + 3) (lv1) (st) (σ)) : AW g K nL pc (lv) (st) (σ) := by
  obtain ⟨p, e, R, s, m, args, below, meth, c, cells, slots, Q, rfl, hx, hb, hml, hown, hts, hK, hD, hR⟩ := B
  intro H locs ls hP hl hS
  obtain ⟨j, hj⟩ := lkV_at (ad := g.2.2.1) h0
  exact lv_iinc hx hb dg hl hj hv hn rfl (fun ls h9 => k H locs ls hP (h ▸ lv_put1 (v := iV v) h9) hS)
theorem a_iadd (B : Cx g K cc nL own d) {x y : Int32} (dg : decode cc pc = .ok (.iadd, 1)) (k : AW g K nL (pc + 1) (lv) (iV (x + y) :: st) (σ)) : AW g K nL pc (lv) (iV y :: iV x :: st) (σ) := by
  obtain ⟨p, e, R, s, m, args, below, meth, c, cells, slots, Q, rfl, hx, hb, hml, hown, hts, hK, hD, hR⟩ := B
  intro H locs ls hP hl hS
  exact lv_iadd hx hb dg (k H locs ls hP hl hS)
theorem a_isub (B : Cx g K cc nL own d) {x y : Int32} (dg : decode cc pc = .ok (.isub, 1)) (k : AW g K nL (pc + 1) (lv) (iV (x - y) :: st) (σ)) : AW g K nL pc (lv) (iV y :: iV x :: st) (σ) := by
  obtain ⟨p, e, R, s, m, args, below, meth, c, cells, slots, Q, rfl, hx, hb, hml, hown, hts, hK, hD, hR⟩ := B
  intro H locs ls hP hl hS
  exact lv_isub hx hb dg (k H locs ls hP hl hS)
theorem a_imul (B : Cx g K cc nL own d) {x y : Int32} (dg : decode cc pc = .ok (.imul, 1)) (k : AW g K nL (pc + 1) (lv) (iV (x * y) :: st) (σ)) : AW g K nL pc (lv) (iV y :: iV x :: st) (σ) := by
  obtain ⟨p, e, R, s, m, args, below, meth, c, cells, slots, Q, rfl, hx, hb, hml, hown, hts, hK, hD, hR⟩ := B
  intro H locs ls hP hl hS
  exact lv_imul hx hb dg (k H locs ls hP hl hS)
theorem a_iand (B : Cx g K cc nL own d) {x y : Int32} (dg : decode cc pc = .ok (.iand, 1)) (k : AW g K nL (pc + 1) (lv) (iV (x &&& y) :: st) (σ)) : AW g K nL pc (lv) (iV y :: iV x :: st) (σ) := by
  obtain ⟨p, e, R, s, m, args, below, meth, c, cells, slots, Q, rfl, hx, hb, hml, hown, hts, hK, hD, hR⟩ := B
  intro H locs ls hP hl hS
  exact lv_iand hx hb dg (k H locs ls hP hl hS)
theorem a_ior (B : Cx g K cc nL own d) {x y : Int32} (dg : decode cc pc = .ok (.ior, 1)) (k : AW g K nL (pc + 1) (lv) (iV (x ||| y) :: st) (σ)) : AW g K nL pc (lv) (iV y :: iV x :: st) (σ) := by
  obtain ⟨p, e, R, s, m, args, below, meth, c, cells, slots, Q, rfl, hx, hb, hml, hown, hts, hK, hD, hR⟩ := B
  intro H locs ls hP hl hS
  exact lv_ior hx hb dg (k H locs ls hP hl hS)
theorem a_ixor (B : Cx g K cc nL own d) {x y : Int32} (dg : decode cc pc = .ok (.ixor, 1)) (k : AW g K nL (pc + 1) (lv) (iV (x ^^^ y) :: st) (σ)) : AW g K nL pc (lv) (iV y :: iV x :: st) (σ) := by
  obtain ⟨p, e, R, s, m, args, below, meth, c, cells, slots, Q, rfl, hx, hb, hml, hown, hts, hK, hD, hR⟩ := B
  intro H locs ls hP hl hS
  exact lv_ixor hx hb dg (k H locs ls hP hl hS)
theorem a_ishl (B : Cx g K cc nL own d) {x y : Int32} (dg : decode cc pc = .ok (.ishl, 1)) (k : AW g K nL (pc + 1) (lv) (iV (x <<< (y &&& 31)) :: st) (σ)) : AW g K nL pc (lv) (iV y :: iV x :: st) (σ) := by
  obtain ⟨p, e, R, s, m, args, below, meth, c, cells, slots, Q, rfl, hx, hb, hml, hown, hts, hK, hD, hR⟩ := B
  intro H locs ls hP hl hS
  exact lv_ishl hx hb dg (k H locs ls hP hl hS)
theorem a_ishr (B : Cx g K cc nL own d) {x y : Int32} (dg : decode cc pc = .ok (.ishr, 1)) (k : AW g K nL (pc + 1) (lv) (iV (x >>> (y &&& 31)) :: st) (σ)) : AW g K nL pc (lv) (iV y :: iV x :: st) (σ) := by
  obtain ⟨p, e, R, s, m, args, below, meth, c, cells, slots, Q, rfl, hx, hb, hml, hown, hts, hK, hD, hR⟩ := B
  intro H locs ls hP hl hS
  exact lv_ishr hx hb dg (k H locs ls hP hl hS)
theorem a_ladd (B : Cx g K cc nL own d) {x y : Int64} (dg : decode cc pc = .ok (.ladd, 1)) (k : AW g K nL (pc + 1) (lv) (lV (x + y) :: st) (σ)) : AW g K nL pc (lv) (lV y :: lV x :: st) (σ) := by
  obtain ⟨p, e, R, s, m, args, below, meth, c, cells, slots, Q, rfl, hx, hb, hml, hown, hts, hK, hD, hR⟩ := B
  intro H locs ls hP hl hS
  exact lv_ladd hx hb dg (k H locs ls hP hl hS)
theorem a_lsub (B : Cx g K cc nL own d) {x y : Int64} (dg : decode cc pc = .ok (.lsub, 1)) (k : AW g K nL (pc + 1) (lv) (lV (x - y) :: st) (σ)) : AW g K nL pc (lv) (lV y :: lV x :: st) (σ) := by
  obtain ⟨p, e, R, s, m, args, below, meth, c, cells, slots, Q, rfl, hx, hb, hml, hown, hts, hK, hD, hR⟩ := B
  intro H locs ls hP hl hS
  exact lv_lsub hx hb dg (k H locs ls hP hl hS)
theorem a_lmul (B : Cx g K cc nL own d) {x y : Int64} (dg : decode cc pc = .ok (.lmul, 1)) (k : AW g K nL (pc + 1) (lv) (lV (x * y) :: st) (σ)) : AW g K nL pc (lv) (lV y :: lV x :: st) (σ) := by
  obtain ⟨p, e, R, s, m, args, below, meth, c, cells, slots, Q, rfl, hx, hb, hml, hown, hts, hK, hD, hR⟩ := B
  intro H locs ls hP hl hS
  exact lv_lmul hx hb dg (k H locs ls hP hl hS)
theorem a_land (B : Cx g K cc nL own d) {x y : Int64} (dg : decode cc pc = .ok (.land, 1)) (k : AW g K nL (pc + 1) (lv) (lV (x &&& y) :: st) (σ)) : AW g K nL pc (lv) (lV y :: lV x :: st) (σ) := by
  obtain ⟨p, e, R, s, m, args, below, meth, c, cells, slots, Q, rfl, hx, hb, hml, hown, hts, hK, hD, hR⟩ := B
  intro H locs ls hP hl hS
  exact lv_land hx hb dg (k H locs ls hP hl hS)
theorem a_lor (B : Cx g K cc nL own d) {x y : Int64} (dg : decode cc pc = .ok (.lor, 1)) (k : AW g K nL (pc + 1) (lv) (lV (x ||| y) :: st) (σ)) : AW g K nL pc (lv) (lV y :: lV x :: st) (σ) := by
  obtain ⟨p, e, R, s, m, args, below, meth, c, cells, slots, Q, rfl, hx, hb, hml, hown, hts, hK, hD, hR⟩ := B
  intro H locs ls hP hl hS
  exact lv_lor hx hb dg (k H locs ls hP hl hS)
theorem a_lshl (B : Cx g K cc nL own d) {x : Int64} {y : Int32} (dg : decode cc pc = .ok (.lshl, 1)) (k : AW g K nL (pc + 1) (lv) (lV (x <<< (y.toInt64 &&& 63)) :: st) (σ)) : AW g K nL pc (lv) (iV y :: lV x :: st) (σ) := by
  obtain ⟨p, e, R, s, m, args, below, meth, c, cells, slots, Q, rfl, hx, hb, hml, hown, hts, hK, hD, hR⟩ := B
  intro H locs ls hP hl hS
  exact lv_lshl hx hb dg rfl (k H locs ls hP hl hS)
theorem a_lshr (B : Cx g K cc nL own d) {x : Int64} {y : Int32} (dg : decode cc pc = .ok (.lshr, 1)) (k : AW g K nL (pc + 1) (lv) (lV (x >>> (y.toInt64 &&& 63)) :: st) (σ)) : AW g K nL pc (lv) (iV y :: lV x :: st) (σ) := by
  obtain ⟨p, e, R, s, m, args, below, meth, c, cells, slots, Q, rfl, hx, hb, hml, hown, hts, hK, hD, hR⟩ := B
  intro H locs ls hP hl hS
  exact lv_lshr hx hb dg rfl (k H locs ls hP hl hS)
theorem a_lcmp (B : Cx g K cc nL own d) {x y : Int64} (dg : decode cc pc = .ok (.lcmp, 1)) (k : AW g K nL (pc + 1) (lv) (iV (lg_cmp x y) :: st) (σ)) : AW g K nL pc (lv) (lV y :: lV x :: st) (σ) := by
  obtain ⟨p, e, R, s, m, args, below, meth, c, cells, slots, Q, rfl, hx, hb, hml, hown, hts, hK, hD, hR⟩ := B
  intro H locs ls hP hl hS
  exact W.lcmp hx hb dg (k H locs ls hP hl hS)
theorem a_i2l (B : Cx g K cc nL own d) {x : Int32} (dg : decode cc pc = .ok (.i2l, 1)) (k : AW g K nL (pc + 1) (lv) (lV x.toInt64 :: st) (σ)) : AW g K nL pc (lv) (iV x :: st) (σ) := by
  obtain ⟨p, e, R, s, m, args, below, meth, c, cells, slots, Q, rfl, hx, hb, hml, hown, hts, hK, hD, hR⟩ := B
  intro H locs ls hP hl hS
  exact lv_i2l hx hb dg rfl (k H locs ls hP hl hS)
theorem a_l2i (B : Cx g K cc nL own d) {x : Int64} (dg : decode cc pc = .ok (.l2i, 1)) (k : AW g K nL (pc + 1) (lv) (iV x.toInt32 :: st) (σ)) : AW g K nL pc (lv) (lV x :: st) (σ) := by
  obtain ⟨p, e, R, s, m, args, below, meth, c, cells, slots, Q, rfl, hx, hb, hml, hown, hts, hK, hD, hR⟩ := B
  intro H locs ls hP hl hS
  exact lv_l2i hx hb dg rfl (k H locs ls hP hl hS)
theorem a_idiv (B : Cx g K cc nL own d) {x y : Int32} (dg : decode cc pc = .ok (.idiv, 1)) (hne : ¬ y = 0) (k : AW g K nL (pc + 1) (lv) (iV (x / y) :: st) (σ)) : AW g K nL pc (lv) (iV y :: iV x :: st) (σ) := by
  obtain ⟨p, e, R, s, m, args, below, meth, c, cells, slots, Q, rfl, hx, hb, hml, hown, hts, hK, hD, hR⟩ := B
  intro H locs ls hP hl hS
  exact lv_idiv hx hb dg hne (k H locs ls hP hl hS)
theorem cat1 {ad : Nat → Nat} {v : AV} (h : isL v = false) : (cvV ad v).category = 1 := by
  rcases v with x | x | x
  · rfl
  · cases h
  · rfl
theorem a_dup (B : Cx g K cc nL own d) {v : AV} (dg : decode cc pc = .ok (.dup, 1)) (h : isL v = false) (k : AW g K nL (pc + 1) (lv) (v :: v :: st) (σ)) : AW g K nL pc (lv) (v :: st) (σ) := by
  obtain ⟨p, e, R, s, m, args, below, meth, c, cells, slots, Q, rfl, hx, hb, hml, hown, hts, hK, hD, hR⟩ := B
  intro H locs ls hP hl hS
  exact lv_dup hx hb dg (cat1 h) (k H locs ls hP hl hS)
theorem a_pop (B : Cx g K cc nL own d) {v : AV} (dg : decode cc pc = .ok (.pop, 1)) (h : isL v = false) (k : AW g K nL (pc + 1) (lv) (st) (σ)) : AW g K nL pc (lv) (v :: st) (σ) := by
  obtain ⟨p, e, R, s, m, args, below, meth, c, cells, slots, Q, rfl, hx, hb, hml, hown, hts, hK, hD, hR⟩ := B
  intro H locs ls hP hl hS
  exact lv_pop hx hb dg (cat1 h) (k H locs ls hP hl hS)
theorem a_dup2 (B : Cx g K cc nL own d) {v w : AV} (dg : decode cc pc = .ok (.dup2, 1)) (h : isL v = false) (h2 : isL w = false) (k : AW g K nL (pc + 1) (lv) (v :: w :: v :: w :: st) (σ)) : AW g K nL pc (lv) (v :: w :: st) (σ) := by
  obtain ⟨p, e, R, s, m, args, below, meth, c, cells, slots, Q, rfl, hx, hb, hml, hown, hts, hK, hD, hR⟩ := B
  intro H locs ls hP hl hS
  exact lv_dup2_11 hx hb dg (cat1 h) (cat1 h2) (k H locs ls hP hl hS)
theorem a_if_eq (B : Cx g K cc nL own d) {x : Int32} {off : Int} (tgt : Nat) (dg : decode cc pc = .ok (.ifCond .eq off, 3)) (ht : (pc : Int) + off = (tgt : Int)) (kt : x = 0 → AW g K nL (tgt) (lv) (st) (σ)) (kf : ¬ x = 0 → AW g K nL (pc + 3) (lv) (st) (σ)) : AW g K nL pc (lv) (iV x :: st) (σ) := by
  obtain ⟨p, e, R, s, m, args, below, meth, c, cells, slots, Q, rfl, hx, hb, hml, hown, hts, hK, hD, hR⟩ := B
  intro H locs ls hP hl hS
  exact lv_if_eq hx hb dg ht (fun h9 => kt h9 H locs ls hP hl hS) (fun h9 => kf h9 H locs ls hP hl hS)
theorem a_icmp_eq (B : Cx g K cc nL own d) {x y : Int32} {off : Int} (tgt : Nat) (dg : decode cc pc = .ok (.if_icmp .eq off, 3)) (ht : (pc : Int) + off = (tgt : Int)) (kt : x = y → AW g K nL (tgt) (lv) (st) (σ)) (kf : ¬ x = y → AW g K nL (pc + 3) (lv) (st) (σ)) : AW g K nL pc (lv) (iV y :: iV x :: st) (σ) := by
  obtain ⟨p, e, R, s, m, args, below, meth, c, cells, slots, Q, rfl, hx, hb, hml, hown, hts, hK, hD, hR⟩ := B
  intro H locs ls hP hl hS
  exact lv_icmp_eq hx hb dg ht (fun h9 => kt h9 H locs ls hP hl hS) (fun h9 => kf h9 H locs ls hP hl hS)
theorem a_if_ne (B : Cx g K cc nL own d) {x : Int32} {off : Int} (tgt : Nat) (dg : decode cc pc = .ok (.ifCond .ne off, 3)) (ht : (pc : Int) + off = (tgt : Int)) (kt : ¬ x = 0 → AW g K nL (tgt) (lv) (st) (σ)) (kf : x = 0 → AW g K nL (pc + 3) (lv) (st) (σ)) : AW g K nL pc (lv) (iV x :: st) (σ) := by
  obtain ⟨p, e, R, s, m, args, below, meth, c, cells, slots, Q, rfl, hx, hb, hml, hown, hts, hK, hD, hR⟩ := B
  intro H locs ls hP hl hS
  exact lv_if_ne hx hb dg ht (fun h9 => kt h9 H locs ls hP hl hS) (fun h9 => kf h9 H locs ls hP hl hS)
theorem a_icmp_ne (B : Cx g K cc nL own d) {x y : Int32} {off : Int} (tgt : Nat) (dg : decode cc pc = .ok (.if_icmp .ne off, 3)) (ht : (pc : Int) + off = (tgt : Int)) (kt : ¬ x = y → AW g K nL (tgt) (lv) (st) (σ)) (kf : x = y → AW g K nL (pc + 3) (lv) (st) (σ)) : AW g K nL pc (lv) (iV y :: iV x :: st) (σ) := by
  obtain ⟨p, e, R, s, m, args, below, meth, c, cells, slots, Q, rfl, hx, hb, hml, hown, hts, hK, hD, hR⟩ := B
  intro H locs ls hP hl hS
  exact lv_icmp_ne hx hb dg ht (fun h9 => kt h9 H locs ls hP hl hS) (fun h9 => kf h9 H locs ls hP hl hS)
theorem a_if_lt (B : Cx g K cc nL own d) {x : Int32} {off : Int} (tgt : Nat) (dg : decode cc pc = .ok (.ifCond .lt off, 3)) (ht : (pc : Int) + off = (tgt : Int)) (kt : x < 0 → AW g K nL (tgt) (lv) (st) (σ)) (kf : ¬ x < 0 → AW g K nL (pc + 3) (lv) (st) (σ)) : AW g K nL pc (lv) (iV x :: st) (σ) := by
  obtain ⟨p, e, R, s, m, args, below, meth, c, cells, slots, Q, rfl, hx, hb, hml, hown, hts, hK, hD, hR⟩ := B
  intro H locs ls hP hl hS
  exact lv_if_lt hx hb dg ht (fun h9 => kt h9 H locs ls hP hl hS) (fun h9 => kf h9 H locs ls hP hl hS)
theorem a_icmp_lt (B : Cx g K cc nL own d) {x y : Int32} {off : Int} (tgt : Nat) (dg : decode cc pc = .ok (.if_icmp .lt off, 3)) (ht : (pc : Int) + off = (tgt : Int)) (kt : x < y → AW g K nL (tgt) (lv) (st) (σ)) (kf : ¬ x < y → AW g K nL (pc + 3) (lv) (st) (σ)) : AW g K nL pc (lv) (iV y :: iV x :: st) (σ) := by
  obtain ⟨p, e, R, s, m, args, below, meth, c, cells, slots, Q, rfl, hx, hb, hml, hown, hts, hK, hD, hR⟩ := B
  intro H locs ls hP hl hS
  exact lv_icmp_lt hx hb dg ht (fun h9 => kt h9 H locs ls hP hl hS) (fun h9 => kf h9 H locs ls hP hl hS)
theorem a_if_ge (B : Cx g K cc nL own d) {x : Int32} {off : Int} (tgt : Nat) (dg : decode cc pc = .ok (.ifCond .ge off, 3)) (ht : (pc : Int) + off = (tgt : Int)) (kt : 0 ≤ x → AW g K nL (tgt) (lv) (st) (σ)) (kf : ¬ 0 ≤ x → AW g K nL (pc + 3) (lv) (st) (σ)) : AW g K nL pc (lv) (iV x :: st) (σ) := by
  obtain ⟨p, e, R, s, m, args, below, meth, c, cells, slots, Q, rfl, hx, hb, hml, hown, hts, hK, hD, hR⟩ := B
  intro H locs ls hP hl hS
  exact lv_if_ge hx hb dg ht (fun h9 => kt h9 H locs ls hP hl hS) (fun h9 => kf h9 H locs ls hP hl hS)
theorem a_icmp_ge (B : Cx g K cc nL own d) {x y : Int32} {off : Int} (tgt : Nat) (dg : decode cc pc = .ok (.if_icmp .ge off, 3)) (ht : (pc : Int) + off = (tgt : Int)) (kt : y ≤ x → AW g K nL (tgt) (lv) (st) (σ)) (kf : ¬ y ≤ x → AW g K nL (pc + 3) (lv) (st) (σ)) : AW g K nL pc (lv) (iV y :: iV x :: st) (σ) := by
  obtain ⟨p, e, R, s, m, args, below, meth, c, cells, slots, Q, rfl, hx, hb, hml, hown, hts, hK, hD, hR⟩ := B
  intro H locs ls hP hl hS
  exact lv_icmp_ge hx hb dg ht (fun h9 => kt h9 H locs ls hP hl hS) (fun h9 => kf h9 H locs ls hP hl hS)
theorem a_if_gt (B : Cx g K cc nL own d) {x : Int32} {off : Int} (tgt : Nat) (dg : decode cc pc = .ok (.ifCond .gt off, 3)) (ht : (pc : Int) + off = (tgt : Int)) (kt : 0 < x → AW g K nL (tgt) (lv) (st) (σ)) (kf : ¬ 0 < x → AW g K nL (pc + 3) (lv) (st) (σ)) : AW g K nL pc (lv) (iV x :: st) (σ) := by
  obtain ⟨p, e, R, s, m, args, below, meth, c, cells, slots, Q, rfl, hx, hb, hml, hown, hts, hK, hD, hR⟩ := B
  intro H locs ls hP hl hS
  exact lv_if_gt hx hb dg ht (fun h9 => kt h9 H locs ls hP hl hS) (fun h9 => kf h9 H locs ls hP hl hS)
theorem a_icmp_gt (B : Cx g K cc nL own d) {x y : Int32} {off : Int} (tgt : Nat) (dg : decode cc pc = .ok (.if_icmp .gt off, 3)) (ht : (pc : Int) + off = (tgt : Int)) (kt : y < x → AW g K nL (tgt) (lv) (st) (σ)) (kf : ¬ y < x → AW g K nL (pc + 3) (lv) (st) (σ)) : AW g K nL pc (lv) (iV y :: iV x :: st) (σ) := by
  obtain ⟨p, e, R, s, m, args, below, meth, c, cells, slots, Q, rfl, hx, hb, hml, hown, hts, hK, hD, hR⟩ := B
  intro H locs ls hP hl hS
  exact lv_icmp_gt hx hb dg ht (fun h9 => kt h9 H locs ls hP hl hS) (fun h9 => kf h9 H locs ls hP hl hS)
theorem a_if_le (B : Cx g K cc nL own d) {x : Int32} {off : Int} (tgt : Nat) (dg : decode cc pc = .ok (.ifCond .le off, 3)) (ht : (pc : Int) + off = (tgt : Int)) (kt : x ≤ 0 → AW g K nL (tgt) (lv) (st) (σ)) (kf : ¬ x ≤ 0 → AW g K nL (pc + 3) (lv) (st) (σ)) : AW g K nL pc (lv) (iV x :: st) (σ) := by
  obtain ⟨p, e, R, s, m, args, below, meth, c, cells, slots, Q, rfl, hx, hb, hml, hown, hts, hK, hD, hR⟩ := B
  intro H locs ls hP hl hS
  exact lv_if_le hx hb dg ht (fun h9 => kt h9 H locs ls hP hl hS) (fun h9 => kf h9 H locs ls hP hl hS)
theorem a_icmp_le (B : Cx g K cc nL own d) {x y : Int32} {off : Int} (tgt : Nat) (dg : decode cc pc = .ok (.if_icmp .le off, 3)) (ht : (pc : Int) + off = (tgt : Int)) (kt : x ≤ y → AW g K nL (tgt) (lv) (st) (σ)) (kf : ¬ x ≤ y → AW g K nL (pc + 3) (lv) (st) (σ)) : AW g K nL pc (lv) (iV y :: iV x :: st) (σ) := by
  obtain ⟨p, e, R, s, m, args, below, meth, c, cells, slots, Q, rfl, hx, hb, hml, hown, hts, hK, hD, hR⟩ := B
  intro H locs ls hP hl hS
  exact lv_icmp_le hx hb dg ht (fun h9 => kt h9 H locs ls hP hl hS) (fun h9 => kf h9 H locs ls hP hl hS)
theorem a_goto (B : Cx g K cc nL own d) {off : Int} (tgt : Nat) (dg : decode cc pc = .ok (.goto off, 3)) (ht : (pc : Int) + off = (tgt : Int)) (k : AW g K nL (tgt) (lv) (st) (σ)) : AW g K nL pc (lv) (st) (σ) := by
  obtain ⟨p, e, R, s, m, args, below, meth, c, cells, slots, Q, rfl, hx, hb, hml, hown, hts, hK, hD, hR⟩ := B
  intro H locs ls hP hl hS
  exact lv_goto hx hb dg ht (k H locs ls hP hl hS)
theorem a_tableIn (B : Cx g K cc nL own d) {dflt lo hi : Int} {offs : Array Int} {len : Nat} {x : Int32} {off : Int} (tgt : Nat) (dg : decode cc pc = .ok (.tableswitch dflt lo hi offs, len)) (h1 : ¬ x.toInt < lo) (h2 : ¬ hi < x.toInt) (ho : offs[(x.toInt - lo).toNat]? = some off) (ht : (pc : Int) + off = (tgt : Int)) (k : AW g K nL (tgt) (lv) (st) (σ)) : AW g K nL pc (lv) (iV x :: st) (σ) := by
  obtain ⟨p, e, R, s, m, args, below, meth, c, cells, slots, Q, rfl, hx, hb, hml, hown, hts, hK, hD, hR⟩ := B
  intro H locs ls hP hl hS
  exact lv_tableIn hx hb dg h1 h2 ho ht (k H locs ls hP hl hS)
theorem a_tableOut (B : Cx g K cc nL own d) {dflt lo hi : Int} {offs : Array Int} {len : Nat} {x : Int32} (tgt : Nat) (dg : decode cc pc = .ok (.tableswitch dflt lo hi offs, len)) (h : x.toInt < lo ∨ hi < x.toInt) (ht : (pc : Int) + dflt = (tgt : Int)) (k : AW g K nL (tgt) (lv) (st) (σ)) : AW g K nL pc (lv) (iV x :: st) (σ) := by
  obtain ⟨p, e, R, s, m, args, below, meth, c, cells, slots, Q, rfl, hx, hb, hml, hown, hts, hK, hD, hR⟩ := B
  intro H locs ls hP hl hS
  exact lv_tableOut hx hb dg h ht (k H locs ls hP hl hS)
/-- fewer locals -/
theorem a_sub {lv1 : LV} (h : lv1.map (fun q => lkV lv q.1) = lv1.map (fun q => some q.2)) (k : AW g K nL pc (lv1) (st) (σ)) : AW g K nL pc (lv) (st) (σ) := by
  intro H locs ls hP hl
  refine k H locs ls hP ⟨hl.1, hl.2.1, fun q hq => ?_⟩
  obtain ⟨q1, h1, rfl⟩ := List.mem_map.mp hq
  have : lkV lv q1.1 = some q1.2 := (List.map_inj_left.mp h) q1 h1
  exact lv_look hl this
theorem ax_in {i : Int32} {n len : Nat} (hi : i = nI n) (hn : n < len) (hl : len < 2 ^ 31) : vp_in i len ∧ i.toNatClampNeg = n := by
  subst hi
  have h1 : n < 2 ^ 31 := Nat.lt_trans hn hl
  refine ⟨fun h => ?_, nI_clamp h1⟩
  rcases h with h | h
  · rw [Int32.lt_iff_toInt_lt, nI_toInt h1, Int32.toInt_zero] at h
    omega
  · rw [nI_clamp h1] at h
    omega
theorem lay_small : ∀ c ∈ layT, c.2.1 < 2 ^ 31 := by decide +kernel
theorem lay_len {k : Nat} {c : LC} (h : layT[k]? = some c) : c.2.1 < 2 ^ 31 := lay_small c (List.mem_of_getElem? h)
theorem a_iald (B : Cx g K cc nL own d) {k len : Nat} {rs : List (Option Nat)} {i : Int32} (hk : layT[k]? = some (0, len, rs)) (n : Nat) (hi : i = nI n) (hn : n < len) (dg : decode cc pc = .ok (.iaload, 1)) (kk : AW g K nL (pc + 1) (lv) (iV (σ.1 k n) :: st) (σ)) : AW g K nL pc (lv) (iV i :: rV k :: st) (σ) := by
  obtain ⟨p, e, R, s, m, args, below, meth, c, cells, slots, Q, rfl, hx, hb, hml, hown, hts, hK, hD, hR⟩ := B
  intro H locs ls hP hl hS
  obtain ⟨a1, a2⟩ := ax_in hi hn (lay_len hk)
  refine va_iald hx hb hK hP k 0 (wd_at hk) rfl a1 dg ?_
  rw [a2]
  exact kk H locs ls hP hl hS
theorem a_zald (B : Cx g K cc nL own d) {k len : Nat} {rs : List (Option Nat)} {i : Int32} (hk : layT[k]? = some (1, len, rs)) (n : Nat) (hi : i = nI n) (hn : n < len) (dg : decode cc pc = .ok (.baload, 1)) (kk : AW g K nL (pc + 1) (lv) (iV (σ.1 k n) :: st) (σ)) : AW g K nL pc (lv) (iV i :: rV k :: st) (σ) := by
  obtain ⟨p, e, R, s, m, args, below, meth, c, cells, slots, Q, rfl, hx, hb, hml, hown, hts, hK, hD, hR⟩ := B
  intro H locs ls hP hl hS
  obtain ⟨a1, a2⟩ := ax_in hi hn (lay_len hk)
  refine va_zald hx hb hK hP k 1 (wd_at hk) rfl a1 dg ?_
  rw [a2]
  exact kk H locs ls hP hl hS
theorem a_lald (B : Cx g K cc nL own d) {k len : Nat} {rs : List (Option Nat)} {i : Int32} (hk : layT[k]? = some (2, len, rs)) (n : Nat) (hi : i = nI n) (hn : n < len) (dg : decode cc pc = .ok (.laload, 1)) (kk : AW g K nL (pc + 1) (lv) (lV (σ.2 k n) :: st) (σ)) : AW g K nL pc (lv) (iV i :: rV k :: st) (σ) := by
  obtain ⟨p, e, R, s, m, args, below, meth, c, cells, slots, Q, rfl, hx, hb, hml, hown, hts, hK, hD, hR⟩ := B
  intro H locs ls hP hl hS
  obtain ⟨a1, a2⟩ := ax_in hi hn (lay_len hk)
  refine va_lald hx hb hK hP k 2 (wd_at hk) rfl a1 dg ?_
  rw [a2]
  exact kk H locs ls hP hl hS
theorem a_aald (B : Cx g K cc nL own d) {k len q kd : Nat} {rs : List (Option Nat)} {i : Int32} (hk : layT[k]? = some (kd, len, rs)) (hkd : kd = 3 ∨ kd = 4 ∨ kd = 5) (n : Nat) (hi : i = nI n) (hn : n < len) (hq : rs.getD n none = some q) (dg : decode cc pc = .ok (.aaload, 1)) (kk : AW g K nL (pc + 1) (lv) (rV q :: st) (σ)) : AW g K nL pc (lv) (iV i :: rV k :: st) (σ) := by
  obtain ⟨p, e, R, s, m, args, below, meth, c, cells, slots, Q, rfl, hx, hb, hml, hown, hts, hK, hD, hR⟩ := B
  intro H locs ls hP hl hS
  obtain ⟨a1, a2⟩ := ax_in hi hn (lay_len hk)
  have hlt : i.toNatClampNeg < len := by rw [a2]; exact hn
  have key : ∀ (cA : ClassId) (t0 : Nat) (ty : FieldType), (tyL g)[t0]? = some (cA, ty) → ty.isReference = true → (wd g σ)[k]? = some (g.2.2.1 k, .inl (cA, len, .inr (.inr (.inr (.inr (fun j => (rs.getD j none).map g.2.2.1)))))) → W p g.1 e R s m args below meth c H locs cells slots Q (F0 m pc ls (.int i :: .ref (g.2.2.1 k) :: st.map (cvV g.2.2.1))) := by
    intro cA t0 ty ht hty hat
    refine W.aald (v := .ref (g.2.2.1 q)) (ty := ty) hx hb (hP k _ hat) ((hK.2 t0 _ ht).1 len (fun j => va_rf ((rs.getD j none).map g.2.2.1))) hty (fun q => by cases q) (by show ¬ (i < 0 ∨ (arrV _ _ _).slots.size ≤ _); rw [arrV_size]; exact a1) (by show (arrV _ _ _).slots[_]? = _; rw [arrV_read _ _ hlt, a2]; show some (va_rf (Option.map _ (rs.getD n none))) = _; rw [hq]; rfl) rfl rfl dg (kk H locs ls hP hl hS)
  rcases hkd with rfl | rfl | rfl
  · exact key _ 3 _ rfl rfl (wd_at hk)
  · exact key _ 4 _ rfl rfl (wd_at hk)
  · exact key _ 5 _ rfl rfl (wd_at hk)
theorem a_alen (B : Cx g K cc nL own d) {k len : Nat} {rs : List (Option Nat)} {kd : Nat} (hk : layT[k]? = some (kd, len, rs)) (hkd : kd = 0 ∨ kd = 2) (dg : decode cc pc = .ok (.arraylength, 1)) (kk : AW g K nL (pc + 1) (lv) (iV (nI len) :: st) (σ)) : AW g K nL pc (lv) (rV k :: st) (σ) := by
  obtain ⟨p, e, R, s, m, args, below, meth, c, cells, slots, Q, rfl, hx, hb, hml, hown, hts, hK, hD, hR⟩ := B
  intro H locs ls hP hl hS
  rcases hkd with rfl | rfl
  · exact va_alen hx hb hK hP k 0 (wd_at hk) rfl rfl dg (kk H locs ls hP hl hS)
  · exact va_alen hx hb hK hP k 2 (wd_at hk) rfl rfl dg (kk H locs ls hP hl hS)
theorem a_iast (B : Cx g K cc nL own d) {k len : Nat} {rs : List (Option Nat)} {i x : Int32} (hk : layT[k]? = some (0, len, rs)) (n : Nat) (hi : i = nI n) (hn : n < len) (dg : decode cc pc = .ok (.iastore, 1)) (kk : AW g K nL (pc + 1) (lv) (st) (up1 σ k (upd (σ.1 k) n x))) : AW g K nL pc (lv) (iV x :: iV i :: rV k :: st) (σ) := by
  obtain ⟨p, e, R, s, m, args, below, meth, c, cells, slots, Q, rfl, hx, hb, hml, hown, hts, hK, hD, hR⟩ := B
  intro H locs ls hP hl hS
  obtain ⟨a1, a2⟩ := ax_in hi hn (lay_len hk)
  refine va_iast hx hb hK hP (hD σ) hS k 0 (wd_at hk) rfl a1 dg (fun H1 locs1 hP1 hD1 hS1 => ?_)
  refine kk H1 locs1 ls ?_ hl hS1
  have e := wd_set (g := g) (σ := σ) (τ := up1 σ k (upd (σ.1 k) n x)) hk (fun j h => up1_o h) (fun j _ => rfl)
  rw [← e]
  rw [a2] at hP1
  show va_P _ _ ((wd g σ).set k (_, .inl (_, len, .inl ((up1 σ k (upd (σ.1 k) n x)).1 k)))) H1
  rw [up1_s]
  exact hP1
theorem a_zast (B : Cx g K cc nL own d) {k len : Nat} {rs : List (Option Nat)} {i x : Int32} (hk : layT[k]? = some (1, len, rs)) (n : Nat) (hi : i = nI n) (hn : n < len) (hx1 : vp_nar .boolean x = x) (dg : decode cc pc = .ok (.bastore, 1)) (kk : AW g K nL (pc + 1) (lv) (st) (up1 σ k (upd (σ.1 k) n x))) : AW g K nL pc (lv) (iV x :: iV i :: rV k :: st) (σ) := by
  obtain ⟨p, e, R, s, m, args, below, meth, c, cells, slots, Q, rfl, hx, hb, hml, hown, hts, hK, hD, hR⟩ := B
  intro H locs ls hP hl hS
  obtain ⟨a1, a2⟩ := ax_in hi hn (lay_len hk)
  refine va_zast hx hb hK hP (hD σ) hS k 1 (wd_at hk) rfl a1 dg (fun H1 locs1 hP1 hD1 hS1 => ?_)
  refine kk H1 locs1 ls ?_ hl hS1
  have e := wd_set (g := g) (σ := σ) (τ := up1 σ k (upd (σ.1 k) n x)) hk (fun j h => up1_o h) (fun j _ => rfl)
  rw [← e]
  rw [a2, hx1] at hP1
  show va_P _ _ ((wd g σ).set k (_, .inl (_, len, .inl ((up1 σ k (upd (σ.1 k) n x)).1 k)))) H1
  rw [up1_s]
  exact hP1
theorem a_last (B : Cx g K cc nL own d) {k len : Nat} {rs : List (Option Nat)} {i : Int32} {x : Int64} (hk : layT[k]? = some (2, len, rs)) (n : Nat) (hi : i = nI n) (hn : n < len) (dg : decode cc pc = .ok (.lastore, 1)) (kk : AW g K nL (pc + 1) (lv) (st) (up2 σ k (vp_updL (σ.2 k) n x))) : AW g K nL pc (lv) (lV x :: iV i :: rV k :: st) (σ) := by
  obtain ⟨p, e, R, s, m, args, below, meth, c, cells, slots, Q, rfl, hx, hb, hml, hown, hts, hK, hD, hR⟩ := B
  intro H locs ls hP hl hS
  obtain ⟨a1, a2⟩ := ax_in hi hn (lay_len hk)
  refine va_last hx hb hK hP (hD σ) hS k 2 (wd_at hk) rfl a1 dg (fun H1 locs1 hP1 hD1 hS1 => ?_)
  refine kk H1 locs1 ls ?_ hl hS1
  have e := wd_set (g := g) (σ := σ) (τ := up2 σ k (vp_updL (σ.2 k) n x)) hk (fun j _ => rfl) (fun j h => up2_o h)
  rw [← e]
  rw [a2] at hP1
  show va_P _ _ ((wd g σ).set k (_, .inl (_, len, .inr (.inl ((up2 σ k (vp_updL (σ.2 k) n x)).2 k))))) H1
  rw [up2_s]
  exact hP1
theorem a_get (B : Cx g K cc nL own d) {k ci n N j index : Nat} {rs : List (Option Nat)} {C : String} {T : u_T} {r : Option Nat} (hk : layT[k]? = some (ci + 6, n, rs)) (hc : cls8[ci]? = some (C, T, N)) (hin : ∀ w ∈ u_ws C T N, w ∈ lw_tbl) (hj : j < N) (hr : rs[j]? = some r) (hl0 : Cond.fieldLink own index C (T j).2.1 (T j).2.2.1 ∈ lw_tbl) (hC : (T j).1 = C) (dg : decode cc pc = .ok (.getfield index, 3)) (v : AV) (hv : v = match r with | some q => rV q | none => iV (σ.1 k j)) (kk : AW g K nL (pc + 3) (lv) (v :: st) (σ)) : AW g K nL pc (lv) (rV k :: st) (σ) := by
  obtain ⟨p, e, R, s, m, args, below, meth, c, cells, slots, Q, rfl, hx, hb, hml, hown, hts, hK, hD, hR⟩ := B
  intro H locs ls hP hl hS
  have hin' : ∀ w ∈ u_ws C T N, w ∈ GT := fun w hw => inG (hin w hw) (by obtain ⟨k0, -, rfl⟩ := List.mem_map.mp hw; unfold u_lay; split <;> rfl)
  refine va_get hx hb hts hin' hown hK hP k (wd_at hk) hc j hj (hts _ (inG hl0 rfl)) (fun x h => by rw [hC] at h; exact h) (v := cvV g.2.2.1 v) ?_ dg (kk H locs ls hP hl hS)
  show (rs.mapIdx (fdV g.2.2.1 (σ.1 k)))[j]? = _
  rw [List.getElem?_mapIdx, hr, hv]
  cases r <;> rfl
theorem fd_set {ad : Nat → Nat} {f : Nat → Int32} {rs : List (Option Nat)} {j : Nat} {x : Int32} (hr : rs[j]? = some none) : (rs.mapIdx (fdV ad f)).set j (.int x) = rs.mapIdx (fdV ad (upd f j x)) := by
  apply List.ext_getElem?
  intro i
  have hl : j < (rs.mapIdx (fdV ad f)).length := by rw [List.length_mapIdx]; exact (List.getElem?_eq_some_iff.mp hr).1
  by_cases e : i = j
  · subst e
    rw [List.getElem?_set_self hl, List.getElem?_mapIdx, hr]
    simp [fdV, upd]
  · rw [List.getElem?_set_ne (fun q => e q.symm), List.getElem?_mapIdx, List.getElem?_mapIdx]
    cases h : rs[i]? with
    | none => rfl
    | some r => cases r <;> simp [fdV, upd, e]
theorem a_put (B : Cx g K cc nL own d) {k ci n N j index : Nat} {rs : List (Option Nat)} {C : String} {T : u_T} {ty0 : Nat → FieldType} {x : Int32} (hk : layT[k]? = some (ci + 6, n, rs)) (hc : cls8[ci]? = some (C, T, N)) (hin : ∀ w ∈ u_ws C T N, w ∈ lw_tbl) (hty : ∀ k, k < N → parseFieldDescriptor (T k).2.2.1 = some (ty0 k)) (hnm : ∀ a, a < N → ∀ b, b < N → a ≠ b → (T a).2.1 ≠ (T b).2.1) (hj : j < N) (hr : rs[j]? = some none) (hl0 : Cond.fieldLink own index C (T j).2.1 (T j).2.2.1 ∈ lw_tbl) (hC : (T j).1 = C) (hfin : (T j).2.2.2 = false) (hnr : narrow (ty0 j) (.int x) = .int x) (hft : fits (ty0 j) (.int x) = true) (dg : decode cc pc = .ok (.putfield index, 3)) (kk : AW g K nL (pc + 3) (lv) (st) (up1 σ k (upd (σ.1 k) j x))) : AW g K nL pc (lv) (iV x :: rV k :: st) (σ) := by
  obtain ⟨p, e, R, s, m, args, below, meth, c, cells, slots, Q, rfl, hx, hb, hml, hown, hts, hK, hD, hR⟩ := B
  intro H locs ls hP hl hS
  have hin' : ∀ w ∈ u_ws C T N, w ∈ GT := fun w hw => inG (hin w hw) (by obtain ⟨k0, -, rfl⟩ := List.mem_map.mp hw; unfold u_lay; split <;> rfl)
  refine va_put hx hb hts hin' ty0 hty hnm hown hK hP (hD σ) hS k (wd_at hk) hc j hj (hts _ (inG hl0 rfl)) (fun x h => by rw [hC] at h; exact h) hfin (hty j hj) hnr hft (by rw [List.length_mapIdx]; exact (List.getElem?_eq_some_iff.mp hr).1) dg (fun H1 locs1 hP1 hD1 hS1 => ?_)
  refine kk H1 locs1 ls ?_ hl hS1
  have e := wd_set (g := g) (σ := σ) (τ := up1 σ k (upd (σ.1 k) j x)) hk (fun j h => up1_o h) (fun j _ => rfl)
  rw [← e]
  have hP2 : va_P g.2.1 cls8 ((wd g σ).set k (g.2.2.1 k, .inr (ci, (rs.mapIdx (fdV g.2.2.1 (σ.1 k))).set j (.int x)))) H1 := hP1
  rw [fd_set hr] at hP2
  show va_P _ _ ((wd g σ).set k (_, .inr (ci, rs.mapIdx (fdV _ ((up1 σ k (upd (σ.1 k) j x)).1 k))))) H1
  rw [up1_s]
  exact hP2
end ARW
