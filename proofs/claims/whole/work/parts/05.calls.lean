/-! contracts over the abstract world, their beginning, their ends, and calls -/
def preW (g : GG) (σ : AH) (U : State) : Prop := va_P g.2.1 cls8 (wd g σ) U.heap ∧ va_K g.2.1 cls8 (tyL g) U
def posW (g : GG) (σ : AH) (t : State) : Prop := va_P g.2.1 cls8 (wd g σ) t.heap
def Gok (g : GG) : Prop := ∀ σ, va_D g.2.2.2.2 (wd g σ)
abbrev wsM (mi : MI) : List Cond := Cond.code mi.1 mi.2.1 mi.2.2.1 mi.2.2.2 :: GT
def TerI (g : GG) (d : Nat) (mi : MI) (as : List AV) (σ : AH) (post : Int32 → AH → Prop) : Prop :=
  Met g.1 mi.1 (wsM mi) (rmd d) (va_Pc (as.map (cvV g.2.2.1)) (preW g σ)) (va_Qi post (posW g) g.2.2.2.2) 0 0 g.2.2.2.2
def TerL (g : GG) (d : Nat) (mi : MI) (as : List AV) (σ : AH) (post : Int64 → AH → Prop) : Prop :=
  Met g.1 mi.1 (wsM mi) (rmd d) (va_Pc (as.map (cvV g.2.2.1)) (preW g σ)) (va_Ql post (posW g) g.2.2.2.2) 0 0 g.2.2.2.2
def TerV (g : GG) (d : Nat) (mi : MI) (as : List AV) (σ : AH) (post : AH → Prop) : Prop :=
  Met g.1 mi.1 (wsM mi) (rmd d) (va_Pc (as.map (cvV g.2.2.1)) (preW g σ)) (va_Qv post (posW g) g.2.2.2.2) 0 0 g.2.2.2.2
def RetI (g : GG) (K : AK) (cc : ByteArray) (nL : Nat) (post : Int32 → AH → Prop) : Prop := ∀ (pc : Nat) (lv : LV) (x : Int32) (σ : AH), decode cc pc = .ok (.ireturn, 1) → post x σ → AW g K nL pc lv [iV x] σ
def RetZ (g : GG) (K : AK) (cc : ByteArray) (nL : Nat) (post : Int32 → AH → Prop) : Prop := ∀ (pc : Nat) (lv : LV) (x : Int32) (σ : AH), decode cc pc = .ok (.ireturn, 1) → x = 0 ∨ x = 1 → post x σ → AW g K nL pc lv [iV x] σ
def RetL (g : GG) (K : AK) (cc : ByteArray) (nL : Nat) (post : Int64 → AH → Prop) : Prop := ∀ (pc : Nat) (lv : LV) (x : Int64) (σ : AH), decode cc pc = .ok (.lreturn, 1) → post x σ → AW g K nL pc lv [lV x] σ
def RetV (g : GG) (K : AK) (cc : ByteArray) (nL : Nat) (post : AH → Prop) : Prop := ∀ (pc : Nat) (lv : LV) (σ : AH), decode cc pc = .ok (.return_, 1) → post σ → AW g K nL pc lv [] σ
def lvA : Nat → List AV → LV
  | _, [] => []
  | k, v :: t => (k, v) :: lvA (cond (isL v) (k + 2) (k + 1)) t
theorem lvA_cv {ad : Nat → Nat} : ∀ (as : List AV) (k : Nat), lv_args k (as.map (cvV ad)) = cvL ad (lvA k as)
  | [], _ => rfl
  | v :: t, k => by
    have ih := lvA_cv (ad := ad) t (cond (isL v) (k + 2) (k + 1))
    show lv_args k (cvV ad v :: t.map (cvV ad)) = (k, cvV ad v) :: cvL ad (lvA _ t)
    rw [← ih]
    rcases v with x | x | x <;> rfl
def szA (as : List AV) : Nat := (as.map (fun v => cond (isL v) 2 1)).sum
theorem szA_cv {ad : Nat → Nat} : ∀ (as : List AV), (lg_sl (as.map (cvV ad))).length = szA as
  | [] => rfl
  | v :: t => by
    have ih := szA_cv (ad := ad) t
    unfold szA at ih ⊢
    unfold lg_sl at ih ⊢
    rw [List.map_cons, List.flatMap_cons, List.length_append, ih, List.map_cons, List.sum_cons]
    congr 1
    rcases v with x | x | x <;> rfl
section ACL
variable {g : GG} {K : AK} {cc : ByteArray} {nL : Nat} {own : String} {d : Nat} {pc : Nat} {lv : LV} {st : List AV} {σ : AH}
theorem hts_G {mi : MI} {args : Array Value} {s : State} (h : ∀ w ∈ wsM mi, w.before args s = true) : ∀ w ∈ GT, w.before args s = true := fun w hw => h w (List.mem_cons_of_mem _ hw)
theorem TerI.mk {mi : MI} {as : List AV} {post : Int32 → AH → Prop} (G : Gok g) (hy : plainName mi.1.cls = true) (hr : mi.2.2.2 = some .int) (hn : szA as ≤ mi.2.2.1) (body : ∀ K : AK, Cx g K mi.2.1 mi.2.2.1 mi.1.cls d → RetI g K mi.2.1 mi.2.2.1 post → AW g K mi.2.2.1 0 (lvA 0 as) [] σ) : TerI g d mi as σ post := by
  refine Met.ofW (cc := mi.2.1) (maxL := mi.2.2.1) (ret := mi.2.2.2) hy rfl ?_
  intro p e s m args below meth c s₁ B hml hv
  obtain ⟨rfl, hP, hK⟩ := hv
  have hx := B.exec
  have hb := B.bytes
  have hrt := B.returns
  rw [hr] at hrt
  have hts := hts_G (atoms_spec (ws := wsM mi) B.pre)
  have hown : s.vm.findClass mi.1.cls = some m.cls := findClass_of_methodNamed B.named
  have hlocks := B.notSynchronized
  have hl := lv_entry (as.map (cvV g.2.2.1)) (n := mi.2.2.1) (by rw [szA_cv]; exact hn)
  rw [lvA_cv] at hl
  rw [lg_entry_eq]
  generalize (lg_sl (as.map (cvV g.2.2.1)) ++ List.replicate (mi.2.2.1 - (lg_sl (as.map (cvV g.2.2.1))).length) Slot.unset).toArray = ls at hl ⊢
  refine body (fun H locs ls pc st => va_S g.2.2.2.2 s.heap H locs → W p g.1 e (rmd d) s m _ below meth c H locs 0 0 _ (F0 m pc ls st)) ⟨p, e, rmd d, s, m, _, below, meth, c, 0, 0, _, rfl, hx, hb, hml, hown, hts, hK, G, Nat.le_refl _, Nat.le_refl _, Nat.le_refl _, Nat.le_refl _⟩ ?_ s.heap [] ls hP hl va_S.rf
  intro pc lv x σ dg hp H locs ls hP hl hS
  exact W.iret hx hb hrt (fun t ht hW => ⟨⟨x, σ, rfl, hp, by show va_P _ _ _ t.heap; rw [ht]; exact hP⟩, hS.F ht⟩) hS.2.2 dg
theorem TerI.mkZ {mi : MI} {as : List AV} {post : Int32 → AH → Prop} (G : Gok g) (hy : plainName mi.1.cls = true) (hr : mi.2.2.2 = some .boolean) (hn : szA as ≤ mi.2.2.1) (body : ∀ K : AK, Cx g K mi.2.1 mi.2.2.1 mi.1.cls d → RetZ g K mi.2.1 mi.2.2.1 post → AW g K mi.2.2.1 0 (lvA 0 as) [] σ) : TerI g d mi as σ post := by
  refine Met.ofW (cc := mi.2.1) (maxL := mi.2.2.1) (ret := mi.2.2.2) hy rfl ?_
  intro p e s m args below meth c s₁ B hml hv
  obtain ⟨rfl, hP, hK⟩ := hv
  have hx := B.exec
  have hb := B.bytes
  have hrt := B.returns
  rw [hr] at hrt
  have hts := hts_G (atoms_spec (ws := wsM mi) B.pre)
  have hown : s.vm.findClass mi.1.cls = some m.cls := findClass_of_methodNamed B.named
  have hlocks := B.notSynchronized
  have hl := lv_entry (as.map (cvV g.2.2.1)) (n := mi.2.2.1) (by rw [szA_cv]; exact hn)
  rw [lvA_cv] at hl
  rw [lg_entry_eq]
  generalize (lg_sl (as.map (cvV g.2.2.1)) ++ List.replicate (mi.2.2.1 - (lg_sl (as.map (cvV g.2.2.1))).length) Slot.unset).toArray = ls at hl ⊢
  refine body (fun H locs ls pc st => va_S g.2.2.2.2 s.heap H locs → W p g.1 e (rmd d) s m _ below meth c H locs 0 0 _ (F0 m pc ls st)) ⟨p, e, rmd d, s, m, _, below, meth, c, 0, 0, _, rfl, hx, hb, hml, hown, hts, hK, G, Nat.le_refl _, Nat.le_refl _, Nat.le_refl _, Nat.le_refl _⟩ ?_ s.heap [] ls hP hl va_S.rf
  intro pc lv x σ dg h01 hp H locs ls hP hl hS
  exact W.zret hx hb hrt (by rcases h01 with rfl | rfl <;> rfl) (fun t ht hW => ⟨⟨x, σ, rfl, hp, by show va_P _ _ _ t.heap; rw [ht]; exact hP⟩, hS.F ht⟩) hS.2.2 dg
theorem TerL.mk {mi : MI} {as : List AV} {post : Int64 → AH → Prop} (G : Gok g) (hy : plainName mi.1.cls = true) (hr : mi.2.2.2 = some .long) (hn : szA as ≤ mi.2.2.1) (body : ∀ K : AK, Cx g K mi.2.1 mi.2.2.1 mi.1.cls d → RetL g K mi.2.1 mi.2.2.1 post → AW g K mi.2.2.1 0 (lvA 0 as) [] σ) : TerL g d mi as σ post := by
  refine Met.ofW (cc := mi.2.1) (maxL := mi.2.2.1) (ret := mi.2.2.2) hy rfl ?_
  intro p e s m args below meth c s₁ B hml hv
  obtain ⟨rfl, hP, hK⟩ := hv
  have hx := B.exec
  have hb := B.bytes
  have hrt := B.returns
  rw [hr] at hrt
  have hts := hts_G (atoms_spec (ws := wsM mi) B.pre)
  have hown : s.vm.findClass mi.1.cls = some m.cls := findClass_of_methodNamed B.named
  have hlocks := B.notSynchronized
  have hl := lv_entry (as.map (cvV g.2.2.1)) (n := mi.2.2.1) (by rw [szA_cv]; exact hn)
  rw [lvA_cv] at hl
  rw [lg_entry_eq]
  generalize (lg_sl (as.map (cvV g.2.2.1)) ++ List.replicate (mi.2.2.1 - (lg_sl (as.map (cvV g.2.2.1))).length) Slot.unset).toArray = ls at hl ⊢
  refine body (fun H locs ls pc st => va_S g.2.2.2.2 s.heap H locs → W p g.1 e (rmd d) s m _ below meth c H locs 0 0 _ (F0 m pc ls st)) ⟨p, e, rmd d, s, m, _, below, meth, c, 0, 0, _, rfl, hx, hb, hml, hown, hts, hK, G, Nat.le_refl _, Nat.le_refl _, Nat.le_refl _, Nat.le_refl _⟩ ?_ s.heap [] ls hP hl va_S.rf
  intro pc lv x σ dg hp H locs ls hP hl hS
  exact W.lret hx hb hrt (fun t ht hW => ⟨⟨x, σ, rfl, hp, by show va_P _ _ _ t.heap; rw [ht]; exact hP⟩, hS.F ht⟩) hS.2.2 dg
theorem TerV.mk {mi : MI} {as : List AV} {post : AH → Prop} (G : Gok g) (hy : plainName mi.1.cls = true) (hr : mi.2.2.2 = none) (hn : szA as ≤ mi.2.2.1) (body : ∀ K : AK, Cx g K mi.2.1 mi.2.2.1 mi.1.cls d → RetV g K mi.2.1 mi.2.2.1 post → AW g K mi.2.2.1 0 (lvA 0 as) [] σ) : TerV g d mi as σ post := by
  refine Met.ofW (cc := mi.2.1) (maxL := mi.2.2.1) (ret := mi.2.2.2) hy rfl ?_
  intro p e s m args below meth c s₁ B hml hv
  obtain ⟨rfl, hP, hK⟩ := hv
  have hx := B.exec
  have hb := B.bytes
  have hrt := B.returns
  rw [hr] at hrt
  have hts := hts_G (atoms_spec (ws := wsM mi) B.pre)
  have hown : s.vm.findClass mi.1.cls = some m.cls := findClass_of_methodNamed B.named
  have hlocks := B.notSynchronized
  have hl := lv_entry (as.map (cvV g.2.2.1)) (n := mi.2.2.1) (by rw [szA_cv]; exact hn)
  rw [lvA_cv] at hl
  rw [lg_entry_eq]
  generalize (lg_sl (as.map (cvV g.2.2.1)) ++ List.replicate (mi.2.2.1 - (lg_sl (as.map (cvV g.2.2.1))).length) Slot.unset).toArray = ls at hl ⊢
  refine body (fun H locs ls pc st => va_S g.2.2.2.2 s.heap H locs → W p g.1 e (rmd d) s m _ below meth c H locs 0 0 _ (F0 m pc ls st)) ⟨p, e, rmd d, s, m, _, below, meth, c, 0, 0, _, rfl, hx, hb, hml, hown, hts, hK, G, Nat.le_refl _, Nat.le_refl _, Nat.le_refl _, Nat.le_refl _⟩ ?_ s.heap [] ls hP hl va_S.rf
  intro pc lv σ dg hp H locs ls hP hl hS
  exact W.vret hx hb hrt (fun t ht hW => ⟨⟨σ, rfl, hp, by show va_P _ _ _ t.heap; rw [ht]; exact hP⟩, hS.F ht⟩) hS.2.2 dg
theorem G_good {w : Cond} (h : w ∈ GT) : w ∈ GT ∧ ((w.onTables && w.keeps) = true ∨ ∃ ty, w = .arrayClass ty) := ⟨h, good_of_word (List.mem_filter.mp h).2⟩
theorem wsM_good {mi : MI} (h : Cond.code mi.1 mi.2.1 mi.2.2.1 mi.2.2.2 ∈ lw_tbl) : GoodIn GT (wsM mi) := fun w hw => by
  rcases List.mem_cons.mp hw with rfl | hw
  · exact G_good (inG h rfl)
  · exact G_good hw
theorem pre_blind {as : List Value} : FrameBlind (va_Pc as (preW g σ)) := fun a U fg mk q => ⟨q.1, q.2.1, va_K.moved (u := U) (U := U.calling fg mk a) (Vm.Alike.refl U.vm) q.2.2⟩
def catA (v : AV) : Nat := cond (isL v) 2 1
theorem catA_cv {ad : Nat → Nat} (st : List AV) : ((st.map (cvV ad)).map fun v => v.category).sum = (st.map catA).sum := by
  rw [List.map_map]
  congr 1
  apply List.map_congr_left
  intro v _
  rcases v with x | x | x <;> rfl
theorem a_callVI (B : Cx g K cc nL own d) {mi : MI} {d1 k ci m0 N n idx : Nat} {as rest : List AV} {post : Int32 → AH → Prop} {C : String} {T0 : u_T} {rs : List (Option Nat)} (T : TerI g d1 mi (rV k :: as) σ post) (dg : decode cc pc = .ok (.invokevirtual idx, 3)) (hok : okV mi C n) (ml : Cond.methodLink own idx mi.1 ∈ lw_tbl) (hk : layT[k]? = some (ci + 6, m0, rs)) (hc : cls8[ci]? = some (C, T0, N)) (hlen : as.length = n) (hd : d1 + 1 ≤ d) (hm : mi.2.2.1 ≤ 21) (hst : st = as.reverse ++ rV k :: rest) (hcat : (rest.map catA).sum ≤ 8) (kk : ∀ (r : Int32) (τ : AH), post r τ → AW g K nL (pc + 3) lv (iV r :: rest) τ) : AW g K nL pc lv st σ := by
  obtain ⟨p, e, R, s, m, args, below, meth, c, cells, slots, Q, rfl, hx, hb, hml, hown, hts, hK, hD, hR1, hR2, hR3, hR4⟩ := B
  intro H locs ls hP hl hS
  obtain ⟨o1, o2, o3, o4, o5, o6⟩ := hok
  have cw : CallW R s args own C idx mi.1 mi.2.1 mi.2.2.1 mi.2.2.2 (wsM mi) (rmd d1) 0 0 n := ⟨callB_of n hts (wsM_good o4) rfl rfl rfl (by rw [o5]; exact hts _ (inG o3 rfl)) (hts _ (inG ml rfl)) o6 ⟨by show d1 + 1 ≤ _; omega, by show 8 + (_ + 11) + 40 * d1 ≤ _; omega⟩, hts _ (inG o1 rfl), hts _ (inG o2 rfl)⟩
  refine va_calli (va_runV (As := as.map (cvV g.2.2.1)) (rest := rest.map (cvV g.2.2.1)) (b := g.2.2.1 k) ⟨hx, hb, hml, hown, hts⟩ T cw ⟨pre_blind, va_recv hK hP hc (wd_at hk), fun U hU hW => ⟨rfl, by rw [hU]; exact hP, va_K.moved hW.alike hK⟩⟩ rfl (by rw [List.length_map]; exact hlen) hl.1 (by rw [hst]; simp [cvV]) (lv_room (by rw [catA_cv]; exact hcat)) dg ⟨hR3, hR4⟩) hS (fun q _ h => h) (fun q h => h) (fun r u t H1 locs1 ht hvm hw hB hz1 hk1 hS1 => kk r u hw H1 locs1 ls (by rw [← ht]; exact hB) hl hS1)
theorem a_callSI (B : Cx g K cc nL own d) {mi : MI} {d1 n idx : Nat} {as rest : List AV} {post : Int32 → AH → Prop} (T : TerI g d1 mi as σ post) (dg : decode cc pc = .ok (.invokestatic idx, 3)) (hok : okS mi n) (ml : Cond.methodLink own idx mi.1 ∈ lw_tbl) (hlen : as.length = n) (hd : d1 + 1 ≤ d) (hm : mi.2.2.1 ≤ 21) (hst : st = as.reverse ++ rest) (hcat : (rest.map catA).sum ≤ 8) (kk : ∀ (r : Int32) (τ : AH), post r τ → AW g K nL (pc + 3) lv (iV r :: rest) τ) : AW g K nL pc lv st σ := by
  obtain ⟨p, e, R, s, m, args, below, meth, c, cells, slots, Q, rfl, hx, hb, hml, hown, hts, hK, hD, hR1, hR2, hR3, hR4⟩ := B
  intro H locs ls hP hl hS
  obtain ⟨o1, o3, o4, o6⟩ := hok
  have cw : CallB R s args own idx mi.1 mi.2.1 mi.2.2.1 mi.2.2.2 (wsM mi) (rmd d1) 0 0 n ∧ (Cond.static mi.1).before args s = true := ⟨callB_of n hts (wsM_good o4) rfl rfl rfl (hts _ (inG o3 rfl)) (hts _ (inG ml rfl)) o6 ⟨by show d1 + 1 ≤ _; omega, by show 8 + (_ + 11) + 40 * d1 ≤ _; omega⟩, hts _ (inG o1 rfl)⟩
  refine va_calli (va_runS (As := as.map (cvV g.2.2.1)) (rest := rest.map (cvV g.2.2.1)) ⟨hx, hb, hml, hown, hts⟩ T cw ⟨pre_blind, fun U hU hW => ⟨rfl, by rw [hU]; exact hP, va_K.moved hW.alike hK⟩⟩ rfl (by rw [List.length_map]; exact hlen) hl.1 (by rw [hst]; simp) (lv_room (by rw [catA_cv]; exact hcat)) dg ⟨hR3, hR4⟩) hS (fun q _ h => h) (fun q h => h) (fun r u t H1 locs1 ht hvm hw hB hz1 hk1 hS1 => kk r u hw H1 locs1 ls (by rw [← ht]; exact hB) hl hS1)
theorem a_callVL (B : Cx g K cc nL own d) {mi : MI} {d1 k ci m0 N n idx : Nat} {as rest : List AV} {post : Int64 → AH → Prop} {C : String} {T0 : u_T} {rs : List (Option Nat)} (T : TerL g d1 mi (rV k :: as) σ post) (dg : decode cc pc = .ok (.invokevirtual idx, 3)) (hok : okV mi C n) (ml : Cond.methodLink own idx mi.1 ∈ lw_tbl) (hk : layT[k]? = some (ci + 6, m0, rs)) (hc : cls8[ci]? = some (C, T0, N)) (hlen : as.length = n) (hd : d1 + 1 ≤ d) (hm : mi.2.2.1 ≤ 21) (hst : st = as.reverse ++ rV k :: rest) (hcat : (rest.map catA).sum ≤ 8) (kk : ∀ (r : Int64) (τ : AH), post r τ → AW g K nL (pc + 3) lv (lV r :: rest) τ) : AW g K nL pc lv st σ := by
  obtain ⟨p, e, R, s, m, args, below, meth, c, cells, slots, Q, rfl, hx, hb, hml, hown, hts, hK, hD, hR1, hR2, hR3, hR4⟩ := B
  intro H locs ls hP hl hS
  obtain ⟨o1, o2, o3, o4, o5, o6⟩ := hok
  have cw : CallW R s args own C idx mi.1 mi.2.1 mi.2.2.1 mi.2.2.2 (wsM mi) (rmd d1) 0 0 n := ⟨callB_of n hts (wsM_good o4) rfl rfl rfl (by rw [o5]; exact hts _ (inG o3 rfl)) (hts _ (inG ml rfl)) o6 ⟨by show d1 + 1 ≤ _; omega, by show 8 + (_ + 11) + 40 * d1 ≤ _; omega⟩, hts _ (inG o1 rfl), hts _ (inG o2 rfl)⟩
  refine va_calll (va_runV (As := as.map (cvV g.2.2.1)) (rest := rest.map (cvV g.2.2.1)) (b := g.2.2.1 k) ⟨hx, hb, hml, hown, hts⟩ T cw ⟨pre_blind, va_recv hK hP hc (wd_at hk), fun U hU hW => ⟨rfl, by rw [hU]; exact hP, va_K.moved hW.alike hK⟩⟩ rfl (by rw [List.length_map]; exact hlen) hl.1 (by rw [hst]; simp [cvV]) (lv_room (by rw [catA_cv]; exact hcat)) dg ⟨hR3, hR4⟩) hS (fun q _ h => h) (fun q h => h) (fun r u t H1 locs1 ht hvm hw hB hz1 hk1 hS1 => kk r u hw H1 locs1 ls (by rw [← ht]; exact hB) hl hS1)
theorem a_callSL (B : Cx g K cc nL own d) {mi : MI} {d1 n idx : Nat} {as rest : List AV} {post : Int64 → AH → Prop} (T : TerL g d1 mi as σ post) (dg : decode cc pc = .ok (.invokestatic idx, 3)) (hok : okS mi n) (ml : Cond.methodLink own idx mi.1 ∈ lw_tbl) (hlen : as.length = n) (hd : d1 + 1 ≤ d) (hm : mi.2.2.1 ≤ 21) (hst : st = as.reverse ++ rest) (hcat : (rest.map catA).sum ≤ 8) (kk : ∀ (r : Int64) (τ : AH), post r τ → AW g K nL (pc + 3) lv (lV r :: rest) τ) : AW g K nL pc lv st σ := by
  obtain ⟨p, e, R, s, m, args, below, meth, c, cells, slots, Q, rfl, hx, hb, hml, hown, hts, hK, hD, hR1, hR2, hR3, hR4⟩ := B
  intro H locs ls hP hl hS
  obtain ⟨o1, o3, o4, o6⟩ := hok
  have cw : CallB R s args own idx mi.1 mi.2.1 mi.2.2.1 mi.2.2.2 (wsM mi) (rmd d1) 0 0 n ∧ (Cond.static mi.1).before args s = true := ⟨callB_of n hts (wsM_good o4) rfl rfl rfl (hts _ (inG o3 rfl)) (hts _ (inG ml rfl)) o6 ⟨by show d1 + 1 ≤ _; omega, by show 8 + (_ + 11) + 40 * d1 ≤ _; omega⟩, hts _ (inG o1 rfl)⟩
  refine va_calll (va_runS (As := as.map (cvV g.2.2.1)) (rest := rest.map (cvV g.2.2.1)) ⟨hx, hb, hml, hown, hts⟩ T cw ⟨pre_blind, fun U hU hW => ⟨rfl, by rw [hU]; exact hP, va_K.moved hW.alike hK⟩⟩ rfl (by rw [List.length_map]; exact hlen) hl.1 (by rw [hst]; simp) (lv_room (by rw [catA_cv]; exact hcat)) dg ⟨hR3, hR4⟩) hS (fun q _ h => h) (fun q h => h) (fun r u t H1 locs1 ht hvm hw hB hz1 hk1 hS1 => kk r u hw H1 locs1 ls (by rw [← ht]; exact hB) hl hS1)
theorem a_callVV (B : Cx g K cc nL own d) {mi : MI} {d1 k ci m0 N n idx : Nat} {as rest : List AV} {post : AH → Prop} {C : String} {T0 : u_T} {rs : List (Option Nat)} (T : TerV g d1 mi (rV k :: as) σ post) (dg : decode cc pc = .ok (.invokevirtual idx, 3)) (hok : okV mi C n) (ml : Cond.methodLink own idx mi.1 ∈ lw_tbl) (hk : layT[k]? = some (ci + 6, m0, rs)) (hc : cls8[ci]? = some (C, T0, N)) (hlen : as.length = n) (hd : d1 + 1 ≤ d) (hm : mi.2.2.1 ≤ 21) (hst : st = as.reverse ++ rV k :: rest) (hcat : (rest.map catA).sum ≤ 8) (kk : ∀ (τ : AH), post τ → AW g K nL (pc + 3) lv (rest) τ) : AW g K nL pc lv st σ := by
  obtain ⟨p, e, R, s, m, args, below, meth, c, cells, slots, Q, rfl, hx, hb, hml, hown, hts, hK, hD, hR1, hR2, hR3, hR4⟩ := B
  intro H locs ls hP hl hS
  obtain ⟨o1, o2, o3, o4, o5, o6⟩ := hok
  have cw : CallW R s args own C idx mi.1 mi.2.1 mi.2.2.1 mi.2.2.2 (wsM mi) (rmd d1) 0 0 n := ⟨callB_of n hts (wsM_good o4) rfl rfl rfl (by rw [o5]; exact hts _ (inG o3 rfl)) (hts _ (inG ml rfl)) o6 ⟨by show d1 + 1 ≤ _; omega, by show 8 + (_ + 11) + 40 * d1 ≤ _; omega⟩, hts _ (inG o1 rfl), hts _ (inG o2 rfl)⟩
  refine va_callv (va_runV (As := as.map (cvV g.2.2.1)) (rest := rest.map (cvV g.2.2.1)) (b := g.2.2.1 k) ⟨hx, hb, hml, hown, hts⟩ T cw ⟨pre_blind, va_recv hK hP hc (wd_at hk), fun U hU hW => ⟨rfl, by rw [hU]; exact hP, va_K.moved hW.alike hK⟩⟩ rfl (by rw [List.length_map]; exact hlen) hl.1 (by rw [hst]; simp [cvV]) (lv_room (by rw [catA_cv]; exact hcat)) dg ⟨hR3, hR4⟩) hS (fun q _ h => h) (fun q h => h) (fun u t H1 locs1 ht hvm hw hB hz1 hk1 hS1 => kk u hw H1 locs1 ls (by rw [← ht]; exact hB) hl hS1)
theorem a_callSV (B : Cx g K cc nL own d) {mi : MI} {d1 n idx : Nat} {as rest : List AV} {post : AH → Prop} (T : TerV g d1 mi as σ post) (dg : decode cc pc = .ok (.invokestatic idx, 3)) (hok : okS mi n) (ml : Cond.methodLink own idx mi.1 ∈ lw_tbl) (hlen : as.length = n) (hd : d1 + 1 ≤ d) (hm : mi.2.2.1 ≤ 21) (hst : st = as.reverse ++ rest) (hcat : (rest.map catA).sum ≤ 8) (kk : ∀ (τ : AH), post τ → AW g K nL (pc + 3) lv (rest) τ) : AW g K nL pc lv st σ := by
  obtain ⟨p, e, R, s, m, args, below, meth, c, cells, slots, Q, rfl, hx, hb, hml, hown, hts, hK, hD, hR1, hR2, hR3, hR4⟩ := B
  intro H locs ls hP hl hS
  obtain ⟨o1, o3, o4, o6⟩ := hok
  have cw : CallB R s args own idx mi.1 mi.2.1 mi.2.2.1 mi.2.2.2 (wsM mi) (rmd d1) 0 0 n ∧ (Cond.static mi.1).before args s = true := ⟨callB_of n hts (wsM_good o4) rfl rfl rfl (hts _ (inG o3 rfl)) (hts _ (inG ml rfl)) o6 ⟨by show d1 + 1 ≤ _; omega, by show 8 + (_ + 11) + 40 * d1 ≤ _; omega⟩, hts _ (inG o1 rfl)⟩
  refine va_callv (va_runS (As := as.map (cvV g.2.2.1)) (rest := rest.map (cvV g.2.2.1)) ⟨hx, hb, hml, hown, hts⟩ T cw ⟨pre_blind, fun U hU hW => ⟨rfl, by rw [hU]; exact hP, va_K.moved hW.alike hK⟩⟩ rfl (by rw [List.length_map]; exact hlen) hl.1 (by rw [hst]; simp) (lv_room (by rw [catA_cv]; exact hcat)) dg ⟨hR3, hR4⟩) hS (fun q _ h => h) (fun q h => h) (fun u t H1 locs1 ht hvm hw hB hz1 hk1 hS1 => kk u hw H1 locs1 ls (by rw [← ht]; exact hB) hl hS1)
theorem a_copyi (B : Cx g K cc nL own d) {k0 k1 idx l0 l1 sp dp n : Nat} {r0 r1 : List (Option Nat)} {isp idp i : Int32} {rest : List AV} (h0 : layT[k0]? = some (0, l0, r0)) (h1 : layT[k1]? = some (0, l1, r1)) (dg : decode cc pc = .ok (.invokestatic idx, 3)) (ml : Cond.methodLink own idx arraycopyName ∈ lw_tbl) (hn : Cond.native arraycopyName ∈ lw_tbl) (hs : Cond.static arraycopyName ∈ lw_tbl) (hi : Cond.initialized "java/lang/System" ∈ lw_tbl) (hd : 1 ≤ d) (hcat : (rest.map catA).sum ≤ 8) (e1 : isp = nI sp) (e2 : idp = nI dp) (e3 : i = nI n) (b1 : sp + n ≤ l0) (b2 : dp + n ≤ l1) (kk : AW g K nL (pc + 3) lv rest (up1 σ k1 (va_cpy (σ.1 k0) (σ.1 k1) sp dp n))) : AW g K nL pc lv (iV i :: iV idp :: rV k1 :: iV isp :: rV k0 :: rest) σ := by
  obtain ⟨p, e, R, s, m, args, below, meth, c, cells, slots, Q, rfl, hx, hb, hml, hown, hts, hK, hD, hR1, hR2, hR3, hR4⟩ := B
  intro H locs ls hP hl hS
  have s0 := lay_len h0
  have s1 := lay_len h1
  dsimp only at s0 s1
  subst e1; subst e2; subst e3
  have c1 := nI_clamp (n := sp) (by omega)
  have c2 := nI_clamp (n := dp) (by omega)
  have c3 := nI_clamp (n := n) (by omega)
  have nn : ∀ z : Nat, z < 2 ^ 31 → ¬ nI z < 0 := fun z hz h => by
    rw [Int32.lt_iff_toInt_lt, nI_toInt hz, Int32.toInt_zero] at h
    omega
  refine va_copyi hx hb (hml.trans hl.1.symm) hown (hts _ (inG ml rfl)) (hts _ (inG hn rfl)) (hts _ (inG hs rfl)) (hts _ (inG hi rfl)) hK hP (hD σ) hS k0 k1 0 0 (wd_at h0) (wd_at h1) rfl rfl rfl (nn _ (by omega)) (nn _ (by omega)) (nn _ (by omega)) (by rw [c1, c3]; exact b1) (by rw [c2, c3]; exact b2) (fun i _ => rfl) (by omega) (by have : nativeFrameWords "java/lang/System" "arraycopy" 5 ≤ 10 := (by decide); show ((rest.map (cvV g.2.2.1)).map fun v => v.category).sum + _ ≤ _; rw [catA_cv]; omega) dg (fun H1 locs1 hP1 hD1 hS1 => ?_)
  refine kk H1 locs1 ls ?_ hl hS1
  have e := wd_set (g := g) (σ := σ) (τ := up1 σ k1 (va_cpy (σ.1 k0) (σ.1 k1) sp dp n)) h1 (fun j h => up1_o h) (fun j _ => rfl)
  rw [← e]
  rw [c1, c2, c3] at hP1
  show va_P _ _ ((wd g σ).set k1 (_, .inl (_, l1, .inl ((up1 σ k1 (va_cpy (σ.1 k0) (σ.1 k1) sp dp n)).1 k1)))) H1
  rw [up1_s]
  exact hP1
end ACL
