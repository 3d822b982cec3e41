def bI (b : Bool) : Int32 := cond b 1 0
theorem bI_01 (b : Bool) : bI b = 0 ∨ bI b = 1 := by cases b <;> simp [bI]
theorem bI_nar (b : Bool) : vp_nar .boolean (bI b) = bI b := by cases b <;> rfl
section ABF
variable {g : GG} {K : AK} {cc : ByteArray} {nL : Nat} {own : String} {d : Nat} {pc : Nat} {lv : LV} {st : List AV} {σ : AH}
theorem b_if_eq_b (B : Cx g K cc nL own d) {b : Bool} {off : Int} (tgt : Nat) (dg : decode cc pc = .ok (.ifCond .eq off, 3)) (ht : (pc : Int) + off = (tgt : Int)) (kt : b = false → AW g K nL tgt lv st σ) (kf : b = true → AW g K nL (pc + 3) lv st σ) : AW g K nL pc lv (iV (bI b) :: st) σ := a_if_eq B tgt dg ht (fun h => kt (by cases b; rfl; exact absurd h (by decide))) (fun h => kf (by cases b; exact absurd rfl h; rfl))
theorem b_if_ne_b (B : Cx g K cc nL own d) {b : Bool} {off : Int} (tgt : Nat) (dg : decode cc pc = .ok (.ifCond .ne off, 3)) (ht : (pc : Int) + off = (tgt : Int)) (kt : b = true → AW g K nL tgt lv st σ) (kf : b = false → AW g K nL (pc + 3) lv st σ) : AW g K nL pc lv (iV (bI b) :: st) σ := a_if_ne B tgt dg ht (fun h => kt (by cases b; exact absurd rfl h; rfl)) (fun h => kf (by cases b; rfl; exact absurd h (by decide)))
theorem b_if_lt (B : Cx g K cc nL own d) {a : Nat} {off : Int} (tgt : Nat) (dg : decode cc pc = .ok (.ifCond .lt off, 3)) (ht : (pc : Int) + off = (tgt : Int)) (ha : a < 2 ^ 31) (kf : AW g K nL (pc + 3) lv st σ) : AW g K nL pc lv (iV (nI a) :: st) σ := a_if_lt B tgt dg ht (fun h => absurd h (nI_nn ha)) (fun _ => kf)
theorem b_if_ge (B : Cx g K cc nL own d) {a : Nat} {off : Int} (tgt : Nat) (dg : decode cc pc = .ok (.ifCond .ge off, 3)) (ht : (pc : Int) + off = (tgt : Int)) (ha : a < 2 ^ 31) (kf : AW g K nL tgt lv st σ) : AW g K nL pc lv (iV (nI a) :: st) σ := a_if_ge B tgt dg ht (fun _ => kf) (fun h => absurd (nI_ge0 ha) h)
end ABF
theorem wn_acopy : Cond.native arraycopyName ∈ lw_tbl := in_t2 (List.mem_of_getElem? (i := 12) rfl)
theorem ws_acopy : Cond.static arraycopyName ∈ lw_tbl := in_t2 (List.mem_of_getElem? (i := 11) rfl)
theorem wi_acopy : Cond.initialized "java/lang/System" ∈ lw_tbl := in_t1 (List.mem_of_getElem? (i := 10) rfl)
theorem wi_math : Cond.initialized "java/lang/Math" ∈ lw_tbl := in_t1 (List.mem_of_getElem? (i := 11) rfl)
theorem ws_mmin : Cond.static Lib.Math.min.name ∈ lw_tbl := in_t2 (List.mem_of_getElem? (i := 26) (by decide +kernel))
theorem wc_mmin : Cond.code Lib.Math.min.name Lib.Math.min.code 2 (some .int) ∈ lw_tbl := in_t2 (List.mem_of_getElem? (i := 27) (by decide +kernel))
theorem a_mmin {g : GG} {K : AK} {cc : ByteArray} {nL : Nat} {own : String} {d : Nat} {pc : Nat} {lv : LV} {st : List AV} {σ : AH} (B : Cx g K cc nL own d) {idx : Nat} {x y : Int32} (hd : 1 ≤ d) (hcat : (st.map catA).sum ≤ 8) (dg : decode cc pc = .ok (.invokestatic idx, 3)) (ml : Cond.methodLink own idx m_Ma_min_III.1 ∈ lw_tbl) (k : AW g K nL (pc + 3) lv (iV (if y < x then y else x) :: st) σ) : AW g K nL pc lv (iV y :: iV x :: st) σ := by
  obtain ⟨p, e, R, s, m, args, below, meth, c, cells, slots, Q, rfl, hx, hb, hml, hown, hts, hK, hD, hR1, hR2, hR3, hR4⟩ := B
  intro H locs ls hP hl hS
  exact va_mmin hx hb (hml.trans hl.1.symm) hown (hts _ (inG ml rfl)) (hts _ (inG ws_mmin rfl)) (hts _ (inG wi_math rfl)) (hts _ (inG wc_mmin rfl)) (by omega) (by show ((st.map (cvV g.2.2.1)).map fun v => v.category).sum + _ ≤ _; rw [catA_cv]; omega) hR3 hR4 dg (k H locs ls hP hl hS)
theorem ws_mmax : Cond.static Lib.Math.max.name ∈ lw_tbl := in_t2 (List.mem_of_getElem? (i := 29) (by decide +kernel))
theorem wc_mmax : Cond.code Lib.Math.max.name Lib.Math.max.code 2 (some .int) ∈ lw_tbl := in_t2 (List.mem_of_getElem? (i := 30) (by decide +kernel))
theorem a_mmax {g : GG} {K : AK} {cc : ByteArray} {nL : Nat} {own : String} {d : Nat} {pc : Nat} {lv : LV} {st : List AV} {σ : AH} (B : Cx g K cc nL own d) {idx : Nat} {x y : Int32} (hd : 1 ≤ d) (hcat : (st.map catA).sum ≤ 8) (dg : decode cc pc = .ok (.invokestatic idx, 3)) (ml : Cond.methodLink own idx m_Ma_max.1 ∈ lw_tbl) (k : AW g K nL (pc + 3) lv (iV (if x < y then y else x) :: st) σ) : AW g K nL pc lv (iV y :: iV x :: st) σ := by
  obtain ⟨p, e, R, s, m, args, below, meth, c, cells, slots, Q, rfl, hx, hb, hml, hown, hts, hK, hD, hR1, hR2, hR3, hR4⟩ := B
  intro H locs ls hP hl hS
  exact va_mmax hx hb (hml.trans hl.1.symm) hown (hts _ (inG ml rfl)) (hts _ (inG ws_mmax rfl)) (hts _ (inG wi_math rfl)) (hts _ (inG wc_mmax rfl)) (by omega) (by show ((st.map (cvV g.2.2.1)).map fun v => v.category).sum + _ ≤ _; rw [catA_cv]; omega) hR3 hR4 dg (k H locs ls hP hl hS)
theorem ws_mmin_long : Cond.static Lib.MathLoose.min_long.x ∈ lw_tbl := in_t2 (List.mem_of_getElem? (i := 183) (by decide +kernel))
theorem wc_mmin_long : Cond.code Lib.MathLoose.min_long.x Lib.MathLoose.min_long.code 4 (some .long) ∈ lw_tbl := in_t2 (List.mem_of_getElem? (i := 184) (by decide +kernel))
theorem a_mmin_long {g : GG} {K : AK} {cc : ByteArray} {nL : Nat} {own : String} {d : Nat} {pc : Nat} {lv : LV} {st : List AV} {σ : AH} (B : Cx g K cc nL own d) {idx : Nat} {x y : Int64} (hd : 1 ≤ d) (hcat : (st.map catA).sum ≤ 8) (dg : decode cc pc = .ok (.invokestatic idx, 3)) (ml : Cond.methodLink own idx m_Ma_min_JJJ.1 ∈ lw_tbl) (k : AW g K nL (pc + 3) lv (lV (if y < x then y else x) :: st) σ) : AW g K nL pc lv (lV y :: lV x :: st) σ := by
  obtain ⟨p, e, R, s, m, args, below, meth, c, cells, slots, Q, rfl, hx, hb, hml, hown, hts, hK, hD, hR1, hR2, hR3, hR4⟩ := B
  intro H locs ls hP hl hS
  exact va_mmin_long hx hb (hml.trans hl.1.symm) hown (hts _ (inG ml rfl)) (hts _ (inG ws_mmin_long rfl)) (hts _ (inG wi_math rfl)) (hts _ (inG wc_mmin_long rfl)) (by omega) (by show ((st.map (cvV g.2.2.1)).map fun v => v.category).sum + _ ≤ _; rw [catA_cv]; omega) hR3 hR4 dg (k H locs ls hP hl hS)
theorem d_Fi_answer_0 : decode prog_4_method_2_code 0 = .ok (.aload_n 0, 1) := by decide +kernel
theorem d_Fi_answer_1 : decode prog_4_method_2_code 1 = .ok (.iload_n 1, 1) := by decide +kernel
theorem d_Fi_answer_2 : decode prog_4_method_2_code 2 = .ok (.putfield 15, 3) := by decide +kernel
theorem d_Fi_answer_5 : decode prog_4_method_2_code 5 = .ok (.aload_n 0, 1) := by decide +kernel
theorem d_Fi_answer_6 : decode prog_4_method_2_code 6 = .ok (.getfield 9, 3) := by decide +kernel
theorem d_Fi_answer_9 : decode prog_4_method_2_code 9 = .ok (.iload_n 1, 1) := by decide +kernel
theorem d_Fi_answer_10 : decode prog_4_method_2_code 10 = .ok (.dup2, 1) := by decide +kernel
theorem d_Fi_answer_11 : decode prog_4_method_2_code 11 = .ok (.iaload, 1) := by decide +kernel
theorem d_Fi_answer_12 : decode prog_4_method_2_code 12 = .ok (.iconst 1, 1) := by decide +kernel
theorem d_Fi_answer_13 : decode prog_4_method_2_code 13 = .ok (.iadd, 1) := by decide +kernel
theorem d_Fi_answer_14 : decode prog_4_method_2_code 14 = .ok (.iastore, 1) := by decide +kernel
theorem d_Fi_answer_15 : decode prog_4_method_2_code 15 = .ok (.bipush (-3), 2) := by decide +kernel
theorem d_Fi_answer_17 : decode prog_4_method_2_code 17 = .ok (.ireturn, 1) := by decide +kernel
set_option maxRecDepth 20000 in
theorem t_Fi_answer {g : GG} (G : Gok g) {σ : AH} (w : Nat) (hw : w < 6) : TerI g 0 m_Fi_answer [rV 15, iV (nI w)] σ (fun r τ => r = -3 ∧ τ = up1 (up1 σ 15 (upd (σ.1 15) 1 (nI w))) 16 (upd (σ.1 16) w (σ.1 16 w + 1))) := by
  refine TerI.mk G (by decide +kernel) rfl (Nat.le_of_ble_eq_true rfl) (fun K B Rt => ?_)
  have B : Cx g K prog_4_method_2_code 2 R_Fi 0 := B
  have Rt : RetI g K prog_4_method_2_code 2 (fun r τ => r = -3 ∧ τ = up1 (up1 σ 15 (upd (σ.1 15) 1 (nI w))) 16 (upd (σ.1 16) w (σ.1 16 w + 1))) := Rt
  show AW g K 2 0 [(0, rV 15), (1, iV (nI w))] [] σ
  refine a_aload_n B d_Fi_answer_0 rfl rfl ?_
  refine a_iload_n B d_Fi_answer_1 rfl rfl ?_
  refine pf_Fi_latest B d_Fi_answer_2 fl_Fi_15 ?_
  refine a_aload_n B d_Fi_answer_5 rfl rfl ?_
  refine gf_Fi_counts B d_Fi_answer_6 fl_Fi_9 ?_
  refine a_iload_n B d_Fi_answer_9 rfl rfl ?_
  refine a_dup2 B d_Fi_answer_10 rfl rfl ?_
  refine a_iald B ly_16 _ rfl (by first | assumption | omega) d_Fi_answer_11 ?_
  refine a_iconst B d_Fi_answer_12 ci_1 ?_
  first | refine b_iadd B d_Fi_answer_13 ?_ | refine a_iadd B d_Fi_answer_13 ?_
  refine a_iast B ly_16 _ rfl (by first | assumption | omega) d_Fi_answer_14 ?_
  refine a_bipush B d_Fi_answer_15 cb_m3 ?_
  exact Rt _ _ _ _ d_Fi_answer_17 ⟨rfl, rfl⟩
def unlR (n : Nat) (th : Nat → Int32) (pl : Nat → Nat → Int32) (a b : Nat) : Int32 := if a = b ∨ n ≤ max a b ∨ th (max a b) = 0 then 0 else pl (max a b) (min a b)
