/-! the class: trees made, the best turns, trees that face -/
theorem pa_congr {a b : Nat} {pl pl' : Nat → Int32} (h : ∀ x, x < 10 → (a.testBit x = true ∨ b.testBit x = true) → pl x = pl' x) : pa a b pl = pa a b pl' := by
  unfold pa paN
  refine sumTo_congr (fun x hx => sumTo_congr (fun y hy => ?_))
  unfold paG
  by_cases e1 : a.testBit x = true
  · by_cases e2 : b.testBit y = true
    · rw [h x hx (Or.inl e1), h y hy (Or.inr e2)]
    · simp [e2]
  · simp [e1]
theorem pa_cg {T : TT} (hW : Wf T) {v w : Nat} (hv : v < 2 * tN T - 1) (hw : w < 2 * tN T - 1) {pl pl' : Nat → Int32} (h : ∀ x, x < tN T → pl x = pl' x) : pa (tM T v) (tM T w) pl = pa (tM T v) (tM T w) pl' :=
  pa_congr (fun x _ q => h x (q.elim (fun q => hasL_lt hW v x hv q) (fun q => hasL_lt hW w x hw q)))
theorem cross_cg {T : TT} (hW : Wf T) {pl pl' : Nat → Int32} (h : ∀ x, x < tN T → pl x = pl' x) : crossT T pl = crossT T pl' :=
  sumTo_congr (fun k hk => by
    obtain ⟨q1, q2, -⟩ := hW.2.2.1 (tN T + k) (by omega) (by omega)
    exact pa_cg hW (by omega) (by omega) h)
theorem least_cg {T : TT} (hW : Wf T) {pl pl' : Nat → Int32} (h : ∀ x, x < tN T → pl x = pl' x) : leastT T pl = leastT T pl' :=
  sumTo_congr (fun k hk => by
    obtain ⟨q1, q2, -⟩ := hW.2.2.1 (tN T + k) (by omega) (by omega)
    rw [pa_cg hW (by omega) (by omega) h, pa_cg hW (v := tL T (tN T + k)) (w := tR T (tN T + k)) (by omega) (by omega) h])
theorem turnsAt_cg {T : TT} (hW : Wf T) {pl pl' : Nat → Int32} (h : ∀ x, x < tN T → pl x = pl' x) : turnsAt T pl = turnsAt T pl' := by
  funext v
  unfold turnsAt
  by_cases h1 : tN T ≤ v
  · by_cases h2 : v < 2 * tN T - 1
    · obtain ⟨q1, q2, -⟩ := hW.2.2.1 v h1 h2
      rw [pa_cg hW (v := tL T v) (w := tR T v) (by omega) (by omega) h, pa_cg hW (v := tR T v) (w := tL T v) (by omega) (by omega) h]
    · simp [h2]
  · simp [h1]
theorem look_cg {T : TT} (hW : Wf T) {pl pl' : Nat → Int32} (h : ∀ x, x < tN T → pl x = pl' x) : lookT T pl = lookT T pl' := by
  unfold lookT
  rw [turnsAt_cg hW h]
theorem looks_cg {T : TT} (hW : Wf T) {pl pl' : Nat → Int32} (h : ∀ x, x < tN T → pl x = pl' x) : looksN T pl = looksN T pl' := by
  unfold looksN
  rw [turnsAt_cg hW h]
theorem start_pl {σ : AH} {u : Nat} {U : TT} (hW : Wf U) (hP : RtP σ u U) {n : Nat} (hn : n = tN U) : ∀ x, x < n → σ.1 (tI u + 9) x = plT U x := fun x hx => by
  have := hW.1
  rw [hP.1 x (by omega)]
  exact (if_pos (by omega)).symm
theorem fr_TrC {σ τ : AH} {t : Nat} {T : TT} (h11 : σ.1 (tI t) 11 = 1) (hW : Wf T) (hA : RtA τ t T) (hB : RtB τ t T) (hP : RtP τ t T) (hF : frT t σ τ) : TrC τ t T :=
  TrC_mk (by rw [hF.2 _ (by omega) (by omega) (by omega) (by omega) (by omega)]; exact h11) hW hA hB hP
theorem RelC_fr {S : Sp} {σ τ : AH} {t : Nat} {T : TT} (h : RelC S σ) (ht : t < 4) (h11 : σ.1 (tI t) 11 = 1) (hW : Wf T) (hA : RtA τ t T) (hB : RtB τ t T) (hP : RtP τ t T) (hF : frT t σ τ) : RelC (pT S t T) τ :=
  RelC_tree h ht (fr_TrC h11 hW hA hB hP hF) (fun k q1 _ _ _ _ => hF.2 k (by omega) (by omega) (by omega) (by omega) (by omega))
theorem frC_fr {σ τ : AH} {t : Nat} (ht : t < 4) (hF : frT t σ τ) : frC σ τ := fun k hk => by
  have h58 : tI t = 58 + 12 * t := rfl
  exact hF.2 k (by omega) (by omega) (by omega) (by omega) (by omega)
theorem d_Lo_make_0 : decode prog_1_method_9_code 0 = .ok (.iload_n 1, 1) := by decide +kernel
theorem d_Lo_make_1 : decode prog_1_method_9_code 1 = .ok (.invokestatic 110, 3) := by decide +kernel
theorem d_Lo_make_4 : decode prog_1_method_9_code 4 = .ok (.ifCond .eq 12, 3) := by decide +kernel
theorem d_Lo_make_7 : decode prog_1_method_9_code 7 = .ok (.iload_n 2, 1) := by decide +kernel
theorem d_Lo_make_8 : decode prog_1_method_9_code 8 = .ok (.ifCond .lt 8, 3) := by decide +kernel
theorem d_Lo_make_11 : decode prog_1_method_9_code 11 = .ok (.iload_n 2, 1) := by decide +kernel
theorem d_Lo_make_12 : decode prog_1_method_9_code 12 = .ok (.iconst 2, 1) := by decide +kernel
theorem d_Lo_make_13 : decode prog_1_method_9_code 13 = .ok (.if_icmp .le 5, 3) := by decide +kernel
theorem d_Lo_make_16 : decode prog_1_method_9_code 16 = .ok (.iconst (-1), 1) := by decide +kernel
theorem d_Lo_make_17 : decode prog_1_method_9_code 17 = .ok (.ireturn, 1) := by decide +kernel
theorem d_Lo_make_18 : decode prog_1_method_9_code 18 = .ok (.aload_n 0, 1) := by decide +kernel
theorem d_Lo_make_19 : decode prog_1_method_9_code 19 = .ok (.getfield 12, 3) := by decide +kernel
theorem d_Lo_make_22 : decode prog_1_method_9_code 22 = .ok (.getfield 74, 3) := by decide +kernel
theorem d_Lo_make_25 : decode prog_1_method_9_code 25 = .ok (.ifCond .ne 6, 3) := by decide +kernel
theorem d_Lo_make_28 : decode prog_1_method_9_code 28 = .ok (.bipush (-4), 2) := by decide +kernel
theorem d_Lo_make_30 : decode prog_1_method_9_code 30 = .ok (.ireturn, 1) := by decide +kernel
theorem d_Lo_make_31 : decode prog_1_method_9_code 31 = .ok (.aload_n 0, 1) := by decide +kernel
theorem d_Lo_make_32 : decode prog_1_method_9_code 32 = .ok (.getfield 26, 3) := by decide +kernel
theorem d_Lo_make_35 : decode prog_1_method_9_code 35 = .ok (.aload_n 0, 1) := by decide +kernel
theorem d_Lo_make_36 : decode prog_1_method_9_code 36 = .ok (.getfield 18, 3) := by decide +kernel
theorem d_Lo_make_39 : decode prog_1_method_9_code 39 = .ok (.iload_n 1, 1) := by decide +kernel
theorem d_Lo_make_40 : decode prog_1_method_9_code 40 = .ok (.aaload, 1) := by decide +kernel
theorem d_Lo_make_41 : decode prog_1_method_9_code 41 = .ok (.aload_n 0, 1) := by decide +kernel
theorem d_Lo_make_42 : decode prog_1_method_9_code 42 = .ok (.getfield 12, 3) := by decide +kernel
theorem d_Lo_make_45 : decode prog_1_method_9_code 45 = .ok (.iload_n 2, 1) := by decide +kernel
theorem d_Lo_make_46 : decode prog_1_method_9_code 46 = .ok (.invokevirtual 113, 3) := by decide +kernel
theorem d_Lo_make_49 : decode prog_1_method_9_code 49 = .ok (.aload_n 0, 1) := by decide +kernel
theorem d_Lo_make_50 : decode prog_1_method_9_code 50 = .ok (.getfield 18, 3) := by decide +kernel
theorem d_Lo_make_53 : decode prog_1_method_9_code 53 = .ok (.iload_n 1, 1) := by decide +kernel
theorem d_Lo_make_54 : decode prog_1_method_9_code 54 = .ok (.aaload, 1) := by decide +kernel
theorem d_Lo_make_55 : decode prog_1_method_9_code 55 = .ok (.getfield 117, 3) := by decide +kernel
theorem d_Lo_make_58 : decode prog_1_method_9_code 58 = .ok (.ireturn, 1) := by decide +kernel
set_option maxHeartbeats 4000000 in
set_option maxRecDepth 20000 in
theorem tC_make {g : GG} (G : Gok g) {σ : AH} {S : Sp} (hS : RelC S σ) (x w : Int32) : TerI g 5 m_Lo_make [rV 0, iV x, iV w] σ (fun r τ => r = (sp_make S x w).1 ∧ RelC (sp_make S x w).2 τ ∧ frC σ τ) := by
  refine TerI.mk G (by decide +kernel) rfl (Nat.le_of_ble_eq_true rfl) (fun K B Rt => ?_)
  have B : Cx g K prog_1_method_9_code 3 R_Lo 5 := B
  have Rt : RetI g K prog_1_method_9_code 3 (fun r τ => r = (sp_make S x w).1 ∧ RelC (sp_make S x w).2 τ ∧ frC σ τ) := Rt
  show AW g K 3 0 [(0, rV 0), (1, iV x), (2, iV w)] [] σ
  obtain ⟨hN, hn, hth, hpl, hbd⟩ := id hS.1
  refine a_iload_n B d_Lo_make_0 rfl rfl ?_
  refine a_callSI B (t_Lo_isTree G x) d_Lo_make_1 ok_Lo_isTree ml_Lo_110 rfl (by decide) (by decide) rfl (Nat.le_of_ble_eq_true rfl) (fun r_1 τ_1 h_1 => ?_)
  obtain ⟨hr_1, hs_1⟩ := h_1
  subst hr_1
  replace hs_1 := hs_1.symm
  subst hs_1
  first | refine b_if_eq_b B 16 d_Lo_make_4 rfl (fun c_4 => ?_) (fun c_4 => ?_) | refine a_if_eq B 16 d_Lo_make_4 rfl (fun c_4 => ?_) (fun c_4 => ?_)
  · skip
    have hqt := isS_f c_4
    refine a_iconst B d_Lo_make_16 ci_m1 ?_
    exact Rt _ _ _ _ d_Lo_make_17 (by first | exact (by have e : sp_make S x w = RB S := (by rw [sp_make, hqt]); rw [e]; exact ⟨rfl, hS, (fun _ _ => rfl)⟩) | exact (by have e : sp_make S (nI t) w = RB S := (by rw [sp_make, hqt, isS_f (rng_lo c_8)]); rw [e]; exact ⟨rfl, hS, (fun _ _ => rfl)⟩) | exact (by have e : sp_make S (nI t) w = RB S := (by rw [sp_make, hqt, rng_nle (by decide) c_13]); rw [e]; exact ⟨rfl, hS, (fun _ _ => rfl)⟩))
  obtain ⟨t, hqt⟩ := isS_t c_4
  obtain ⟨ht, rfl⟩ := rngQ_some (by decide) hqt
  refine a_iload_n B d_Lo_make_7 rfl rfl ?_
  refine a_if_lt B 16 d_Lo_make_8 rfl (fun c_8 => ?_) (fun c_8 => ?_)
  · skip
    refine a_iconst B d_Lo_make_16 ci_m1 ?_
    exact Rt _ _ _ _ d_Lo_make_17 (by first | exact (by have e : sp_make S x w = RB S := (by rw [sp_make, hqt]); rw [e]; exact ⟨rfl, hS, (fun _ _ => rfl)⟩) | exact (by have e : sp_make S (nI t) w = RB S := (by rw [sp_make, hqt, isS_f (rng_lo c_8)]); rw [e]; exact ⟨rfl, hS, (fun _ _ => rfl)⟩) | exact (by have e : sp_make S (nI t) w = RB S := (by rw [sp_make, hqt, rng_nle (by decide) c_13]); rw [e]; exact ⟨rfl, hS, (fun _ _ => rfl)⟩))
  refine a_iload_n B d_Lo_make_11 rfl rfl ?_
  refine a_iconst B d_Lo_make_12 ci_2 ?_
  first | refine b_icmp_le B 18 d_Lo_make_13 rfl (by omega) (by omega) (fun c_13 => ?_) (fun c_13 => ?_) | refine a_icmp_le B 18 d_Lo_make_13 rfl (fun c_13 => ?_) (fun c_13 => ?_)
  · skip
    obtain ⟨k, hqk⟩ := rng_le (by decide) c_8 c_13
    obtain ⟨hk, rfl⟩ := rngQ_some (by decide) hqk
    refine a_aload_n B d_Lo_make_18 rfl rfl ?_
    refine gf_Lo_rows B d_Lo_make_19 fl_Lo_12 ?_
    refine gf_Ro_leafCount B d_Lo_make_22 fl_Lo_74 ?_
    rw [hN]
    first | refine b_if_ne_b B 31 d_Lo_make_25 rfl (fun c_25 => ?_) (fun c_25 => ?_) | refine a_if_ne B 31 d_Lo_make_25 rfl (fun c_25 => ?_) (fun c_25 => ?_)
    · skip
      have hn0 : sN S ≠ 0 := fun q => c_25 (by rw [q]; rfl)
      refine a_aload_n B d_Lo_make_31 rfl rfl ?_
      refine gf_Lo_maker B d_Lo_make_32 fl_Lo_26 ?_
      refine a_aload_n B d_Lo_make_35 rfl rfl ?_
      refine gf_Lo_trees B d_Lo_make_36 fl_Lo_18 ?_
      refine a_iload_n B d_Lo_make_39 rfl rfl ?_
      refine al_tr B _ rfl (by first | assumption | omega) d_Lo_make_40 ?_
      refine a_aload_n B d_Lo_make_41 rfl rfl ?_
      refine gf_Lo_rows B d_Lo_make_42 fl_Lo_12 ?_
      refine a_iload_n B d_Lo_make_45 rfl rfl ?_
      refine a_callVV (ci := 3) B (t_Mk_build G ht hk (by omega) hS.1) d_Lo_make_46 ok_Mk_build ml_Lo_113 ly_5 rfl rfl (by decide) (by decide) rfl (Nat.le_of_ble_eq_true rfl) (fun τ_46 h_46 => ?_)
      obtain ⟨z1, z11, zA, zB, zP, zF⟩ := h_46
      refine a_aload_n B d_Lo_make_49 rfl rfl ?_
      refine gf_Lo_trees B d_Lo_make_50 fl_Lo_18 ?_
      refine a_iload_n B d_Lo_make_53 rfl rfl ?_
      refine al_tr B _ rfl (by first | assumption | omega) d_Lo_make_54 ?_
      refine gf_Tr_nodeCount B (by first | assumption | omega) d_Lo_make_55 fl_Lo_117 ?_
      rw [zA.2.1]
      exact Rt _ _ _ _ d_Lo_make_58 (by have e : sp_make S (nI t) (nI k) = (nI (2 * sN S - 1), pT S t (makeT (uS S) k (sN S))) := (by rw [sp_make, hqt, hqk]; exact if_neg hn0); rw [e]; exact ⟨rfl, RelC_tree hS ht (TrC_mk z11 (Wf_make (unl_le hbd) (by omega) hn) zA zB zP) (fun k9 q1 q2 q3 q4 q5 => zF k9 q2 (by omega) (by omega)), fun k9 hk9 => zF k9 (by omega) (by omega) (by have h58 : tI t = 58 + 12 * t := rfl; omega)⟩)
    refine a_bipush B d_Lo_make_28 cb_m4 ?_
    exact Rt _ _ _ _ d_Lo_make_30 (by have e : sp_make S (nI t) (nI k) = RS S := (by rw [sp_make, hqt, hqk]; exact if_pos (nI_z (by omega) c_25)); rw [e]; exact ⟨rfl, hS, (fun _ _ => rfl)⟩)
  refine a_iconst B d_Lo_make_16 ci_m1 ?_
  exact Rt _ _ _ _ d_Lo_make_17 (by first | exact (by have e : sp_make S x w = RB S := (by rw [sp_make, hqt]); rw [e]; exact ⟨rfl, hS, (fun _ _ => rfl)⟩) | exact (by have e : sp_make S (nI t) w = RB S := (by rw [sp_make, hqt, isS_f (rng_lo c_8)]); rw [e]; exact ⟨rfl, hS, (fun _ _ => rfl)⟩) | exact (by have e : sp_make S (nI t) w = RB S := (by rw [sp_make, hqt, rng_nle (by decide) c_13]); rw [e]; exact ⟨rfl, hS, (fun _ _ => rfl)⟩))
theorem d_Lo_best_0 : decode prog_1_method_17_code 0 = .ok (.aload_n 0, 1) := by decide +kernel
theorem d_Lo_best_1 : decode prog_1_method_17_code 1 = .ok (.iload_n 1, 1) := by decide +kernel
theorem d_Lo_best_2 : decode prog_1_method_17_code 2 = .ok (.invokevirtual 120, 3) := by decide +kernel
theorem d_Lo_best_5 : decode prog_1_method_17_code 5 = .ok (.istore_n 2, 1) := by decide +kernel
theorem d_Lo_best_6 : decode prog_1_method_17_code 6 = .ok (.iload_n 2, 1) := by decide +kernel
theorem d_Lo_best_7 : decode prog_1_method_17_code 7 = .ok (.ifCond .eq 5, 3) := by decide +kernel
theorem d_Lo_best_10 : decode prog_1_method_17_code 10 = .ok (.iload_n 2, 1) := by decide +kernel
theorem d_Lo_best_11 : decode prog_1_method_17_code 11 = .ok (.ireturn, 1) := by decide +kernel
theorem d_Lo_best_12 : decode prog_1_method_17_code 12 = .ok (.aload_n 0, 1) := by decide +kernel
theorem d_Lo_best_13 : decode prog_1_method_17_code 13 = .ok (.getfield 18, 3) := by decide +kernel
theorem d_Lo_best_16 : decode prog_1_method_17_code 16 = .ok (.iload_n 1, 1) := by decide +kernel
theorem d_Lo_best_17 : decode prog_1_method_17_code 17 = .ok (.aaload, 1) := by decide +kernel
theorem d_Lo_best_18 : decode prog_1_method_17_code 18 = .ok (.astore_n 3, 1) := by decide +kernel
theorem d_Lo_best_19 : decode prog_1_method_17_code 19 = .ok (.aload_n 3, 1) := by decide +kernel
theorem d_Lo_best_20 : decode prog_1_method_17_code 20 = .ok (.aload_n 0, 1) := by decide +kernel
theorem d_Lo_best_21 : decode prog_1_method_17_code 21 = .ok (.getfield 12, 3) := by decide +kernel
theorem d_Lo_best_24 : decode prog_1_method_17_code 24 = .ok (.invokevirtual 161, 3) := by decide +kernel
theorem d_Lo_best_27 : decode prog_1_method_17_code 27 = .ok (.istore 4, 2) := by decide +kernel
theorem d_Lo_best_29 : decode prog_1_method_17_code 29 = .ok (.aload_n 0, 1) := by decide +kernel
theorem d_Lo_best_30 : decode prog_1_method_17_code 30 = .ok (.getfield 33, 3) := by decide +kernel
theorem d_Lo_best_33 : decode prog_1_method_17_code 33 = .ok (.aload_n 3, 1) := by decide +kernel
theorem d_Lo_best_34 : decode prog_1_method_17_code 34 = .ok (.aload_n 0, 1) := by decide +kernel
theorem d_Lo_best_35 : decode prog_1_method_17_code 35 = .ok (.getfield 12, 3) := by decide +kernel
theorem d_Lo_best_38 : decode prog_1_method_17_code 38 = .ok (.invokevirtual 165, 3) := by decide +kernel
theorem d_Lo_best_41 : decode prog_1_method_17_code 41 = .ok (.aload_n 3, 1) := by decide +kernel
theorem d_Lo_best_42 : decode prog_1_method_17_code 42 = .ok (.aload_n 0, 1) := by decide +kernel
theorem d_Lo_best_43 : decode prog_1_method_17_code 43 = .ok (.getfield 33, 3) := by decide +kernel
theorem d_Lo_best_46 : decode prog_1_method_17_code 46 = .ok (.getfield 169, 3) := by decide +kernel
theorem d_Lo_best_49 : decode prog_1_method_17_code 49 = .ok (.invokevirtual 171, 3) := by decide +kernel
theorem d_Lo_best_52 : decode prog_1_method_17_code 52 = .ok (.pop, 1) := by decide +kernel
theorem d_Lo_best_53 : decode prog_1_method_17_code 53 = .ok (.aload_n 0, 1) := by decide +kernel
theorem d_Lo_best_54 : decode prog_1_method_17_code 54 = .ok (.aload_n 3, 1) := by decide +kernel
theorem d_Lo_best_55 : decode prog_1_method_17_code 55 = .ok (.aload_n 0, 1) := by decide +kernel
theorem d_Lo_best_56 : decode prog_1_method_17_code 56 = .ok (.getfield 12, 3) := by decide +kernel
theorem d_Lo_best_59 : decode prog_1_method_17_code 59 = .ok (.invokevirtual 161, 3) := by decide +kernel
theorem d_Lo_best_62 : decode prog_1_method_17_code 62 = .ok (.putfield 71, 3) := by decide +kernel
theorem d_Lo_best_65 : decode prog_1_method_17_code 65 = .ok (.iload 4, 2) := by decide +kernel
theorem d_Lo_best_67 : decode prog_1_method_17_code 67 = .ok (.aload_n 0, 1) := by decide +kernel
theorem d_Lo_best_68 : decode prog_1_method_17_code 68 = .ok (.getfield 71, 3) := by decide +kernel
theorem d_Lo_best_71 : decode prog_1_method_17_code 71 = .ok (.isub, 1) := by decide +kernel
theorem d_Lo_best_72 : decode prog_1_method_17_code 72 = .ok (.ireturn, 1) := by decide +kernel
set_option maxHeartbeats 4000000 in
set_option maxRecDepth 20000 in
theorem tC_best {g : GG} (G : Gok g) {σ : AH} {S : Sp} (hS : RelC S σ) (x : Int32) : TerI g 5 m_Lo_best [rV 0, iV x] σ (fun r τ => r = (sp_best S x).1 ∧ RelC (sp_best S x).2 τ ∧ frC σ τ) := by
  refine TerI.mk G (by decide +kernel) rfl (Nat.le_of_ble_eq_true rfl) (fun K B Rt => ?_)
  have B : Cx g K prog_1_method_17_code 5 R_Lo 5 := B
  have Rt : RetI g K prog_1_method_17_code 5 (fun r τ => r = (sp_best S x).1 ∧ RelC (sp_best S x).2 τ ∧ frC σ τ) := Rt
  show AW g K 5 0 [(0, rV 0), (1, iV x)] [] σ
  refine a_aload_n B d_Lo_best_0 rfl rfl ?_
  refine a_iload_n B d_Lo_best_1 rfl rfl ?_
  refine a_callVI (ci := 6) B (t_Lo_treeRefused G hS x) d_Lo_best_2 ok_Lo_treeRefused ml_Lo_120 ly_0 rfl rfl (by decide) (by decide) rfl (Nat.le_of_ble_eq_true rfl) (fun r_2 τ_2 h_2 => ?_)
  rcases h_2 with ⟨q, hq, hr9, hR9, hF9⟩ | ⟨t, hq, hr9, hs9⟩
  · skip
    subst hr9
    refine a_istore_n (lv1 := [(0, _), (1, _), (2, _)]) B d_Lo_best_5 rfl (by decide) rfl ?_
    refine a_iload_n B d_Lo_best_6 rfl rfl ?_
    refine a_if_eq B 12 d_Lo_best_7 rfl (fun c9 => absurd c9 (neg_nz (trQ_neg hq)).1) (fun _ => ?_)
    refine a_iload_n B d_Lo_best_10 rfl rfl ?_
    exact Rt _ _ _ _ d_Lo_best_11 (by have e : sp_best S x = q := (by rw [sp_best, hq]); rw [e]; exact ⟨rfl, hR9, hF9⟩)
  · skip
    subst hr9
    replace hs9 := hs9.symm
    subst hs9
    obtain ⟨ht, rfl, hn⟩ := trQ_ok hq
    obtain ⟨t11, tW, tA, tB, tP⟩ := TrC_in (hS.2.1 t ht) hn
    have w1 := tW.1
    have w10 := tW.2.1
    have h58 : tI t = 58 + 12 * t := rfl
    refine a_istore_n (lv1 := [(0, _), (1, _), (2, _)]) B d_Lo_best_5 rfl (by decide) rfl ?_
    refine a_iload_n B d_Lo_best_6 rfl rfl ?_
    refine a_if_eq B 12 d_Lo_best_7 rfl (fun _ => ?_) (fun c9 => absurd nI_0 c9)
    refine a_aload_n B d_Lo_best_12 rfl rfl ?_
    refine gf_Lo_trees B d_Lo_best_13 fl_Lo_18 ?_
    refine a_iload_n B d_Lo_best_16 rfl rfl ?_
    refine al_tr B _ rfl (by first | assumption | omega) d_Lo_best_17 ?_
    refine a_astore_n (lv1 := [(0, _), (1, _), (2, _), (3, _)]) B d_Lo_best_18 rfl (by decide) rfl ?_
    refine a_aload_n B d_Lo_best_19 rfl rfl ?_
    refine a_aload_n B d_Lo_best_20 rfl rfl ?_
    refine gf_Lo_rows B d_Lo_best_21 fl_Lo_12 ?_
    refine a_callVI (ci := 5) B (t_Tr_costOfOrder G ht tW tA tP hS.1) d_Lo_best_24 ok_Tr_costOfOrder ml_Lo_161 (ly_T (by first | assumption | omega)) rfl rfl (by decide) (by decide) rfl (Nat.le_of_ble_eq_true rfl) (fun r_24 τ_24 h_24 => ?_)
    obtain ⟨hr_24, hs_24⟩ := h_24
    subst hr_24
    replace hs_24 := hs_24.symm
    subst hs_24
    refine a_istore (lv1 := [(0, _), (1, _), (2, _), (3, _), (4, _)]) B d_Lo_best_27 (by decide) rfl ?_
    refine a_aload_n B d_Lo_best_29 rfl rfl ?_
    refine gf_Lo_bestTurns B d_Lo_best_30 fl_Lo_33 ?_
    refine a_aload_n B d_Lo_best_33 rfl rfl ?_
    refine a_aload_n B d_Lo_best_34 rfl rfl ?_
    refine gf_Lo_rows B d_Lo_best_35 fl_Lo_12 ?_
    refine a_callVV (ci := 1) B (t_Bt_find G ht tW tA tB hS.1) d_Lo_best_38 ok_Bt_find ml_Lo_165 ly_8 rfl rfl (by decide) (by decide) rfl (Nat.le_of_ble_eq_true rfl) (fun τ_38 h_38 => ?_)
    obtain ⟨l, hl1, hl2, he, -⟩ := h_38
    have hl := best_list tW hl1 hl2
    subst hl
    have e9 : ∀ k, k ≠ 10 → τ_38.1 k = σ.1 k := fun k hk => by rw [he, up1_o hk]
    have bA : RtA τ_38 t (sT S t) := tA.of rfl rfl rfl rfl rfl (e9 _ (by omega)) (e9 _ (by omega)) (e9 _ (by omega)) (e9 _ (by omega)) (e9 _ (by omega)) (e9 _ (by omega))
    have bB : RtB τ_38 t (sT S t) := tB.of (e9 _ (by omega)) (e9 _ (by omega)) (e9 _ (by omega))
    have hp : ∀ x, x < tN (sT S t) → τ_38.1 10 x = nI (posT (setT (sT S t) (bestS (sT S t) (uS S))) x) := fun x hx => by rw [he, up1_s]; exact rd_pos (T := setT (sT S t) (bestS (sT S t) (uS S))) (Wf_turn tW) hx
    have hlk := look_best tW hp
    refine a_aload_n B d_Lo_best_41 rfl rfl ?_
    refine a_aload_n B d_Lo_best_42 rfl rfl ?_
    refine gf_Lo_bestTurns B d_Lo_best_43 fl_Lo_33 ?_
    refine gf_Bt_places B d_Lo_best_46 fl_Lo_169 ?_
    refine a_callVI (ci := 5) B (t_Tr_lookAt G ht tW bA bB ly_10 (by decide) (by omega) (by omega) (by omega)) d_Lo_best_49 ok_Tr_lookAt ml_Lo_171 (ly_T (by first | assumption | omega)) rfl rfl (by decide) (by decide) rfl (Nat.le_of_ble_eq_true rfl) (fun r_49 τ_49 h_49 => ?_)
    obtain ⟨hr_49, cA, cB, cP, cF⟩ := h_49
    rw [hlk] at cA cB cP
    have e8 : ∀ k, (k < tI t ∨ tI t + 11 < k) → k ≠ 10 → τ_49.1 k = σ.1 k := fun k hk h10 => by rw [cF.2 k (by omega) (by omega) (by omega) (by omega) (by omega), e9 k h10]
    have cR : RoC τ_49 (sN S) (sTh S) (sPl S) := hS.1.of (e8 _ (by omega) (by omega)) (e8 _ (by omega) (by omega)) (fun i hi => e8 _ (by omega) (by omega))
    have c11 : τ_49.1 (tI t) 11 = 1 := by rw [cF.2 _ (by omega) (by omega) (by omega) (by omega) (by omega), e9 _ (by omega)]; exact t11
    refine a_pop B d_Lo_best_52 rfl ?_
    refine a_aload_n B d_Lo_best_53 rfl rfl ?_
    refine a_aload_n B d_Lo_best_54 rfl rfl ?_
    refine a_aload_n B d_Lo_best_55 rfl rfl ?_
    refine gf_Lo_rows B d_Lo_best_56 fl_Lo_12 ?_
    refine a_callVI (ci := 5) B (t_Tr_costOfOrder G ht (show Wf (bestT (sT S t) (uS S)) from Wf_flips tW) cA cP cR) d_Lo_best_59 ok_Tr_costOfOrder ml_Lo_161 (ly_T (by first | assumption | omega)) rfl rfl (by decide) (by decide) rfl (Nat.le_of_ble_eq_true rfl) (fun r_59 τ_59 h_59 => ?_)
    obtain ⟨hr_59, hs_59⟩ := h_59
    subst hr_59
    replace hs_59 := hs_59.symm
    subst hs_59
    refine pf_Lo_latestAsked B d_Lo_best_62 fl_Lo_71 ?_
    refine a_iload B d_Lo_best_65 rfl ?_
    refine a_aload_n B d_Lo_best_67 rfl rfl ?_
    refine gf_Lo_latestAsked B d_Lo_best_68 fl_Lo_71 ?_
    rw [up1_s, upd_s]
    first | refine b_isub B (by omega) d_Lo_best_71 ?_ | refine a_isub B d_Lo_best_71 ?_
    exact Rt _ _ _ _ d_Lo_best_72 (by have e : sp_best S (nI t) = (nI (priceT (uS S) (sT S t)) - nI (priceT (uS S) (bestT (sT S t) (uS S))), pA (pT S t (bestT (sT S t) (uS S))) (nI (priceT (uS S) (bestT (sT S t) (uS S))))) := (by rw [sp_best, hq]); rw [e]; exact ⟨rfl, RelC_asked (RelC_tree hS ht (TrC_mk c11 (Wf_flips tW) cA cB cP) (fun k q1 _ q2 _ _ => e8 k q1 q2)), fun k hk => by rw [up1_o (by omega)]; exact e8 k (by omega) (by omega)⟩)
theorem d_Lo_crossings_0 : decode prog_1_method_18_code 0 = .ok (.aload_n 0, 1) := by decide +kernel
theorem d_Lo_crossings_1 : decode prog_1_method_18_code 1 = .ok (.iload_n 1, 1) := by decide +kernel
theorem d_Lo_crossings_2 : decode prog_1_method_18_code 2 = .ok (.iload_n 2, 1) := by decide +kernel
theorem d_Lo_crossings_3 : decode prog_1_method_18_code 3 = .ok (.invokevirtual 175, 3) := by decide +kernel
theorem d_Lo_crossings_6 : decode prog_1_method_18_code 6 = .ok (.istore_n 3, 1) := by decide +kernel
theorem d_Lo_crossings_7 : decode prog_1_method_18_code 7 = .ok (.iload_n 3, 1) := by decide +kernel
theorem d_Lo_crossings_8 : decode prog_1_method_18_code 8 = .ok (.ifCond .eq 7, 3) := by decide +kernel
theorem d_Lo_crossings_11 : decode prog_1_method_18_code 11 = .ok (.iload_n 3, 1) := by decide +kernel
theorem d_Lo_crossings_12 : decode prog_1_method_18_code 12 = .ok (.goto 21, 3) := by decide +kernel
theorem d_Lo_crossings_15 : decode prog_1_method_18_code 15 = .ok (.aload_n 0, 1) := by decide +kernel
theorem d_Lo_crossings_16 : decode prog_1_method_18_code 16 = .ok (.getfield 18, 3) := by decide +kernel
theorem d_Lo_crossings_19 : decode prog_1_method_18_code 19 = .ok (.iload_n 1, 1) := by decide +kernel
theorem d_Lo_crossings_20 : decode prog_1_method_18_code 20 = .ok (.aaload, 1) := by decide +kernel
theorem d_Lo_crossings_21 : decode prog_1_method_18_code 21 = .ok (.aload_n 0, 1) := by decide +kernel
theorem d_Lo_crossings_22 : decode prog_1_method_18_code 22 = .ok (.getfield 18, 3) := by decide +kernel
theorem d_Lo_crossings_25 : decode prog_1_method_18_code 25 = .ok (.iload_n 2, 1) := by decide +kernel
theorem d_Lo_crossings_26 : decode prog_1_method_18_code 26 = .ok (.aaload, 1) := by decide +kernel
theorem d_Lo_crossings_27 : decode prog_1_method_18_code 27 = .ok (.getfield 135, 3) := by decide +kernel
theorem d_Lo_crossings_30 : decode prog_1_method_18_code 30 = .ok (.invokevirtual 178, 3) := by decide +kernel
theorem d_Lo_crossings_33 : decode prog_1_method_18_code 33 = .ok (.ireturn, 1) := by decide +kernel
set_option maxHeartbeats 4000000 in
set_option maxRecDepth 20000 in
theorem tC_crossings {g : GG} (G : Gok g) {σ : AH} {S : Sp} (hS : RelC S σ) (x y : Int32) : TerI g 3 m_Lo_crossings [rV 0, iV x, iV y] σ (fun r τ => r = (sp_crossings S x y).1 ∧ RelC (sp_crossings S x y).2 τ ∧ frC σ τ) := by
  refine TerI.mk G (by decide +kernel) rfl (Nat.le_of_ble_eq_true rfl) (fun K B Rt => ?_)
  have B : Cx g K prog_1_method_18_code 4 R_Lo 3 := B
  have Rt : RetI g K prog_1_method_18_code 4 (fun r τ => r = (sp_crossings S x y).1 ∧ RelC (sp_crossings S x y).2 τ ∧ frC σ τ) := Rt
  show AW g K 4 0 [(0, rV 0), (1, iV x), (2, iV y)] [] σ
  refine a_aload_n B d_Lo_crossings_0 rfl rfl ?_
  refine a_iload_n B d_Lo_crossings_1 rfl rfl ?_
  refine a_iload_n B d_Lo_crossings_2 rfl rfl ?_
  refine a_callVI (ci := 6) B (t_Lo_pairRefused G hS x y) d_Lo_crossings_3 ok_Lo_pairRefused ml_Lo_175 ly_0 rfl rfl (by decide) (by decide) rfl (Nat.le_of_ble_eq_true rfl) (fun r_3 τ_3 h_3 => ?_)
  rcases h_3 with ⟨q, hq, hr9, hR9, hF9⟩ | ⟨q9, hq, hr9, hs9⟩
  · skip
    subst hr9
    refine a_istore_n (lv1 := [(0, _), (1, _), (2, _), (3, _)]) B d_Lo_crossings_6 rfl (by decide) rfl ?_
    refine a_iload_n B d_Lo_crossings_7 rfl rfl ?_
    refine a_if_eq B 15 d_Lo_crossings_8 rfl (fun c9 => absurd c9 (neg_nz (prQ_neg hq)).1) (fun _ => ?_)
    refine a_iload_n B d_Lo_crossings_11 rfl rfl ?_
    refine a_goto B 33 d_Lo_crossings_12 rfl ?_
    exact Rt _ _ _ _ d_Lo_crossings_33 (by first | exact (by have e : sp_crossings S x y = q := (by rw [sp_crossings, hq]); rw [e]; exact ⟨rfl, hR9, hF9⟩) | exact (by have e : sp_crossings S (nI t) (nI u) = (nI (crossT (sT S t) (plT (sT S u))), S) := (by rw [sp_crossings, hq]); rw [e]; exact ⟨by rw [cross_cg tW (start_pl uW uP he9)], hS, fun _ _ => rfl⟩))
  · skip
    subst hr9
    replace hs9 := hs9.symm
    subst hs9
    obtain ⟨t, u⟩ := q9
    obtain ⟨ht, hx9, hu, hy9, hnt, hnu, he9⟩ := prQ_ok hq
    dsimp only at ht hx9 hu hy9 hnt hnu he9
    subst hx9
    subst hy9
    obtain ⟨t11, tW, tA, tB, tP⟩ := TrC_in (hS.2.1 t ht) hnt
    obtain ⟨u11, uW, uA, uB, uP⟩ := TrC_in (hS.2.1 u hu) hnu
    have w1 := tW.1
    have w10 := tW.2.1
    have h58 : tI t = 58 + 12 * t := rfl
    have h59 : tI u = 58 + 12 * u := rfl
    refine a_istore_n (lv1 := [(0, _), (1, _), (2, _), (3, _)]) B d_Lo_crossings_6 rfl (by decide) rfl ?_
    refine a_iload_n B d_Lo_crossings_7 rfl rfl ?_
    refine a_if_eq B 15 d_Lo_crossings_8 rfl (fun _ => ?_) (fun c9 => absurd nI_0 c9)
    refine a_aload_n B d_Lo_crossings_15 rfl rfl ?_
    refine gf_Lo_trees B d_Lo_crossings_16 fl_Lo_18 ?_
    refine a_iload_n B d_Lo_crossings_19 rfl rfl ?_
    refine al_tr B _ rfl (by first | assumption | omega) d_Lo_crossings_20 ?_
    refine a_aload_n B d_Lo_crossings_21 rfl rfl ?_
    refine gf_Lo_trees B d_Lo_crossings_22 fl_Lo_18 ?_
    refine a_iload_n B d_Lo_crossings_25 rfl rfl ?_
    refine al_tr B _ rfl (by first | assumption | omega) d_Lo_crossings_26 ?_
    refine gf_Tr_start B (by first | assumption | omega) d_Lo_crossings_27 fl_Lo_135 ?_
    refine a_callVI (ci := 5) B (t_Tr_crossingsWith G ht tW tA tB (ly_T_start hu) (by decide)) d_Lo_crossings_30 ok_Tr_crossingsWith ml_Lo_178 (ly_T (by first | assumption | omega)) rfl rfl (by decide) (by decide) rfl (Nat.le_of_ble_eq_true rfl) (fun r_30 τ_30 h_30 => ?_)
    obtain ⟨hr_30, hs_30⟩ := h_30
    subst hr_30
    replace hs_30 := hs_30.symm
    subst hs_30
    exact Rt _ _ _ _ d_Lo_crossings_33 (by first | exact (by have e : sp_crossings S x y = q := (by rw [sp_crossings, hq]); rw [e]; exact ⟨rfl, hR9, hF9⟩) | exact (by have e : sp_crossings S (nI t) (nI u) = (nI (crossT (sT S t) (plT (sT S u))), S) := (by rw [sp_crossings, hq]); rw [e]; exact ⟨by rw [cross_cg tW (start_pl uW uP he9)], hS, fun _ _ => rfl⟩))
theorem d_Lo_face_0 : decode prog_1_method_19_code 0 = .ok (.aload_n 0, 1) := by decide +kernel
theorem d_Lo_face_1 : decode prog_1_method_19_code 1 = .ok (.iload_n 1, 1) := by decide +kernel
theorem d_Lo_face_2 : decode prog_1_method_19_code 2 = .ok (.iload_n 2, 1) := by decide +kernel
theorem d_Lo_face_3 : decode prog_1_method_19_code 3 = .ok (.invokevirtual 181, 3) := by decide +kernel
theorem d_Lo_face_6 : decode prog_1_method_19_code 6 = .ok (.istore_n 3, 1) := by decide +kernel
theorem d_Lo_face_7 : decode prog_1_method_19_code 7 = .ok (.iload_n 3, 1) := by decide +kernel
theorem d_Lo_face_8 : decode prog_1_method_19_code 8 = .ok (.ifCond .eq 7, 3) := by decide +kernel
theorem d_Lo_face_11 : decode prog_1_method_19_code 11 = .ok (.iload_n 3, 1) := by decide +kernel
theorem d_Lo_face_12 : decode prog_1_method_19_code 12 = .ok (.goto 21, 3) := by decide +kernel
theorem d_Lo_face_15 : decode prog_1_method_19_code 15 = .ok (.aload_n 0, 1) := by decide +kernel
theorem d_Lo_face_16 : decode prog_1_method_19_code 16 = .ok (.getfield 18, 3) := by decide +kernel
theorem d_Lo_face_19 : decode prog_1_method_19_code 19 = .ok (.iload_n 1, 1) := by decide +kernel
theorem d_Lo_face_20 : decode prog_1_method_19_code 20 = .ok (.aaload, 1) := by decide +kernel
theorem d_Lo_face_21 : decode prog_1_method_19_code 21 = .ok (.aload_n 0, 1) := by decide +kernel
theorem d_Lo_face_22 : decode prog_1_method_19_code 22 = .ok (.getfield 18, 3) := by decide +kernel
theorem d_Lo_face_25 : decode prog_1_method_19_code 25 = .ok (.iload_n 2, 1) := by decide +kernel
theorem d_Lo_face_26 : decode prog_1_method_19_code 26 = .ok (.aaload, 1) := by decide +kernel
theorem d_Lo_face_27 : decode prog_1_method_19_code 27 = .ok (.getfield 135, 3) := by decide +kernel
theorem d_Lo_face_30 : decode prog_1_method_19_code 30 = .ok (.invokevirtual 171, 3) := by decide +kernel
theorem d_Lo_face_33 : decode prog_1_method_19_code 33 = .ok (.ireturn, 1) := by decide +kernel
set_option maxHeartbeats 4000000 in
set_option maxRecDepth 20000 in
theorem tC_face {g : GG} (G : Gok g) {σ : AH} {S : Sp} (hS : RelC S σ) (x y : Int32) : TerI g 3 m_Lo_face [rV 0, iV x, iV y] σ (fun r τ => r = (sp_face S x y).1 ∧ RelC (sp_face S x y).2 τ ∧ frC σ τ) := by
  refine TerI.mk G (by decide +kernel) rfl (Nat.le_of_ble_eq_true rfl) (fun K B Rt => ?_)
  have B : Cx g K prog_1_method_19_code 4 R_Lo 3 := B
  have Rt : RetI g K prog_1_method_19_code 4 (fun r τ => r = (sp_face S x y).1 ∧ RelC (sp_face S x y).2 τ ∧ frC σ τ) := Rt
  show AW g K 4 0 [(0, rV 0), (1, iV x), (2, iV y)] [] σ
  refine a_aload_n B d_Lo_face_0 rfl rfl ?_
  refine a_iload_n B d_Lo_face_1 rfl rfl ?_
  refine a_iload_n B d_Lo_face_2 rfl rfl ?_
  refine a_callVI (ci := 6) B (t_Lo_facingRefused G hS x y) d_Lo_face_3 ok_Lo_facingRefused ml_Lo_181 ly_0 rfl rfl (by decide) (by decide) rfl (Nat.le_of_ble_eq_true rfl) (fun r_3 τ_3 h_3 => ?_)
  rcases h_3 with ⟨q, hq, hr9, hR9, hF9⟩ | ⟨q9, hq, hr9, hs9⟩
  · skip
    subst hr9
    refine a_istore_n (lv1 := [(0, _), (1, _), (2, _), (3, _)]) B d_Lo_face_6 rfl (by decide) rfl ?_
    refine a_iload_n B d_Lo_face_7 rfl rfl ?_
    refine a_if_eq B 15 d_Lo_face_8 rfl (fun c9 => absurd c9 (neg_nz (fcQ_neg hq)).1) (fun _ => ?_)
    refine a_iload_n B d_Lo_face_11 rfl rfl ?_
    refine a_goto B 33 d_Lo_face_12 rfl ?_
    exact Rt _ _ _ _ d_Lo_face_33 (by first | exact (by have e : sp_face S x y = q := (by rw [sp_face, hq]); rw [e]; exact ⟨rfl, hR9, hF9⟩) | exact (by have e : sp_face S (nI t) (nI u) = (nI (looksN (sT S t) (plT (sT S u))), pT S t (lookT (sT S t) (plT (sT S u)))) := (by rw [sp_face, hq]); rw [e]; exact ⟨rfl, RelC_fr hS ht t11 (Wf_flips tW) cA cB cP cF, frC_fr ht cF⟩))
  · skip
    subst hr9
    replace hs9 := hs9.symm
    subst hs9
    obtain ⟨t, u⟩ := q9
    obtain ⟨ht, hx9, hu, hy9, hnt, hnu, he9, htu⟩ := fcQ_ok hq
    dsimp only at ht hx9 hu hy9 hnt hnu he9 htu
    subst hx9
    subst hy9
    obtain ⟨t11, tW, tA, tB, tP⟩ := TrC_in (hS.2.1 t ht) hnt
    obtain ⟨u11, uW, uA, uB, uP⟩ := TrC_in (hS.2.1 u hu) hnu
    have w1 := tW.1
    have w10 := tW.2.1
    have h58 : tI t = 58 + 12 * t := rfl
    have h59 : tI u = 58 + 12 * u := rfl
    refine a_istore_n (lv1 := [(0, _), (1, _), (2, _), (3, _)]) B d_Lo_face_6 rfl (by decide) rfl ?_
    refine a_iload_n B d_Lo_face_7 rfl rfl ?_
    refine a_if_eq B 15 d_Lo_face_8 rfl (fun _ => ?_) (fun c9 => absurd nI_0 c9)
    refine a_aload_n B d_Lo_face_15 rfl rfl ?_
    refine gf_Lo_trees B d_Lo_face_16 fl_Lo_18 ?_
    refine a_iload_n B d_Lo_face_19 rfl rfl ?_
    refine al_tr B _ rfl (by first | assumption | omega) d_Lo_face_20 ?_
    refine a_aload_n B d_Lo_face_21 rfl rfl ?_
    refine gf_Lo_trees B d_Lo_face_22 fl_Lo_18 ?_
    refine a_iload_n B d_Lo_face_25 rfl rfl ?_
    refine al_tr B _ rfl (by first | assumption | omega) d_Lo_face_26 ?_
    refine gf_Tr_start B (by first | assumption | omega) d_Lo_face_27 fl_Lo_135 ?_
    refine a_callVI (ci := 5) B (t_Tr_lookAt G ht tW tA tB (ly_T_start hu) (by decide) (by omega) (by omega) (by omega)) d_Lo_face_30 ok_Tr_lookAt ml_Lo_171 (ly_T (by first | assumption | omega)) rfl rfl (by decide) (by decide) rfl (Nat.le_of_ble_eq_true rfl) (fun r_30 τ_30 h_30 => ?_)
    obtain ⟨hr_30, cA, cB, cP, cF⟩ := h_30
    subst hr_30
    rw [look_cg tW (start_pl uW uP he9)] at cA cB cP
    rw [looks_cg tW (start_pl uW uP he9)]
    exact Rt _ _ _ _ d_Lo_face_33 (by first | exact (by have e : sp_face S x y = q := (by rw [sp_face, hq]); rw [e]; exact ⟨rfl, hR9, hF9⟩) | exact (by have e : sp_face S (nI t) (nI u) = (nI (looksN (sT S t) (plT (sT S u))), pT S t (lookT (sT S t) (plT (sT S u)))) := (by rw [sp_face, hq]); rw [e]; exact ⟨rfl, RelC_fr hS ht t11 (Wf_flips tW) cA cB cP cF, frC_fr ht cF⟩))
theorem d_Lo_near_0 : decode prog_1_method_23_code 0 = .ok (.aload_n 0, 1) := by decide +kernel
theorem d_Lo_near_1 : decode prog_1_method_23_code 1 = .ok (.iload_n 1, 1) := by decide +kernel
theorem d_Lo_near_2 : decode prog_1_method_23_code 2 = .ok (.invokevirtual 120, 3) := by decide +kernel
theorem d_Lo_near_5 : decode prog_1_method_23_code 5 = .ok (.istore_n 2, 1) := by decide +kernel
theorem d_Lo_near_6 : decode prog_1_method_23_code 6 = .ok (.iload_n 2, 1) := by decide +kernel
theorem d_Lo_near_7 : decode prog_1_method_23_code 7 = .ok (.ifCond .eq 5, 3) := by decide +kernel
theorem d_Lo_near_10 : decode prog_1_method_23_code 10 = .ok (.iload_n 2, 1) := by decide +kernel
theorem d_Lo_near_11 : decode prog_1_method_23_code 11 = .ok (.ireturn, 1) := by decide +kernel
theorem d_Lo_near_12 : decode prog_1_method_23_code 12 = .ok (.aload_n 0, 1) := by decide +kernel
theorem d_Lo_near_13 : decode prog_1_method_23_code 13 = .ok (.getfield 67, 3) := by decide +kernel
theorem d_Lo_near_16 : decode prog_1_method_23_code 16 = .ok (.ifCond .ne 6, 3) := by decide +kernel
theorem d_Lo_near_19 : decode prog_1_method_23_code 19 = .ok (.bipush (-4), 2) := by decide +kernel
theorem d_Lo_near_21 : decode prog_1_method_23_code 21 = .ok (.ireturn, 1) := by decide +kernel
theorem d_Lo_near_22 : decode prog_1_method_23_code 22 = .ok (.aload_n 0, 1) := by decide +kernel
theorem d_Lo_near_23 : decode prog_1_method_23_code 23 = .ok (.getfield 18, 3) := by decide +kernel
theorem d_Lo_near_26 : decode prog_1_method_23_code 26 = .ok (.iload_n 1, 1) := by decide +kernel
theorem d_Lo_near_27 : decode prog_1_method_23_code 27 = .ok (.aaload, 1) := by decide +kernel
theorem d_Lo_near_28 : decode prog_1_method_23_code 28 = .ok (.aload_n 0, 1) := by decide +kernel
theorem d_Lo_near_29 : decode prog_1_method_23_code 29 = .ok (.getfield 61, 3) := by decide +kernel
theorem d_Lo_near_32 : decode prog_1_method_23_code 32 = .ok (.invokevirtual 171, 3) := by decide +kernel
theorem d_Lo_near_35 : decode prog_1_method_23_code 35 = .ok (.pop, 1) := by decide +kernel
theorem d_Lo_near_36 : decode prog_1_method_23_code 36 = .ok (.aload_n 0, 1) := by decide +kernel
theorem d_Lo_near_37 : decode prog_1_method_23_code 37 = .ok (.getfield 18, 3) := by decide +kernel
theorem d_Lo_near_40 : decode prog_1_method_23_code 40 = .ok (.iload_n 1, 1) := by decide +kernel
theorem d_Lo_near_41 : decode prog_1_method_23_code 41 = .ok (.aaload, 1) := by decide +kernel
theorem d_Lo_near_42 : decode prog_1_method_23_code 42 = .ok (.aload_n 0, 1) := by decide +kernel
theorem d_Lo_near_43 : decode prog_1_method_23_code 43 = .ok (.getfield 61, 3) := by decide +kernel
theorem d_Lo_near_46 : decode prog_1_method_23_code 46 = .ok (.invokevirtual 178, 3) := by decide +kernel
theorem d_Lo_near_49 : decode prog_1_method_23_code 49 = .ok (.ireturn, 1) := by decide +kernel
set_option maxHeartbeats 4000000 in
set_option maxRecDepth 20000 in
theorem tC_near {g : GG} (G : Gok g) {σ : AH} {S : Sp} (hS : RelC S σ) (x : Int32) : TerI g 3 m_Lo_near [rV 0, iV x] σ (fun r τ => r = (sp_near S x).1 ∧ RelC (sp_near S x).2 τ ∧ frC σ τ) := by
  refine TerI.mk G (by decide +kernel) rfl (Nat.le_of_ble_eq_true rfl) (fun K B Rt => ?_)
  have B : Cx g K prog_1_method_23_code 3 R_Lo 3 := B
  have Rt : RetI g K prog_1_method_23_code 3 (fun r τ => r = (sp_near S x).1 ∧ RelC (sp_near S x).2 τ ∧ frC σ τ) := Rt
  show AW g K 3 0 [(0, rV 0), (1, iV x)] [] σ
  obtain ⟨m1, m2, m3, m4, m5, m6, m7, m8, m9, m10, m11⟩ := id hS.2.2.1
  refine a_aload_n B d_Lo_near_0 rfl rfl ?_
  refine a_iload_n B d_Lo_near_1 rfl rfl ?_
  refine a_callVI (ci := 6) B (t_Lo_treeRefused G hS x) d_Lo_near_2 ok_Lo_treeRefused ml_Lo_120 ly_0 rfl rfl (by decide) (by decide) rfl (Nat.le_of_ble_eq_true rfl) (fun r_2 τ_2 h_2 => ?_)
  rcases h_2 with ⟨q, hq, hr9, hR9, hF9⟩ | ⟨t, hq, hr9, hs9⟩
  · skip
    subst hr9
    refine a_istore_n (lv1 := [(0, _), (1, _), (2, _)]) B d_Lo_near_5 rfl (by decide) rfl ?_
    refine a_iload_n B d_Lo_near_6 rfl rfl ?_
    refine a_if_eq B 12 d_Lo_near_7 rfl (fun c9 => absurd c9 (neg_nz (trQ_neg hq)).1) (fun _ => ?_)
    refine a_iload_n B d_Lo_near_10 rfl rfl ?_
    exact Rt _ _ _ _ d_Lo_near_11 (by have e : sp_near S x = q := (by rw [sp_near, hq]); rw [e]; exact ⟨rfl, hR9, hF9⟩)
  · skip
    subst hr9
    replace hs9 := hs9.symm
    subst hs9
    obtain ⟨ht, rfl, hn⟩ := trQ_ok hq
    obtain ⟨t11, tW, tA, tB, tP⟩ := TrC_in (hS.2.1 t ht) hn
    have w1 := tW.1
    have w10 := tW.2.1
    have h58 : tI t = 58 + 12 * t := rfl
    refine a_istore_n (lv1 := [(0, _), (1, _), (2, _)]) B d_Lo_near_5 rfl (by decide) rfl ?_
    refine a_iload_n B d_Lo_near_6 rfl rfl ?_
    refine a_if_eq B 12 d_Lo_near_7 rfl (fun _ => ?_) (fun c9 => absurd nI_0 c9)
    refine a_aload_n B d_Lo_near_12 rfl rfl ?_
    refine gf_Lo_keptCount B d_Lo_near_13 fl_Lo_67 ?_
    rw [m4]
    first | refine b_if_ne_b B 22 d_Lo_near_16 rfl (fun c_16 => ?_) (fun c_16 => ?_) | refine a_if_ne B 22 d_Lo_near_16 rfl (fun c_16 => ?_) (fun c_16 => ?_)
    · skip
      have hk0 : sKn S ≠ 0 := fun q => c_16 (by rw [q]; rfl)
      have hkp : ∀ x, x < tN (sT S t) → σ.1 18 x = sKp S x := fun x hx => m6 x (by omega)
      refine a_aload_n B d_Lo_near_22 rfl rfl ?_
      refine gf_Lo_trees B d_Lo_near_23 fl_Lo_18 ?_
      refine a_iload_n B d_Lo_near_26 rfl rfl ?_
      refine al_tr B _ rfl (by first | assumption | omega) d_Lo_near_27 ?_
      refine a_aload_n B d_Lo_near_28 rfl rfl ?_
      refine gf_Lo_keptPlaces B d_Lo_near_29 fl_Lo_61 ?_
      refine a_callVI (ci := 5) B (t_Tr_lookAt G ht tW tA tB ly_18 (by decide) (by omega) (by omega) (by omega)) d_Lo_near_32 ok_Tr_lookAt ml_Lo_171 (ly_T (by first | assumption | omega)) rfl rfl (by decide) (by decide) rfl (Nat.le_of_ble_eq_true rfl) (fun r_32 τ_32 h_32 => ?_)
      obtain ⟨hr_32, cA, cB, cP, cF⟩ := h_32
      rw [look_cg tW hkp] at cA cB cP
      refine a_pop B d_Lo_near_35 rfl ?_
      refine a_aload_n B d_Lo_near_36 rfl rfl ?_
      refine gf_Lo_trees B d_Lo_near_37 fl_Lo_18 ?_
      refine a_iload_n B d_Lo_near_40 rfl rfl ?_
      refine al_tr B _ rfl (by first | assumption | omega) d_Lo_near_41 ?_
      refine a_aload_n B d_Lo_near_42 rfl rfl ?_
      refine gf_Lo_keptPlaces B d_Lo_near_43 fl_Lo_61 ?_
      refine a_callVI (ci := 5) B (t_Tr_crossingsWith G ht (Wf_flips tW) cA cB ly_18 (by decide)) d_Lo_near_46 ok_Tr_crossingsWith ml_Lo_178 (ly_T (by first | assumption | omega)) rfl rfl (by decide) (by decide) rfl (Nat.le_of_ble_eq_true rfl) (fun r_46 τ_46 h_46 => ?_)
      obtain ⟨hr_46, hs_46⟩ := h_46
      subst hr_46
      subst hs_46
      rw [cF.2 18 (by omega) (by omega) (by omega) (by omega) (by omega), cross_cg (Wf_flips tW) hkp]
      exact Rt _ _ _ _ d_Lo_near_49 (by have e : sp_near S (nI t) = (nI (crossT (lookT (sT S t) (sKp S)) (sKp S)), pT S t (lookT (sT S t) (sKp S))) := (by rw [sp_near, hq]; exact if_neg hk0); rw [e]; exact ⟨rfl, RelC_fr hS ht t11 (Wf_flips tW) cA cB cP cF, frC_fr ht cF⟩)
    refine a_bipush B d_Lo_near_19 cb_m4 ?_
    exact Rt _ _ _ _ d_Lo_near_21 (by have e : sp_near S (nI t) = RS S := (by rw [sp_near, hq]; exact if_pos (nI_z (by omega) c_16)); rw [e]; exact ⟨rfl, hS, (fun _ _ => rfl)⟩)
