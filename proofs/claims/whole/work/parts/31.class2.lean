/-! the class: trees asked for -/
theorem TrC_in {σ : AH} {t : Nat} {T : TT} (h : TrC σ t T) (hn : tN T ≠ 0) : σ.1 (tI t) 11 = 1 ∧ Wf T ∧ RtA σ t T ∧ RtB σ t T ∧ RtP σ t T := by
  rcases h with ⟨h1, -⟩ | ⟨-, h⟩
  · exact absurd h1 hn
  · exact h
theorem TrC_no {σ : AH} {t : Nat} {T : TT} (h : TrC σ t T) (hn : tN T = 0) : σ.1 (tI t) 11 = 0 := by
  rcases h with ⟨-, h⟩ | ⟨h1, -⟩
  · exact h
  · omega
theorem TrC_mk {σ : AH} {t : Nat} {T : TT} (h11 : σ.1 (tI t) 11 = 1) (hW : Wf T) (hA : RtA σ t T) (hB : RtB σ t T) (hP : RtP σ t T) : TrC σ t T := Or.inr ⟨hW.1, h11, hW, hA, hB, hP⟩
theorem RelC_tree {S : Sp} {σ τ : AH} {t : Nat} {T : TT} (h : RelC S σ) (ht : t < 4) (hT : TrC τ t T) (e : ∀ k, (k < tI t ∨ tI t + 11 < k) → k ≠ 7 → k ≠ 10 → k ≠ 19 → (k < 30 ∨ 50 ≤ k) → τ.1 k = σ.1 k) : RelC (pT S t T) τ := by
  obtain ⟨h1, h2, h3, h4⟩ := h
  have h58 : tI t = 58 + 12 * t := rfl
  have e9 : ∀ k, k < 30 → k ≠ 7 → k ≠ 10 → k ≠ 19 → τ.1 k = σ.1 k := fun k q1 q2 q3 q4 => e k (by omega) q2 q3 q4 (by omega)
  refine ⟨h1.of (e9 _ (by decide) (by decide) (by decide) (by decide)) (e9 _ (by decide) (by decide) (by decide) (by decide)) (fun i hi => e9 _ (by omega) (by omega) (by omega) (by omega)), fun t' ht' => ?_, ?_, ?_⟩
  · show TrC τ t' (va_up (sT S) t T t')
    by_cases eq : t' = t
    · rw [eq, va_up_s]; exact hT
    · rw [va_up_o eq]
      have h58' : tI t' = 58 + 12 * t' := rfl
      exact TrC_of (h2 t' ht') (fun k q1 q2 => e k (by omega) (by omega) (by omega) (by omega) (by omega))
  · exact MiC_of (S := S) h3 (e9 _ (by decide) (by decide) (by decide) (by decide)) (e9 _ (by decide) (by decide) (by decide) (by decide)) (e9 _ (by decide) (by decide) (by decide) (by decide)) (e9 _ (by decide) (by decide) (by decide) (by decide)) (e9 _ (by decide) (by decide) (by decide) (by decide)) (e9 _ (by decide) (by decide) (by decide) (by decide)) (e9 _ (by decide) (by decide) (by decide) (by decide))
  · exact h4.of (e9 _ (by decide) (by decide) (by decide) (by decide)) (fun a ha => e _ (by omega) (by omega) (by omega) (by omega) (by omega))
/-- nothing that is spoken of changes: cells for work alone -/
theorem RelC_work {S : Sp} {σ τ : AH} (h : RelC S σ) (e : ∀ k, (∀ t, t < 4 → k ≠ tI t + 11) → k ≠ 7 → k ≠ 10 → k ≠ 19 → (k < 30 ∨ 50 ≤ k) → τ.1 k = σ.1 k) : RelC S τ := by
  obtain ⟨h1, h2, h3, h4⟩ := h
  have e9 : ∀ k, k < 30 → k ≠ 7 → k ≠ 10 → k ≠ 19 → τ.1 k = σ.1 k := fun k q1 q2 q3 q4 => e k (fun t ht => by have : tI t = 58 + 12 * t := rfl; omega) q2 q3 q4 (by omega)
  refine ⟨h1.of (e9 _ (by decide) (by decide) (by decide) (by decide)) (e9 _ (by decide) (by decide) (by decide) (by decide)) (fun i hi => e9 _ (by omega) (by omega) (by omega) (by omega)), fun t' ht' => ?_, ?_, ?_⟩
  · have h58' : tI t' = 58 + 12 * t' := rfl
    exact TrC_of (h2 t' ht') (fun k q1 q2 => e k (fun t ht => by have : tI t = 58 + 12 * t := rfl; omega) (by omega) (by omega) (by omega) (by omega))
  · exact MiC_of (S := S) h3 (e9 _ (by decide) (by decide) (by decide) (by decide)) (e9 _ (by decide) (by decide) (by decide) (by decide)) (e9 _ (by decide) (by decide) (by decide) (by decide)) (e9 _ (by decide) (by decide) (by decide) (by decide)) (e9 _ (by decide) (by decide) (by decide) (by decide)) (e9 _ (by decide) (by decide) (by decide) (by decide)) (e9 _ (by decide) (by decide) (by decide) (by decide))
  · exact h4.of (e9 _ (by decide) (by decide) (by decide) (by decide)) (fun a ha => e _ (fun t ht => by have : tI t = 58 + 12 * t := rfl; omega) (by omega) (by omega) (by omega) (by omega))
def PQ {α : Type} (Q : An ⊕ α) (σ : AH) (r : Int32) (τ : AH) : Prop := (∃ q, Q = .inl q ∧ r = q.1 ∧ RelC q.2 τ ∧ frC σ τ) ∨ (∃ a, Q = .inr a ∧ r = 0 ∧ τ = σ)
theorem d_Lo_treeRefused_0 : decode prog_1_method_42_code 0 = .ok (.iload_n 1, 1) := by decide +kernel
theorem d_Lo_treeRefused_1 : decode prog_1_method_42_code 1 = .ok (.invokestatic 110, 3) := by decide +kernel
theorem d_Lo_treeRefused_4 : decode prog_1_method_42_code 4 = .ok (.ifCond .ne 5, 3) := by decide +kernel
theorem d_Lo_treeRefused_7 : decode prog_1_method_42_code 7 = .ok (.iconst (-1), 1) := by decide +kernel
theorem d_Lo_treeRefused_8 : decode prog_1_method_42_code 8 = .ok (.ireturn, 1) := by decide +kernel
theorem d_Lo_treeRefused_9 : decode prog_1_method_42_code 9 = .ok (.aload_n 0, 1) := by decide +kernel
theorem d_Lo_treeRefused_10 : decode prog_1_method_42_code 10 = .ok (.getfield 18, 3) := by decide +kernel
theorem d_Lo_treeRefused_13 : decode prog_1_method_42_code 13 = .ok (.iload_n 1, 1) := by decide +kernel
theorem d_Lo_treeRefused_14 : decode prog_1_method_42_code 14 = .ok (.aaload, 1) := by decide +kernel
theorem d_Lo_treeRefused_15 : decode prog_1_method_42_code 15 = .ok (.getfield 123, 3) := by decide +kernel
theorem d_Lo_treeRefused_18 : decode prog_1_method_42_code 18 = .ok (.ifCond .eq 7, 3) := by decide +kernel
theorem d_Lo_treeRefused_21 : decode prog_1_method_42_code 21 = .ok (.iconst 0, 1) := by decide +kernel
theorem d_Lo_treeRefused_22 : decode prog_1_method_42_code 22 = .ok (.goto 11, 3) := by decide +kernel
theorem d_Lo_treeRefused_25 : decode prog_1_method_42_code 25 = .ok (.aload_n 0, 1) := by decide +kernel
theorem d_Lo_treeRefused_26 : decode prog_1_method_42_code 26 = .ok (.getfield 47, 3) := by decide +kernel
theorem d_Lo_treeRefused_29 : decode prog_1_method_42_code 29 = .ok (.iconst 1, 1) := by decide +kernel
theorem d_Lo_treeRefused_30 : decode prog_1_method_42_code 30 = .ok (.invokevirtual 89, 3) := by decide +kernel
theorem d_Lo_treeRefused_33 : decode prog_1_method_42_code 33 = .ok (.ireturn, 1) := by decide +kernel
set_option maxHeartbeats 4000000 in
set_option maxRecDepth 20000 in
theorem t_Lo_treeRefused {g : GG} (G : Gok g) {σ : AH} {S : Sp} (hS : RelC S σ) (x : Int32) : TerI g 1 m_Lo_treeRefused [rV 0, iV x] σ (PQ (trQ S x) σ) := by
  refine TerI.mk G (by decide +kernel) rfl (Nat.le_of_ble_eq_true rfl) (fun K B Rt => ?_)
  have B : Cx g K prog_1_method_42_code 2 R_Lo 1 := B
  have Rt : RetI g K prog_1_method_42_code 2 (PQ (trQ S x) σ) := Rt
  show AW g K 2 0 [(0, rV 0), (1, iV x)] [] σ
  refine a_iload_n B d_Lo_treeRefused_0 rfl rfl ?_
  refine a_callSI B (t_Lo_isTree G x) d_Lo_treeRefused_1 ok_Lo_isTree ml_Lo_110 rfl (by decide) (by decide) rfl (Nat.le_of_ble_eq_true rfl) (fun r_1 τ_1 h_1 => ?_)
  obtain ⟨hr_1, hs_1⟩ := h_1
  subst hr_1
  replace hs_1 := hs_1.symm
  subst hs_1
  first | refine b_if_ne_b B 9 d_Lo_treeRefused_4 rfl (fun c_4 => ?_) (fun c_4 => ?_) | refine a_if_ne B 9 d_Lo_treeRefused_4 rfl (fun c_4 => ?_) (fun c_4 => ?_)
  · skip
    obtain ⟨t, hqt⟩ := isS_t c_4
    obtain ⟨ht, rfl⟩ := rngQ_some (by decide) hqt
    refine a_aload_n B d_Lo_treeRefused_9 rfl rfl ?_
    refine gf_Lo_trees B d_Lo_treeRefused_10 fl_Lo_18 ?_
    refine a_iload_n B d_Lo_treeRefused_13 rfl rfl ?_
    refine al_tr B _ rfl (by first | assumption | omega) d_Lo_treeRefused_14 ?_
    refine gf_Tr_there B (by first | assumption | omega) d_Lo_treeRefused_15 fl_Lo_123 ?_
    by_cases hn : tN (sT S t) = 0
    · skip
      rw [TrC_no (hS.2.1 t ht) hn]
      refine a_if_eq B 25 d_Lo_treeRefused_18 rfl (fun _ => ?_) (fun c9 => absurd nI_0 c9)
      refine a_aload_n B d_Lo_treeRefused_25 rfl rfl ?_
      refine gf_Lo_found B d_Lo_treeRefused_26 fl_Lo_47 ?_
      refine a_iconst B d_Lo_treeRefused_29 ci_1 ?_
      refine a_callVI (ci := 2) B (t_Fi_answer G 1 (by decide)) d_Lo_treeRefused_30 ok_Fi_answer ml_Lo_89 ly_15 rfl rfl (by decide) (by decide) rfl (Nat.le_of_ble_eq_true rfl) (fun r_30 τ_30 h_30 => ?_)
      obtain ⟨hr_30, hs_30⟩ := h_30
      subst hr_30
      subst hs_30
      exact Rt _ _ _ _ d_Lo_treeRefused_33 (by first | exact Or.inl ⟨RF S 1, (by rw [trQ, hqt]; exact if_pos hn), rfl, RelC_fnd hS (by decide), frC_ans⟩ | exact Or.inr ⟨t, (by rw [trQ, hqt]; exact if_neg hn), nI_0, rfl⟩)
    · skip
      rw [(TrC_in (hS.2.1 t ht) hn).1]
      refine a_if_eq B 25 d_Lo_treeRefused_18 rfl (fun c9 => absurd c9 (by decide)) (fun _ => ?_)
      refine a_iconst B d_Lo_treeRefused_21 ci_0 ?_
      refine a_goto B 33 d_Lo_treeRefused_22 rfl ?_
      exact Rt _ _ _ _ d_Lo_treeRefused_33 (by first | exact Or.inl ⟨RF S 1, (by rw [trQ, hqt]; exact if_pos hn), rfl, RelC_fnd hS (by decide), frC_ans⟩ | exact Or.inr ⟨t, (by rw [trQ, hqt]; exact if_neg hn), nI_0, rfl⟩)
  have hqt := isS_f c_4
  refine a_iconst B d_Lo_treeRefused_7 ci_m1 ?_
  exact Rt _ _ _ _ d_Lo_treeRefused_8 (Or.inl ⟨RB S, by rw [trQ, hqt], rfl, hS, fun _ _ => rfl⟩)
theorem d_Lo_nodeRefused_0 : decode prog_1_method_43_code 0 = .ok (.aload_n 0, 1) := by decide +kernel
theorem d_Lo_nodeRefused_1 : decode prog_1_method_43_code 1 = .ok (.iload_n 1, 1) := by decide +kernel
theorem d_Lo_nodeRefused_2 : decode prog_1_method_43_code 2 = .ok (.invokevirtual 120, 3) := by decide +kernel
theorem d_Lo_nodeRefused_5 : decode prog_1_method_43_code 5 = .ok (.istore_n 3, 1) := by decide +kernel
theorem d_Lo_nodeRefused_6 : decode prog_1_method_43_code 6 = .ok (.iload_n 3, 1) := by decide +kernel
theorem d_Lo_nodeRefused_7 : decode prog_1_method_43_code 7 = .ok (.ifCond .eq 5, 3) := by decide +kernel
theorem d_Lo_nodeRefused_10 : decode prog_1_method_43_code 10 = .ok (.iload_n 3, 1) := by decide +kernel
theorem d_Lo_nodeRefused_11 : decode prog_1_method_43_code 11 = .ok (.ireturn, 1) := by decide +kernel
theorem d_Lo_nodeRefused_12 : decode prog_1_method_43_code 12 = .ok (.iload_n 2, 1) := by decide +kernel
theorem d_Lo_nodeRefused_13 : decode prog_1_method_43_code 13 = .ok (.ifCond .lt 20, 3) := by decide +kernel
theorem d_Lo_nodeRefused_16 : decode prog_1_method_43_code 16 = .ok (.iload_n 2, 1) := by decide +kernel
theorem d_Lo_nodeRefused_17 : decode prog_1_method_43_code 17 = .ok (.aload_n 0, 1) := by decide +kernel
theorem d_Lo_nodeRefused_18 : decode prog_1_method_43_code 18 = .ok (.getfield 18, 3) := by decide +kernel
theorem d_Lo_nodeRefused_21 : decode prog_1_method_43_code 21 = .ok (.iload_n 1, 1) := by decide +kernel
theorem d_Lo_nodeRefused_22 : decode prog_1_method_43_code 22 = .ok (.aaload, 1) := by decide +kernel
theorem d_Lo_nodeRefused_23 : decode prog_1_method_43_code 23 = .ok (.getfield 117, 3) := by decide +kernel
theorem d_Lo_nodeRefused_26 : decode prog_1_method_43_code 26 = .ok (.if_icmp .ge 7, 3) := by decide +kernel
theorem d_Lo_nodeRefused_29 : decode prog_1_method_43_code 29 = .ok (.iconst 0, 1) := by decide +kernel
theorem d_Lo_nodeRefused_30 : decode prog_1_method_43_code 30 = .ok (.goto 11, 3) := by decide +kernel
theorem d_Lo_nodeRefused_33 : decode prog_1_method_43_code 33 = .ok (.aload_n 0, 1) := by decide +kernel
theorem d_Lo_nodeRefused_34 : decode prog_1_method_43_code 34 = .ok (.getfield 47, 3) := by decide +kernel
theorem d_Lo_nodeRefused_37 : decode prog_1_method_43_code 37 = .ok (.iconst 2, 1) := by decide +kernel
theorem d_Lo_nodeRefused_38 : decode prog_1_method_43_code 38 = .ok (.invokevirtual 89, 3) := by decide +kernel
theorem d_Lo_nodeRefused_41 : decode prog_1_method_43_code 41 = .ok (.ireturn, 1) := by decide +kernel
set_option maxHeartbeats 4000000 in
set_option maxRecDepth 20000 in
theorem t_Lo_nodeRefused {g : GG} (G : Gok g) {σ : AH} {S : Sp} (hS : RelC S σ) (x y : Int32) : TerI g 2 m_Lo_nodeRefused [rV 0, iV x, iV y] σ (PQ (ndQ S x y) σ) := by
  refine TerI.mk G (by decide +kernel) rfl (Nat.le_of_ble_eq_true rfl) (fun K B Rt => ?_)
  have B : Cx g K prog_1_method_43_code 4 R_Lo 2 := B
  have Rt : RetI g K prog_1_method_43_code 4 (PQ (ndQ S x y) σ) := Rt
  show AW g K 4 0 [(0, rV 0), (1, iV x), (2, iV y)] [] σ
  refine a_aload_n B d_Lo_nodeRefused_0 rfl rfl ?_
  refine a_iload_n B d_Lo_nodeRefused_1 rfl rfl ?_
  refine a_callVI (ci := 6) B (t_Lo_treeRefused G hS x) d_Lo_nodeRefused_2 ok_Lo_treeRefused ml_Lo_120 ly_0 rfl rfl (by decide) (by decide) rfl (Nat.le_of_ble_eq_true rfl) (fun r_2 τ_2 h_2 => ?_)
  rcases h_2 with ⟨q, hq, hr9, hR9, hF9⟩ | ⟨t, hq, hr9, hs9⟩
  · skip
    subst hr9
    refine a_istore_n (lv1 := [(0, _), (1, _), (2, _), (3, _)]) B d_Lo_nodeRefused_5 rfl (by decide) rfl ?_
    refine a_iload_n B d_Lo_nodeRefused_6 rfl rfl ?_
    refine a_if_eq B 12 d_Lo_nodeRefused_7 rfl (fun c9 => absurd c9 (neg_nz (trQ_neg hq)).1) (fun _ => ?_)
    refine a_iload_n B d_Lo_nodeRefused_10 rfl rfl ?_
    exact Rt _ _ _ _ d_Lo_nodeRefused_11 (Or.inl ⟨q, by rw [ndQ, hq], rfl, hR9, hF9⟩)
  · skip
    subst hr9
    replace hs9 := hs9.symm
    subst hs9
    obtain ⟨ht, rfl, hn⟩ := trQ_ok hq
    obtain ⟨t11, tW, tA, tB, tP⟩ := TrC_in (hS.2.1 t ht) hn
    have w1 := tW.1
    have w10 := tW.2.1
    have h58 : tI t = 58 + 12 * t := rfl
    refine a_istore_n (lv1 := [(0, _), (1, _), (2, _), (3, _)]) B d_Lo_nodeRefused_5 rfl (by decide) rfl ?_
    refine a_iload_n B d_Lo_nodeRefused_6 rfl rfl ?_
    refine a_if_eq B 12 d_Lo_nodeRefused_7 rfl (fun _ => ?_) (fun c9 => absurd nI_0 c9)
    refine a_iload_n B d_Lo_nodeRefused_12 rfl rfl ?_
    refine a_if_lt B 33 d_Lo_nodeRefused_13 rfl (fun c_13 => ?_) (fun c_13 => ?_)
    · skip
      refine a_aload_n B d_Lo_nodeRefused_33 rfl rfl ?_
      refine gf_Lo_found B d_Lo_nodeRefused_34 fl_Lo_47 ?_
      refine a_iconst B d_Lo_nodeRefused_37 ci_2 ?_
      refine a_callVI (ci := 2) B (t_Fi_answer G 2 (by decide)) d_Lo_nodeRefused_38 ok_Fi_answer ml_Lo_89 ly_15 rfl rfl (by decide) (by decide) rfl (Nat.le_of_ble_eq_true rfl) (fun r_38 τ_38 h_38 => ?_)
      obtain ⟨hr_38, hs_38⟩ := h_38
      subst hr_38
      subst hs_38
      exact Rt _ _ _ _ d_Lo_nodeRefused_41 (by first | exact Or.inl ⟨RF S 2, (by rw [ndQ, hq]; show (match rngQ _ y with | none => _ | some v => _) = _; rw [isS_f (rng_lo c_13)]), rfl, RelC_fnd hS (by decide), frC_ans⟩ | exact Or.inl ⟨RF S 2, (by rw [ndQ, hq]; show (match rngQ _ y with | none => _ | some v => _) = _; rw [isS_f (rng_hi c_26)]), rfl, RelC_fnd hS (by decide), frC_ans⟩ | (obtain ⟨v, hv⟩ := isS_t (rng_in (Int32.not_lt.mp c_13) (Int32.not_le.mp c_26)); exact Or.inr ⟨(t, v), (by rw [ndQ, hq]; show (match rngQ _ y with | none => _ | some v => _) = _; rw [hv]), nI_0, rfl⟩))
    refine a_iload_n B d_Lo_nodeRefused_16 rfl rfl ?_
    refine a_aload_n B d_Lo_nodeRefused_17 rfl rfl ?_
    refine gf_Lo_trees B d_Lo_nodeRefused_18 fl_Lo_18 ?_
    refine a_iload_n B d_Lo_nodeRefused_21 rfl rfl ?_
    refine al_tr B _ rfl (by first | assumption | omega) d_Lo_nodeRefused_22 ?_
    refine gf_Tr_nodeCount B (by first | assumption | omega) d_Lo_nodeRefused_23 fl_Lo_117 ?_
    rw [tA.2.1]
    first | refine b_icmp_ge B 33 d_Lo_nodeRefused_26 rfl (by omega) (by omega) (fun c_26 => ?_) (fun c_26 => ?_) | refine a_icmp_ge B 33 d_Lo_nodeRefused_26 rfl (fun c_26 => ?_) (fun c_26 => ?_)
    · skip
      refine a_aload_n B d_Lo_nodeRefused_33 rfl rfl ?_
      refine gf_Lo_found B d_Lo_nodeRefused_34 fl_Lo_47 ?_
      refine a_iconst B d_Lo_nodeRefused_37 ci_2 ?_
      refine a_callVI (ci := 2) B (t_Fi_answer G 2 (by decide)) d_Lo_nodeRefused_38 ok_Fi_answer ml_Lo_89 ly_15 rfl rfl (by decide) (by decide) rfl (Nat.le_of_ble_eq_true rfl) (fun r_38 τ_38 h_38 => ?_)
      obtain ⟨hr_38, hs_38⟩ := h_38
      subst hr_38
      subst hs_38
      exact Rt _ _ _ _ d_Lo_nodeRefused_41 (by first | exact Or.inl ⟨RF S 2, (by rw [ndQ, hq]; show (match rngQ _ y with | none => _ | some v => _) = _; rw [isS_f (rng_lo c_13)]), rfl, RelC_fnd hS (by decide), frC_ans⟩ | exact Or.inl ⟨RF S 2, (by rw [ndQ, hq]; show (match rngQ _ y with | none => _ | some v => _) = _; rw [isS_f (rng_hi c_26)]), rfl, RelC_fnd hS (by decide), frC_ans⟩ | (obtain ⟨v, hv⟩ := isS_t (rng_in (Int32.not_lt.mp c_13) (Int32.not_le.mp c_26)); exact Or.inr ⟨(t, v), (by rw [ndQ, hq]; show (match rngQ _ y with | none => _ | some v => _) = _; rw [hv]), nI_0, rfl⟩))
    refine a_iconst B d_Lo_nodeRefused_29 ci_0 ?_
    refine a_goto B 41 d_Lo_nodeRefused_30 rfl ?_
    exact Rt _ _ _ _ d_Lo_nodeRefused_41 (by first | exact Or.inl ⟨RF S 2, (by rw [ndQ, hq]; show (match rngQ _ y with | none => _ | some v => _) = _; rw [isS_f (rng_lo c_13)]), rfl, RelC_fnd hS (by decide), frC_ans⟩ | exact Or.inl ⟨RF S 2, (by rw [ndQ, hq]; show (match rngQ _ y with | none => _ | some v => _) = _; rw [isS_f (rng_hi c_26)]), rfl, RelC_fnd hS (by decide), frC_ans⟩ | (obtain ⟨v, hv⟩ := isS_t (rng_in (Int32.not_lt.mp c_13) (Int32.not_le.mp c_26)); exact Or.inr ⟨(t, v), (by rw [ndQ, hq]; show (match rngQ _ y with | none => _ | some v => _) = _; rw [hv]), nI_0, rfl⟩))
theorem ndQ_ok {S : Sp} {x y : Int32} {q : Nat × Nat} (h : ndQ S x y = .inr q) (hb : tN (sT S q.1) ≤ 10) : q.1 < 4 ∧ x = nI q.1 ∧ tN (sT S q.1) ≠ 0 ∧ q.2 < 2 * tN (sT S q.1) - 1 ∧ y = nI q.2 := by
  unfold ndQ at h
  split at h
  · cases h
  · next t ht =>
    split at h
    · cases h
    · next v hv =>
      cases h
      obtain ⟨a, b, c⟩ := trQ_ok ht
      obtain ⟨d, e⟩ := rngQ_some (by dsimp only at hb; omega) hv
      exact ⟨a, b, c, d, e⟩
theorem jnQ_ok {S : Sp} {x y : Int32} {q : Nat × Nat} (h : jnQ S x y = .inr q) : ndQ S x y = .inr q ∧ tN (sT S q.1) ≤ q.2 := by
  unfold jnQ at h
  split at h
  · cases h
  · next q' hq' =>
    split at h
    · cases h
    · next hn => cases h; exact ⟨hq', by omega⟩
theorem tN_le {S : Sp} {σ : AH} (h : RelC S σ) {t : Nat} (ht : t < 4) : tN (sT S t) ≤ 10 := by
  rcases h.2.1 t ht with ⟨h1, -⟩ | ⟨-, -, h3, -⟩
  · omega
  · exact h3.2.1
theorem ndQ_t {S : Sp} {x y : Int32} {q : Nat × Nat} (h : ndQ S x y = .inr q) : q.1 < 4 := by
  unfold ndQ at h
  split at h
  · cases h
  · next t ht =>
    split at h
    · cases h
    · cases h; exact (trQ_ok ht).1
theorem d_Lo_joinRefused_0 : decode prog_1_method_44_code 0 = .ok (.aload_n 0, 1) := by decide +kernel
theorem d_Lo_joinRefused_1 : decode prog_1_method_44_code 1 = .ok (.iload_n 1, 1) := by decide +kernel
theorem d_Lo_joinRefused_2 : decode prog_1_method_44_code 2 = .ok (.iload_n 2, 1) := by decide +kernel
theorem d_Lo_joinRefused_3 : decode prog_1_method_44_code 3 = .ok (.invokevirtual 126, 3) := by decide +kernel
theorem d_Lo_joinRefused_6 : decode prog_1_method_44_code 6 = .ok (.istore_n 3, 1) := by decide +kernel
theorem d_Lo_joinRefused_7 : decode prog_1_method_44_code 7 = .ok (.iload_n 3, 1) := by decide +kernel
theorem d_Lo_joinRefused_8 : decode prog_1_method_44_code 8 = .ok (.ifCond .eq 5, 3) := by decide +kernel
theorem d_Lo_joinRefused_11 : decode prog_1_method_44_code 11 = .ok (.iload_n 3, 1) := by decide +kernel
theorem d_Lo_joinRefused_12 : decode prog_1_method_44_code 12 = .ok (.ireturn, 1) := by decide +kernel
theorem d_Lo_joinRefused_13 : decode prog_1_method_44_code 13 = .ok (.aload_n 0, 1) := by decide +kernel
theorem d_Lo_joinRefused_14 : decode prog_1_method_44_code 14 = .ok (.getfield 18, 3) := by decide +kernel
theorem d_Lo_joinRefused_17 : decode prog_1_method_44_code 17 = .ok (.iload_n 1, 1) := by decide +kernel
theorem d_Lo_joinRefused_18 : decode prog_1_method_44_code 18 = .ok (.aaload, 1) := by decide +kernel
theorem d_Lo_joinRefused_19 : decode prog_1_method_44_code 19 = .ok (.iload_n 2, 1) := by decide +kernel
theorem d_Lo_joinRefused_20 : decode prog_1_method_44_code 20 = .ok (.iconst 2, 1) := by decide +kernel
theorem d_Lo_joinRefused_21 : decode prog_1_method_44_code 21 = .ok (.invokevirtual 132, 3) := by decide +kernel
theorem d_Lo_joinRefused_24 : decode prog_1_method_44_code 24 = .ok (.ifCond .eq 7, 3) := by decide +kernel
theorem d_Lo_joinRefused_27 : decode prog_1_method_44_code 27 = .ok (.iconst 0, 1) := by decide +kernel
theorem d_Lo_joinRefused_28 : decode prog_1_method_44_code 28 = .ok (.goto 11, 3) := by decide +kernel
theorem d_Lo_joinRefused_31 : decode prog_1_method_44_code 31 = .ok (.aload_n 0, 1) := by decide +kernel
theorem d_Lo_joinRefused_32 : decode prog_1_method_44_code 32 = .ok (.getfield 47, 3) := by decide +kernel
theorem d_Lo_joinRefused_35 : decode prog_1_method_44_code 35 = .ok (.iconst 3, 1) := by decide +kernel
theorem d_Lo_joinRefused_36 : decode prog_1_method_44_code 36 = .ok (.invokevirtual 89, 3) := by decide +kernel
theorem d_Lo_joinRefused_39 : decode prog_1_method_44_code 39 = .ok (.ireturn, 1) := by decide +kernel
set_option maxHeartbeats 4000000 in
set_option maxRecDepth 20000 in
theorem t_Lo_joinRefused {g : GG} (G : Gok g) {σ : AH} {S : Sp} (hS : RelC S σ) (x y : Int32) : TerI g 3 m_Lo_joinRefused [rV 0, iV x, iV y] σ (PQ (jnQ S x y) σ) := by
  refine TerI.mk G (by decide +kernel) rfl (Nat.le_of_ble_eq_true rfl) (fun K B Rt => ?_)
  have B : Cx g K prog_1_method_44_code 4 R_Lo 3 := B
  have Rt : RetI g K prog_1_method_44_code 4 (PQ (jnQ S x y) σ) := Rt
  show AW g K 4 0 [(0, rV 0), (1, iV x), (2, iV y)] [] σ
  refine a_aload_n B d_Lo_joinRefused_0 rfl rfl ?_
  refine a_iload_n B d_Lo_joinRefused_1 rfl rfl ?_
  refine a_iload_n B d_Lo_joinRefused_2 rfl rfl ?_
  refine a_callVI (ci := 6) B (t_Lo_nodeRefused G hS x y) d_Lo_joinRefused_3 ok_Lo_nodeRefused ml_Lo_126 ly_0 rfl rfl (by decide) (by decide) rfl (Nat.le_of_ble_eq_true rfl) (fun r_3 τ_3 h_3 => ?_)
  rcases h_3 with ⟨q, hq, hr9, hR9, hF9⟩ | ⟨q9, hq, hr9, hs9⟩
  · skip
    subst hr9
    refine a_istore_n (lv1 := [(0, _), (1, _), (2, _), (3, _)]) B d_Lo_joinRefused_6 rfl (by decide) rfl ?_
    refine a_iload_n B d_Lo_joinRefused_7 rfl rfl ?_
    refine a_if_eq B 13 d_Lo_joinRefused_8 rfl (fun c9 => absurd c9 (neg_nz (ndQ_neg hq)).1) (fun _ => ?_)
    refine a_iload_n B d_Lo_joinRefused_11 rfl rfl ?_
    exact Rt _ _ _ _ d_Lo_joinRefused_12 (Or.inl ⟨q, by rw [jnQ, hq], rfl, hR9, hF9⟩)
  · skip
    subst hr9
    replace hs9 := hs9.symm
    subst hs9
    obtain ⟨t, v⟩ := q9
    obtain ⟨ht, hx9, hn, hv, hy9⟩ := ndQ_ok hq (tN_le hS (ndQ_t hq))
    dsimp only at ht hx9 hn hv hy9
    subst hx9
    subst hy9
    obtain ⟨t11, tW, tA, tB, tP⟩ := TrC_in (hS.2.1 t ht) hn
    have w1 := tW.1
    have w10 := tW.2.1
    have h58 : tI t = 58 + 12 * t := rfl
    refine a_istore_n (lv1 := [(0, _), (1, _), (2, _), (3, _)]) B d_Lo_joinRefused_6 rfl (by decide) rfl ?_
    refine a_iload_n B d_Lo_joinRefused_7 rfl rfl ?_
    refine a_if_eq B 13 d_Lo_joinRefused_8 rfl (fun _ => ?_) (fun c9 => absurd nI_0 c9)
    refine a_aload_n B d_Lo_joinRefused_13 rfl rfl ?_
    refine gf_Lo_trees B d_Lo_joinRefused_14 fl_Lo_18 ?_
    refine a_iload_n B d_Lo_joinRefused_17 rfl rfl ?_
    refine al_tr B _ rfl (by first | assumption | omega) d_Lo_joinRefused_18 ?_
    refine a_iload_n B d_Lo_joinRefused_19 rfl rfl ?_
    refine a_iconst B d_Lo_joinRefused_20 ci_2 ?_
    refine a_callVI (ci := 5) B (t_Tr_isOf G ht tW tA (v := v) (k := 2) hv (by decide)) d_Lo_joinRefused_21 ok_Tr_isOf ml_Lo_132 (ly_T (by first | assumption | omega)) rfl rfl (by decide) (by decide) rfl (Nat.le_of_ble_eq_true rfl) (fun r_21 τ_21 h_21 => ?_)
    obtain ⟨hr_21, hs_21⟩ := h_21
    subst hr_21
    replace hs_21 := hs_21.symm
    subst hs_21
    first | refine b_if_eq_b B 31 d_Lo_joinRefused_24 rfl (fun c_24 => ?_) (fun c_24 => ?_) | refine a_if_eq B 31 d_Lo_joinRefused_24 rfl (fun c_24 => ?_) (fun c_24 => ?_)
    · skip
      refine a_aload_n B d_Lo_joinRefused_31 rfl rfl ?_
      refine gf_Lo_found B d_Lo_joinRefused_32 fl_Lo_47 ?_
      refine a_iconst B d_Lo_joinRefused_35 ci_3 ?_
      refine a_callVI (ci := 2) B (t_Fi_answer G 3 (by decide)) d_Lo_joinRefused_36 ok_Fi_answer ml_Lo_89 ly_15 rfl rfl (by decide) (by decide) rfl (Nat.le_of_ble_eq_true rfl) (fun r_36 τ_36 h_36 => ?_)
      obtain ⟨hr_36, hs_36⟩ := h_36
      subst hr_36
      subst hs_36
      exact Rt _ _ _ _ d_Lo_joinRefused_39 (by first | exact Or.inl ⟨RF S 3, (by rw [jnQ, hq]; exact if_pos (by have c9 := c_24; simp [isOfT] at c9; exact c9)), rfl, RelC_fnd hS (by decide), frC_ans⟩ | exact Or.inr ⟨(t, v), (by rw [jnQ, hq]; exact if_neg (by have c9 := c_24; simp [isOfT] at c9; exact Nat.not_lt.mpr c9)), nI_0, rfl⟩)
    refine a_iconst B d_Lo_joinRefused_27 ci_0 ?_
    refine a_goto B 39 d_Lo_joinRefused_28 rfl ?_
    exact Rt _ _ _ _ d_Lo_joinRefused_39 (by first | exact Or.inl ⟨RF S 3, (by rw [jnQ, hq]; exact if_pos (by have c9 := c_24; simp [isOfT] at c9; exact c9)), rfl, RelC_fnd hS (by decide), frC_ans⟩ | exact Or.inr ⟨(t, v), (by rw [jnQ, hq]; exact if_neg (by have c9 := c_24; simp [isOfT] at c9; exact Nat.not_lt.mpr c9)), nI_0, rfl⟩)
theorem d_Lo_pairRefused_0 : decode prog_1_method_45_code 0 = .ok (.iload_n 1, 1) := by decide +kernel
theorem d_Lo_pairRefused_1 : decode prog_1_method_45_code 1 = .ok (.invokestatic 110, 3) := by decide +kernel
theorem d_Lo_pairRefused_4 : decode prog_1_method_45_code 4 = .ok (.ifCond .eq 10, 3) := by decide +kernel
theorem d_Lo_pairRefused_7 : decode prog_1_method_45_code 7 = .ok (.iload_n 2, 1) := by decide +kernel
theorem d_Lo_pairRefused_8 : decode prog_1_method_45_code 8 = .ok (.invokestatic 110, 3) := by decide +kernel
theorem d_Lo_pairRefused_11 : decode prog_1_method_45_code 11 = .ok (.ifCond .ne 5, 3) := by decide +kernel
theorem d_Lo_pairRefused_14 : decode prog_1_method_45_code 14 = .ok (.iconst (-1), 1) := by decide +kernel
theorem d_Lo_pairRefused_15 : decode prog_1_method_45_code 15 = .ok (.ireturn, 1) := by decide +kernel
theorem d_Lo_pairRefused_16 : decode prog_1_method_45_code 16 = .ok (.aload_n 0, 1) := by decide +kernel
theorem d_Lo_pairRefused_17 : decode prog_1_method_45_code 17 = .ok (.getfield 18, 3) := by decide +kernel
theorem d_Lo_pairRefused_20 : decode prog_1_method_45_code 20 = .ok (.iload_n 1, 1) := by decide +kernel
theorem d_Lo_pairRefused_21 : decode prog_1_method_45_code 21 = .ok (.aaload, 1) := by decide +kernel
theorem d_Lo_pairRefused_22 : decode prog_1_method_45_code 22 = .ok (.getfield 123, 3) := by decide +kernel
theorem d_Lo_pairRefused_25 : decode prog_1_method_45_code 25 = .ok (.ifCond .eq 15, 3) := by decide +kernel
theorem d_Lo_pairRefused_28 : decode prog_1_method_45_code 28 = .ok (.aload_n 0, 1) := by decide +kernel
theorem d_Lo_pairRefused_29 : decode prog_1_method_45_code 29 = .ok (.getfield 18, 3) := by decide +kernel
theorem d_Lo_pairRefused_32 : decode prog_1_method_45_code 32 = .ok (.iload_n 2, 1) := by decide +kernel
theorem d_Lo_pairRefused_33 : decode prog_1_method_45_code 33 = .ok (.aaload, 1) := by decide +kernel
theorem d_Lo_pairRefused_34 : decode prog_1_method_45_code 34 = .ok (.getfield 123, 3) := by decide +kernel
theorem d_Lo_pairRefused_37 : decode prog_1_method_45_code 37 = .ok (.ifCond .ne 12, 3) := by decide +kernel
theorem d_Lo_pairRefused_40 : decode prog_1_method_45_code 40 = .ok (.aload_n 0, 1) := by decide +kernel
theorem d_Lo_pairRefused_41 : decode prog_1_method_45_code 41 = .ok (.getfield 47, 3) := by decide +kernel
theorem d_Lo_pairRefused_44 : decode prog_1_method_45_code 44 = .ok (.iconst 1, 1) := by decide +kernel
theorem d_Lo_pairRefused_45 : decode prog_1_method_45_code 45 = .ok (.invokevirtual 89, 3) := by decide +kernel
theorem d_Lo_pairRefused_48 : decode prog_1_method_45_code 48 = .ok (.ireturn, 1) := by decide +kernel
theorem d_Lo_pairRefused_49 : decode prog_1_method_45_code 49 = .ok (.aload_n 0, 1) := by decide +kernel
theorem d_Lo_pairRefused_50 : decode prog_1_method_45_code 50 = .ok (.getfield 18, 3) := by decide +kernel
theorem d_Lo_pairRefused_53 : decode prog_1_method_45_code 53 = .ok (.iload_n 1, 1) := by decide +kernel
theorem d_Lo_pairRefused_54 : decode prog_1_method_45_code 54 = .ok (.aaload, 1) := by decide +kernel
theorem d_Lo_pairRefused_55 : decode prog_1_method_45_code 55 = .ok (.getfield 157, 3) := by decide +kernel
theorem d_Lo_pairRefused_58 : decode prog_1_method_45_code 58 = .ok (.aload_n 0, 1) := by decide +kernel
theorem d_Lo_pairRefused_59 : decode prog_1_method_45_code 59 = .ok (.getfield 18, 3) := by decide +kernel
theorem d_Lo_pairRefused_62 : decode prog_1_method_45_code 62 = .ok (.iload_n 2, 1) := by decide +kernel
theorem d_Lo_pairRefused_63 : decode prog_1_method_45_code 63 = .ok (.aaload, 1) := by decide +kernel
theorem d_Lo_pairRefused_64 : decode prog_1_method_45_code 64 = .ok (.getfield 157, 3) := by decide +kernel
theorem d_Lo_pairRefused_67 : decode prog_1_method_45_code 67 = .ok (.if_icmp .ne 7, 3) := by decide +kernel
theorem d_Lo_pairRefused_70 : decode prog_1_method_45_code 70 = .ok (.iconst 0, 1) := by decide +kernel
theorem d_Lo_pairRefused_71 : decode prog_1_method_45_code 71 = .ok (.goto 5, 3) := by decide +kernel
theorem d_Lo_pairRefused_74 : decode prog_1_method_45_code 74 = .ok (.bipush (-4), 2) := by decide +kernel
theorem d_Lo_pairRefused_76 : decode prog_1_method_45_code 76 = .ok (.ireturn, 1) := by decide +kernel
set_option maxHeartbeats 4000000 in
set_option maxRecDepth 20000 in
theorem t_Lo_pairRefused {g : GG} (G : Gok g) {σ : AH} {S : Sp} (hS : RelC S σ) (x y : Int32) : TerI g 1 m_Lo_pairRefused [rV 0, iV x, iV y] σ (PQ (prQ S x y) σ) := by
  refine TerI.mk G (by decide +kernel) rfl (Nat.le_of_ble_eq_true rfl) (fun K B Rt => ?_)
  have B : Cx g K prog_1_method_45_code 3 R_Lo 1 := B
  have Rt : RetI g K prog_1_method_45_code 3 (PQ (prQ S x y) σ) := Rt
  show AW g K 3 0 [(0, rV 0), (1, iV x), (2, iV y)] [] σ
  refine a_iload_n B d_Lo_pairRefused_0 rfl rfl ?_
  refine a_callSI B (t_Lo_isTree G x) d_Lo_pairRefused_1 ok_Lo_isTree ml_Lo_110 rfl (by decide) (by decide) rfl (Nat.le_of_ble_eq_true rfl) (fun r_1 τ_1 h_1 => ?_)
  obtain ⟨hr_1, hs_1⟩ := h_1
  subst hr_1
  replace hs_1 := hs_1.symm
  subst hs_1
  first | refine b_if_eq_b B 14 d_Lo_pairRefused_4 rfl (fun c_4 => ?_) (fun c_4 => ?_) | refine a_if_eq B 14 d_Lo_pairRefused_4 rfl (fun c_4 => ?_) (fun c_4 => ?_)
  · skip
    have hqt := isS_f c_4
    refine a_iconst B d_Lo_pairRefused_14 ci_m1 ?_
    exact Rt _ _ _ _ d_Lo_pairRefused_15 (Or.inl ⟨RB S, (by first | (rw [prQ, hqt]; done) | (rw [prQ, hqu]; split <;> first | rfl | (rename_i h9; cases h9) | simp_all)), rfl, hS, fun _ _ => rfl⟩)
  obtain ⟨t, hqt⟩ := isS_t c_4
  obtain ⟨ht, rfl⟩ := rngQ_some (by decide) hqt
  refine a_iload_n B d_Lo_pairRefused_7 rfl rfl ?_
  refine a_callSI B (t_Lo_isTree G y) d_Lo_pairRefused_8 ok_Lo_isTree ml_Lo_110 rfl (by decide) (by decide) rfl (Nat.le_of_ble_eq_true rfl) (fun r_8 τ_8 h_8 => ?_)
  obtain ⟨hr_8, hs_8⟩ := h_8
  subst hr_8
  replace hs_8 := hs_8.symm
  subst hs_8
  first | refine b_if_ne_b B 16 d_Lo_pairRefused_11 rfl (fun c_11 => ?_) (fun c_11 => ?_) | refine a_if_ne B 16 d_Lo_pairRefused_11 rfl (fun c_11 => ?_) (fun c_11 => ?_)
  · skip
    obtain ⟨u, hqu⟩ := isS_t c_11
    obtain ⟨hu, rfl⟩ := rngQ_some (by decide) hqu
    refine a_aload_n B d_Lo_pairRefused_16 rfl rfl ?_
    refine gf_Lo_trees B d_Lo_pairRefused_17 fl_Lo_18 ?_
    refine a_iload_n B d_Lo_pairRefused_20 rfl rfl ?_
    refine al_tr B _ rfl (by first | assumption | omega) d_Lo_pairRefused_21 ?_
    refine gf_Tr_there B (by first | assumption | omega) d_Lo_pairRefused_22 fl_Lo_123 ?_
    by_cases hnt : tN (sT S t) = 0
    · skip
      rw [TrC_no (hS.2.1 t ht) hnt]
      refine a_if_eq B 40 d_Lo_pairRefused_25 rfl (fun _ => ?_) (fun c9 => absurd nI_0 c9)
      refine a_aload_n B d_Lo_pairRefused_40 rfl rfl ?_
      refine gf_Lo_found B d_Lo_pairRefused_41 fl_Lo_47 ?_
      refine a_iconst B d_Lo_pairRefused_44 ci_1 ?_
      refine a_callVI (ci := 2) B (t_Fi_answer G 1 (by decide)) d_Lo_pairRefused_45 ok_Fi_answer ml_Lo_89 ly_15 rfl rfl (by decide) (by decide) rfl (Nat.le_of_ble_eq_true rfl) (fun r_45 τ_45 h_45 => ?_)
      obtain ⟨hr_45, hs_45⟩ := h_45
      subst hr_45
      subst hs_45
      exact Rt _ _ _ _ d_Lo_pairRefused_48 (Or.inl ⟨RF S 1, (by rw [prQ, hqt, hqu]; exact if_pos (by first | exact Or.inl hnt | exact Or.inr hnu)), rfl, RelC_fnd hS (by decide), frC_ans⟩)
    · skip
      rw [(TrC_in (hS.2.1 t ht) hnt).1]
      refine a_if_eq B 40 d_Lo_pairRefused_25 rfl (fun c9 => absurd c9 (by decide)) (fun _ => ?_)
      refine a_aload_n B d_Lo_pairRefused_28 rfl rfl ?_
      refine gf_Lo_trees B d_Lo_pairRefused_29 fl_Lo_18 ?_
      refine a_iload_n B d_Lo_pairRefused_32 rfl rfl ?_
      refine al_tr B _ rfl (by first | assumption | omega) d_Lo_pairRefused_33 ?_
      refine gf_Tr_there B (by first | assumption | omega) d_Lo_pairRefused_34 fl_Lo_123 ?_
      by_cases hnu : tN (sT S u) = 0
      · skip
        rw [TrC_no (hS.2.1 u hu) hnu]
        refine a_if_ne B 49 d_Lo_pairRefused_37 rfl (fun c9 => absurd nI_0 c9) (fun _ => ?_)
        refine a_aload_n B d_Lo_pairRefused_40 rfl rfl ?_
        refine gf_Lo_found B d_Lo_pairRefused_41 fl_Lo_47 ?_
        refine a_iconst B d_Lo_pairRefused_44 ci_1 ?_
        refine a_callVI (ci := 2) B (t_Fi_answer G 1 (by decide)) d_Lo_pairRefused_45 ok_Fi_answer ml_Lo_89 ly_15 rfl rfl (by decide) (by decide) rfl (Nat.le_of_ble_eq_true rfl) (fun r_45 τ_45 h_45 => ?_)
        obtain ⟨hr_45, hs_45⟩ := h_45
        subst hr_45
        subst hs_45
        exact Rt _ _ _ _ d_Lo_pairRefused_48 (Or.inl ⟨RF S 1, (by rw [prQ, hqt, hqu]; exact if_pos (by first | exact Or.inl hnt | exact Or.inr hnu)), rfl, RelC_fnd hS (by decide), frC_ans⟩)
      · skip
        rw [(TrC_in (hS.2.1 u hu) hnu).1]
        refine a_if_ne B 49 d_Lo_pairRefused_37 rfl (fun _ => ?_) (fun c9 => absurd c9 (by decide))
        refine a_aload_n B d_Lo_pairRefused_49 rfl rfl ?_
        refine gf_Lo_trees B d_Lo_pairRefused_50 fl_Lo_18 ?_
        refine a_iload_n B d_Lo_pairRefused_53 rfl rfl ?_
        refine al_tr B _ rfl (by first | assumption | omega) d_Lo_pairRefused_54 ?_
        refine gf_Tr_leafCount B (by first | assumption | omega) d_Lo_pairRefused_55 fl_Lo_157 ?_
        rw [(TrC_in (hS.2.1 t ht) hnt).2.2.1.1]
        have wt := (TrC_in (hS.2.1 t ht) hnt).2.1.2.1
        refine a_aload_n B d_Lo_pairRefused_58 rfl rfl ?_
        refine gf_Lo_trees B d_Lo_pairRefused_59 fl_Lo_18 ?_
        refine a_iload_n B d_Lo_pairRefused_62 rfl rfl ?_
        refine al_tr B _ rfl (by first | assumption | omega) d_Lo_pairRefused_63 ?_
        refine gf_Tr_leafCount B (by first | assumption | omega) d_Lo_pairRefused_64 fl_Lo_157 ?_
        rw [(TrC_in (hS.2.1 u hu) hnu).2.2.1.1]
        have wu := (TrC_in (hS.2.1 u hu) hnu).2.1.2.1
        first | refine b_icmp_ne B 74 d_Lo_pairRefused_67 rfl (by omega) (by omega) (fun c_67 => ?_) (fun c_67 => ?_) | refine a_icmp_ne B 74 d_Lo_pairRefused_67 rfl (fun c_67 => ?_) (fun c_67 => ?_)
        · skip
          refine a_bipush B d_Lo_pairRefused_74 cb_m4 ?_
          exact Rt _ _ _ _ d_Lo_pairRefused_76 (by first | exact Or.inl ⟨RS S, (by rw [prQ, hqt, hqu]; show (if _ then _ else _) = _; rw [if_neg (fun q => q.elim hnt hnu)]; exact if_neg c_67), rfl, hS, fun _ _ => rfl⟩ | exact Or.inr ⟨(t, u), (by rw [prQ, hqt, hqu]; show (if _ then _ else _) = _; rw [if_neg (fun q => q.elim hnt hnu)]; exact if_pos c_67), nI_0, rfl⟩)
        refine a_iconst B d_Lo_pairRefused_70 ci_0 ?_
        refine a_goto B 76 d_Lo_pairRefused_71 rfl ?_
        exact Rt _ _ _ _ d_Lo_pairRefused_76 (by first | exact Or.inl ⟨RS S, (by rw [prQ, hqt, hqu]; show (if _ then _ else _) = _; rw [if_neg (fun q => q.elim hnt hnu)]; exact if_neg c_67), rfl, hS, fun _ _ => rfl⟩ | exact Or.inr ⟨(t, u), (by rw [prQ, hqt, hqu]; show (if _ then _ else _) = _; rw [if_neg (fun q => q.elim hnt hnu)]; exact if_pos c_67), nI_0, rfl⟩)
  have hqu := isS_f c_11
  refine a_iconst B d_Lo_pairRefused_14 ci_m1 ?_
  exact Rt _ _ _ _ d_Lo_pairRefused_15 (Or.inl ⟨RB S, (by first | (rw [prQ, hqt]; done) | (rw [prQ, hqu]; split <;> first | rfl | (rename_i h9; cases h9) | simp_all)), rfl, hS, fun _ _ => rfl⟩)
theorem d_Lo_facingRefused_0 : decode prog_1_method_46_code 0 = .ok (.iload_n 1, 1) := by decide +kernel
theorem d_Lo_facingRefused_1 : decode prog_1_method_46_code 1 = .ok (.iload_n 2, 1) := by decide +kernel
theorem d_Lo_facingRefused_2 : decode prog_1_method_46_code 2 = .ok (.if_icmp .ne 7, 3) := by decide +kernel
theorem d_Lo_facingRefused_5 : decode prog_1_method_46_code 5 = .ok (.iconst (-1), 1) := by decide +kernel
theorem d_Lo_facingRefused_6 : decode prog_1_method_46_code 6 = .ok (.goto 9, 3) := by decide +kernel
theorem d_Lo_facingRefused_9 : decode prog_1_method_46_code 9 = .ok (.aload_n 0, 1) := by decide +kernel
theorem d_Lo_facingRefused_10 : decode prog_1_method_46_code 10 = .ok (.iload_n 1, 1) := by decide +kernel
theorem d_Lo_facingRefused_11 : decode prog_1_method_46_code 11 = .ok (.iload_n 2, 1) := by decide +kernel
theorem d_Lo_facingRefused_12 : decode prog_1_method_46_code 12 = .ok (.invokevirtual 175, 3) := by decide +kernel
theorem d_Lo_facingRefused_15 : decode prog_1_method_46_code 15 = .ok (.ireturn, 1) := by decide +kernel
set_option maxHeartbeats 4000000 in
set_option maxRecDepth 20000 in
theorem t_Lo_facingRefused {g : GG} (G : Gok g) {σ : AH} {S : Sp} (hS : RelC S σ) (x y : Int32) : TerI g 2 m_Lo_facingRefused [rV 0, iV x, iV y] σ (PQ (fcQ S x y) σ) := by
  refine TerI.mk G (by decide +kernel) rfl (Nat.le_of_ble_eq_true rfl) (fun K B Rt => ?_)
  have B : Cx g K prog_1_method_46_code 3 R_Lo 2 := B
  have Rt : RetI g K prog_1_method_46_code 3 (PQ (fcQ S x y) σ) := Rt
  show AW g K 3 0 [(0, rV 0), (1, iV x), (2, iV y)] [] σ
  refine a_iload_n B d_Lo_facingRefused_0 rfl rfl ?_
  refine a_iload_n B d_Lo_facingRefused_1 rfl rfl ?_
  first | refine b_icmp_ne B 9 d_Lo_facingRefused_2 rfl (by omega) (by omega) (fun c_2 => ?_) (fun c_2 => ?_) | refine a_icmp_ne B 9 d_Lo_facingRefused_2 rfl (fun c_2 => ?_) (fun c_2 => ?_)
  · skip
    refine a_aload_n B d_Lo_facingRefused_9 rfl rfl ?_
    refine a_iload_n B d_Lo_facingRefused_10 rfl rfl ?_
    refine a_iload_n B d_Lo_facingRefused_11 rfl rfl ?_
    refine a_callVI (ci := 6) B (t_Lo_pairRefused G hS x y) d_Lo_facingRefused_12 ok_Lo_pairRefused ml_Lo_175 ly_0 rfl rfl (by decide) (by decide) rfl (Nat.le_of_ble_eq_true rfl) (fun r_12 τ_12 h_12 => ?_)
    exact Rt _ _ _ _ d_Lo_facingRefused_15 (by first | exact Or.inl ⟨RB S, if_pos c_2, rfl, hS, fun _ _ => rfl⟩ | (rw [show fcQ S x y = prQ S x y from if_neg c_2]; exact h_12))
  refine a_iconst B d_Lo_facingRefused_5 ci_m1 ?_
  refine a_goto B 15 d_Lo_facingRefused_6 rfl ?_
  exact Rt _ _ _ _ d_Lo_facingRefused_15 (by first | exact Or.inl ⟨RB S, if_pos c_2, rfl, hS, fun _ _ => rfl⟩ | (rw [show fcQ S x y = prQ S x y from if_neg c_2]; exact h_12))
theorem d_Lo_drop_0 : decode prog_1_method_10_code 0 = .ok (.aload_n 0, 1) := by decide +kernel
theorem d_Lo_drop_1 : decode prog_1_method_10_code 1 = .ok (.iload_n 1, 1) := by decide +kernel
theorem d_Lo_drop_2 : decode prog_1_method_10_code 2 = .ok (.invokevirtual 120, 3) := by decide +kernel
theorem d_Lo_drop_5 : decode prog_1_method_10_code 5 = .ok (.istore_n 2, 1) := by decide +kernel
theorem d_Lo_drop_6 : decode prog_1_method_10_code 6 = .ok (.iload_n 2, 1) := by decide +kernel
theorem d_Lo_drop_7 : decode prog_1_method_10_code 7 = .ok (.ifCond .eq 5, 3) := by decide +kernel
theorem d_Lo_drop_10 : decode prog_1_method_10_code 10 = .ok (.iload_n 2, 1) := by decide +kernel
theorem d_Lo_drop_11 : decode prog_1_method_10_code 11 = .ok (.ireturn, 1) := by decide +kernel
theorem d_Lo_drop_12 : decode prog_1_method_10_code 12 = .ok (.aload_n 0, 1) := by decide +kernel
theorem d_Lo_drop_13 : decode prog_1_method_10_code 13 = .ok (.getfield 18, 3) := by decide +kernel
theorem d_Lo_drop_16 : decode prog_1_method_10_code 16 = .ok (.iload_n 1, 1) := by decide +kernel
theorem d_Lo_drop_17 : decode prog_1_method_10_code 17 = .ok (.aaload, 1) := by decide +kernel
theorem d_Lo_drop_18 : decode prog_1_method_10_code 18 = .ok (.iconst 0, 1) := by decide +kernel
theorem d_Lo_drop_19 : decode prog_1_method_10_code 19 = .ok (.putfield 123, 3) := by decide +kernel
theorem d_Lo_drop_22 : decode prog_1_method_10_code 22 = .ok (.iconst 1, 1) := by decide +kernel
theorem d_Lo_drop_23 : decode prog_1_method_10_code 23 = .ok (.ireturn, 1) := by decide +kernel
set_option maxHeartbeats 4000000 in
set_option maxRecDepth 20000 in
theorem tC_drop {g : GG} (G : Gok g) {σ : AH} {S : Sp} (hS : RelC S σ) (x : Int32) : TerI g 2 m_Lo_drop [rV 0, iV x] σ (fun r τ => r = (sp_drop S x).1 ∧ RelC (sp_drop S x).2 τ ∧ frC σ τ) := by
  refine TerI.mk G (by decide +kernel) rfl (Nat.le_of_ble_eq_true rfl) (fun K B Rt => ?_)
  have B : Cx g K prog_1_method_10_code 3 R_Lo 2 := B
  have Rt : RetI g K prog_1_method_10_code 3 (fun r τ => r = (sp_drop S x).1 ∧ RelC (sp_drop S x).2 τ ∧ frC σ τ) := Rt
  show AW g K 3 0 [(0, rV 0), (1, iV x)] [] σ
  refine a_aload_n B d_Lo_drop_0 rfl rfl ?_
  refine a_iload_n B d_Lo_drop_1 rfl rfl ?_
  refine a_callVI (ci := 6) B (t_Lo_treeRefused G hS x) d_Lo_drop_2 ok_Lo_treeRefused ml_Lo_120 ly_0 rfl rfl (by decide) (by decide) rfl (Nat.le_of_ble_eq_true rfl) (fun r_2 τ_2 h_2 => ?_)
  rcases h_2 with ⟨q, hq, hr9, hR9, hF9⟩ | ⟨t, hq, hr9, hs9⟩
  · skip
    subst hr9
    refine a_istore_n (lv1 := [(0, _), (1, _), (2, _)]) B d_Lo_drop_5 rfl (by decide) rfl ?_
    refine a_iload_n B d_Lo_drop_6 rfl rfl ?_
    refine a_if_eq B 12 d_Lo_drop_7 rfl (fun c9 => absurd c9 (neg_nz (trQ_neg hq)).1) (fun _ => ?_)
    refine a_iload_n B d_Lo_drop_10 rfl rfl ?_
    exact Rt _ _ _ _ d_Lo_drop_11 (by have e : sp_drop S x = q := (by rw [sp_drop, hq]); rw [e]; exact ⟨rfl, hR9, hF9⟩)
  · skip
    subst hr9
    replace hs9 := hs9.symm
    subst hs9
    obtain ⟨ht, rfl, hn⟩ := trQ_ok hq
    obtain ⟨t11, tW, tA, tB, tP⟩ := TrC_in (hS.2.1 t ht) hn
    have w1 := tW.1
    have w10 := tW.2.1
    have h58 : tI t = 58 + 12 * t := rfl
    refine a_istore_n (lv1 := [(0, _), (1, _), (2, _)]) B d_Lo_drop_5 rfl (by decide) rfl ?_
    refine a_iload_n B d_Lo_drop_6 rfl rfl ?_
    refine a_if_eq B 12 d_Lo_drop_7 rfl (fun _ => ?_) (fun c9 => absurd nI_0 c9)
    refine a_aload_n B d_Lo_drop_12 rfl rfl ?_
    refine gf_Lo_trees B d_Lo_drop_13 fl_Lo_18 ?_
    refine a_iload_n B d_Lo_drop_16 rfl rfl ?_
    refine al_tr B _ rfl (by first | assumption | omega) d_Lo_drop_17 ?_
    refine a_iconst B d_Lo_drop_18 ci_0 ?_
    refine pf_Tr_there B (by first | assumption | omega) (by first | exact Or.inl rfl | exact Or.inr rfl) d_Lo_drop_19 fl_Lo_123 ?_
    refine a_iconst B d_Lo_drop_22 ci_1 ?_
    exact Rt _ _ _ _ d_Lo_drop_23 (by have e : sp_drop S (nI t) = (1, pT S t (0, (sT S t).2)) := (by rw [sp_drop, hq]); rw [e]; exact ⟨rfl, RelC_tree hS ht (Or.inl ⟨rfl, by rw [up1_s, upd_s]; exact nI_0⟩) (fun k q1 _ _ _ _ => up1_o (by omega)), fun k hk => up1_o (by have : tI t = 58 + 12 * t := rfl; omega)⟩)
theorem rng6 {w : Int32} (h1 : ¬ w < 0) (h2 : w ≤ nI 5) : ∃ k, rngQ 6 w = some k := isS_t (rng_in (Int32.not_lt.mp h1) (by rw [Int32.lt_iff_toInt_lt, nI_toInt (by decide)]; have := Int32.le_iff_toInt_le.mp h2; rw [nI_toInt (by decide)] at this; omega))
theorem rng6_no {w : Int32} (h : ¬ w ≤ nI 5) : rngQ 6 w = none := isS_f (rng_hi (by rw [Int32.le_iff_toInt_le, nI_toInt (by decide)]; have := mt Int32.le_iff_toInt_le.mpr h; rw [nI_toInt (by decide)] at this; omega))
theorem d_Lo_told_0 : decode prog_1_method_11_code 0 = .ok (.iload_n 3, 1) := by decide +kernel
theorem d_Lo_told_1 : decode prog_1_method_11_code 1 = .ok (.ifCond .lt 8, 3) := by decide +kernel
theorem d_Lo_told_4 : decode prog_1_method_11_code 4 = .ok (.iload_n 3, 1) := by decide +kernel
theorem d_Lo_told_5 : decode prog_1_method_11_code 5 = .ok (.iconst 5, 1) := by decide +kernel
theorem d_Lo_told_6 : decode prog_1_method_11_code 6 = .ok (.if_icmp .le 5, 3) := by decide +kernel
theorem d_Lo_told_9 : decode prog_1_method_11_code 9 = .ok (.iconst (-1), 1) := by decide +kernel
theorem d_Lo_told_10 : decode prog_1_method_11_code 10 = .ok (.ireturn, 1) := by decide +kernel
theorem d_Lo_told_11 : decode prog_1_method_11_code 11 = .ok (.aload_n 0, 1) := by decide +kernel
theorem d_Lo_told_12 : decode prog_1_method_11_code 12 = .ok (.iload_n 1, 1) := by decide +kernel
theorem d_Lo_told_13 : decode prog_1_method_11_code 13 = .ok (.iload_n 2, 1) := by decide +kernel
theorem d_Lo_told_14 : decode prog_1_method_11_code 14 = .ok (.invokevirtual 126, 3) := by decide +kernel
theorem d_Lo_told_17 : decode prog_1_method_11_code 17 = .ok (.istore 4, 2) := by decide +kernel
theorem d_Lo_told_19 : decode prog_1_method_11_code 19 = .ok (.iload 4, 2) := by decide +kernel
theorem d_Lo_told_21 : decode prog_1_method_11_code 21 = .ok (.ifCond .eq 8, 3) := by decide +kernel
theorem d_Lo_told_24 : decode prog_1_method_11_code 24 = .ok (.iload 4, 2) := by decide +kernel
theorem d_Lo_told_26 : decode prog_1_method_11_code 26 = .ok (.goto 14, 3) := by decide +kernel
theorem d_Lo_told_29 : decode prog_1_method_11_code 29 = .ok (.aload_n 0, 1) := by decide +kernel
theorem d_Lo_told_30 : decode prog_1_method_11_code 30 = .ok (.getfield 18, 3) := by decide +kernel
theorem d_Lo_told_33 : decode prog_1_method_11_code 33 = .ok (.iload_n 1, 1) := by decide +kernel
theorem d_Lo_told_34 : decode prog_1_method_11_code 34 = .ok (.aaload, 1) := by decide +kernel
theorem d_Lo_told_35 : decode prog_1_method_11_code 35 = .ok (.iload_n 2, 1) := by decide +kernel
theorem d_Lo_told_36 : decode prog_1_method_11_code 36 = .ok (.iload_n 3, 1) := by decide +kernel
theorem d_Lo_told_37 : decode prog_1_method_11_code 37 = .ok (.invokevirtual 129, 3) := by decide +kernel
theorem d_Lo_told_40 : decode prog_1_method_11_code 40 = .ok (.ireturn, 1) := by decide +kernel
set_option maxHeartbeats 4000000 in
set_option maxRecDepth 20000 in
theorem tC_told {g : GG} (G : Gok g) {σ : AH} {S : Sp} (hS : RelC S σ) (x y w : Int32) : TerI g 3 m_Lo_told [rV 0, iV x, iV y, iV w] σ (fun r τ => r = (sp_told S x y w).1 ∧ RelC (sp_told S x y w).2 τ ∧ frC σ τ) := by
  refine TerI.mk G (by decide +kernel) rfl (Nat.le_of_ble_eq_true rfl) (fun K B Rt => ?_)
  have B : Cx g K prog_1_method_11_code 5 R_Lo 3 := B
  have Rt : RetI g K prog_1_method_11_code 5 (fun r τ => r = (sp_told S x y w).1 ∧ RelC (sp_told S x y w).2 τ ∧ frC σ τ) := Rt
  show AW g K 5 0 [(0, rV 0), (1, iV x), (2, iV y), (3, iV w)] [] σ
  refine a_iload_n B d_Lo_told_0 rfl rfl ?_
  refine a_if_lt B 9 d_Lo_told_1 rfl (fun c_1 => ?_) (fun c_1 => ?_)
  · skip
    refine a_iconst B d_Lo_told_9 ci_m1 ?_
    exact Rt _ _ _ _ d_Lo_told_10 (by have e : sp_told S x y w = RB S := (by first | (rw [sp_told, isS_f (rng_lo c_1)]; done) | (rw [sp_told, rng6_no c_6]; done)); rw [e]; exact ⟨rfl, hS, fun _ _ => rfl⟩)
  refine a_iload_n B d_Lo_told_4 rfl rfl ?_
  refine a_iconst B d_Lo_told_5 ci_5 ?_
  first | refine b_icmp_le B 11 d_Lo_told_6 rfl (by omega) (by omega) (fun c_6 => ?_) (fun c_6 => ?_) | refine a_icmp_le B 11 d_Lo_told_6 rfl (fun c_6 => ?_) (fun c_6 => ?_)
  · skip
    obtain ⟨k, hqk⟩ := rng6 c_1 c_6
    obtain ⟨hk, rfl⟩ := rngQ_some (by decide) hqk
    refine a_aload_n B d_Lo_told_11 rfl rfl ?_
    refine a_iload_n B d_Lo_told_12 rfl rfl ?_
    refine a_iload_n B d_Lo_told_13 rfl rfl ?_
    refine a_callVI (ci := 6) B (t_Lo_nodeRefused G hS x y) d_Lo_told_14 ok_Lo_nodeRefused ml_Lo_126 ly_0 rfl rfl (by decide) (by decide) rfl (Nat.le_of_ble_eq_true rfl) (fun r_14 τ_14 h_14 => ?_)
    rcases h_14 with ⟨q, hq, hr9, hR9, hF9⟩ | ⟨q9, hq, hr9, hs9⟩
    · skip
      subst hr9
      refine a_istore (lv1 := [(0, _), (1, _), (2, _), (3, _), (4, _)]) B d_Lo_told_17 (by decide) rfl ?_
      refine a_iload B d_Lo_told_19 rfl ?_
      refine a_if_eq B 29 d_Lo_told_21 rfl (fun c9 => absurd c9 (neg_nz (ndQ_neg hq)).1) (fun _ => ?_)
      refine a_iload B d_Lo_told_24 rfl ?_
      refine a_goto B 40 d_Lo_told_26 rfl ?_
      exact Rt _ _ _ _ d_Lo_told_40 (by first | (have e : sp_told S x y (nI k) = q := (by rw [sp_told, hqk]; show (match ndQ S x y with | .inl r => r | .inr q => _) = _; rw [hq]); rw [e]; exact ⟨rfl, hR9, hF9⟩) | (have e : sp_told S (nI t) (nI v) (nI k) = (tellT (sT S t) v k, S) := (by rw [sp_told, hqk]; show (match ndQ S (nI t) (nI v) with | .inl r => r | .inr q => _) = _; rw [hq]); rw [e]; exact ⟨rfl, hS, fun _ _ => rfl⟩))
    · skip
      subst hr9
      replace hs9 := hs9.symm
      subst hs9
      obtain ⟨t, v⟩ := q9
      obtain ⟨ht, hx9, hn, hv, hy9⟩ := ndQ_ok hq (tN_le hS (ndQ_t hq))
      dsimp only at ht hx9 hn hv hy9
      subst hx9
      subst hy9
      obtain ⟨t11, tW, tA, tB, tP⟩ := TrC_in (hS.2.1 t ht) hn
      have w1 := tW.1
      have w10 := tW.2.1
      have h58 : tI t = 58 + 12 * t := rfl
      refine a_istore (lv1 := [(0, _), (1, _), (2, _), (3, _), (4, _)]) B d_Lo_told_17 (by decide) rfl ?_
      refine a_iload B d_Lo_told_19 rfl ?_
      refine a_if_eq B 29 d_Lo_told_21 rfl (fun _ => ?_) (fun c9 => absurd nI_0 c9)
      refine a_aload_n B d_Lo_told_29 rfl rfl ?_
      refine gf_Lo_trees B d_Lo_told_30 fl_Lo_18 ?_
      refine a_iload_n B d_Lo_told_33 rfl rfl ?_
      refine al_tr B _ rfl (by first | assumption | omega) d_Lo_told_34 ?_
      refine a_iload_n B d_Lo_told_35 rfl rfl ?_
      refine a_iload_n B d_Lo_told_36 rfl rfl ?_
      refine a_callVI (ci := 5) B (t_Tr_tell G ht tW tA tB hv hk) d_Lo_told_37 ok_Tr_tell ml_Lo_129 (ly_T (by first | assumption | omega)) rfl rfl (by decide) (by decide) rfl (Nat.le_of_ble_eq_true rfl) (fun r_37 τ_37 h_37 => ?_)
      obtain ⟨hr_37, hs_37⟩ := h_37
      subst hr_37
      replace hs_37 := hs_37.symm
      subst hs_37
      exact Rt _ _ _ _ d_Lo_told_40 (by first | (have e : sp_told S x y (nI k) = q := (by rw [sp_told, hqk]; show (match ndQ S x y with | .inl r => r | .inr q => _) = _; rw [hq]); rw [e]; exact ⟨rfl, hR9, hF9⟩) | (have e : sp_told S (nI t) (nI v) (nI k) = (tellT (sT S t) v k, S) := (by rw [sp_told, hqk]; show (match ndQ S (nI t) (nI v) with | .inl r => r | .inr q => _) = _; rw [hq]); rw [e]; exact ⟨rfl, hS, fun _ _ => rfl⟩))
  refine a_iconst B d_Lo_told_9 ci_m1 ?_
  exact Rt _ _ _ _ d_Lo_told_10 (by have e : sp_told S x y w = RB S := (by first | (rw [sp_told, isS_f (rng_lo c_1)]; done) | (rw [sp_told, rng6_no c_6]; done)); rw [e]; exact ⟨rfl, hS, fun _ _ => rfl⟩)
