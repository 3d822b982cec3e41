/-! the class: counts, the digest, the fewest crossings, both trees turned -/
theorem TrC_11 {σ : AH} {t : Nat} {T : TT} (h : TrC σ t T) : σ.1 (tI t) 11 = bI (decide (tN T ≠ 0)) := by
  rcases h with ⟨h1, h2⟩ | ⟨h1, h2, -⟩
  · rw [h2, decide_eq_false (fun q => q h1)]; rfl
  · rw [h2, decide_eq_true (by omega)]; rfl
theorem d_Lo_treesThere_0 : decode prog_1_method_48_code 0 = .ok (.iconst 0, 1) := by decide +kernel
theorem d_Lo_treesThere_1 : decode prog_1_method_48_code 1 = .ok (.istore_n 1, 1) := by decide +kernel
theorem d_Lo_treesThere_2 : decode prog_1_method_48_code 2 = .ok (.iconst 0, 1) := by decide +kernel
theorem d_Lo_treesThere_3 : decode prog_1_method_48_code 3 = .ok (.istore_n 2, 1) := by decide +kernel
theorem d_Lo_treesThere_4 : decode prog_1_method_48_code 4 = .ok (.iload_n 2, 1) := by decide +kernel
theorem d_Lo_treesThere_5 : decode prog_1_method_48_code 5 = .ok (.iconst 4, 1) := by decide +kernel
theorem d_Lo_treesThere_6 : decode prog_1_method_48_code 6 = .ok (.if_icmp .ge 24, 3) := by decide +kernel
theorem d_Lo_treesThere_9 : decode prog_1_method_48_code 9 = .ok (.aload_n 0, 1) := by decide +kernel
theorem d_Lo_treesThere_10 : decode prog_1_method_48_code 10 = .ok (.getfield 18, 3) := by decide +kernel
theorem d_Lo_treesThere_13 : decode prog_1_method_48_code 13 = .ok (.iload_n 2, 1) := by decide +kernel
theorem d_Lo_treesThere_14 : decode prog_1_method_48_code 14 = .ok (.aaload, 1) := by decide +kernel
theorem d_Lo_treesThere_15 : decode prog_1_method_48_code 15 = .ok (.getfield 123, 3) := by decide +kernel
theorem d_Lo_treesThere_18 : decode prog_1_method_48_code 18 = .ok (.ifCond .eq 6, 3) := by decide +kernel
theorem d_Lo_treesThere_21 : decode prog_1_method_48_code 21 = .ok (.iinc 1 1, 3) := by decide +kernel
theorem d_Lo_treesThere_24 : decode prog_1_method_48_code 24 = .ok (.iinc 2 1, 3) := by decide +kernel
theorem d_Lo_treesThere_27 : decode prog_1_method_48_code 27 = .ok (.goto (-23), 3) := by decide +kernel
theorem d_Lo_treesThere_30 : decode prog_1_method_48_code 30 = .ok (.iload_n 1, 1) := by decide +kernel
theorem d_Lo_treesThere_31 : decode prog_1_method_48_code 31 = .ok (.ireturn, 1) := by decide +kernel
set_option maxHeartbeats 4000000 in
set_option maxRecDepth 20000 in
theorem t_Lo_treesThere {g : GG} (G : Gok g) {σ : AH} {S : Sp} (hS : RelC S σ) : TerI g 0 m_Lo_treesThere [rV 0] σ (fun r τ => r = nI (treesN S) ∧ τ = σ) := by
  refine TerI.mk G (by decide +kernel) rfl (Nat.le_of_ble_eq_true rfl) (fun K B Rt => ?_)
  have B : Cx g K prog_1_method_48_code 3 R_Lo 0 := B
  have Rt : RetI g K prog_1_method_48_code 3 (fun r τ => r = nI (treesN S) ∧ τ = σ) := Rt
  show AW g K 3 0 [(0, rV 0)] [] σ
  refine a_iconst B d_Lo_treesThere_0 ci_0 ?_
  refine a_istore_n (lv1 := [(0, _), (1, _)]) B d_Lo_treesThere_1 rfl (by decide) rfl ?_
  refine a_iconst B d_Lo_treesThere_2 ci_0 ?_
  refine a_istore_n (lv1 := [(0, _), (1, _), (2, _)]) B d_Lo_treesThere_3 rfl (by decide) rfl ?_
  refine a_for (lf := fun i => [(0, rV 0), (1, iV (nI (cntB (fun t => decide (tN (sT S t) ≠ 0)) i))), (2, iV (nI i))]) (τ := fun i => σ) 4 (fun i hi ihi => ?_) ?_ 0 (Nat.zero_le _)
  · skip
    refine a_iload_n B d_Lo_treesThere_4 rfl rfl ?_
    refine a_iconst B d_Lo_treesThere_5 ci_4 ?_
    first | refine b_icmp_ge B 30 d_Lo_treesThere_6 rfl (by omega) (by omega) (fun c_6 => ?_) (fun c_6 => ?_) | refine a_icmp_ge B 30 d_Lo_treesThere_6 rfl (fun c_6 => ?_) (fun c_6 => ?_)
    · skip
      exact absurd c_6 (by omega)
    refine a_aload_n B d_Lo_treesThere_9 rfl rfl ?_
    refine gf_Lo_trees B d_Lo_treesThere_10 fl_Lo_18 ?_
    refine a_iload_n B d_Lo_treesThere_13 rfl rfl ?_
    refine al_tr B _ rfl (by first | assumption | omega) d_Lo_treesThere_14 ?_
    refine gf_Tr_there B (by first | assumption | omega) d_Lo_treesThere_15 fl_Lo_123 ?_
    rw [TrC_11 (hS.2.1 i (by omega))]
    first | refine b_if_eq_b B 24 d_Lo_treesThere_18 rfl (fun c_18 => ?_) (fun c_18 => ?_) | refine a_if_eq B 24 d_Lo_treesThere_18 rfl (fun c_18 => ?_) (fun c_18 => ?_)
    · skip
      first | refine b_iinc (lv1 := [(0, _), (1, _), (2, _)]) B d_Lo_treesThere_24 rfl ci_1 (by decide) rfl ?_ | refine a_iinc (lv1 := [(0, _), (1, _), (2, _)]) B d_Lo_treesThere_24 rfl rfl (by decide) rfl ?_
      refine a_goto B 4 d_Lo_treesThere_27 rfl ?_
      first | (rw [cntB_t (p := fun t => decide (tN (sT S t) ≠ 0)) (i := i) c_18] at ihi; exact ihi) | (rw [cntB_f (p := fun t => decide (tN (sT S t) ≠ 0)) (i := i) c_18] at ihi; exact ihi)
    first | refine b_iinc (lv1 := [(0, _), (1, _), (2, _)]) B d_Lo_treesThere_21 rfl ci_1 (by decide) rfl ?_ | refine a_iinc (lv1 := [(0, _), (1, _), (2, _)]) B d_Lo_treesThere_21 rfl rfl (by decide) rfl ?_
    first | refine b_iinc (lv1 := [(0, _), (1, _), (2, _)]) B d_Lo_treesThere_24 rfl ci_1 (by decide) rfl ?_ | refine a_iinc (lv1 := [(0, _), (1, _), (2, _)]) B d_Lo_treesThere_24 rfl rfl (by decide) rfl ?_
    refine a_goto B 4 d_Lo_treesThere_27 rfl ?_
    first | (rw [cntB_t (p := fun t => decide (tN (sT S t) ≠ 0)) (i := i) c_18] at ihi; exact ihi) | (rw [cntB_f (p := fun t => decide (tN (sT S t) ≠ 0)) (i := i) c_18] at ihi; exact ihi)
  · skip
    refine a_iload_n B d_Lo_treesThere_4 rfl rfl ?_
    refine a_iconst B d_Lo_treesThere_5 ci_4 ?_
    first | refine b_icmp_ge B 30 d_Lo_treesThere_6 rfl (by omega) (by omega) (fun c_6 => ?_) (fun c_6 => ?_) | refine a_icmp_ge B 30 d_Lo_treesThere_6 rfl (fun c_6 => ?_) (fun c_6 => ?_)
    · skip
      refine a_iload_n B d_Lo_treesThere_30 rfl rfl ?_
      exact Rt _ _ _ _ d_Lo_treesThere_31 ⟨rfl, rfl⟩
    exact absurd c_6 (by omega)
theorem of_not_not {p : Prop} (h : ¬ ¬ p) : p := Decidable.byContradiction (dec := Classical.propDecidable p) h
theorem d_Lo_heldInAll_0 : decode prog_1_method_49_code 0 = .ok (.iconst 0, 1) := by decide +kernel
theorem d_Lo_heldInAll_1 : decode prog_1_method_49_code 1 = .ok (.istore_n 1, 1) := by decide +kernel
theorem d_Lo_heldInAll_2 : decode prog_1_method_49_code 2 = .ok (.iconst 0, 1) := by decide +kernel
theorem d_Lo_heldInAll_3 : decode prog_1_method_49_code 3 = .ok (.istore_n 2, 1) := by decide +kernel
theorem d_Lo_heldInAll_4 : decode prog_1_method_49_code 4 = .ok (.iload_n 2, 1) := by decide +kernel
theorem d_Lo_heldInAll_5 : decode prog_1_method_49_code 5 = .ok (.iconst 4, 1) := by decide +kernel
theorem d_Lo_heldInAll_6 : decode prog_1_method_49_code 6 = .ok (.if_icmp .ge 42, 3) := by decide +kernel
theorem d_Lo_heldInAll_9 : decode prog_1_method_49_code 9 = .ok (.aload_n 0, 1) := by decide +kernel
theorem d_Lo_heldInAll_10 : decode prog_1_method_49_code 10 = .ok (.getfield 18, 3) := by decide +kernel
theorem d_Lo_heldInAll_13 : decode prog_1_method_49_code 13 = .ok (.iload_n 2, 1) := by decide +kernel
theorem d_Lo_heldInAll_14 : decode prog_1_method_49_code 14 = .ok (.aaload, 1) := by decide +kernel
theorem d_Lo_heldInAll_15 : decode prog_1_method_49_code 15 = .ok (.getfield 123, 3) := by decide +kernel
theorem d_Lo_heldInAll_18 : decode prog_1_method_49_code 18 = .ok (.ifCond .eq 24, 3) := by decide +kernel
theorem d_Lo_heldInAll_21 : decode prog_1_method_49_code 21 = .ok (.iload_n 1, 1) := by decide +kernel
theorem d_Lo_heldInAll_22 : decode prog_1_method_49_code 22 = .ok (.aload_n 0, 1) := by decide +kernel
theorem d_Lo_heldInAll_23 : decode prog_1_method_49_code 23 = .ok (.getfield 18, 3) := by decide +kernel
theorem d_Lo_heldInAll_26 : decode prog_1_method_49_code 26 = .ok (.iload_n 2, 1) := by decide +kernel
theorem d_Lo_heldInAll_27 : decode prog_1_method_49_code 27 = .ok (.aaload, 1) := by decide +kernel
theorem d_Lo_heldInAll_28 : decode prog_1_method_49_code 28 = .ok (.aload_n 0, 1) := by decide +kernel
theorem d_Lo_heldInAll_29 : decode prog_1_method_49_code 29 = .ok (.getfield 18, 3) := by decide +kernel
theorem d_Lo_heldInAll_32 : decode prog_1_method_49_code 32 = .ok (.iload_n 2, 1) := by decide +kernel
theorem d_Lo_heldInAll_33 : decode prog_1_method_49_code 33 = .ok (.aaload, 1) := by decide +kernel
theorem d_Lo_heldInAll_34 : decode prog_1_method_49_code 34 = .ok (.getfield 117, 3) := by decide +kernel
theorem d_Lo_heldInAll_37 : decode prog_1_method_49_code 37 = .ok (.invokevirtual 263, 3) := by decide +kernel
theorem d_Lo_heldInAll_40 : decode prog_1_method_49_code 40 = .ok (.iadd, 1) := by decide +kernel
theorem d_Lo_heldInAll_41 : decode prog_1_method_49_code 41 = .ok (.istore_n 1, 1) := by decide +kernel
theorem d_Lo_heldInAll_42 : decode prog_1_method_49_code 42 = .ok (.iinc 2 1, 3) := by decide +kernel
theorem d_Lo_heldInAll_45 : decode prog_1_method_49_code 45 = .ok (.goto (-41), 3) := by decide +kernel
theorem d_Lo_heldInAll_48 : decode prog_1_method_49_code 48 = .ok (.iload_n 1, 1) := by decide +kernel
theorem d_Lo_heldInAll_49 : decode prog_1_method_49_code 49 = .ok (.ireturn, 1) := by decide +kernel
set_option maxHeartbeats 4000000 in
set_option maxRecDepth 20000 in
theorem t_Lo_heldInAll {g : GG} (G : Gok g) {σ : AH} {S : Sp} (hS : RelC S σ) : TerI g 1 m_Lo_heldInAll [rV 0] σ (fun r τ => r = nI (heldN S) ∧ τ = σ) := by
  refine TerI.mk G (by decide +kernel) rfl (Nat.le_of_ble_eq_true rfl) (fun K B Rt => ?_)
  have B : Cx g K prog_1_method_49_code 3 R_Lo 1 := B
  have Rt : RetI g K prog_1_method_49_code 3 (fun r τ => r = nI (heldN S) ∧ τ = σ) := Rt
  show AW g K 3 0 [(0, rV 0)] [] σ
  refine a_iconst B d_Lo_heldInAll_0 ci_0 ?_
  refine a_istore_n (lv1 := [(0, _), (1, _)]) B d_Lo_heldInAll_1 rfl (by decide) rfl ?_
  refine a_iconst B d_Lo_heldInAll_2 ci_0 ?_
  refine a_istore_n (lv1 := [(0, _), (1, _), (2, _)]) B d_Lo_heldInAll_3 rfl (by decide) rfl ?_
  refine a_for (lf := fun i => [(0, rV 0), (1, iV (nI (sumTo (fun t => if tN (sT S t) = 0 then 0 else heldT (sT S t) (2 * tN (sT S t) - 1)) i))), (2, iV (nI i))]) (τ := fun i => σ) 4 (fun i hi ihi => ?_) ?_ 0 (Nat.zero_le _)
  · skip
    refine a_iload_n B d_Lo_heldInAll_4 rfl rfl ?_
    refine a_iconst B d_Lo_heldInAll_5 ci_4 ?_
    first | refine b_icmp_ge B 48 d_Lo_heldInAll_6 rfl (by omega) (by omega) (fun c_6 => ?_) (fun c_6 => ?_) | refine a_icmp_ge B 48 d_Lo_heldInAll_6 rfl (fun c_6 => ?_) (fun c_6 => ?_)
    · skip
      exact absurd c_6 (by omega)
    refine a_aload_n B d_Lo_heldInAll_9 rfl rfl ?_
    refine gf_Lo_trees B d_Lo_heldInAll_10 fl_Lo_18 ?_
    refine a_iload_n B d_Lo_heldInAll_13 rfl rfl ?_
    refine al_tr B _ rfl (by first | assumption | omega) d_Lo_heldInAll_14 ?_
    refine gf_Tr_there B (by first | assumption | omega) d_Lo_heldInAll_15 fl_Lo_123 ?_
    rw [TrC_11 (hS.2.1 i (by omega))]
    first | refine b_if_eq_b B 42 d_Lo_heldInAll_18 rfl (fun c_18 => ?_) (fun c_18 => ?_) | refine a_if_eq B 42 d_Lo_heldInAll_18 rfl (fun c_18 => ?_) (fun c_18 => ?_)
    · skip
      first | refine b_iinc (lv1 := [(0, _), (1, _), (2, _)]) B d_Lo_heldInAll_42 rfl ci_1 (by decide) rfl ?_ | refine a_iinc (lv1 := [(0, _), (1, _), (2, _)]) B d_Lo_heldInAll_42 rfl rfl (by decide) rfl ?_
      refine a_goto B 4 d_Lo_heldInAll_45 rfl ?_
      first | (rw [show sumTo (fun t => if tN (sT S t) = 0 then 0 else heldT (sT S t) (2 * tN (sT S t) - 1)) (i + 1) = sumTo (fun t => if tN (sT S t) = 0 then 0 else heldT (sT S t) (2 * tN (sT S t) - 1)) i + heldT (sT S i) (2 * tN (sT S i) - 1) from congrArg (sumTo (fun t => if tN (sT S t) = 0 then 0 else heldT (sT S t) (2 * tN (sT S t) - 1)) i + ·) (if_neg hn)] at ihi; exact ihi) | (rw [show sumTo (fun t => if tN (sT S t) = 0 then 0 else heldT (sT S t) (2 * tN (sT S t) - 1)) (i + 1) = sumTo (fun t => if tN (sT S t) = 0 then 0 else heldT (sT S t) (2 * tN (sT S t) - 1)) i from congrArg (sumTo (fun t => if tN (sT S t) = 0 then 0 else heldT (sT S t) (2 * tN (sT S t) - 1)) i + ·) (if_pos (of_not_not (of_decide_eq_false c_18)))] at ihi; exact ihi)
    have hn := of_decide_eq_true c_18
    obtain ⟨t11, tW, tA, tB, tP⟩ := TrC_in (hS.2.1 i (by omega)) hn
    have w1 := tW.1
    refine a_iload_n B d_Lo_heldInAll_21 rfl rfl ?_
    refine a_aload_n B d_Lo_heldInAll_22 rfl rfl ?_
    refine gf_Lo_trees B d_Lo_heldInAll_23 fl_Lo_18 ?_
    refine a_iload_n B d_Lo_heldInAll_26 rfl rfl ?_
    refine al_tr B _ rfl (by first | assumption | omega) d_Lo_heldInAll_27 ?_
    refine a_aload_n B d_Lo_heldInAll_28 rfl rfl ?_
    refine gf_Lo_trees B d_Lo_heldInAll_29 fl_Lo_18 ?_
    refine a_iload_n B d_Lo_heldInAll_32 rfl rfl ?_
    refine al_tr B _ rfl (by first | assumption | omega) d_Lo_heldInAll_33 ?_
    refine gf_Tr_nodeCount B (by first | assumption | omega) d_Lo_heldInAll_34 fl_Lo_117 ?_
    rw [tA.2.1]
    refine a_callVI (ci := 5) B (t_Tr_heldUpTo G (show i < 4 by omega) tW tA (by omega) (Nat.le_refl _)) d_Lo_heldInAll_37 ok_Tr_heldUpTo ml_Lo_263 (ly_T (by first | assumption | omega)) rfl rfl (by decide) (by decide) rfl (Nat.le_of_ble_eq_true rfl) (fun r_37 τ_37 h_37 => ?_)
    obtain ⟨hr_37, hs_37⟩ := h_37
    subst hr_37
    replace hs_37 := hs_37.symm
    subst hs_37
    first | refine b_iadd B d_Lo_heldInAll_40 ?_ | refine a_iadd B d_Lo_heldInAll_40 ?_
    refine a_istore_n (lv1 := [(0, _), (1, _), (2, _)]) B d_Lo_heldInAll_41 rfl (by decide) rfl ?_
    first | refine b_iinc (lv1 := [(0, _), (1, _), (2, _)]) B d_Lo_heldInAll_42 rfl ci_1 (by decide) rfl ?_ | refine a_iinc (lv1 := [(0, _), (1, _), (2, _)]) B d_Lo_heldInAll_42 rfl rfl (by decide) rfl ?_
    refine a_goto B 4 d_Lo_heldInAll_45 rfl ?_
    first | (rw [show sumTo (fun t => if tN (sT S t) = 0 then 0 else heldT (sT S t) (2 * tN (sT S t) - 1)) (i + 1) = sumTo (fun t => if tN (sT S t) = 0 then 0 else heldT (sT S t) (2 * tN (sT S t) - 1)) i + heldT (sT S i) (2 * tN (sT S i) - 1) from congrArg (sumTo (fun t => if tN (sT S t) = 0 then 0 else heldT (sT S t) (2 * tN (sT S t) - 1)) i + ·) (if_neg hn)] at ihi; exact ihi) | (rw [show sumTo (fun t => if tN (sT S t) = 0 then 0 else heldT (sT S t) (2 * tN (sT S t) - 1)) (i + 1) = sumTo (fun t => if tN (sT S t) = 0 then 0 else heldT (sT S t) (2 * tN (sT S t) - 1)) i from congrArg (sumTo (fun t => if tN (sT S t) = 0 then 0 else heldT (sT S t) (2 * tN (sT S t) - 1)) i + ·) (if_pos (of_not_not (of_decide_eq_false c_18)))] at ihi; exact ihi)
  · skip
    refine a_iload_n B d_Lo_heldInAll_4 rfl rfl ?_
    refine a_iconst B d_Lo_heldInAll_5 ci_4 ?_
    first | refine b_icmp_ge B 48 d_Lo_heldInAll_6 rfl (by omega) (by omega) (fun c_6 => ?_) (fun c_6 => ?_) | refine a_icmp_ge B 48 d_Lo_heldInAll_6 rfl (fun c_6 => ?_) (fun c_6 => ?_)
    · skip
      refine a_iload_n B d_Lo_heldInAll_48 rfl rfl ?_
      exact Rt _ _ _ _ d_Lo_heldInAll_49 ⟨rfl, rfl⟩
    exact absurd c_6 (by omega)
theorem sw5 (x : Int32) : x = 0 ∨ x = 1 ∨ x = 2 ∨ x = 3 ∨ x = 4 ∨ ((x.toInt < 0 ∨ 4 < x.toInt) ∧ x ≠ 0 ∧ x ≠ 1 ∧ x ≠ 2 ∧ x ≠ 3 ∧ x ≠ 4) := by
  by_cases h0 : x = 0
  · exact Or.inl h0
  by_cases h1 : x = 1
  · exact Or.inr (Or.inl h1)
  by_cases h2 : x = 2
  · exact Or.inr (Or.inr (Or.inl h2))
  by_cases h3 : x = 3
  · exact Or.inr (Or.inr (Or.inr (Or.inl h3)))
  by_cases h4 : x = 4
  · exact Or.inr (Or.inr (Or.inr (Or.inr (Or.inl h4))))
  refine Or.inr (Or.inr (Or.inr (Or.inr (Or.inr ⟨?_, h0, h1, h2, h3, h4⟩))))
  have q0 : x.toInt ≠ 0 := fun q => h0 (Int32.toInt_inj.mp q)
  have q1 : x.toInt ≠ 1 := fun q => h1 (Int32.toInt_inj.mp q)
  have q2 : x.toInt ≠ 2 := fun q => h2 (Int32.toInt_inj.mp q)
  have q3 : x.toInt ≠ 3 := fun q => h3 (Int32.toInt_inj.mp q)
  have q4 : x.toInt ≠ 4 := fun q => h4 (Int32.toInt_inj.mp q)
  omega
theorem d_Lo_count_0 : decode prog_1_method_32_code 0 = .ok (.iload_n 1, 1) := by decide +kernel
theorem d_Lo_count_1 : decode prog_1_method_32_code 1 = .ok (.tableswitch 69 0 4 #[35, 43, 51, 56, 64], 35) := by decide +kernel
theorem d_Lo_count_36 : decode prog_1_method_32_code 36 = .ok (.aload_n 0, 1) := by decide +kernel
theorem d_Lo_count_37 : decode prog_1_method_32_code 37 = .ok (.getfield 12, 3) := by decide +kernel
theorem d_Lo_count_40 : decode prog_1_method_32_code 40 = .ok (.getfield 74, 3) := by decide +kernel
theorem d_Lo_count_43 : decode prog_1_method_32_code 43 = .ok (.ireturn, 1) := by decide +kernel
theorem d_Lo_count_44 : decode prog_1_method_32_code 44 = .ok (.aload_n 0, 1) := by decide +kernel
theorem d_Lo_count_45 : decode prog_1_method_32_code 45 = .ok (.getfield 12, 3) := by decide +kernel
theorem d_Lo_count_48 : decode prog_1_method_32_code 48 = .ok (.invokevirtual 222, 3) := by decide +kernel
theorem d_Lo_count_51 : decode prog_1_method_32_code 51 = .ok (.ireturn, 1) := by decide +kernel
theorem d_Lo_count_52 : decode prog_1_method_32_code 52 = .ok (.aload_n 0, 1) := by decide +kernel
theorem d_Lo_count_53 : decode prog_1_method_32_code 53 = .ok (.invokevirtual 225, 3) := by decide +kernel
theorem d_Lo_count_56 : decode prog_1_method_32_code 56 = .ok (.ireturn, 1) := by decide +kernel
theorem d_Lo_count_57 : decode prog_1_method_32_code 57 = .ok (.aload_n 0, 1) := by decide +kernel
theorem d_Lo_count_58 : decode prog_1_method_32_code 58 = .ok (.getfield 40, 3) := by decide +kernel
theorem d_Lo_count_61 : decode prog_1_method_32_code 61 = .ok (.getfield 213, 3) := by decide +kernel
theorem d_Lo_count_64 : decode prog_1_method_32_code 64 = .ok (.ireturn, 1) := by decide +kernel
theorem d_Lo_count_65 : decode prog_1_method_32_code 65 = .ok (.aload_n 0, 1) := by decide +kernel
theorem d_Lo_count_66 : decode prog_1_method_32_code 66 = .ok (.invokevirtual 228, 3) := by decide +kernel
theorem d_Lo_count_69 : decode prog_1_method_32_code 69 = .ok (.ireturn, 1) := by decide +kernel
theorem d_Lo_count_70 : decode prog_1_method_32_code 70 = .ok (.iconst (-1), 1) := by decide +kernel
theorem d_Lo_count_71 : decode prog_1_method_32_code 71 = .ok (.ireturn, 1) := by decide +kernel
set_option maxHeartbeats 4000000 in
set_option maxRecDepth 20000 in
theorem tC_count {g : GG} (G : Gok g) {σ : AH} {S : Sp} (hS : RelC S σ) (x : Int32) : TerI g 2 m_Lo_count [rV 0, iV x] σ (fun r τ => r = (sp_count S x).1 ∧ RelC (sp_count S x).2 τ ∧ frC σ τ) := by
  refine TerI.mk G (by decide +kernel) rfl (Nat.le_of_ble_eq_true rfl) (fun K B Rt => ?_)
  have B : Cx g K prog_1_method_32_code 2 R_Lo 2 := B
  have Rt : RetI g K prog_1_method_32_code 2 (fun r τ => r = (sp_count S x).1 ∧ RelC (sp_count S x).2 τ ∧ frC σ τ) := Rt
  show AW g K 2 0 [(0, rV 0), (1, iV x)] [] σ
  obtain ⟨hN, hn, hth, hpl, hbd⟩ := id hS.1
  refine a_iload_n B d_Lo_count_0 rfl rfl ?_
  rcases sw5 x with rfl | rfl | rfl | rfl | rfl | ⟨hx, n0, n1, n2, n3, n4⟩
  · refine a_tableIn B 36 d_Lo_count_1 (by decide +kernel) (by decide +kernel) (off := 35) (by decide +kernel) (by decide) ?_
    refine a_aload_n B d_Lo_count_36 rfl rfl ?_
    refine gf_Lo_rows B d_Lo_count_37 fl_Lo_12 ?_
    refine gf_Ro_leafCount B d_Lo_count_40 fl_Lo_74 ?_
    rw [hN]
    exact Rt _ _ _ _ d_Lo_count_43 (by have e : sp_count S 0 = (nI (sN S), S) := (by rfl); rw [e]; exact ⟨rfl, hS, (fun _ _ => rfl)⟩)
  · refine a_tableIn B 44 d_Lo_count_1 (by decide +kernel) (by decide +kernel) (off := 43) (by decide +kernel) (by decide) ?_
    refine a_aload_n B d_Lo_count_44 rfl rfl ?_
    refine gf_Lo_rows B d_Lo_count_45 fl_Lo_12 ?_
    refine a_callVI (ci := 4) B (t_Ro_countThere G hS.1) d_Lo_count_48 ok_Ro_countThere ml_Lo_222 ly_1 rfl rfl (by decide) (by decide) rfl (Nat.le_of_ble_eq_true rfl) (fun r_48 τ_48 h_48 => ?_)
    obtain ⟨hr_48, hs_48⟩ := h_48
    subst hr_48
    replace hs_48 := hs_48.symm
    subst hs_48
    exact Rt _ _ _ _ d_Lo_count_51 (by have e : sp_count S 1 = (nI (cntB (sTh S) 10), S) := (by rfl); rw [e]; exact ⟨rfl, hS, (fun _ _ => rfl)⟩)
  · refine a_tableIn B 52 d_Lo_count_1 (by decide +kernel) (by decide +kernel) (off := 51) (by decide +kernel) (by decide) ?_
    refine a_aload_n B d_Lo_count_52 rfl rfl ?_
    refine a_callVI (ci := 6) B (t_Lo_treesThere G hS) d_Lo_count_53 ok_Lo_treesThere ml_Lo_225 ly_0 rfl rfl (by decide) (by decide) rfl (Nat.le_of_ble_eq_true rfl) (fun r_53 τ_53 h_53 => ?_)
    obtain ⟨hr_53, hs_53⟩ := h_53
    subst hr_53
    replace hs_53 := hs_53.symm
    subst hs_53
    exact Rt _ _ _ _ d_Lo_count_56 (by have e : sp_count S 2 = (nI (treesN S), S) := (by rfl); rw [e]; exact ⟨rfl, hS, (fun _ _ => rfl)⟩)
  · refine a_tableIn B 57 d_Lo_count_1 (by decide +kernel) (by decide +kernel) (off := 56) (by decide +kernel) (by decide) ?_
    refine a_aload_n B d_Lo_count_57 rfl rfl ?_
    refine gf_Lo_axesLaid B d_Lo_count_58 fl_Lo_40 ?_
    refine gf_Ax_axisCount B d_Lo_count_61 fl_Lo_213 ?_
    rw [hS.2.2.2.1]
    exact Rt _ _ _ _ d_Lo_count_64 (by have e : sp_count S 3 = (nI (sMx S), S) := (by rfl); rw [e]; exact ⟨rfl, hS, (fun _ _ => rfl)⟩)
  · refine a_tableIn B 65 d_Lo_count_1 (by decide +kernel) (by decide +kernel) (off := 64) (by decide +kernel) (by decide) ?_
    refine a_aload_n B d_Lo_count_65 rfl rfl ?_
    refine a_callVI (ci := 6) B (t_Lo_heldInAll G hS) d_Lo_count_66 ok_Lo_heldInAll ml_Lo_228 ly_0 rfl rfl (by decide) (by decide) rfl (Nat.le_of_ble_eq_true rfl) (fun r_66 τ_66 h_66 => ?_)
    obtain ⟨hr_66, hs_66⟩ := h_66
    subst hr_66
    replace hs_66 := hs_66.symm
    subst hs_66
    exact Rt _ _ _ _ d_Lo_count_69 (by have e : sp_count S 4 = (nI (heldN S), S) := (by rfl); rw [e]; exact ⟨rfl, hS, (fun _ _ => rfl)⟩)
  · refine a_tableOut B 70 d_Lo_count_1 hx (by decide) ?_
    refine a_iconst B d_Lo_count_70 ci_m1 ?_
    exact Rt _ _ _ _ d_Lo_count_71 (by have e : sp_count S x = (-1, S) := (by rw [sp_count, if_neg n0, if_neg n1, if_neg n2, if_neg n3, if_neg n4]); rw [e]; exact ⟨rfl, hS, (fun _ _ => rfl)⟩)
theorem t_Tr_dig {g : GG} (G : Gok g) {σ : AH} {t : Nat} {T : TT} (ht : t < 4) (hT : TrC σ t T) (h : Int64) : TerL g 2 m_Tr_digestFrom [rV (tI t), lV h] σ (fun r τ => r = (if tN T = 0 then 31 * h - 1 else dgTree T (2 * tN T - 1) h) ∧ τ = σ) := by
  rcases hT with ⟨h1, h2⟩ | ⟨h1, h2, h3, h4, h5, h6⟩
  · rw [if_pos h1]; exact t_Tr_digestNone G ht h2 h
  · rw [if_neg (by omega)]; exact t_Tr_digestFrom G ht h3 h4 h5 h2 h
theorem d_Lo_digest_0 : decode prog_1_method_35_code 0 = .ok (.ldc2_w 237, 3) := by decide +kernel
theorem d_Lo_digest_3 : decode prog_1_method_35_code 3 = .ok (.lstore_n 1, 1) := by decide +kernel
theorem d_Lo_digest_4 : decode prog_1_method_35_code 4 = .ok (.ldc2_w 239, 3) := by decide +kernel
theorem d_Lo_digest_7 : decode prog_1_method_35_code 7 = .ok (.lload_n 1, 1) := by decide +kernel
theorem d_Lo_digest_8 : decode prog_1_method_35_code 8 = .ok (.lmul, 1) := by decide +kernel
theorem d_Lo_digest_9 : decode prog_1_method_35_code 9 = .ok (.aload_n 0, 1) := by decide +kernel
theorem d_Lo_digest_10 : decode prog_1_method_35_code 10 = .ok (.getfield 12, 3) := by decide +kernel
theorem d_Lo_digest_13 : decode prog_1_method_35_code 13 = .ok (.getfield 74, 3) := by decide +kernel
theorem d_Lo_digest_16 : decode prog_1_method_35_code 16 = .ok (.i2l, 1) := by decide +kernel
theorem d_Lo_digest_17 : decode prog_1_method_35_code 17 = .ok (.ladd, 1) := by decide +kernel
theorem d_Lo_digest_18 : decode prog_1_method_35_code 18 = .ok (.lstore_n 1, 1) := by decide +kernel
theorem d_Lo_digest_19 : decode prog_1_method_35_code 19 = .ok (.ldc2_w 239, 3) := by decide +kernel
theorem d_Lo_digest_22 : decode prog_1_method_35_code 22 = .ok (.lload_n 1, 1) := by decide +kernel
theorem d_Lo_digest_23 : decode prog_1_method_35_code 23 = .ok (.lmul, 1) := by decide +kernel
theorem d_Lo_digest_24 : decode prog_1_method_35_code 24 = .ok (.aload_n 0, 1) := by decide +kernel
theorem d_Lo_digest_25 : decode prog_1_method_35_code 25 = .ok (.getfield 40, 3) := by decide +kernel
theorem d_Lo_digest_28 : decode prog_1_method_35_code 28 = .ok (.getfield 213, 3) := by decide +kernel
theorem d_Lo_digest_31 : decode prog_1_method_35_code 31 = .ok (.i2l, 1) := by decide +kernel
theorem d_Lo_digest_32 : decode prog_1_method_35_code 32 = .ok (.ladd, 1) := by decide +kernel
theorem d_Lo_digest_33 : decode prog_1_method_35_code 33 = .ok (.lstore_n 1, 1) := by decide +kernel
theorem d_Lo_digest_34 : decode prog_1_method_35_code 34 = .ok (.aload_n 0, 1) := by decide +kernel
theorem d_Lo_digest_35 : decode prog_1_method_35_code 35 = .ok (.getfield 12, 3) := by decide +kernel
theorem d_Lo_digest_38 : decode prog_1_method_35_code 38 = .ok (.lload_n 1, 1) := by decide +kernel
theorem d_Lo_digest_39 : decode prog_1_method_35_code 39 = .ok (.invokevirtual 241, 3) := by decide +kernel
theorem d_Lo_digest_42 : decode prog_1_method_35_code 42 = .ok (.lstore_n 1, 1) := by decide +kernel
theorem d_Lo_digest_43 : decode prog_1_method_35_code 43 = .ok (.iconst 0, 1) := by decide +kernel
theorem d_Lo_digest_44 : decode prog_1_method_35_code 44 = .ok (.istore_n 3, 1) := by decide +kernel
theorem d_Lo_digest_45 : decode prog_1_method_35_code 45 = .ok (.iload_n 3, 1) := by decide +kernel
theorem d_Lo_digest_46 : decode prog_1_method_35_code 46 = .ok (.iconst 4, 1) := by decide +kernel
theorem d_Lo_digest_47 : decode prog_1_method_35_code 47 = .ok (.if_icmp .ge 20, 3) := by decide +kernel
theorem d_Lo_digest_50 : decode prog_1_method_35_code 50 = .ok (.aload_n 0, 1) := by decide +kernel
theorem d_Lo_digest_51 : decode prog_1_method_35_code 51 = .ok (.getfield 18, 3) := by decide +kernel
theorem d_Lo_digest_54 : decode prog_1_method_35_code 54 = .ok (.iload_n 3, 1) := by decide +kernel
theorem d_Lo_digest_55 : decode prog_1_method_35_code 55 = .ok (.aaload, 1) := by decide +kernel
theorem d_Lo_digest_56 : decode prog_1_method_35_code 56 = .ok (.lload_n 1, 1) := by decide +kernel
theorem d_Lo_digest_57 : decode prog_1_method_35_code 57 = .ok (.invokevirtual 245, 3) := by decide +kernel
theorem d_Lo_digest_60 : decode prog_1_method_35_code 60 = .ok (.lstore_n 1, 1) := by decide +kernel
theorem d_Lo_digest_61 : decode prog_1_method_35_code 61 = .ok (.iinc 3 1, 3) := by decide +kernel
theorem d_Lo_digest_64 : decode prog_1_method_35_code 64 = .ok (.goto (-19), 3) := by decide +kernel
theorem d_Lo_digest_67 : decode prog_1_method_35_code 67 = .ok (.aload_n 0, 1) := by decide +kernel
theorem d_Lo_digest_68 : decode prog_1_method_35_code 68 = .ok (.getfield 40, 3) := by decide +kernel
theorem d_Lo_digest_71 : decode prog_1_method_35_code 71 = .ok (.lload_n 1, 1) := by decide +kernel
theorem d_Lo_digest_72 : decode prog_1_method_35_code 72 = .ok (.invokevirtual 246, 3) := by decide +kernel
theorem d_Lo_digest_75 : decode prog_1_method_35_code 75 = .ok (.lreturn, 1) := by decide +kernel
set_option maxHeartbeats 4000000 in
set_option maxRecDepth 20000 in
theorem tC_digest {g : GG} (G : Gok g) {σ : AH} {S : Sp} (hS : RelC S σ) : TerL g 3 m_Lo_digest [rV 0] σ (fun r τ => r = sp_digest S ∧ τ = σ) := by
  refine TerL.mk G (by decide +kernel) rfl (Nat.le_of_ble_eq_true rfl) (fun K B Rt => ?_)
  have B : Cx g K prog_1_method_35_code 4 R_Lo 3 := B
  have Rt : RetL g K prog_1_method_35_code 4 (fun r τ => r = sp_digest S ∧ τ = σ) := Rt
  show AW g K 4 0 [(0, rV 0)] [] σ
  obtain ⟨hN, hn, hth, hpl, hbd⟩ := id hS.1
  refine a_ldc2 B d_Lo_digest_0 kl_Lo_237 ?_
  refine a_lstore_n (lv1 := [(0, _), (1, _)]) B d_Lo_digest_3 rfl (by decide) rfl ?_
  refine a_ldc2 B d_Lo_digest_4 kl_Lo_239 ?_
  refine a_lload_n B d_Lo_digest_7 rfl rfl ?_
  refine a_lmul B d_Lo_digest_8 ?_
  refine a_aload_n B d_Lo_digest_9 rfl rfl ?_
  refine gf_Lo_rows B d_Lo_digest_10 fl_Lo_12 ?_
  refine gf_Ro_leafCount B d_Lo_digest_13 fl_Lo_74 ?_
  rw [hN]
  refine a_i2l B d_Lo_digest_16 ?_
  refine a_ladd B d_Lo_digest_17 ?_
  refine a_lstore_n (lv1 := [(0, _), (1, _)]) B d_Lo_digest_18 rfl (by decide) rfl ?_
  refine a_ldc2 B d_Lo_digest_19 kl_Lo_239 ?_
  refine a_lload_n B d_Lo_digest_22 rfl rfl ?_
  refine a_lmul B d_Lo_digest_23 ?_
  refine a_aload_n B d_Lo_digest_24 rfl rfl ?_
  refine gf_Lo_axesLaid B d_Lo_digest_25 fl_Lo_40 ?_
  refine gf_Ax_axisCount B d_Lo_digest_28 fl_Lo_213 ?_
  rw [hS.2.2.2.1]
  refine a_i2l B d_Lo_digest_31 ?_
  refine a_ladd B d_Lo_digest_32 ?_
  refine a_lstore_n (lv1 := [(0, _), (1, _)]) B d_Lo_digest_33 rfl (by decide) rfl ?_
  refine a_aload_n B d_Lo_digest_34 rfl rfl ?_
  refine gf_Lo_rows B d_Lo_digest_35 fl_Lo_12 ?_
  refine a_lload_n B d_Lo_digest_38 rfl rfl ?_
  refine a_callVL (ci := 4) B (t_Ro_digestFrom G hS.1 _) d_Lo_digest_39 ok_Ro_digestFrom ml_Lo_241 ly_1 rfl rfl (by decide) (by decide) rfl (Nat.le_of_ble_eq_true rfl) (fun r_39 τ_39 h_39 => ?_)
  obtain ⟨hr_39, hs_39⟩ := h_39
  subst hr_39
  replace hs_39 := hs_39.symm
  subst hs_39
  refine a_lstore_n (lv1 := [(0, _), (1, _)]) B d_Lo_digest_42 rfl (by decide) rfl ?_
  refine a_iconst B d_Lo_digest_43 ci_0 ?_
  refine a_istore_n (lv1 := [(0, _), (1, _), (3, _)]) B d_Lo_digest_44 rfl (by decide) rfl ?_
  refine a_for (lf := fun i => [(0, rV 0), (1, lV (dgTrees S i (dgRows (sTh S) (sPl S) 10 (31 * (31 * 17 + (nI (sN S)).toInt64) + (nI (sMx S)).toInt64)))), (3, iV (nI i))]) (τ := fun i => σ) 4 (fun i hi ihi => ?_) ?_ 0 (Nat.zero_le _)
  · skip
    refine a_iload_n B d_Lo_digest_45 rfl rfl ?_
    refine a_iconst B d_Lo_digest_46 ci_4 ?_
    first | refine b_icmp_ge B 67 d_Lo_digest_47 rfl (by omega) (by omega) (fun c_47 => ?_) (fun c_47 => ?_) | refine a_icmp_ge B 67 d_Lo_digest_47 rfl (fun c_47 => ?_) (fun c_47 => ?_)
    · skip
      exact absurd c_47 (by omega)
    refine a_aload_n B d_Lo_digest_50 rfl rfl ?_
    refine gf_Lo_trees B d_Lo_digest_51 fl_Lo_18 ?_
    refine a_iload_n B d_Lo_digest_54 rfl rfl ?_
    refine al_tr B _ rfl (by first | assumption | omega) d_Lo_digest_55 ?_
    refine a_lload_n B d_Lo_digest_56 rfl rfl ?_
    refine a_callVL (ci := 5) B (t_Tr_dig G (show i < 4 by omega) (hS.2.1 i (by omega)) _) d_Lo_digest_57 ok_Tr_digestFrom ml_Lo_245 (ly_T (by first | assumption | omega)) rfl rfl (by decide) (by decide) rfl (Nat.le_of_ble_eq_true rfl) (fun r_57 τ_57 h_57 => ?_)
    obtain ⟨hr_57, hs_57⟩ := h_57
    subst hr_57
    replace hs_57 := hs_57.symm
    subst hs_57
    refine a_lstore_n (lv1 := [(0, _), (1, _), (3, _)]) B d_Lo_digest_60 rfl (by decide) rfl ?_
    first | refine b_iinc (lv1 := [(0, _), (1, _), (3, _)]) B d_Lo_digest_61 rfl ci_1 (by decide) rfl ?_ | refine a_iinc (lv1 := [(0, _), (1, _), (3, _)]) B d_Lo_digest_61 rfl rfl (by decide) rfl ?_
    refine a_goto B 45 d_Lo_digest_64 rfl ?_
    exact ihi
  · skip
    refine a_iload_n B d_Lo_digest_45 rfl rfl ?_
    refine a_iconst B d_Lo_digest_46 ci_4 ?_
    first | refine b_icmp_ge B 67 d_Lo_digest_47 rfl (by omega) (by omega) (fun c_47 => ?_) (fun c_47 => ?_) | refine a_icmp_ge B 67 d_Lo_digest_47 rfl (fun c_47 => ?_) (fun c_47 => ?_)
    · skip
      refine a_aload_n B d_Lo_digest_67 rfl rfl ?_
      refine gf_Lo_axesLaid B d_Lo_digest_68 fl_Lo_40 ?_
      refine a_lload_n B d_Lo_digest_71 rfl rfl ?_
      refine a_callVL (ci := 0) B (t_Ax_digestFrom G hS.2.2.2 _) d_Lo_digest_72 ok_Ax_digestFrom ml_Lo_246 ly_11 rfl rfl (by decide) (by decide) rfl (Nat.le_of_ble_eq_true rfl) (fun r_72 τ_72 h_72 => ?_)
      obtain ⟨hr_72, hs_72⟩ := h_72
      subst hr_72
      replace hs_72 := hs_72.symm
      subst hs_72
      exact Rt _ _ _ _ d_Lo_digest_75 ⟨rfl, rfl⟩
    exact absurd c_47 (by omega)
theorem cross_le (T : TT) (hn : tN T ≤ 10) (pl : Nat → Int32) : crossT T pl ≤ 1000 := by
  have := sumTo_le (f := fun k => pa (tM T (tR T (tN T + k))) (tM T (tL T (tN T + k))) pl) (c := 100) (fun k => pa_le _ _ _) (tN T - 1)
  unfold crossT
  omega
theorem least_le (T : TT) (hn : tN T ≤ 10) (pl : Nat → Int32) : leastT T pl ≤ 1000 := by
  unfold leastT
  refine Nat.le_trans (sumTo_le (c := 100) (fun k => ?_) (tN T - 1)) (by omega)
  split
  · exact pa_le _ _ _
  · exact Nat.le_trans (Nat.min_le_left _ _) (pa_le _ _ _)
theorem fwF_le {T U : TT} (hn : tN T ≤ 10) : ∀ s, fwF T U s ≤ 1000
  | 0 => cross_le T hn _
  | s + 1 => by
    have := fwF_le (T := T) (U := U) hn s
    show (if mayT U s then _ else _) ≤ 1000
    split
    · exact Nat.le_trans (Nat.min_le_left _ _) this
    · exact this
theorem pow9 {n : Nat} (h : n ≤ 10) : 2 ^ (n - 1) ≤ 512 := Nat.pow_le_pow_right (by decide) (show n - 1 ≤ 9 by omega)
theorem d_Lo_fewestOverTurns_0 : decode prog_1_method_47_code 0 = .ok (.aload_n 1, 1) := by decide +kernel
theorem d_Lo_fewestOverTurns_1 : decode prog_1_method_47_code 1 = .ok (.aload_n 2, 1) := by decide +kernel
theorem d_Lo_fewestOverTurns_2 : decode prog_1_method_47_code 2 = .ok (.getfield 135, 3) := by decide +kernel
theorem d_Lo_fewestOverTurns_5 : decode prog_1_method_47_code 5 = .ok (.invokevirtual 178, 3) := by decide +kernel
theorem d_Lo_fewestOverTurns_8 : decode prog_1_method_47_code 8 = .ok (.istore_n 3, 1) := by decide +kernel
theorem d_Lo_fewestOverTurns_9 : decode prog_1_method_47_code 9 = .ok (.iconst 1, 1) := by decide +kernel
theorem d_Lo_fewestOverTurns_10 : decode prog_1_method_47_code 10 = .ok (.aload_n 2, 1) := by decide +kernel
theorem d_Lo_fewestOverTurns_11 : decode prog_1_method_47_code 11 = .ok (.getfield 117, 3) := by decide +kernel
theorem d_Lo_fewestOverTurns_14 : decode prog_1_method_47_code 14 = .ok (.aload_n 2, 1) := by decide +kernel
theorem d_Lo_fewestOverTurns_15 : decode prog_1_method_47_code 15 = .ok (.getfield 157, 3) := by decide +kernel
theorem d_Lo_fewestOverTurns_18 : decode prog_1_method_47_code 18 = .ok (.isub, 1) := by decide +kernel
theorem d_Lo_fewestOverTurns_19 : decode prog_1_method_47_code 19 = .ok (.ishl, 1) := by decide +kernel
theorem d_Lo_fewestOverTurns_20 : decode prog_1_method_47_code 20 = .ok (.istore 4, 2) := by decide +kernel
theorem d_Lo_fewestOverTurns_22 : decode prog_1_method_47_code 22 = .ok (.iconst 0, 1) := by decide +kernel
theorem d_Lo_fewestOverTurns_23 : decode prog_1_method_47_code 23 = .ok (.istore 5, 2) := by decide +kernel
theorem d_Lo_fewestOverTurns_25 : decode prog_1_method_47_code 25 = .ok (.iload 5, 2) := by decide +kernel
theorem d_Lo_fewestOverTurns_27 : decode prog_1_method_47_code 27 = .ok (.iload 4, 2) := by decide +kernel
theorem d_Lo_fewestOverTurns_29 : decode prog_1_method_47_code 29 = .ok (.if_icmp .ge 41, 3) := by decide +kernel
theorem d_Lo_fewestOverTurns_32 : decode prog_1_method_47_code 32 = .ok (.aload_n 2, 1) := by decide +kernel
theorem d_Lo_fewestOverTurns_33 : decode prog_1_method_47_code 33 = .ok (.iload 5, 2) := by decide +kernel
theorem d_Lo_fewestOverTurns_35 : decode prog_1_method_47_code 35 = .ok (.invokevirtual 248, 3) := by decide +kernel
theorem d_Lo_fewestOverTurns_38 : decode prog_1_method_47_code 38 = .ok (.ifCond .eq 26, 3) := by decide +kernel
theorem d_Lo_fewestOverTurns_41 : decode prog_1_method_47_code 41 = .ok (.aload_n 2, 1) := by decide +kernel
theorem d_Lo_fewestOverTurns_42 : decode prog_1_method_47_code 42 = .ok (.iload 5, 2) := by decide +kernel
theorem d_Lo_fewestOverTurns_44 : decode prog_1_method_47_code 44 = .ok (.aload_n 0, 1) := by decide +kernel
theorem d_Lo_fewestOverTurns_45 : decode prog_1_method_47_code 45 = .ok (.getfield 64, 3) := by decide +kernel
theorem d_Lo_fewestOverTurns_48 : decode prog_1_method_47_code 48 = .ok (.invokevirtual 251, 3) := by decide +kernel
theorem d_Lo_fewestOverTurns_51 : decode prog_1_method_47_code 51 = .ok (.iload_n 3, 1) := by decide +kernel
theorem d_Lo_fewestOverTurns_52 : decode prog_1_method_47_code 52 = .ok (.aload_n 1, 1) := by decide +kernel
theorem d_Lo_fewestOverTurns_53 : decode prog_1_method_47_code 53 = .ok (.aload_n 0, 1) := by decide +kernel
theorem d_Lo_fewestOverTurns_54 : decode prog_1_method_47_code 54 = .ok (.getfield 64, 3) := by decide +kernel
theorem d_Lo_fewestOverTurns_57 : decode prog_1_method_47_code 57 = .ok (.invokevirtual 255, 3) := by decide +kernel
theorem d_Lo_fewestOverTurns_60 : decode prog_1_method_47_code 60 = .ok (.invokestatic 258, 3) := by decide +kernel
theorem d_Lo_fewestOverTurns_63 : decode prog_1_method_47_code 63 = .ok (.istore_n 3, 1) := by decide +kernel
theorem d_Lo_fewestOverTurns_64 : decode prog_1_method_47_code 64 = .ok (.iinc 5 1, 3) := by decide +kernel
theorem d_Lo_fewestOverTurns_67 : decode prog_1_method_47_code 67 = .ok (.goto (-42), 3) := by decide +kernel
theorem d_Lo_fewestOverTurns_70 : decode prog_1_method_47_code 70 = .ok (.iload_n 3, 1) := by decide +kernel
theorem d_Lo_fewestOverTurns_71 : decode prog_1_method_47_code 71 = .ok (.ireturn, 1) := by decide +kernel
set_option maxHeartbeats 4000000 in
set_option maxRecDepth 20000 in
theorem t_Lo_fewestOverTurns {g : GG} (G : Gok g) {σ : AH} {t u : Nat} {T U : TT} (ht : t < 4) (hu : u < 4) (tW : Wf T) (tA : RtA σ t T) (tB : RtB σ t T) (uW : Wf U) (uA : RtA σ u U) (uB : RtB σ u U) (uP : RtP σ u U) (he : tN T = tN U) : TerI g 3 m_Lo_fewestOverTurns [rV 0, rV (tI t), rV (tI u)] σ (fun r τ => r = nI (fwF T U (2 ^ (tN U - 1))) ∧ ∃ F, τ = up1 σ 19 F) := by
  refine TerI.mk G (by decide +kernel) rfl (Nat.le_of_ble_eq_true rfl) (fun K B Rt => ?_)
  have B : Cx g K prog_1_method_47_code 6 R_Lo 3 := B
  have Rt : RetI g K prog_1_method_47_code 6 (fun r τ => r = nI (fwF T U (2 ^ (tN U - 1))) ∧ ∃ F, τ = up1 σ 19 F) := Rt
  show AW g K 6 0 [(0, rV 0), (1, rV (tI t)), (2, rV (tI u))] [] σ
  have w1 := uW.1
  have w10 := uW.2.1
  have hpw := pow9 w10
  have h58 : tI t = 58 + 12 * t := rfl
  have h59 : tI u = 58 + 12 * u := rfl
  refine a_aload_n B d_Lo_fewestOverTurns_0 rfl rfl ?_
  refine a_aload_n B d_Lo_fewestOverTurns_1 rfl rfl ?_
  refine gf_Tr_start B (by first | assumption | omega) d_Lo_fewestOverTurns_2 fl_Lo_135 ?_
  refine a_callVI (ci := 5) B (t_Tr_crossingsWith G ht tW tA tB (ly_T_start hu) (by decide)) d_Lo_fewestOverTurns_5 ok_Tr_crossingsWith ml_Lo_178 (ly_T (by first | assumption | omega)) rfl rfl (by decide) (by decide) rfl (Nat.le_of_ble_eq_true rfl) (fun r_5 τ_5 h_5 => ?_)
  obtain ⟨hr_5, hs_5⟩ := h_5
  subst hr_5
  replace hs_5 := hs_5.symm
  subst hs_5
  rw [cross_cg tW (start_pl uW uP he)]
  refine a_istore_n (lv1 := [(0, _), (1, _), (2, _), (3, _)]) B d_Lo_fewestOverTurns_8 rfl (by decide) rfl ?_
  refine a_iconst B d_Lo_fewestOverTurns_9 ci_1 ?_
  refine a_aload_n B d_Lo_fewestOverTurns_10 rfl rfl ?_
  refine gf_Tr_nodeCount B (by first | assumption | omega) d_Lo_fewestOverTurns_11 fl_Lo_117 ?_
  rw [uA.2.1]
  refine a_aload_n B d_Lo_fewestOverTurns_14 rfl rfl ?_
  refine gf_Tr_leafCount B (by first | assumption | omega) d_Lo_fewestOverTurns_15 fl_Lo_157 ?_
  rw [uA.1]
  first | refine b_isub B (by omega) d_Lo_fewestOverTurns_18 ?_ | refine a_isub B d_Lo_fewestOverTurns_18 ?_
  rw [show 2 * tN U - 1 - tN U = tN U - 1 by omega]
  refine a_ishl B d_Lo_fewestOverTurns_19 ?_
  rw [show nI 1 <<< (nI (tN U - 1) &&& 31) = nI (2 ^ (tN U - 1)) from nI_pow (by omega)]
  refine a_istore (lv1 := [(0, _), (1, _), (2, _), (3, _), (4, _)]) B d_Lo_fewestOverTurns_20 (by decide) rfl ?_
  refine a_iconst B d_Lo_fewestOverTurns_22 ci_0 ?_
  refine a_istore (lv1 := [(0, _), (1, _), (2, _), (3, _), (4, _), (5, _)]) B d_Lo_fewestOverTurns_23 (by decide) rfl ?_
  refine a_forR (2 ^ (tN U - 1)) (fun i lv τ => lv = [(0, rV 0), (1, rV (tI t)), (2, rV (tI u)), (3, iV (nI (fwF T U i))), (4, iV (nI (2 ^ (tN U - 1)))), (5, iV (nI i))] ∧ ∃ F, τ = up1 σ 19 F) (fun i lv τ hi hI ihi => ?_) (fun lv τ hI => ?_) 0 (Nat.zero_le _) _ _ ⟨rfl, σ.1 19, up1_self.symm⟩
  · skip
    obtain ⟨rfl, F, rfl⟩ := hI
    have e9 : ∀ k, k ≠ 19 → (up1 σ 19 F).1 k = σ.1 k := fun k hk => up1_o hk
    have yA : RtA (up1 σ 19 F) t T := tA.of rfl rfl rfl rfl rfl (e9 _ (by omega)) (e9 _ (by omega)) (e9 _ (by omega)) (e9 _ (by omega)) (e9 _ (by omega)) (e9 _ (by omega))
    have yB : RtB (up1 σ 19 F) t T := tB.of (e9 _ (by omega)) (e9 _ (by omega)) (e9 _ (by omega))
    have zA : RtA (up1 σ 19 F) u U := uA.of rfl rfl rfl rfl rfl (e9 _ (by omega)) (e9 _ (by omega)) (e9 _ (by omega)) (e9 _ (by omega)) (e9 _ (by omega)) (e9 _ (by omega))
    have zB : RtB (up1 σ 19 F) u U := uB.of (e9 _ (by omega)) (e9 _ (by omega)) (e9 _ (by omega))
    refine a_iload B d_Lo_fewestOverTurns_25 rfl ?_
    refine a_iload B d_Lo_fewestOverTurns_27 rfl ?_
    first | refine b_icmp_ge B 70 d_Lo_fewestOverTurns_29 rfl (by omega) (by omega) (fun c_29 => ?_) (fun c_29 => ?_) | refine a_icmp_ge B 70 d_Lo_fewestOverTurns_29 rfl (fun c_29 => ?_) (fun c_29 => ?_)
    · skip
      exact absurd c_29 (by omega)
    refine a_aload_n B d_Lo_fewestOverTurns_32 rfl rfl ?_
    refine a_iload B d_Lo_fewestOverTurns_33 rfl ?_
    refine a_callVI (ci := 5) B (t_Tr_mayTurn G hu uW zA (s := i) (by omega)) d_Lo_fewestOverTurns_35 ok_Tr_mayTurn ml_Lo_248 (ly_T (by first | assumption | omega)) rfl rfl (by decide) (by decide) rfl (Nat.le_of_ble_eq_true rfl) (fun r_35 τ_35 h_35 => ?_)
    obtain ⟨hr_35, hs_35⟩ := h_35
    subst hr_35
    replace hs_35 := hs_35.symm
    subst hs_35
    first | refine b_if_eq_b B 64 d_Lo_fewestOverTurns_38 rfl (fun c_38 => ?_) (fun c_38 => ?_) | refine a_if_eq B 64 d_Lo_fewestOverTurns_38 rfl (fun c_38 => ?_) (fun c_38 => ?_)
    · skip
      first | refine b_iinc (lv1 := [(0, _), (1, _), (2, _), (3, _), (4, _), (5, _)]) B d_Lo_fewestOverTurns_64 rfl ci_1 (by decide) rfl ?_ | refine a_iinc (lv1 := [(0, _), (1, _), (2, _), (3, _), (4, _), (5, _)]) B d_Lo_fewestOverTurns_64 rfl rfl (by decide) rfl ?_
      refine a_goto B 25 d_Lo_fewestOverTurns_67 rfl ?_
      first | exact ihi _ _ ⟨by rw [show fwF T U (i + 1) = min (fwF T U i) (leastT T (plT (setT U i))) from if_pos c_38], _, rfl⟩ | exact ihi _ _ ⟨by rw [show fwF T U (i + 1) = fwF T U i from if_neg (by rw [c_38]; decide)], _, rfl⟩
    refine a_aload_n B d_Lo_fewestOverTurns_41 rfl rfl ?_
    refine a_iload B d_Lo_fewestOverTurns_42 rfl ?_
    refine a_aload_n B d_Lo_fewestOverTurns_44 rfl rfl ?_
    refine gf_Lo_triedStarts B d_Lo_fewestOverTurns_45 fl_Lo_64 ?_
    refine a_callVV (ci := 5) B (t_Tr_spread G hu uW zA zB (s := i) ly_19 (Or.inr rfl) (by omega)) d_Lo_fewestOverTurns_48 ok_Tr_spread ml_Lo_251 (ly_T (by first | assumption | omega)) rfl rfl (by decide) (by decide) rfl (Nat.le_of_ble_eq_true rfl) (fun τ_48 h_48 => ?_)
    obtain ⟨f, rfl, hf⟩ := h_48
    rw [up1_up1]
    have e8 : ∀ k, k ≠ 19 → (up1 σ 19 f).1 k = σ.1 k := fun k hk => up1_o hk
    have yA' : RtA (up1 σ 19 f) t T := tA.of rfl rfl rfl rfl rfl (e8 _ (by omega)) (e8 _ (by omega)) (e8 _ (by omega)) (e8 _ (by omega)) (e8 _ (by omega)) (e8 _ (by omega))
    have yB' : RtB (up1 σ 19 f) t T := tB.of (e8 _ (by omega)) (e8 _ (by omega)) (e8 _ (by omega))
    have hpl : ∀ x, x < tN T → (up1 σ 19 f).1 19 x = plT (setT U i) x := fun x hx => by rw [up1_s, hf x (by omega)]; exact (if_pos (show x < tN U by omega)).symm
    refine a_iload_n B d_Lo_fewestOverTurns_51 rfl rfl ?_
    refine a_aload_n B d_Lo_fewestOverTurns_52 rfl rfl ?_
    refine a_aload_n B d_Lo_fewestOverTurns_53 rfl rfl ?_
    refine gf_Lo_triedStarts B d_Lo_fewestOverTurns_54 fl_Lo_64 ?_
    refine a_callVI (ci := 5) B (t_Tr_leastCrossingsWith G ht tW yA' yB' ly_19 (by decide)) d_Lo_fewestOverTurns_57 ok_Tr_leastCrossingsWith ml_Lo_255 (ly_T (by first | assumption | omega)) rfl rfl (by decide) (by decide) rfl (Nat.le_of_ble_eq_true rfl) (fun r_57 τ_57 h_57 => ?_)
    obtain ⟨hr_57, hs_57⟩ := h_57
    subst hr_57
    replace hs_57 := hs_57.symm
    subst hs_57
    rw [least_cg tW hpl]
    have b1 := fwF_le (T := T) (U := U) tW.2.1 i
    have b2 := least_le T tW.2.1 (plT (setT U i))
    refine a_mmin B (by decide) (Nat.le_of_ble_eq_true rfl) d_Lo_fewestOverTurns_60 ml_Lo_258 ?_
    rw [nI_min (by omega) (by omega)]
    refine a_istore_n (lv1 := [(0, _), (1, _), (2, _), (3, _), (4, _), (5, _)]) B d_Lo_fewestOverTurns_63 rfl (by decide) rfl ?_
    first | refine b_iinc (lv1 := [(0, _), (1, _), (2, _), (3, _), (4, _), (5, _)]) B d_Lo_fewestOverTurns_64 rfl ci_1 (by decide) rfl ?_ | refine a_iinc (lv1 := [(0, _), (1, _), (2, _), (3, _), (4, _), (5, _)]) B d_Lo_fewestOverTurns_64 rfl rfl (by decide) rfl ?_
    refine a_goto B 25 d_Lo_fewestOverTurns_67 rfl ?_
    first | exact ihi _ _ ⟨by rw [show fwF T U (i + 1) = min (fwF T U i) (leastT T (plT (setT U i))) from if_pos c_38], _, rfl⟩ | exact ihi _ _ ⟨by rw [show fwF T U (i + 1) = fwF T U i from if_neg (by rw [c_38]; decide)], _, rfl⟩
  · skip
    obtain ⟨rfl, F, rfl⟩ := hI
    have e9 : ∀ k, k ≠ 19 → (up1 σ 19 F).1 k = σ.1 k := fun k hk => up1_o hk
    have yA : RtA (up1 σ 19 F) t T := tA.of rfl rfl rfl rfl rfl (e9 _ (by omega)) (e9 _ (by omega)) (e9 _ (by omega)) (e9 _ (by omega)) (e9 _ (by omega)) (e9 _ (by omega))
    have yB : RtB (up1 σ 19 F) t T := tB.of (e9 _ (by omega)) (e9 _ (by omega)) (e9 _ (by omega))
    have zA : RtA (up1 σ 19 F) u U := uA.of rfl rfl rfl rfl rfl (e9 _ (by omega)) (e9 _ (by omega)) (e9 _ (by omega)) (e9 _ (by omega)) (e9 _ (by omega)) (e9 _ (by omega))
    have zB : RtB (up1 σ 19 F) u U := uB.of (e9 _ (by omega)) (e9 _ (by omega)) (e9 _ (by omega))
    refine a_iload B d_Lo_fewestOverTurns_25 rfl ?_
    refine a_iload B d_Lo_fewestOverTurns_27 rfl ?_
    first | refine b_icmp_ge B 70 d_Lo_fewestOverTurns_29 rfl (by omega) (by omega) (fun c_29 => ?_) (fun c_29 => ?_) | refine a_icmp_ge B 70 d_Lo_fewestOverTurns_29 rfl (fun c_29 => ?_) (fun c_29 => ?_)
    · skip
      refine a_iload_n B d_Lo_fewestOverTurns_70 rfl rfl ?_
      exact Rt _ _ _ _ d_Lo_fewestOverTurns_71 ⟨rfl, _, rfl⟩
    exact absurd c_29 (by omega)
theorem d_Lo_fewest_0 : decode prog_1_method_21_code 0 = .ok (.aload_n 0, 1) := by decide +kernel
theorem d_Lo_fewest_1 : decode prog_1_method_21_code 1 = .ok (.iload_n 1, 1) := by decide +kernel
theorem d_Lo_fewest_2 : decode prog_1_method_21_code 2 = .ok (.iload_n 2, 1) := by decide +kernel
theorem d_Lo_fewest_3 : decode prog_1_method_21_code 3 = .ok (.invokevirtual 181, 3) := by decide +kernel
theorem d_Lo_fewest_6 : decode prog_1_method_21_code 6 = .ok (.istore_n 3, 1) := by decide +kernel
theorem d_Lo_fewest_7 : decode prog_1_method_21_code 7 = .ok (.iload_n 3, 1) := by decide +kernel
theorem d_Lo_fewest_8 : decode prog_1_method_21_code 8 = .ok (.ifCond .eq 5, 3) := by decide +kernel
theorem d_Lo_fewest_11 : decode prog_1_method_21_code 11 = .ok (.iload_n 3, 1) := by decide +kernel
theorem d_Lo_fewest_12 : decode prog_1_method_21_code 12 = .ok (.ireturn, 1) := by decide +kernel
theorem d_Lo_fewest_13 : decode prog_1_method_21_code 13 = .ok (.aload_n 0, 1) := by decide +kernel
theorem d_Lo_fewest_14 : decode prog_1_method_21_code 14 = .ok (.getfield 18, 3) := by decide +kernel
theorem d_Lo_fewest_17 : decode prog_1_method_21_code 17 = .ok (.iload_n 1, 1) := by decide +kernel
theorem d_Lo_fewest_18 : decode prog_1_method_21_code 18 = .ok (.aaload, 1) := by decide +kernel
theorem d_Lo_fewest_19 : decode prog_1_method_21_code 19 = .ok (.getfield 157, 3) := by decide +kernel
theorem d_Lo_fewest_22 : decode prog_1_method_21_code 22 = .ok (.bipush 6, 2) := by decide +kernel
theorem d_Lo_fewest_24 : decode prog_1_method_21_code 24 = .ok (.if_icmp .le 6, 3) := by decide +kernel
theorem d_Lo_fewest_27 : decode prog_1_method_21_code 27 = .ok (.bipush (-4), 2) := by decide +kernel
theorem d_Lo_fewest_29 : decode prog_1_method_21_code 29 = .ok (.ireturn, 1) := by decide +kernel
theorem d_Lo_fewest_30 : decode prog_1_method_21_code 30 = .ok (.aload_n 0, 1) := by decide +kernel
theorem d_Lo_fewest_31 : decode prog_1_method_21_code 31 = .ok (.aload_n 0, 1) := by decide +kernel
theorem d_Lo_fewest_32 : decode prog_1_method_21_code 32 = .ok (.getfield 18, 3) := by decide +kernel
theorem d_Lo_fewest_35 : decode prog_1_method_21_code 35 = .ok (.iload_n 1, 1) := by decide +kernel
theorem d_Lo_fewest_36 : decode prog_1_method_21_code 36 = .ok (.aaload, 1) := by decide +kernel
theorem d_Lo_fewest_37 : decode prog_1_method_21_code 37 = .ok (.aload_n 0, 1) := by decide +kernel
theorem d_Lo_fewest_38 : decode prog_1_method_21_code 38 = .ok (.getfield 18, 3) := by decide +kernel
theorem d_Lo_fewest_41 : decode prog_1_method_21_code 41 = .ok (.iload_n 2, 1) := by decide +kernel
theorem d_Lo_fewest_42 : decode prog_1_method_21_code 42 = .ok (.aaload, 1) := by decide +kernel
theorem d_Lo_fewest_43 : decode prog_1_method_21_code 43 = .ok (.invokevirtual 184, 3) := by decide +kernel
theorem d_Lo_fewest_46 : decode prog_1_method_21_code 46 = .ok (.ireturn, 1) := by decide +kernel
set_option maxHeartbeats 4000000 in
set_option maxRecDepth 20000 in
theorem tC_fewest {g : GG} (G : Gok g) {σ : AH} {S : Sp} (hS : RelC S σ) (x y : Int32) : TerI g 4 m_Lo_fewest [rV 0, iV x, iV y] σ (fun r τ => r = (sp_fewest S x y).1 ∧ RelC (sp_fewest S x y).2 τ ∧ frC σ τ) := by
  refine TerI.mk G (by decide +kernel) rfl (Nat.le_of_ble_eq_true rfl) (fun K B Rt => ?_)
  have B : Cx g K prog_1_method_21_code 4 R_Lo 4 := B
  have Rt : RetI g K prog_1_method_21_code 4 (fun r τ => r = (sp_fewest S x y).1 ∧ RelC (sp_fewest S x y).2 τ ∧ frC σ τ) := Rt
  show AW g K 4 0 [(0, rV 0), (1, iV x), (2, iV y)] [] σ
  refine a_aload_n B d_Lo_fewest_0 rfl rfl ?_
  refine a_iload_n B d_Lo_fewest_1 rfl rfl ?_
  refine a_iload_n B d_Lo_fewest_2 rfl rfl ?_
  refine a_callVI (ci := 6) B (t_Lo_facingRefused G hS x y) d_Lo_fewest_3 ok_Lo_facingRefused ml_Lo_181 ly_0 rfl rfl (by decide) (by decide) rfl (Nat.le_of_ble_eq_true rfl) (fun r_3 τ_3 h_3 => ?_)
  rcases h_3 with ⟨q, hq, hr9, hR9, hF9⟩ | ⟨q9, hq, hr9, hs9⟩
  · skip
    subst hr9
    refine a_istore_n (lv1 := [(0, _), (1, _), (2, _), (3, _)]) B d_Lo_fewest_6 rfl (by decide) rfl ?_
    refine a_iload_n B d_Lo_fewest_7 rfl rfl ?_
    refine a_if_eq B 13 d_Lo_fewest_8 rfl (fun c9 => absurd c9 (neg_nz (fcQ_neg hq)).1) (fun _ => ?_)
    refine a_iload_n B d_Lo_fewest_11 rfl rfl ?_
    exact Rt _ _ _ _ d_Lo_fewest_12 (by have e : sp_fewest S x y = q := (by rw [sp_fewest, hq]); rw [e]; exact ⟨rfl, hR9, hF9⟩)
  · skip
    subst hr9
    replace hs9 := hs9.symm
    subst hs9
    obtain ⟨t, u⟩ := q9
    obtain ⟨ht, hx9, hu, hy9, hnt, hnu, he9, htu⟩ := fcQ_ok hq
    dsimp only at ht hx9 hu hy9 hnt hnu he9 htu
    subst hx9
    subst hy9
    obtain ⟨t11, tW, tA, tB, tP⟩ := TrC_in (hS.2.1 t ht) hnt
    obtain ⟨u11, uW, uA, uB, uP⟩ := TrC_in (hS.2.1 u hu) hnu
    have w1 := tW.1
    have w10 := tW.2.1
    have h58 : tI t = 58 + 12 * t := rfl
    have h59 : tI u = 58 + 12 * u := rfl
    refine a_istore_n (lv1 := [(0, _), (1, _), (2, _), (3, _)]) B d_Lo_fewest_6 rfl (by decide) rfl ?_
    refine a_iload_n B d_Lo_fewest_7 rfl rfl ?_
    refine a_if_eq B 13 d_Lo_fewest_8 rfl (fun _ => ?_) (fun c9 => absurd nI_0 c9)
    refine a_aload_n B d_Lo_fewest_13 rfl rfl ?_
    refine gf_Lo_trees B d_Lo_fewest_14 fl_Lo_18 ?_
    refine a_iload_n B d_Lo_fewest_17 rfl rfl ?_
    refine al_tr B _ rfl (by first | assumption | omega) d_Lo_fewest_18 ?_
    refine gf_Tr_leafCount B (by first | assumption | omega) d_Lo_fewest_19 fl_Lo_157 ?_
    rw [tA.1]
    refine a_bipush B d_Lo_fewest_22 cb_6 ?_
    first | refine b_icmp_le B 30 d_Lo_fewest_24 rfl (by omega) (by omega) (fun c_24 => ?_) (fun c_24 => ?_) | refine a_icmp_le B 30 d_Lo_fewest_24 rfl (fun c_24 => ?_) (fun c_24 => ?_)
    · skip
      refine a_aload_n B d_Lo_fewest_30 rfl rfl ?_
      refine a_aload_n B d_Lo_fewest_31 rfl rfl ?_
      refine gf_Lo_trees B d_Lo_fewest_32 fl_Lo_18 ?_
      refine a_iload_n B d_Lo_fewest_35 rfl rfl ?_
      refine al_tr B _ rfl (by first | assumption | omega) d_Lo_fewest_36 ?_
      refine a_aload_n B d_Lo_fewest_37 rfl rfl ?_
      refine gf_Lo_trees B d_Lo_fewest_38 fl_Lo_18 ?_
      refine a_iload_n B d_Lo_fewest_41 rfl rfl ?_
      refine al_tr B _ rfl (by first | assumption | omega) d_Lo_fewest_42 ?_
      refine a_callVI (ci := 6) B (t_Lo_fewestOverTurns G ht hu tW tA tB uW uA uB uP he9) d_Lo_fewest_43 ok_Lo_fewestOverTurns ml_Lo_184 ly_0 rfl rfl (by decide) (by decide) rfl (Nat.le_of_ble_eq_true rfl) (fun r_43 τ_43 h_43 => ?_)
      obtain ⟨rfl, F, rfl⟩ := h_43
      exact Rt _ _ _ _ d_Lo_fewest_46 (by have e : sp_fewest S (nI t) (nI u) = (nI (fwF (sT S t) (sT S u) (2 ^ (tN (sT S u) - 1))), S) := (by rw [sp_fewest, hq]; exact if_neg (Nat.not_lt.mpr c_24)); rw [e]; exact ⟨rfl, RelC_work hS (fun k _ _ _ q _ => up1_o q), fun k hk => up1_o (by omega)⟩)
    refine a_bipush B d_Lo_fewest_27 cb_m4 ?_
    exact Rt _ _ _ _ d_Lo_fewest_29 (by have e : sp_fewest S (nI t) (nI u) = RS S := (by rw [sp_fewest, hq]; exact if_pos c_24); rw [e]; exact ⟨rfl, hS, (fun _ _ => rfl)⟩)
def FbI (σ : AH) (t u n : Nat) (p : TT × TT) (τ : AH) : Prop := Wf p.1 ∧ Wf p.2 ∧ tN p.1 = n ∧ tN p.2 = n ∧ (RtA τ t p.1 ∧ RtB τ t p.1 ∧ RtP τ t p.1) ∧ (RtA τ u p.2 ∧ RtB τ u p.2 ∧ RtP τ u p.2) ∧ ∀ k, k ≠ tI t + 1 → k ≠ tI t + 2 → k ≠ tI t + 7 → k ≠ tI t + 9 → k ≠ tI t + 10 → k ≠ tI u + 1 → k ≠ tI u + 2 → k ≠ tI u + 7 → k ≠ tI u + 9 → k ≠ tI u + 10 → τ.1 k = σ.1 k
theorem RtX.of {σ τ : AH} {t u : Nat} {T : TT} (htu : t ≠ u) (hF : frT t σ τ) (h : RtA σ u T ∧ RtB σ u T ∧ RtP σ u T) : RtA τ u T ∧ RtB τ u T ∧ RtP τ u T := by
  have h58 : tI t = 58 + 12 * t := rfl
  have h59 : tI u = 58 + 12 * u := rfl
  have e : ∀ k, tI u ≤ k → k ≤ tI u + 10 → τ.1 k = σ.1 k := fun k q1 q2 => hF.2 k (by omega) (by omega) (by omega) (by omega) (by omega)
  exact ⟨h.1.of rfl rfl rfl rfl rfl (e _ (by omega) (by omega)) (e _ (by omega) (by omega)) (e _ (by omega) (by omega)) (e _ (by omega) (by omega)) (e _ (by omega) (by omega)) (e _ (by omega) (by omega)), h.2.1.of (e _ (by omega) (by omega)) (e _ (by omega) (by omega)) (e _ (by omega) (by omega)), h.2.2.of (e _ (by omega) (by omega)) (e _ (by omega) (by omega))⟩
theorem FbI_1 {σ τ τ' : AH} {t u n : Nat} {p : TT × TT} {pl : Nat → Int32} (htu : t ≠ u) (h : FbI σ t u n p τ) (hA : RtA τ' t (lookT p.1 pl)) (hB : RtB τ' t (lookT p.1 pl)) (hP : RtP τ' t (lookT p.1 pl)) (hF : frT t τ τ') : FbI σ t u n (lookT p.1 pl, p.2) τ' := by
  obtain ⟨h1, h2, h3, h4, h5, h6, h7⟩ := h
  exact ⟨Wf_flips h1, h2, h3, h4, ⟨hA, hB, hP⟩, RtX.of htu hF h6, fun k q1 q2 q3 q4 q5 q6 q7 q8 q9 q10 => (hF.2 k q1 q2 q3 q4 q5).trans (h7 k q1 q2 q3 q4 q5 q6 q7 q8 q9 q10)⟩
theorem FbI_2 {σ τ τ' : AH} {t u n : Nat} {p : TT × TT} {pl : Nat → Int32} (htu : t ≠ u) (h : FbI σ t u n p τ) (hA : RtA τ' u (lookT p.2 pl)) (hB : RtB τ' u (lookT p.2 pl)) (hP : RtP τ' u (lookT p.2 pl)) (hF : frT u τ τ') : FbI σ t u n (p.1, lookT p.2 pl) τ' := by
  obtain ⟨h1, h2, h3, h4, h5, h6, h7⟩ := h
  exact ⟨h1, Wf_flips h2, h3, h4, RtX.of (Ne.symm htu) hF h5, ⟨hA, hB, hP⟩, fun k q1 q2 q3 q4 q5 q6 q7 q8 q9 q10 => (hF.2 k q6 q7 q8 q9 q10).trans (h7 k q1 q2 q3 q4 q5 q6 q7 q8 q9 q10)⟩
theorem RelC_tree2 {S : Sp} {σ τ : AH} {t u n : Nat} {p : TT × TT} (h : RelC S σ) (ht : t < 4) (hu : u < 4) (htu : t ≠ u) (t11 : σ.1 (tI t) 11 = 1) (u11 : σ.1 (tI u) 11 = 1) (hI : FbI σ t u n p τ) : RelC (pT (pT S t p.1) u p.2) τ := by
  obtain ⟨h1, h2, h3, h4⟩ := h
  obtain ⟨g1, g2, g3, g4, g5, g6, g7⟩ := hI
  have h58 : tI t = 58 + 12 * t := rfl
  have h59 : tI u = 58 + 12 * u := rfl
  have e9 : ∀ k, k < 58 → τ.1 k = σ.1 k := fun k q1 => g7 k (by omega) (by omega) (by omega) (by omega) (by omega) (by omega) (by omega) (by omega) (by omega) (by omega)
  refine ⟨h1.of (e9 _ (by decide)) (e9 _ (by decide)) (fun i hi => e9 _ (by omega)), fun t' ht' => ?_, MiC_of (S := S) h3 (e9 _ (by decide)) (e9 _ (by decide)) (e9 _ (by decide)) (e9 _ (by decide)) (e9 _ (by decide)) (e9 _ (by decide)) (e9 _ (by decide)), h4.of (e9 _ (by decide)) (fun a ha => e9 _ (by omega))⟩
  show TrC τ t' (va_up (va_up (sT S) t p.1) u p.2 t')
  by_cases eu : t' = u
  · rw [eu, va_up_s]
    exact TrC_mk (by rw [g7 _ (by omega) (by omega) (by omega) (by omega) (by omega) (by omega) (by omega) (by omega) (by omega) (by omega)]; exact u11) g2 g6.1 g6.2.1 g6.2.2
  · rw [va_up_o eu]
    by_cases et : t' = t
    · rw [et, va_up_s]
      exact TrC_mk (by rw [g7 _ (by omega) (by omega) (by omega) (by omega) (by omega) (by omega) (by omega) (by omega) (by omega) (by omega)]; exact t11) g1 g5.1 g5.2.1 g5.2.2
    · rw [va_up_o et]
      have h57 : tI t' = 58 + 12 * t' := rfl
      exact TrC_of (h2 t' ht') (fun k q1 q2 => g7 k (by omega) (by omega) (by omega) (by omega) (by omega) (by omega) (by omega) (by omega) (by omega) (by omega))
theorem cntB_le {p : Nat → Bool} : ∀ n, cntB p n ≤ n
  | 0 => Nat.le_refl 0
  | n + 1 => by
    have := cntB_le (p := p) n
    show cntB p n + _ ≤ n + 1
    split <;> omega
theorem looks_le {T : TT} {pl : Nat → Int32} : looksN T pl ≤ tN T - 1 := cntB_le _
theorem d_Lo_faceBoth_0 : decode prog_1_method_20_code 0 = .ok (.aload_n 0, 1) := by decide +kernel
theorem d_Lo_faceBoth_1 : decode prog_1_method_20_code 1 = .ok (.iload_n 1, 1) := by decide +kernel
theorem d_Lo_faceBoth_2 : decode prog_1_method_20_code 2 = .ok (.iload_n 2, 1) := by decide +kernel
theorem d_Lo_faceBoth_3 : decode prog_1_method_20_code 3 = .ok (.invokevirtual 181, 3) := by decide +kernel
theorem d_Lo_faceBoth_6 : decode prog_1_method_20_code 6 = .ok (.istore_n 3, 1) := by decide +kernel
theorem d_Lo_faceBoth_7 : decode prog_1_method_20_code 7 = .ok (.iload_n 3, 1) := by decide +kernel
theorem d_Lo_faceBoth_8 : decode prog_1_method_20_code 8 = .ok (.ifCond .eq 5, 3) := by decide +kernel
theorem d_Lo_faceBoth_11 : decode prog_1_method_20_code 11 = .ok (.iload_n 3, 1) := by decide +kernel
theorem d_Lo_faceBoth_12 : decode prog_1_method_20_code 12 = .ok (.ireturn, 1) := by decide +kernel
theorem d_Lo_faceBoth_13 : decode prog_1_method_20_code 13 = .ok (.aload_n 0, 1) := by decide +kernel
theorem d_Lo_faceBoth_14 : decode prog_1_method_20_code 14 = .ok (.getfield 18, 3) := by decide +kernel
theorem d_Lo_faceBoth_17 : decode prog_1_method_20_code 17 = .ok (.iload_n 1, 1) := by decide +kernel
theorem d_Lo_faceBoth_18 : decode prog_1_method_20_code 18 = .ok (.aaload, 1) := by decide +kernel
theorem d_Lo_faceBoth_19 : decode prog_1_method_20_code 19 = .ok (.astore 4, 2) := by decide +kernel
theorem d_Lo_faceBoth_21 : decode prog_1_method_20_code 21 = .ok (.aload_n 0, 1) := by decide +kernel
theorem d_Lo_faceBoth_22 : decode prog_1_method_20_code 22 = .ok (.getfield 18, 3) := by decide +kernel
theorem d_Lo_faceBoth_25 : decode prog_1_method_20_code 25 = .ok (.iload_n 2, 1) := by decide +kernel
theorem d_Lo_faceBoth_26 : decode prog_1_method_20_code 26 = .ok (.aaload, 1) := by decide +kernel
theorem d_Lo_faceBoth_27 : decode prog_1_method_20_code 27 = .ok (.astore 5, 2) := by decide +kernel
theorem d_Lo_faceBoth_29 : decode prog_1_method_20_code 29 = .ok (.iconst 0, 1) := by decide +kernel
theorem d_Lo_faceBoth_30 : decode prog_1_method_20_code 30 = .ok (.istore 6, 2) := by decide +kernel
theorem d_Lo_faceBoth_32 : decode prog_1_method_20_code 32 = .ok (.iload 6, 2) := by decide +kernel
theorem d_Lo_faceBoth_34 : decode prog_1_method_20_code 34 = .ok (.bipush 100, 2) := by decide +kernel
theorem d_Lo_faceBoth_36 : decode prog_1_method_20_code 36 = .ok (.if_icmp .gt 44, 3) := by decide +kernel
theorem d_Lo_faceBoth_39 : decode prog_1_method_20_code 39 = .ok (.aload 4, 2) := by decide +kernel
theorem d_Lo_faceBoth_41 : decode prog_1_method_20_code 41 = .ok (.aload 5, 2) := by decide +kernel
theorem d_Lo_faceBoth_43 : decode prog_1_method_20_code 43 = .ok (.getfield 135, 3) := by decide +kernel
theorem d_Lo_faceBoth_46 : decode prog_1_method_20_code 46 = .ok (.invokevirtual 171, 3) := by decide +kernel
theorem d_Lo_faceBoth_49 : decode prog_1_method_20_code 49 = .ok (.istore 7, 2) := by decide +kernel
theorem d_Lo_faceBoth_51 : decode prog_1_method_20_code 51 = .ok (.iload 7, 2) := by decide +kernel
theorem d_Lo_faceBoth_53 : decode prog_1_method_20_code 53 = .ok (.aload 5, 2) := by decide +kernel
theorem d_Lo_faceBoth_55 : decode prog_1_method_20_code 55 = .ok (.aload 4, 2) := by decide +kernel
theorem d_Lo_faceBoth_57 : decode prog_1_method_20_code 57 = .ok (.getfield 135, 3) := by decide +kernel
theorem d_Lo_faceBoth_60 : decode prog_1_method_20_code 60 = .ok (.invokevirtual 171, 3) := by decide +kernel
theorem d_Lo_faceBoth_63 : decode prog_1_method_20_code 63 = .ok (.iadd, 1) := by decide +kernel
theorem d_Lo_faceBoth_64 : decode prog_1_method_20_code 64 = .ok (.istore 7, 2) := by decide +kernel
theorem d_Lo_faceBoth_66 : decode prog_1_method_20_code 66 = .ok (.iload 7, 2) := by decide +kernel
theorem d_Lo_faceBoth_68 : decode prog_1_method_20_code 68 = .ok (.ifCond .ne 6, 3) := by decide +kernel
theorem d_Lo_faceBoth_71 : decode prog_1_method_20_code 71 = .ok (.goto 9, 3) := by decide +kernel
theorem d_Lo_faceBoth_74 : decode prog_1_method_20_code 74 = .ok (.iinc 6 1, 3) := by decide +kernel
theorem d_Lo_faceBoth_77 : decode prog_1_method_20_code 77 = .ok (.goto (-45), 3) := by decide +kernel
theorem d_Lo_faceBoth_80 : decode prog_1_method_20_code 80 = .ok (.aload 4, 2) := by decide +kernel
theorem d_Lo_faceBoth_82 : decode prog_1_method_20_code 82 = .ok (.aload 5, 2) := by decide +kernel
theorem d_Lo_faceBoth_84 : decode prog_1_method_20_code 84 = .ok (.getfield 135, 3) := by decide +kernel
theorem d_Lo_faceBoth_87 : decode prog_1_method_20_code 87 = .ok (.invokevirtual 178, 3) := by decide +kernel
theorem d_Lo_faceBoth_90 : decode prog_1_method_20_code 90 = .ok (.ireturn, 1) := by decide +kernel
set_option maxHeartbeats 4000000 in
set_option maxRecDepth 20000 in
theorem tC_faceBoth {g : GG} (G : Gok g) {σ : AH} {S : Sp} (hS : RelC S σ) (x y : Int32) : TerI g 3 m_Lo_faceBoth [rV 0, iV x, iV y] σ (fun r τ => r = (sp_faceBoth S x y).1 ∧ RelC (sp_faceBoth S x y).2 τ ∧ frC σ τ) := by
  refine TerI.mk G (by decide +kernel) rfl (Nat.le_of_ble_eq_true rfl) (fun K B Rt => ?_)
  have B : Cx g K prog_1_method_20_code 8 R_Lo 3 := B
  have Rt : RetI g K prog_1_method_20_code 8 (fun r τ => r = (sp_faceBoth S x y).1 ∧ RelC (sp_faceBoth S x y).2 τ ∧ frC σ τ) := Rt
  show AW g K 8 0 [(0, rV 0), (1, iV x), (2, iV y)] [] σ
  refine a_aload_n B d_Lo_faceBoth_0 rfl rfl ?_
  refine a_iload_n B d_Lo_faceBoth_1 rfl rfl ?_
  refine a_iload_n B d_Lo_faceBoth_2 rfl rfl ?_
  refine a_callVI (ci := 6) B (t_Lo_facingRefused G hS x y) d_Lo_faceBoth_3 ok_Lo_facingRefused ml_Lo_181 ly_0 rfl rfl (by decide) (by decide) rfl (Nat.le_of_ble_eq_true rfl) (fun r_3 τ_3 h_3 => ?_)
  rcases h_3 with ⟨q, hq, hr9, hR9, hF9⟩ | ⟨q9, hq, hr9, hs9⟩
  · skip
    subst hr9
    refine a_istore_n (lv1 := [(0, _), (1, _), (2, _), (3, _)]) B d_Lo_faceBoth_6 rfl (by decide) rfl ?_
    refine a_iload_n B d_Lo_faceBoth_7 rfl rfl ?_
    refine a_if_eq B 13 d_Lo_faceBoth_8 rfl (fun c9 => absurd c9 (neg_nz (fcQ_neg hq)).1) (fun _ => ?_)
    refine a_iload_n B d_Lo_faceBoth_11 rfl rfl ?_
    exact Rt _ _ _ _ d_Lo_faceBoth_12 (by have e : sp_faceBoth S x y = q := (by rw [sp_faceBoth, hq]); rw [e]; exact ⟨rfl, hR9, hF9⟩)
  · skip
    subst hr9
    replace hs9 := hs9.symm
    subst hs9
    obtain ⟨t, u⟩ := q9
    obtain ⟨ht, hx9, hu, hy9, hnt, hnu, he9, htu⟩ := fcQ_ok hq
    dsimp only at ht hx9 hu hy9 hnt hnu he9 htu
    subst hx9
    subst hy9
    obtain ⟨t11, tW, tA, tB, tP⟩ := TrC_in (hS.2.1 t ht) hnt
    obtain ⟨u11, uW, uA, uB, uP⟩ := TrC_in (hS.2.1 u hu) hnu
    have w1 := tW.1
    have w10 := tW.2.1
    have h58 : tI t = 58 + 12 * t := rfl
    have h59 : tI u = 58 + 12 * u := rfl
    refine a_istore_n (lv1 := [(0, _), (1, _), (2, _), (3, _)]) B d_Lo_faceBoth_6 rfl (by decide) rfl ?_
    refine a_iload_n B d_Lo_faceBoth_7 rfl rfl ?_
    refine a_if_eq B 13 d_Lo_faceBoth_8 rfl (fun _ => ?_) (fun c9 => absurd nI_0 c9)
    refine a_aload_n B d_Lo_faceBoth_13 rfl rfl ?_
    refine gf_Lo_trees B d_Lo_faceBoth_14 fl_Lo_18 ?_
    refine a_iload_n B d_Lo_faceBoth_17 rfl rfl ?_
    refine al_tr B _ rfl (by first | assumption | omega) d_Lo_faceBoth_18 ?_
    refine a_astore (lv1 := [(0, _), (1, _), (2, _), (3, _), (4, _)]) B d_Lo_faceBoth_19 (by decide) rfl ?_
    refine a_aload_n B d_Lo_faceBoth_21 rfl rfl ?_
    refine gf_Lo_trees B d_Lo_faceBoth_22 fl_Lo_18 ?_
    refine a_iload_n B d_Lo_faceBoth_25 rfl rfl ?_
    refine al_tr B _ rfl (by first | assumption | omega) d_Lo_faceBoth_26 ?_
    refine a_astore (lv1 := [(0, _), (1, _), (2, _), (3, _), (4, _), (5, _)]) B d_Lo_faceBoth_27 (by decide) rfl ?_
    have tail : ∀ (τ : AH) (p : TT × TT), FbI σ t u (tN (sT S t)) p τ → fbF 101 (sT S t, sT S u) = p → AW g K 8 80 [(4, rV (tI t)), (5, rV (tI u))] [] τ := by
      intro τ p hI hp
      obtain ⟨g1, g2, g3, g4, g5, g6, g7⟩ := id hI
      refine a_aload B d_Lo_faceBoth_80 rfl ?_
      refine a_aload B d_Lo_faceBoth_82 rfl ?_
      refine gf_Tr_start B (by first | assumption | omega) d_Lo_faceBoth_84 fl_Lo_135 ?_
      refine a_callVI (ci := 5) B (t_Tr_crossingsWith G ht g1 g5.1 g5.2.1 (ly_T_start hu) (by decide)) d_Lo_faceBoth_87 ok_Tr_crossingsWith ml_Lo_178 (ly_T (by first | assumption | omega)) rfl rfl (by decide) (by decide) rfl (Nat.le_of_ble_eq_true rfl) (fun r_87 τ_87 h_87 => ?_)
      obtain ⟨hr_87, hs_87⟩ := h_87
      subst hr_87
      replace hs_87 := hs_87.symm
      subst hs_87
      rw [cross_cg g1 (start_pl g2 g6.2.2 (g3.trans g4.symm))]
      exact Rt _ _ _ _ d_Lo_faceBoth_90 (by have e : sp_faceBoth S (nI t) (nI u) = (nI (crossT (fbF 101 (sT S t, sT S u)).1 (plT (fbF 101 (sT S t, sT S u)).2)), pT (pT S t (fbF 101 (sT S t, sT S u)).1) u (fbF 101 (sT S t, sT S u)).2) := (by rw [sp_faceBoth, hq]); rw [e, hp]; exact ⟨rfl, RelC_tree2 hS ht hu htu t11 u11 hI, fun k hk => g7 k (by omega) (by omega) (by omega) (by omega) (by omega) (by omega) (by omega) (by omega) (by omega) (by omega)⟩)
    refine a_iconst B d_Lo_faceBoth_29 ci_0 ?_
    refine a_istore (lv1 := [(0, _), (1, _), (2, _), (3, _), (4, _), (5, _), (6, _)]) B d_Lo_faceBoth_30 (by decide) rfl ?_
    refine a_sub (lv1 := [(4, _), (5, _), (6, _)]) rfl ?_
    refine a_forR 101 (fun i lv τ => lv = [(4, rV (tI t)), (5, rV (tI u)), (6, iV (nI i))] ∧ ∃ p, FbI σ t u (tN (sT S t)) p τ ∧ fbF 101 (sT S t, sT S u) = fbF (101 - i) p) (fun i lv τ hi hI ihi => ?_) (fun lv τ hI => ?_) 0 (Nat.zero_le _) _ _ ⟨rfl, (sT S t, sT S u), ⟨tW, uW, rfl, he9.symm, ⟨tA, tB, tP⟩, ⟨uA, uB, uP⟩, fun _ _ _ _ _ _ _ _ _ _ _ => rfl⟩, rfl⟩
    · skip
      obtain ⟨rfl, p, hI, hp⟩ := hI
      obtain ⟨g1, g2, g3, g4, g5, g6, g7⟩ := id hI
      have e0 : 101 - i = (101 - (i + 1)) + 1 := by omega
      have lk1 := looks_le (T := p.1) (pl := plT p.2)
      have lk2 := looks_le (T := p.2) (pl := plT (lookT p.1 (plT p.2)))
      refine a_iload B d_Lo_faceBoth_32 rfl ?_
      refine a_bipush B d_Lo_faceBoth_34 cb_100 ?_
      first | refine b_icmp_gt B 80 d_Lo_faceBoth_36 rfl (by omega) (by omega) (fun c_36 => ?_) (fun c_36 => ?_) | refine a_icmp_gt B 80 d_Lo_faceBoth_36 rfl (fun c_36 => ?_) (fun c_36 => ?_)
      · skip
        first | exact absurd c_36 (by omega) | (refine a_sub (lv1 := [(4, _), (5, _)]) rfl ?_; exact tail _ (fbR p) hI2 (by rw [hp, e0]; exact if_pos c_68))
      refine a_aload B d_Lo_faceBoth_39 rfl ?_
      refine a_aload B d_Lo_faceBoth_41 rfl ?_
      refine gf_Tr_start B (by first | assumption | omega) d_Lo_faceBoth_43 fl_Lo_135 ?_
      refine a_callVI (ci := 5) B (t_Tr_lookAt G ht g1 g5.1 g5.2.1 (ly_T_start hu) (by decide) (by omega) (by omega) (by omega)) d_Lo_faceBoth_46 ok_Tr_lookAt ml_Lo_171 (ly_T (by first | assumption | omega)) rfl rfl (by decide) (by decide) rfl (Nat.le_of_ble_eq_true rfl) (fun r_46 τ_46 h_46 => ?_)
      obtain ⟨hr_46, cA, cB, cP, cF⟩ := h_46
      subst hr_46
      have hq1 := start_pl g2 g6.2.2 (g3.trans g4.symm)
      rw [look_cg g1 hq1] at cA cB cP
      rw [looks_cg g1 hq1]
      have hI1 := FbI_1 htu hI cA cB cP cF
      obtain ⟨k1, k2, k3, k4, k5, k6, k7⟩ := id hI1
      refine a_istore (lv1 := [(4, _), (5, _), (6, _), (7, _)]) B d_Lo_faceBoth_49 (by decide) rfl ?_
      refine a_iload B d_Lo_faceBoth_51 rfl ?_
      refine a_aload B d_Lo_faceBoth_53 rfl ?_
      refine a_aload B d_Lo_faceBoth_55 rfl ?_
      refine gf_Tr_start B (by first | assumption | omega) d_Lo_faceBoth_57 fl_Lo_135 ?_
      refine a_callVI (ci := 5) B (t_Tr_lookAt G hu g2 k6.1 k6.2.1 (ly_T_start ht) (by decide) (by omega) (by omega) (by omega)) d_Lo_faceBoth_60 ok_Tr_lookAt ml_Lo_171 (ly_T (by first | assumption | omega)) rfl rfl (by decide) (by decide) rfl (Nat.le_of_ble_eq_true rfl) (fun r_60 τ_60 h_60 => ?_)
      obtain ⟨hr_60, dA, dB, dP, dF⟩ := h_60
      subst hr_60
      have hq2 := start_pl k1 k5.2.2 (k4.trans k3.symm)
      rw [look_cg g2 hq2] at dA dB dP
      rw [looks_cg g2 hq2]
      have hI2 : FbI σ t u (tN (sT S t)) (fbR p) τ_60 := FbI_2 htu hI1 dA dB dP dF
      first | refine b_iadd B d_Lo_faceBoth_63 ?_ | refine a_iadd B d_Lo_faceBoth_63 ?_
      refine a_istore (lv1 := [(4, _), (5, _), (6, _), (7, _)]) B d_Lo_faceBoth_64 (by decide) rfl ?_
      refine a_iload B d_Lo_faceBoth_66 rfl ?_
      first | refine b_if_ne_b B 74 d_Lo_faceBoth_68 rfl (fun c_68 => ?_) (fun c_68 => ?_) | refine a_if_ne B 74 d_Lo_faceBoth_68 rfl (fun c_68 => ?_) (fun c_68 => ?_)
      · skip
        have c_68 : ¬ fbN p = 0 := fun q => c_68 (show nI (fbN p) = 0 by rw [q]; rfl)
        first | refine b_iinc (lv1 := [(4, _), (5, _), (6, _), (7, _)]) B d_Lo_faceBoth_74 rfl ci_1 (by decide) rfl ?_ | refine a_iinc (lv1 := [(4, _), (5, _), (6, _), (7, _)]) B d_Lo_faceBoth_74 rfl rfl (by decide) rfl ?_
        refine a_goto B 32 d_Lo_faceBoth_77 rfl ?_
        refine a_sub (lv1 := [(4, _), (5, _), (6, _)]) rfl ?_
        exact ihi _ _ ⟨rfl, fbR p, hI2, by rw [hp, e0]; exact if_neg c_68⟩
      have c_68 : fbN p = 0 := nI_z (show fbN p < 2 ^ 31 by unfold fbN; omega) c_68
      refine a_goto B 80 d_Lo_faceBoth_71 rfl ?_
      first | exact absurd c_36 (by omega) | (refine a_sub (lv1 := [(4, _), (5, _)]) rfl ?_; exact tail _ (fbR p) hI2 (by rw [hp, e0]; exact if_pos c_68))
    · skip
      obtain ⟨rfl, p, hI, hp⟩ := hI
      refine a_iload B d_Lo_faceBoth_32 rfl ?_
      refine a_bipush B d_Lo_faceBoth_34 cb_100 ?_
      first | refine b_icmp_gt B 80 d_Lo_faceBoth_36 rfl (by omega) (by omega) (fun c_36 => ?_) (fun c_36 => ?_) | refine a_icmp_gt B 80 d_Lo_faceBoth_36 rfl (fun c_36 => ?_) (fun c_36 => ?_)
      · skip
        refine a_sub (lv1 := [(4, _), (5, _)]) rfl ?_
        exact tail _ p hI hp
      exact absurd c_36 (by omega)
