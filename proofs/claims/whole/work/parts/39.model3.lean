/-! the reference: trees -/
/-- what changes of tree t alone, cells for work aside -/
def tfM (t : Nat) (σ τ : AH) : Prop := (∀ k, k ≠ 106 → k ≠ 110 → (k < 111 ∨ 123 < k) → k ≠ 127 → τ.1 k = σ.1 k) ∧ (∀ j, j ≠ 15 → j ≠ 16 → τ.1 106 j = σ.1 106 j) ∧ ∀ t', t' ≠ t → τ.1 111 t' = σ.1 111 t' ∧ ∀ k v, 111 < k → k ≤ 118 → v < 20 → τ.1 k (20 * t' + v) = σ.1 k (20 * t' + v)
theorem tfM_wk {t : Nat} {σ τ : AH} (h : wkM σ τ) : tfM t σ τ := ⟨fun k a b c d => h.1 k a b (by omega) d, h.2, fun t' _ => ⟨by rw [h.1 111 (by decide) (by decide) (by decide) (by decide)], fun k v q1 q2 _ => by rw [h.1 k (by omega) (by omega) (by omega) (by omega)]⟩⟩
theorem tfM_rfl {t : Nat} {σ : AH} : tfM t σ σ := tfM_wk wkM_rfl
theorem tfM_tr {t : Nat} {σ τ υ : AH} (h : tfM t σ τ) (h' : tfM t τ υ) : tfM t σ υ := ⟨fun k a b c d => (h'.1 k a b c d).trans (h.1 k a b c d), fun j a b => (h'.2.1 j a b).trans (h.2.1 j a b), fun t' ht => ⟨((h'.2.2 t' ht).1).trans (h.2.2 t' ht).1, fun k v a b c => ((h'.2.2 t' ht).2 k v a b c).trans ((h.2.2 t' ht).2 k v a b c)⟩⟩
theorem tfM_up {t k v : Nat} {σ : AH} {x : Int32} (h1 : 111 < k) (h2 : k ≤ 118) (hv : v < 20) : tfM t σ (up1 σ k (upd (σ.1 k) (20 * t + v) x)) := by
  refine ⟨fun j a b c d => up1_o (by omega), fun j _ _ => by rw [up1_o (by omega)], fun t' ht => ⟨by rw [up1_o (by omega)], fun j w q1 q2 q3 => ?_⟩⟩
  by_cases e : j = k
  · rw [e, up1_s, upd_o (by omega)]
  · rw [up1_o e]
theorem tfM_sz {t : Nat} {σ : AH} {x : Int32} : tfM t σ (up1 σ 111 (upd (σ.1 111) t x)) := ⟨fun j a b c d => up1_o (by omega), fun j _ _ => by rw [up1_o (by omega)], fun t' ht => ⟨by rw [up1_s, upd_o ht], fun j w q1 q2 q3 => by rw [up1_o (by omega)]⟩⟩
theorem RelM_tree {S : Sp} {σ τ : AH} {t : Nat} {T : TT} (h : RelM S σ) (hT : TrM τ t T) (e : tfM t σ τ) : RelM (pT S t T) τ := by
  obtain ⟨h1, h2, h3, h4⟩ := h
  obtain ⟨e, f, g⟩ := e
  have e1 : ∀ k, k ≠ 106 → k ≠ 110 → (k < 111 ∨ 123 < k) → k ≠ 127 → τ.1 k = σ.1 k := e
  refine ⟨h1.of (f _ (by decide) (by decide)) (e _ (by decide) (by decide) (by decide) (by decide)) (e _ (by decide) (by decide) (by decide) (by decide)), fun t' ht' => ?_, ?_, h4.of (f _ (by decide) (by decide)) (e _ (by decide) (by decide) (by decide) (by decide))⟩
  · show TrM τ t' (va_up (sT S) t T t')
    by_cases eq : t' = t
    · rw [eq, va_up_s]; exact hT
    · rw [va_up_o eq]
      exact (h2 t' ht').at (g t' eq).1 (g t' eq).2
  · exact MiM_of (S := S) h3 (f _ (by decide) (by decide)) (f _ (by decide) (by decide)) (f _ (by decide) (by decide)) (f _ (by decide) (by decide)) (f _ (by decide) (by decide)) (e _ (by decide) (by decide) (by decide) (by decide)) (e _ (by decide) (by decide) (by decide) (by decide)) (e _ (by decide) (by decide) (by decide) (by decide)) (e _ (by decide) (by decide) (by decide) (by decide))
theorem tfM_fr {t : Nat} {σ τ : AH} (h : tfM t σ τ) : frM σ τ := fun k hk => h.1 k (by omega) (by omega) (by omega) (by omega)
theorem tM_le {S : Sp} {σ : AH} (h : RelM S σ) {t : Nat} (ht : t < 4) : tN (sT S t) ≤ 10 := by
  by_cases hn : tN (sT S t) = 0
  · omega
  · exact ((h.2.1 t ht).2 hn).1.2.1
theorem d_Mo_askedFor_0 : decode prog_9_method_17_code 0 = .ok (.iload_n 1, 1) := by decide +kernel
theorem d_Mo_askedFor_1 : decode prog_9_method_17_code 1 = .ok (.invokestatic 111, 3) := by decide +kernel
theorem d_Mo_askedFor_4 : decode prog_9_method_17_code 4 = .ok (.ifCond .ne 7, 3) := by decide +kernel
theorem d_Mo_askedFor_7 : decode prog_9_method_17_code 7 = .ok (.iconst (-1), 1) := by decide +kernel
theorem d_Mo_askedFor_8 : decode prog_9_method_17_code 8 = .ok (.goto 21, 3) := by decide +kernel
theorem d_Mo_askedFor_11 : decode prog_9_method_17_code 11 = .ok (.aload_n 0, 1) := by decide +kernel
theorem d_Mo_askedFor_12 : decode prog_9_method_17_code 12 = .ok (.getfield 23, 3) := by decide +kernel
theorem d_Mo_askedFor_15 : decode prog_9_method_17_code 15 = .ok (.iload_n 1, 1) := by decide +kernel
theorem d_Mo_askedFor_16 : decode prog_9_method_17_code 16 = .ok (.iaload, 1) := by decide +kernel
theorem d_Mo_askedFor_17 : decode prog_9_method_17_code 17 = .ok (.ifCond .ne 11, 3) := by decide +kernel
theorem d_Mo_askedFor_20 : decode prog_9_method_17_code 20 = .ok (.aload_n 0, 1) := by decide +kernel
theorem d_Mo_askedFor_21 : decode prog_9_method_17_code 21 = .ok (.iconst 1, 1) := by decide +kernel
theorem d_Mo_askedFor_22 : decode prog_9_method_17_code 22 = .ok (.invokevirtual 95, 3) := by decide +kernel
theorem d_Mo_askedFor_25 : decode prog_9_method_17_code 25 = .ok (.goto 4, 3) := by decide +kernel
theorem d_Mo_askedFor_28 : decode prog_9_method_17_code 28 = .ok (.iconst 0, 1) := by decide +kernel
theorem d_Mo_askedFor_29 : decode prog_9_method_17_code 29 = .ok (.ireturn, 1) := by decide +kernel
set_option maxHeartbeats 4000000 in
set_option maxRecDepth 20000 in
theorem t_Mo_askedFor {g : GG} (G : Gok g) {σ : AH} {S : Sp} (hS : RelM S σ) (x : Int32) : TerI g 2 m_Mo_askedFor [rV 106, iV x] σ (PM (trQ S x) σ) := by
  refine TerI.mk G (by decide +kernel) rfl (Nat.le_of_ble_eq_true rfl) (fun K B Rt => ?_)
  have B : Cx g K prog_9_method_17_code 2 R_Mo 2 := B
  have Rt : RetI g K prog_9_method_17_code 2 (PM (trQ S x) σ) := Rt
  show AW g K 2 0 [(0, rV 106), (1, iV x)] [] σ
  refine a_iload_n B d_Mo_askedFor_0 rfl rfl ?_
  refine a_callSI B (t_Mo_isTree G x) d_Mo_askedFor_1 ok_Mo_isTree ml_Mo_111 rfl (by decide) (by decide) rfl (Nat.le_of_ble_eq_true rfl) (fun r_1 τ_1 h_1 => ?_)
  obtain ⟨hr_1, hs_1⟩ := h_1
  subst hr_1
  replace hs_1 := hs_1.symm
  subst hs_1
  first | refine b_if_ne_b B 11 d_Mo_askedFor_4 rfl (fun c_4 => ?_) (fun c_4 => ?_) | refine a_if_ne B 11 d_Mo_askedFor_4 rfl (fun c_4 => ?_) (fun c_4 => ?_)
  · skip
    obtain ⟨t, hqt⟩ := isS_t c_4
    obtain ⟨ht, rfl⟩ := rngQ_some (by omega) hqt
    refine a_aload_n B d_Mo_askedFor_11 rfl rfl ?_
    refine gf_Mo_sizes B d_Mo_askedFor_12 fl_Mo_23 ?_
    refine a_iload_n B d_Mo_askedFor_15 rfl rfl ?_
    refine a_iald B ly_111 _ rfl (by first | assumption | omega) d_Mo_askedFor_16 ?_
    rw [(hS.2.1 t ht).1]
    first | refine b_if_ne_b B 28 d_Mo_askedFor_17 rfl (fun c_17 => ?_) (fun c_17 => ?_) | refine a_if_ne B 28 d_Mo_askedFor_17 rfl (fun c_17 => ?_) (fun c_17 => ?_)
    · skip
      have hn : tN (sT S t) ≠ 0 := fun q => c_17 (by rw [q]; rfl)
      refine a_iconst B d_Mo_askedFor_28 ci_0 ?_
      exact Rt _ _ _ _ d_Mo_askedFor_29 (by first | exact Or.inl ⟨RB S, by rw [trQ, hqt], rfl, hS, fun _ _ => rfl⟩ | exact Or.inl ⟨RF S 1, (by rw [trQ, hqt]; exact if_pos hn), rfl, RelM_fnd hS (by decide), frM_meet⟩ | exact Or.inr ⟨t, (by rw [trQ, hqt]; exact if_neg hn), rfl, rfl⟩)
    have hn : tN (sT S t) = 0 := nI_z (by have := tM_le hS ht; omega) c_17
    refine a_aload_n B d_Mo_askedFor_20 rfl rfl ?_
    refine a_iconst B d_Mo_askedFor_21 ci_1 ?_
    refine a_callVI (ci := 7) B (t_Mo_meets G 1 (by decide)) d_Mo_askedFor_22 ok_Mo_meets ml_Mo_95 ly_106 rfl rfl (by decide) (by decide) rfl (Nat.le_of_ble_eq_true rfl) (fun r_22 τ_22 h_22 => ?_)
    obtain ⟨hr_22, hs_22⟩ := h_22
    subst hr_22
    subst hs_22
    refine a_goto B 29 d_Mo_askedFor_25 rfl ?_
    exact Rt _ _ _ _ d_Mo_askedFor_29 (by first | exact Or.inl ⟨RB S, by rw [trQ, hqt], rfl, hS, fun _ _ => rfl⟩ | exact Or.inl ⟨RF S 1, (by rw [trQ, hqt]; exact if_pos hn), rfl, RelM_fnd hS (by decide), frM_meet⟩ | exact Or.inr ⟨t, (by rw [trQ, hqt]; exact if_neg hn), rfl, rfl⟩)
  have hqt := isS_f c_4
  refine a_iconst B d_Mo_askedFor_7 ci_m1 ?_
  refine a_goto B 29 d_Mo_askedFor_8 rfl ?_
  exact Rt _ _ _ _ d_Mo_askedFor_29 (by first | exact Or.inl ⟨RB S, by rw [trQ, hqt], rfl, hS, fun _ _ => rfl⟩ | exact Or.inl ⟨RF S 1, (by rw [trQ, hqt]; exact if_pos hn), rfl, RelM_fnd hS (by decide), frM_meet⟩ | exact Or.inr ⟨t, (by rw [trQ, hqt]; exact if_neg hn), rfl, rfl⟩)
theorem d_Mo_nodes_0 : decode prog_9_method_18_code 0 = .ok (.iconst 2, 1) := by decide +kernel
theorem d_Mo_nodes_1 : decode prog_9_method_18_code 1 = .ok (.aload_n 0, 1) := by decide +kernel
theorem d_Mo_nodes_2 : decode prog_9_method_18_code 2 = .ok (.getfield 23, 3) := by decide +kernel
theorem d_Mo_nodes_5 : decode prog_9_method_18_code 5 = .ok (.iload_n 1, 1) := by decide +kernel
theorem d_Mo_nodes_6 : decode prog_9_method_18_code 6 = .ok (.iaload, 1) := by decide +kernel
theorem d_Mo_nodes_7 : decode prog_9_method_18_code 7 = .ok (.imul, 1) := by decide +kernel
theorem d_Mo_nodes_8 : decode prog_9_method_18_code 8 = .ok (.iconst 1, 1) := by decide +kernel
theorem d_Mo_nodes_9 : decode prog_9_method_18_code 9 = .ok (.isub, 1) := by decide +kernel
theorem d_Mo_nodes_10 : decode prog_9_method_18_code 10 = .ok (.ireturn, 1) := by decide +kernel
set_option maxHeartbeats 4000000 in
set_option maxRecDepth 20000 in
theorem t_Mo_nodes {g : GG} (G : Gok g) {σ : AH} {t n : Nat} (ht : t < 4) (hn1 : 1 ≤ n) (hn : n ≤ 10) (h : σ.1 111 t = nI n) : TerI g 0 m_Mo_nodes [rV 106, iV (nI t)] σ (fun r τ => r = nI (2 * n - 1) ∧ τ = σ) := by
  refine TerI.mk G (by decide +kernel) rfl (Nat.le_of_ble_eq_true rfl) (fun K B Rt => ?_)
  have B : Cx g K prog_9_method_18_code 2 R_Mo 0 := B
  have Rt : RetI g K prog_9_method_18_code 2 (fun r τ => r = nI (2 * n - 1) ∧ τ = σ) := Rt
  show AW g K 2 0 [(0, rV 106), (1, iV (nI t))] [] σ
  refine a_iconst B d_Mo_nodes_0 ci_2 ?_
  refine a_aload_n B d_Mo_nodes_1 rfl rfl ?_
  refine gf_Mo_sizes B d_Mo_nodes_2 fl_Mo_23 ?_
  refine a_iload_n B d_Mo_nodes_5 rfl rfl ?_
  refine a_iald B ly_111 _ rfl (by first | assumption | omega) d_Mo_nodes_6 ?_
  rw [h]
  first | refine b_imul B d_Mo_nodes_7 ?_ | refine a_imul B d_Mo_nodes_7 ?_
  refine a_iconst B d_Mo_nodes_8 ci_1 ?_
  first | refine b_isub B (by omega) d_Mo_nodes_9 ?_ | refine a_isub B d_Mo_nodes_9 ?_
  exact Rt _ _ _ _ d_Mo_nodes_10 ⟨rfl, rfl⟩
set_option maxHeartbeats 4000000 in
set_option maxRecDepth 20000 in
theorem t_Mo_nodes0 {g : GG} (G : Gok g) {σ : AH} {t : Nat} (ht : t < 4) (h : σ.1 111 t = nI 0) : TerI g 0 m_Mo_nodes [rV 106, iV (nI t)] σ (fun r τ => r = -1 ∧ τ = σ) := by
  refine TerI.mk G (by decide +kernel) rfl (Nat.le_of_ble_eq_true rfl) (fun K B Rt => ?_)
  have B : Cx g K prog_9_method_18_code 2 R_Mo 0 := B
  have Rt : RetI g K prog_9_method_18_code 2 (fun r τ => r = -1 ∧ τ = σ) := Rt
  show AW g K 2 0 [(0, rV 106), (1, iV (nI t))] [] σ
  refine a_iconst B d_Mo_nodes_0 ci_2 ?_
  refine a_aload_n B d_Mo_nodes_1 rfl rfl ?_
  refine gf_Mo_sizes B d_Mo_nodes_2 fl_Mo_23 ?_
  refine a_iload_n B d_Mo_nodes_5 rfl rfl ?_
  refine a_iald B ly_111 _ rfl (by first | assumption | omega) d_Mo_nodes_6 ?_
  rw [h]
  first | refine b_imul B d_Mo_nodes_7 ?_ | refine a_imul B d_Mo_nodes_7 ?_
  refine a_iconst B d_Mo_nodes_8 ci_1 ?_
  first | refine b_isub B (by omega) d_Mo_nodes_9 ?_ | refine a_isub B d_Mo_nodes_9 ?_
  exact Rt _ _ _ _ d_Mo_nodes_10 ⟨by decide, rfl⟩
theorem d_Mo_bits_0 : decode prog_9_method_19_code 0 = .ok (.iconst 0, 1) := by decide +kernel
theorem d_Mo_bits_1 : decode prog_9_method_19_code 1 = .ok (.istore_n 1, 1) := by decide +kernel
theorem d_Mo_bits_2 : decode prog_9_method_19_code 2 = .ok (.iconst 0, 1) := by decide +kernel
theorem d_Mo_bits_3 : decode prog_9_method_19_code 3 = .ok (.istore_n 2, 1) := by decide +kernel
theorem d_Mo_bits_4 : decode prog_9_method_19_code 4 = .ok (.iload_n 2, 1) := by decide +kernel
theorem d_Mo_bits_5 : decode prog_9_method_19_code 5 = .ok (.bipush 10, 2) := by decide +kernel
theorem d_Mo_bits_7 : decode prog_9_method_19_code 7 = .ok (.if_icmp .ge 17, 3) := by decide +kernel
theorem d_Mo_bits_10 : decode prog_9_method_19_code 10 = .ok (.iload_n 1, 1) := by decide +kernel
theorem d_Mo_bits_11 : decode prog_9_method_19_code 11 = .ok (.iload_n 0, 1) := by decide +kernel
theorem d_Mo_bits_12 : decode prog_9_method_19_code 12 = .ok (.iload_n 2, 1) := by decide +kernel
theorem d_Mo_bits_13 : decode prog_9_method_19_code 13 = .ok (.ishr, 1) := by decide +kernel
theorem d_Mo_bits_14 : decode prog_9_method_19_code 14 = .ok (.iconst 1, 1) := by decide +kernel
theorem d_Mo_bits_15 : decode prog_9_method_19_code 15 = .ok (.iand, 1) := by decide +kernel
theorem d_Mo_bits_16 : decode prog_9_method_19_code 16 = .ok (.iadd, 1) := by decide +kernel
theorem d_Mo_bits_17 : decode prog_9_method_19_code 17 = .ok (.istore_n 1, 1) := by decide +kernel
theorem d_Mo_bits_18 : decode prog_9_method_19_code 18 = .ok (.iinc 2 1, 3) := by decide +kernel
theorem d_Mo_bits_21 : decode prog_9_method_19_code 21 = .ok (.goto (-17), 3) := by decide +kernel
theorem d_Mo_bits_24 : decode prog_9_method_19_code 24 = .ok (.iload_n 1, 1) := by decide +kernel
theorem d_Mo_bits_25 : decode prog_9_method_19_code 25 = .ok (.ireturn, 1) := by decide +kernel
set_option maxHeartbeats 4000000 in
set_option maxRecDepth 20000 in
theorem t_Mo_bits {g : GG} (G : Gok g) {σ : AH} {s : Nat} (hs : s < 1024) : TerI g 0 m_Mo_bits [iV (nI s)] σ (fun r τ => r = nI (cB s) ∧ τ = σ) := by
  refine TerI.mk G (by decide +kernel) rfl (Nat.le_of_ble_eq_true rfl) (fun K B Rt => ?_)
  have B : Cx g K prog_9_method_19_code 3 R_Mo 0 := B
  have Rt : RetI g K prog_9_method_19_code 3 (fun r τ => r = nI (cB s) ∧ τ = σ) := Rt
  show AW g K 3 0 [(0, iV (nI s))] [] σ
  refine a_iconst B d_Mo_bits_0 ci_0 ?_
  refine a_istore_n (lv1 := [(0, _), (1, _)]) B d_Mo_bits_1 rfl (by decide) rfl ?_
  refine a_iconst B d_Mo_bits_2 ci_0 ?_
  refine a_istore_n (lv1 := [(0, _), (1, _), (2, _)]) B d_Mo_bits_3 rfl (by decide) rfl ?_
  refine a_for (lf := fun i => [(0, iV (nI s)), (1, iV (nI (sumTo (fun k => (s >>> k) % 2) i))), (2, iV (nI i))]) (τ := fun i => σ) 10 (fun i hi ihi => ?_) ?_ 0 (Nat.zero_le _)
  · skip
    refine a_iload_n B d_Mo_bits_4 rfl rfl ?_
    refine a_bipush B d_Mo_bits_5 cb_10 ?_
    first | refine b_icmp_ge B 24 d_Mo_bits_7 rfl (by omega) (by omega) (fun c_7 => ?_) (fun c_7 => ?_) | refine a_icmp_ge B 24 d_Mo_bits_7 rfl (fun c_7 => ?_) (fun c_7 => ?_)
    · skip
      exact absurd c_7 (by omega)
    refine a_iload_n B d_Mo_bits_10 rfl rfl ?_
    refine a_iload_n B d_Mo_bits_11 rfl rfl ?_
    refine a_iload_n B d_Mo_bits_12 rfl rfl ?_
    refine a_ishr B d_Mo_bits_13 ?_
    refine a_iconst B d_Mo_bits_14 ci_1 ?_
    refine a_iand B d_Mo_bits_15 ?_
    rw [bit_atN hs (by omega)]
    first | refine b_iadd B d_Mo_bits_16 ?_ | refine a_iadd B d_Mo_bits_16 ?_
    refine a_istore_n (lv1 := [(0, _), (1, _), (2, _)]) B d_Mo_bits_17 rfl (by decide) rfl ?_
    first | refine b_iinc (lv1 := [(0, _), (1, _), (2, _)]) B d_Mo_bits_18 rfl ci_1 (by decide) rfl ?_ | refine a_iinc (lv1 := [(0, _), (1, _), (2, _)]) B d_Mo_bits_18 rfl rfl (by decide) rfl ?_
    refine a_goto B 4 d_Mo_bits_21 rfl ?_
    exact ihi
  · skip
    refine a_iload_n B d_Mo_bits_4 rfl rfl ?_
    refine a_bipush B d_Mo_bits_5 cb_10 ?_
    first | refine b_icmp_ge B 24 d_Mo_bits_7 rfl (by omega) (by omega) (fun c_7 => ?_) (fun c_7 => ?_) | refine a_icmp_ge B 24 d_Mo_bits_7 rfl (fun c_7 => ?_) (fun c_7 => ?_)
    · skip
      refine a_iload_n B d_Mo_bits_24 rfl rfl ?_
      exact Rt _ _ _ _ d_Mo_bits_25 ⟨rfl, rfl⟩
    exact absurd c_7 (by omega)
theorem d_Mo_drop_0 : decode prog_9_method_23_code 0 = .ok (.aload_n 0, 1) := by decide +kernel
theorem d_Mo_drop_1 : decode prog_9_method_23_code 1 = .ok (.iload_n 1, 1) := by decide +kernel
theorem d_Mo_drop_2 : decode prog_9_method_23_code 2 = .ok (.invokevirtual 133, 3) := by decide +kernel
theorem d_Mo_drop_5 : decode prog_9_method_23_code 5 = .ok (.istore_n 2, 1) := by decide +kernel
theorem d_Mo_drop_6 : decode prog_9_method_23_code 6 = .ok (.iload_n 2, 1) := by decide +kernel
theorem d_Mo_drop_7 : decode prog_9_method_23_code 7 = .ok (.ifCond .ge 5, 3) := by decide +kernel
theorem d_Mo_drop_10 : decode prog_9_method_23_code 10 = .ok (.iload_n 2, 1) := by decide +kernel
theorem d_Mo_drop_11 : decode prog_9_method_23_code 11 = .ok (.ireturn, 1) := by decide +kernel
theorem d_Mo_drop_12 : decode prog_9_method_23_code 12 = .ok (.aload_n 0, 1) := by decide +kernel
theorem d_Mo_drop_13 : decode prog_9_method_23_code 13 = .ok (.getfield 23, 3) := by decide +kernel
theorem d_Mo_drop_16 : decode prog_9_method_23_code 16 = .ok (.iload_n 1, 1) := by decide +kernel
theorem d_Mo_drop_17 : decode prog_9_method_23_code 17 = .ok (.iconst 0, 1) := by decide +kernel
theorem d_Mo_drop_18 : decode prog_9_method_23_code 18 = .ok (.iastore, 1) := by decide +kernel
theorem d_Mo_drop_19 : decode prog_9_method_23_code 19 = .ok (.iconst 1, 1) := by decide +kernel
theorem d_Mo_drop_20 : decode prog_9_method_23_code 20 = .ok (.ireturn, 1) := by decide +kernel
set_option maxHeartbeats 4000000 in
set_option maxRecDepth 20000 in
theorem tM_drop {g : GG} (G : Gok g) {σ : AH} {S : Sp} (hS : RelM S σ) (x : Int32) : TerI g 3 m_Mo_drop [rV 106, iV x] σ (fun r τ => r = (sp_drop S x).1 ∧ RelM (sp_drop S x).2 τ ∧ frM σ τ) := by
  refine TerI.mk G (by decide +kernel) rfl (Nat.le_of_ble_eq_true rfl) (fun K B Rt => ?_)
  have B : Cx g K prog_9_method_23_code 3 R_Mo 3 := B
  have Rt : RetI g K prog_9_method_23_code 3 (fun r τ => r = (sp_drop S x).1 ∧ RelM (sp_drop S x).2 τ ∧ frM σ τ) := Rt
  show AW g K 3 0 [(0, rV 106), (1, iV x)] [] σ
  refine a_aload_n B d_Mo_drop_0 rfl rfl ?_
  refine a_iload_n B d_Mo_drop_1 rfl rfl ?_
  refine a_callVI (ci := 7) B (t_Mo_askedFor G hS x) d_Mo_drop_2 ok_Mo_askedFor ml_Mo_133 ly_106 rfl rfl (by decide) (by decide) rfl (Nat.le_of_ble_eq_true rfl) (fun r_2 τ_2 h_2 => ?_)
  rcases h_2 with ⟨q, hq, hr9, hR9, hF9⟩ | ⟨t, hq, hr9, hs9⟩
  · skip
    subst hr9
    refine a_istore_n (lv1 := [(0, _), (1, _), (2, _)]) B d_Mo_drop_5 rfl (by decide) rfl ?_
    refine a_iload_n B d_Mo_drop_6 rfl rfl ?_
    refine a_if_ge B 12 d_Mo_drop_7 rfl (fun c9 => absurd (neg_nz (trQ_neg hq)).2 (Int32.not_lt.mpr c9)) (fun _ => ?_)
    refine a_iload_n B d_Mo_drop_10 rfl rfl ?_
    exact Rt _ _ _ _ d_Mo_drop_11 (by have e : sp_drop S x = q := (by rw [sp_drop, hq]); rw [e]; exact ⟨rfl, hR9, hF9⟩)
  · skip
    subst hr9
    replace hs9 := hs9.symm
    subst hs9
    obtain ⟨ht, rfl, hn⟩ := trQ_ok hq
    obtain ⟨tW, tA, tB, tX⟩ := (hS.2.1 t ht).2 hn
    obtain ⟨a1, a2, a3, a4, a5, a6⟩ := id tA
    have w1 := tW.1
    have w10 := tW.2.1
    refine a_istore_n (lv1 := [(0, _), (1, _), (2, _)]) B d_Mo_drop_5 rfl (by decide) rfl ?_
    refine a_iload_n B d_Mo_drop_6 rfl rfl ?_
    refine b_if_ge B 12 d_Mo_drop_7 rfl (by first | assumption | omega) ?_
    refine a_aload_n B d_Mo_drop_12 rfl rfl ?_
    refine gf_Mo_sizes B d_Mo_drop_13 fl_Mo_23 ?_
    refine a_iload_n B d_Mo_drop_16 rfl rfl ?_
    refine a_iconst B d_Mo_drop_17 ci_0 ?_
    refine a_iast B ly_111 _ rfl (by first | assumption | omega) d_Mo_drop_18 ?_
    refine a_iconst B d_Mo_drop_19 ci_1 ?_
    exact Rt _ _ _ _ d_Mo_drop_20 (by have e : sp_drop S (nI t) = (1, pT S t (0, (sT S t).2)) := (by rw [sp_drop, hq]); rw [e]; exact ⟨rfl, RelM_tree hS ⟨by rw [up1_s, upd_s]; rfl, fun h => absurd rfl h⟩ tfM_sz, tfM_fr tfM_sz⟩)
theorem d_Mo_kindOf_0 : decode prog_9_method_24_code 0 = .ok (.iload_n 2, 1) := by decide +kernel
theorem d_Mo_kindOf_1 : decode prog_9_method_24_code 1 = .ok (.aload_n 0, 1) := by decide +kernel
theorem d_Mo_kindOf_2 : decode prog_9_method_24_code 2 = .ok (.getfield 23, 3) := by decide +kernel
theorem d_Mo_kindOf_5 : decode prog_9_method_24_code 5 = .ok (.iload_n 1, 1) := by decide +kernel
theorem d_Mo_kindOf_6 : decode prog_9_method_24_code 6 = .ok (.iaload, 1) := by decide +kernel
theorem d_Mo_kindOf_7 : decode prog_9_method_24_code 7 = .ok (.if_icmp .ge 7, 3) := by decide +kernel
theorem d_Mo_kindOf_10 : decode prog_9_method_24_code 10 = .ok (.iconst 1, 1) := by decide +kernel
theorem d_Mo_kindOf_11 : decode prog_9_method_24_code 11 = .ok (.goto 22, 3) := by decide +kernel
theorem d_Mo_kindOf_14 : decode prog_9_method_24_code 14 = .ok (.aload_n 0, 1) := by decide +kernel
theorem d_Mo_kindOf_15 : decode prog_9_method_24_code 15 = .ok (.getfield 41, 3) := by decide +kernel
theorem d_Mo_kindOf_18 : decode prog_9_method_24_code 18 = .ok (.bipush 20, 2) := by decide +kernel
theorem d_Mo_kindOf_20 : decode prog_9_method_24_code 20 = .ok (.iload_n 1, 1) := by decide +kernel
theorem d_Mo_kindOf_21 : decode prog_9_method_24_code 21 = .ok (.imul, 1) := by decide +kernel
theorem d_Mo_kindOf_22 : decode prog_9_method_24_code 22 = .ok (.iload_n 2, 1) := by decide +kernel
theorem d_Mo_kindOf_23 : decode prog_9_method_24_code 23 = .ok (.iadd, 1) := by decide +kernel
theorem d_Mo_kindOf_24 : decode prog_9_method_24_code 24 = .ok (.baload, 1) := by decide +kernel
theorem d_Mo_kindOf_25 : decode prog_9_method_24_code 25 = .ok (.ifCond .eq 7, 3) := by decide +kernel
theorem d_Mo_kindOf_28 : decode prog_9_method_24_code 28 = .ok (.iconst 3, 1) := by decide +kernel
theorem d_Mo_kindOf_29 : decode prog_9_method_24_code 29 = .ok (.goto 4, 3) := by decide +kernel
theorem d_Mo_kindOf_32 : decode prog_9_method_24_code 32 = .ok (.iconst 2, 1) := by decide +kernel
theorem d_Mo_kindOf_33 : decode prog_9_method_24_code 33 = .ok (.ireturn, 1) := by decide +kernel
set_option maxHeartbeats 4000000 in
set_option maxRecDepth 20000 in
theorem t_Mo_kindOf {g : GG} (G : Gok g) {σ : AH} {t : Nat} {T : TT} (ht : t < 4) (tW : Wf T) (tA : TmA σ t T) {v : Nat} (hv : v < 2 * tN T - 1) : TerI g 0 m_Mo_kindOf [rV 106, iV (nI t), iV (nI v)] σ (fun r τ => r = nI (kindT T v) ∧ τ = σ) := by
  refine TerI.mk G (by decide +kernel) rfl (Nat.le_of_ble_eq_true rfl) (fun K B Rt => ?_)
  have B : Cx g K prog_9_method_24_code 3 R_Mo 0 := B
  have Rt : RetI g K prog_9_method_24_code 3 (fun r τ => r = nI (kindT T v) ∧ τ = σ) := Rt
  show AW g K 3 0 [(0, rV 106), (1, iV (nI t)), (2, iV (nI v))] [] σ
  obtain ⟨a1, a2, a3, a4, a5, a6⟩ := id tA
  have w1 := tW.1
  have w10 := tW.2.1
  refine a_iload_n B d_Mo_kindOf_0 rfl rfl ?_
  refine a_aload_n B d_Mo_kindOf_1 rfl rfl ?_
  refine gf_Mo_sizes B d_Mo_kindOf_2 fl_Mo_23 ?_
  refine a_iload_n B d_Mo_kindOf_5 rfl rfl ?_
  refine a_iald B ly_111 _ rfl (by first | assumption | omega) d_Mo_kindOf_6 ?_
  rw [a1]
  first | refine b_icmp_ge B 14 d_Mo_kindOf_7 rfl (by omega) (by omega) (fun c_7 => ?_) (fun c_7 => ?_) | refine a_icmp_ge B 14 d_Mo_kindOf_7 rfl (fun c_7 => ?_) (fun c_7 => ?_)
  · skip
    refine a_aload_n B d_Mo_kindOf_14 rfl rfl ?_
    refine gf_Mo_isHeld B d_Mo_kindOf_15 fl_Mo_41 ?_
    refine a_bipush B d_Mo_kindOf_18 cb_20 ?_
    refine a_iload_n B d_Mo_kindOf_20 rfl rfl ?_
    first | refine b_imul B d_Mo_kindOf_21 ?_ | refine a_imul B d_Mo_kindOf_21 ?_
    refine a_iload_n B d_Mo_kindOf_22 rfl rfl ?_
    first | refine b_iadd B d_Mo_kindOf_23 ?_ | refine a_iadd B d_Mo_kindOf_23 ?_
    refine a_zald B ly_117 _ rfl (by first | assumption | omega) d_Mo_kindOf_24 ?_
    rw [a5 v hv]
    first | refine b_if_eq_b B 32 d_Mo_kindOf_25 rfl (fun c_25 => ?_) (fun c_25 => ?_) | refine a_if_eq B 32 d_Mo_kindOf_25 rfl (fun c_25 => ?_) (fun c_25 => ?_)
    · skip
      refine a_iconst B d_Mo_kindOf_32 ci_2 ?_
      exact Rt _ _ _ _ d_Mo_kindOf_33 ⟨by unfold kindT; first | rw [if_pos c_7] | rw [if_neg (Nat.not_lt.mpr c_7), if_pos c_25] | rw [if_neg (Nat.not_lt.mpr c_7), if_neg (by rw [c_25]; decide)], rfl⟩
    refine a_iconst B d_Mo_kindOf_28 ci_3 ?_
    refine a_goto B 33 d_Mo_kindOf_29 rfl ?_
    exact Rt _ _ _ _ d_Mo_kindOf_33 ⟨by unfold kindT; first | rw [if_pos c_7] | rw [if_neg (Nat.not_lt.mpr c_7), if_pos c_25] | rw [if_neg (Nat.not_lt.mpr c_7), if_neg (by rw [c_25]; decide)], rfl⟩
  refine a_iconst B d_Mo_kindOf_10 ci_1 ?_
  refine a_goto B 33 d_Mo_kindOf_11 rfl ?_
  exact Rt _ _ _ _ d_Mo_kindOf_33 ⟨by unfold kindT; first | rw [if_pos c_7] | rw [if_neg (Nat.not_lt.mpr c_7), if_pos c_25] | rw [if_neg (Nat.not_lt.mpr c_7), if_neg (by rw [c_25]; decide)], rfl⟩
theorem d_Mo_tells_0 : decode prog_9_method_25_code 0 = .ok (.bipush 20, 2) := by decide +kernel
theorem d_Mo_tells_2 : decode prog_9_method_25_code 2 = .ok (.iload_n 1, 1) := by decide +kernel
theorem d_Mo_tells_3 : decode prog_9_method_25_code 3 = .ok (.imul, 1) := by decide +kernel
theorem d_Mo_tells_4 : decode prog_9_method_25_code 4 = .ok (.iload_n 2, 1) := by decide +kernel
theorem d_Mo_tells_5 : decode prog_9_method_25_code 5 = .ok (.iadd, 1) := by decide +kernel
theorem d_Mo_tells_6 : decode prog_9_method_25_code 6 = .ok (.istore 4, 2) := by decide +kernel
theorem d_Mo_tells_8 : decode prog_9_method_25_code 8 = .ok (.iload_n 3, 1) := by decide +kernel
theorem d_Mo_tells_9 : decode prog_9_method_25_code 9 = .ok (.tableswitch 77 0 4 #[35, 42, 50, 58, 66], 35) := by decide +kernel
theorem d_Mo_tells_44 : decode prog_9_method_25_code 44 = .ok (.aload_n 0, 1) := by decide +kernel
theorem d_Mo_tells_45 : decode prog_9_method_25_code 45 = .ok (.iload_n 1, 1) := by decide +kernel
theorem d_Mo_tells_46 : decode prog_9_method_25_code 46 = .ok (.iload_n 2, 1) := by decide +kernel
theorem d_Mo_tells_47 : decode prog_9_method_25_code 47 = .ok (.invokevirtual 136, 3) := by decide +kernel
theorem d_Mo_tells_50 : decode prog_9_method_25_code 50 = .ok (.ireturn, 1) := by decide +kernel
theorem d_Mo_tells_51 : decode prog_9_method_25_code 51 = .ok (.aload_n 0, 1) := by decide +kernel
theorem d_Mo_tells_52 : decode prog_9_method_25_code 52 = .ok (.getfield 26, 3) := by decide +kernel
theorem d_Mo_tells_55 : decode prog_9_method_25_code 55 = .ok (.iload 4, 2) := by decide +kernel
theorem d_Mo_tells_57 : decode prog_9_method_25_code 57 = .ok (.iaload, 1) := by decide +kernel
theorem d_Mo_tells_58 : decode prog_9_method_25_code 58 = .ok (.ireturn, 1) := by decide +kernel
theorem d_Mo_tells_59 : decode prog_9_method_25_code 59 = .ok (.aload_n 0, 1) := by decide +kernel
theorem d_Mo_tells_60 : decode prog_9_method_25_code 60 = .ok (.getfield 29, 3) := by decide +kernel
theorem d_Mo_tells_63 : decode prog_9_method_25_code 63 = .ok (.iload 4, 2) := by decide +kernel
theorem d_Mo_tells_65 : decode prog_9_method_25_code 65 = .ok (.iaload, 1) := by decide +kernel
theorem d_Mo_tells_66 : decode prog_9_method_25_code 66 = .ok (.ireturn, 1) := by decide +kernel
theorem d_Mo_tells_67 : decode prog_9_method_25_code 67 = .ok (.aload_n 0, 1) := by decide +kernel
theorem d_Mo_tells_68 : decode prog_9_method_25_code 68 = .ok (.getfield 35, 3) := by decide +kernel
theorem d_Mo_tells_71 : decode prog_9_method_25_code 71 = .ok (.iload 4, 2) := by decide +kernel
theorem d_Mo_tells_73 : decode prog_9_method_25_code 73 = .ok (.iaload, 1) := by decide +kernel
theorem d_Mo_tells_74 : decode prog_9_method_25_code 74 = .ok (.ireturn, 1) := by decide +kernel
theorem d_Mo_tells_75 : decode prog_9_method_25_code 75 = .ok (.aload_n 0, 1) := by decide +kernel
theorem d_Mo_tells_76 : decode prog_9_method_25_code 76 = .ok (.getfield 44, 3) := by decide +kernel
theorem d_Mo_tells_79 : decode prog_9_method_25_code 79 = .ok (.iload 4, 2) := by decide +kernel
theorem d_Mo_tells_81 : decode prog_9_method_25_code 81 = .ok (.iaload, 1) := by decide +kernel
theorem d_Mo_tells_82 : decode prog_9_method_25_code 82 = .ok (.invokestatic 117, 3) := by decide +kernel
theorem d_Mo_tells_85 : decode prog_9_method_25_code 85 = .ok (.ireturn, 1) := by decide +kernel
theorem d_Mo_tells_86 : decode prog_9_method_25_code 86 = .ok (.aload_n 0, 1) := by decide +kernel
theorem d_Mo_tells_87 : decode prog_9_method_25_code 87 = .ok (.getfield 32, 3) := by decide +kernel
theorem d_Mo_tells_90 : decode prog_9_method_25_code 90 = .ok (.iload 4, 2) := by decide +kernel
theorem d_Mo_tells_92 : decode prog_9_method_25_code 92 = .ok (.iaload, 1) := by decide +kernel
theorem d_Mo_tells_93 : decode prog_9_method_25_code 93 = .ok (.ireturn, 1) := by decide +kernel
set_option maxHeartbeats 4000000 in
set_option maxRecDepth 20000 in
theorem t_Mo_tells {g : GG} (G : Gok g) {σ : AH} {t : Nat} {T : TT} (ht : t < 4) (tW : Wf T) (tA : TmA σ t T) (tB : TmB σ t T) {v w : Nat} (hv : v < 2 * tN T - 1) (hw : w < 6) : TerI g 1 m_Mo_tells [rV 106, iV (nI t), iV (nI v), iV (nI w)] σ (fun r τ => r = tellT T v w ∧ τ = σ) := by
  refine TerI.mk G (by decide +kernel) rfl (Nat.le_of_ble_eq_true rfl) (fun K B Rt => ?_)
  have B : Cx g K prog_9_method_25_code 5 R_Mo 1 := B
  have Rt : RetI g K prog_9_method_25_code 5 (fun r τ => r = tellT T v w ∧ τ = σ) := Rt
  show AW g K 5 0 [(0, rV 106), (1, iV (nI t)), (2, iV (nI v)), (3, iV (nI w))] [] σ
  obtain ⟨a1, a2, a3, a4, a5, a6⟩ := id tA
  have w1 := tW.1
  have w10 := tW.2.1
  obtain ⟨b0, b1⟩ := id tB
  refine a_bipush B d_Mo_tells_0 cb_20 ?_
  refine a_iload_n B d_Mo_tells_2 rfl rfl ?_
  first | refine b_imul B d_Mo_tells_3 ?_ | refine a_imul B d_Mo_tells_3 ?_
  refine a_iload_n B d_Mo_tells_4 rfl rfl ?_
  first | refine b_iadd B d_Mo_tells_5 ?_ | refine a_iadd B d_Mo_tells_5 ?_
  refine a_istore (lv1 := [(0, _), (1, _), (2, _), (3, _), (4, _)]) B d_Mo_tells_6 (by decide) rfl ?_
  refine a_iload_n B d_Mo_tells_8 rfl rfl ?_
  rcases (by omega : w = 0 ∨ w = 1 ∨ w = 2 ∨ w = 3 ∨ w = 4 ∨ w = 5) with rfl | rfl | rfl | rfl | rfl | rfl
  · refine a_tableIn B 44 d_Mo_tells_9 (by decide +kernel) (by decide +kernel) (off := 35) (by decide +kernel) (by decide) ?_
    refine a_aload_n B d_Mo_tells_44 rfl rfl ?_
    refine a_iload_n B d_Mo_tells_45 rfl rfl ?_
    refine a_iload_n B d_Mo_tells_46 rfl rfl ?_
    refine a_callVI (ci := 7) B (t_Mo_kindOf G ht tW tA hv) d_Mo_tells_47 ok_Mo_kindOf ml_Mo_136 ly_106 rfl rfl (by decide) (by decide) rfl (Nat.le_of_ble_eq_true rfl) (fun r_47 τ_47 h_47 => ?_)
    obtain ⟨hr_47, hs_47⟩ := h_47
    subst hr_47
    replace hs_47 := hs_47.symm
    subst hs_47
    exact Rt _ _ _ _ d_Mo_tells_50 ⟨rfl, rfl⟩
  · refine a_tableIn B 51 d_Mo_tells_9 (by decide +kernel) (by decide +kernel) (off := 42) (by decide +kernel) (by decide) ?_
    refine a_aload_n B d_Mo_tells_51 rfl rfl ?_
    refine gf_Mo_firsts B d_Mo_tells_52 fl_Mo_26 ?_
    refine a_iload B d_Mo_tells_55 rfl ?_
    refine a_iald B ly_112 _ rfl (by first | assumption | omega) d_Mo_tells_57 ?_
    exact Rt _ _ _ _ d_Mo_tells_58 ⟨by by_cases h : v < tN T; simp [tellT, h, (b0 v h).1]; simp [tellT, h, (b1 v (by omega) hv).1], rfl⟩
  · refine a_tableIn B 59 d_Mo_tells_9 (by decide +kernel) (by decide +kernel) (off := 50) (by decide +kernel) (by decide) ?_
    refine a_aload_n B d_Mo_tells_59 rfl rfl ?_
    refine gf_Mo_others B d_Mo_tells_60 fl_Mo_29 ?_
    refine a_iload B d_Mo_tells_63 rfl ?_
    refine a_iald B ly_113 _ rfl (by first | assumption | omega) d_Mo_tells_65 ?_
    exact Rt _ _ _ _ d_Mo_tells_66 ⟨by by_cases h : v < tN T; simp [tellT, h, (b0 v h).2]; simp [tellT, h, (b1 v (by omega) hv).2], rfl⟩
  · refine a_tableIn B 67 d_Mo_tells_9 (by decide +kernel) (by decide +kernel) (off := 58) (by decide +kernel) (by decide) ?_
    refine a_aload_n B d_Mo_tells_67 rfl rfl ?_
    refine gf_Mo_heights B d_Mo_tells_68 fl_Mo_35 ?_
    refine a_iload B d_Mo_tells_71 rfl ?_
    refine a_iald B ly_115 _ rfl (by first | assumption | omega) d_Mo_tells_73 ?_
    exact Rt _ _ _ _ d_Mo_tells_74 ⟨by simp [tellT, a4 v hv], rfl⟩
  · refine a_tableIn B 75 d_Mo_tells_9 (by decide +kernel) (by decide +kernel) (off := 66) (by decide +kernel) (by decide) ?_
    refine a_aload_n B d_Mo_tells_75 rfl rfl ?_
    refine gf_Mo_below B d_Mo_tells_76 fl_Mo_44 ?_
    refine a_iload B d_Mo_tells_79 rfl ?_
    refine a_iald B ly_118 _ rfl (by first | assumption | omega) d_Mo_tells_81 ?_
    rw [a6 v hv]
    refine a_callSI B (t_Mo_bits G (tW.2.2.2.2.2.2.2.1 v hv)) d_Mo_tells_82 ok_Mo_bits ml_Mo_117 rfl (by decide) (by decide) rfl (Nat.le_of_ble_eq_true rfl) (fun r_82 τ_82 h_82 => ?_)
    obtain ⟨hr_82, hs_82⟩ := h_82
    subst hr_82
    replace hs_82 := hs_82.symm
    subst hs_82
    exact Rt _ _ _ _ d_Mo_tells_85 ⟨rfl, rfl⟩
  · refine a_tableOut B 86 d_Mo_tells_9 (by decide +kernel) (by decide) ?_
    refine a_aload_n B d_Mo_tells_86 rfl rfl ?_
    refine gf_Mo_ups B d_Mo_tells_87 fl_Mo_32 ?_
    refine a_iload B d_Mo_tells_90 rfl ?_
    refine a_iald B ly_114 _ rfl (by first | assumption | omega) d_Mo_tells_92 ?_
    exact Rt _ _ _ _ d_Mo_tells_93 ⟨by by_cases h : v < 2 * tN T - 2; simp [tellT, h, a2 v h]; simp [tellT, show v = 2 * tN T - 2 by omega, a3], rfl⟩
theorem d_Mo_askedNode_0 : decode prog_9_method_26_code 0 = .ok (.aload_n 0, 1) := by decide +kernel
theorem d_Mo_askedNode_1 : decode prog_9_method_26_code 1 = .ok (.iload_n 1, 1) := by decide +kernel
theorem d_Mo_askedNode_2 : decode prog_9_method_26_code 2 = .ok (.invokevirtual 133, 3) := by decide +kernel
theorem d_Mo_askedNode_5 : decode prog_9_method_26_code 5 = .ok (.istore_n 3, 1) := by decide +kernel
theorem d_Mo_askedNode_6 : decode prog_9_method_26_code 6 = .ok (.iload_n 3, 1) := by decide +kernel
theorem d_Mo_askedNode_7 : decode prog_9_method_26_code 7 = .ok (.ifCond .ge 7, 3) := by decide +kernel
theorem d_Mo_askedNode_10 : decode prog_9_method_26_code 10 = .ok (.iload_n 3, 1) := by decide +kernel
theorem d_Mo_askedNode_11 : decode prog_9_method_26_code 11 = .ok (.goto 27, 3) := by decide +kernel
theorem d_Mo_askedNode_14 : decode prog_9_method_26_code 14 = .ok (.iload_n 2, 1) := by decide +kernel
theorem d_Mo_askedNode_15 : decode prog_9_method_26_code 15 = .ok (.iconst 0, 1) := by decide +kernel
theorem d_Mo_askedNode_16 : decode prog_9_method_26_code 16 = .ok (.aload_n 0, 1) := by decide +kernel
theorem d_Mo_askedNode_17 : decode prog_9_method_26_code 17 = .ok (.iload_n 1, 1) := by decide +kernel
theorem d_Mo_askedNode_18 : decode prog_9_method_26_code 18 = .ok (.invokevirtual 123, 3) := by decide +kernel
theorem d_Mo_askedNode_21 : decode prog_9_method_26_code 21 = .ok (.iconst 1, 1) := by decide +kernel
theorem d_Mo_askedNode_22 : decode prog_9_method_26_code 22 = .ok (.isub, 1) := by decide +kernel
theorem d_Mo_askedNode_23 : decode prog_9_method_26_code 23 = .ok (.invokestatic 87, 3) := by decide +kernel
theorem d_Mo_askedNode_26 : decode prog_9_method_26_code 26 = .ok (.ifCond .eq 7, 3) := by decide +kernel
theorem d_Mo_askedNode_29 : decode prog_9_method_26_code 29 = .ok (.iconst 0, 1) := by decide +kernel
theorem d_Mo_askedNode_30 : decode prog_9_method_26_code 30 = .ok (.goto 8, 3) := by decide +kernel
theorem d_Mo_askedNode_33 : decode prog_9_method_26_code 33 = .ok (.aload_n 0, 1) := by decide +kernel
theorem d_Mo_askedNode_34 : decode prog_9_method_26_code 34 = .ok (.iconst 2, 1) := by decide +kernel
theorem d_Mo_askedNode_35 : decode prog_9_method_26_code 35 = .ok (.invokevirtual 95, 3) := by decide +kernel
theorem d_Mo_askedNode_38 : decode prog_9_method_26_code 38 = .ok (.ireturn, 1) := by decide +kernel
set_option maxHeartbeats 4000000 in
set_option maxRecDepth 20000 in
theorem t_Mo_askedNode {g : GG} (G : Gok g) {σ : AH} {S : Sp} (hS : RelM S σ) (x y : Int32) : TerI g 3 m_Mo_askedNode [rV 106, iV x, iV y] σ (PM (ndQ S x y) σ) := by
  refine TerI.mk G (by decide +kernel) rfl (Nat.le_of_ble_eq_true rfl) (fun K B Rt => ?_)
  have B : Cx g K prog_9_method_26_code 4 R_Mo 3 := B
  have Rt : RetI g K prog_9_method_26_code 4 (PM (ndQ S x y) σ) := Rt
  show AW g K 4 0 [(0, rV 106), (1, iV x), (2, iV y)] [] σ
  refine a_aload_n B d_Mo_askedNode_0 rfl rfl ?_
  refine a_iload_n B d_Mo_askedNode_1 rfl rfl ?_
  refine a_callVI (ci := 7) B (t_Mo_askedFor G hS x) d_Mo_askedNode_2 ok_Mo_askedFor ml_Mo_133 ly_106 rfl rfl (by decide) (by decide) rfl (Nat.le_of_ble_eq_true rfl) (fun r_2 τ_2 h_2 => ?_)
  rcases h_2 with ⟨q, hq, hr9, hR9, hF9⟩ | ⟨t, hq, hr9, hs9⟩
  · skip
    subst hr9
    refine a_istore_n (lv1 := [(0, _), (1, _), (2, _), (3, _)]) B d_Mo_askedNode_5 rfl (by decide) rfl ?_
    refine a_iload_n B d_Mo_askedNode_6 rfl rfl ?_
    refine a_if_ge B 14 d_Mo_askedNode_7 rfl (fun c9 => absurd (neg_nz (trQ_neg hq)).2 (Int32.not_lt.mpr c9)) (fun _ => ?_)
    refine a_iload_n B d_Mo_askedNode_10 rfl rfl ?_
    refine a_goto B 38 d_Mo_askedNode_11 rfl ?_
    exact Rt _ _ _ _ d_Mo_askedNode_38 (by first | exact Or.inl ⟨q, by rw [ndQ, hq], rfl, hR9, hF9⟩ | exact Or.inl ⟨RF S 2, (by rw [ndQ, hq]; show (match rngQ _ y with | none => _ | some v => _) = _; rw [hqv]), rfl, RelM_fnd hS (by decide), frM_meet⟩ | exact Or.inr ⟨(t, v), (by rw [ndQ, hq]; show (match rngQ _ y with | none => _ | some v => _) = _; rw [hqv]), rfl, rfl⟩)
  · skip
    subst hr9
    replace hs9 := hs9.symm
    subst hs9
    obtain ⟨ht, rfl, hn⟩ := trQ_ok hq
    obtain ⟨tW, tA, tB, tX⟩ := (hS.2.1 t ht).2 hn
    obtain ⟨a1, a2, a3, a4, a5, a6⟩ := id tA
    have w1 := tW.1
    have w10 := tW.2.1
    refine a_istore_n (lv1 := [(0, _), (1, _), (2, _), (3, _)]) B d_Mo_askedNode_5 rfl (by decide) rfl ?_
    refine a_iload_n B d_Mo_askedNode_6 rfl rfl ?_
    refine b_if_ge B 14 d_Mo_askedNode_7 rfl (by first | assumption | omega) ?_
    refine a_iload_n B d_Mo_askedNode_14 rfl rfl ?_
    refine a_iconst B d_Mo_askedNode_15 ci_0 ?_
    refine a_aload_n B d_Mo_askedNode_16 rfl rfl ?_
    refine a_iload_n B d_Mo_askedNode_17 rfl rfl ?_
    refine a_callVI (ci := 7) B (t_Mo_nodes G ht w1 w10 a1) d_Mo_askedNode_18 ok_Mo_nodes ml_Mo_123 ly_106 rfl rfl (by decide) (by decide) rfl (Nat.le_of_ble_eq_true rfl) (fun r_18 τ_18 h_18 => ?_)
    obtain ⟨hr_18, hs_18⟩ := h_18
    subst hr_18
    replace hs_18 := hs_18.symm
    subst hs_18
    refine a_iconst B d_Mo_askedNode_21 ci_1 ?_
    first | refine b_isub B (by omega) d_Mo_askedNode_22 ?_ | refine a_isub B d_Mo_askedNode_22 ?_
    refine a_callSI B (t_Mo_in G y (nI 0) (nI (2 * tN (sT S t) - 1 - 1))) d_Mo_askedNode_23 ok_Mo_in ml_Mo_87 rfl (by decide) (by decide) rfl (Nat.le_of_ble_eq_true rfl) (fun r_23 τ_23 h_23 => ?_)
    obtain ⟨hr_23, hs_23⟩ := h_23
    subst hr_23
    replace hs_23 := hs_23.symm
    subst hs_23
    first | refine b_if_eq_b B 33 d_Mo_askedNode_26 rfl (fun c_26 => ?_) (fun c_26 => ?_) | refine a_if_eq B 33 d_Mo_askedNode_26 rfl (fun c_26 => ?_) (fun c_26 => ?_)
    · skip
      have hqv := isS_f ((in_rngP (n := 2 * tN (sT S t) - 1) (by omega) (by omega)).symm.trans c_26)
      refine a_aload_n B d_Mo_askedNode_33 rfl rfl ?_
      refine a_iconst B d_Mo_askedNode_34 ci_2 ?_
      refine a_callVI (ci := 7) B (t_Mo_meets G 2 (by decide)) d_Mo_askedNode_35 ok_Mo_meets ml_Mo_95 ly_106 rfl rfl (by decide) (by decide) rfl (Nat.le_of_ble_eq_true rfl) (fun r_35 τ_35 h_35 => ?_)
      obtain ⟨hr_35, hs_35⟩ := h_35
      subst hr_35
      subst hs_35
      exact Rt _ _ _ _ d_Mo_askedNode_38 (by first | exact Or.inl ⟨q, by rw [ndQ, hq], rfl, hR9, hF9⟩ | exact Or.inl ⟨RF S 2, (by rw [ndQ, hq]; show (match rngQ _ y with | none => _ | some v => _) = _; rw [hqv]), rfl, RelM_fnd hS (by decide), frM_meet⟩ | exact Or.inr ⟨(t, v), (by rw [ndQ, hq]; show (match rngQ _ y with | none => _ | some v => _) = _; rw [hqv]), rfl, rfl⟩)
    obtain ⟨v, hqv⟩ := isS_t ((in_rngP (n := 2 * tN (sT S t) - 1) (by omega) (by omega)).symm.trans c_26)
    refine a_iconst B d_Mo_askedNode_29 ci_0 ?_
    refine a_goto B 38 d_Mo_askedNode_30 rfl ?_
    exact Rt _ _ _ _ d_Mo_askedNode_38 (by first | exact Or.inl ⟨q, by rw [ndQ, hq], rfl, hR9, hF9⟩ | exact Or.inl ⟨RF S 2, (by rw [ndQ, hq]; show (match rngQ _ y with | none => _ | some v => _) = _; rw [hqv]), rfl, RelM_fnd hS (by decide), frM_meet⟩ | exact Or.inr ⟨(t, v), (by rw [ndQ, hq]; show (match rngQ _ y with | none => _ | some v => _) = _; rw [hqv]), rfl, rfl⟩)
theorem d_Mo_told_0 : decode prog_9_method_27_code 0 = .ok (.iload_n 3, 1) := by decide +kernel
theorem d_Mo_told_1 : decode prog_9_method_27_code 1 = .ok (.iconst 0, 1) := by decide +kernel
theorem d_Mo_told_2 : decode prog_9_method_27_code 2 = .ok (.iconst 5, 1) := by decide +kernel
theorem d_Mo_told_3 : decode prog_9_method_27_code 3 = .ok (.invokestatic 87, 3) := by decide +kernel
theorem d_Mo_told_6 : decode prog_9_method_27_code 6 = .ok (.ifCond .ne 5, 3) := by decide +kernel
theorem d_Mo_told_9 : decode prog_9_method_27_code 9 = .ok (.iconst (-1), 1) := by decide +kernel
theorem d_Mo_told_10 : decode prog_9_method_27_code 10 = .ok (.ireturn, 1) := by decide +kernel
theorem d_Mo_told_11 : decode prog_9_method_27_code 11 = .ok (.aload_n 0, 1) := by decide +kernel
theorem d_Mo_told_12 : decode prog_9_method_27_code 12 = .ok (.iload_n 1, 1) := by decide +kernel
theorem d_Mo_told_13 : decode prog_9_method_27_code 13 = .ok (.iload_n 2, 1) := by decide +kernel
theorem d_Mo_told_14 : decode prog_9_method_27_code 14 = .ok (.invokevirtual 139, 3) := by decide +kernel
theorem d_Mo_told_17 : decode prog_9_method_27_code 17 = .ok (.istore 4, 2) := by decide +kernel
theorem d_Mo_told_19 : decode prog_9_method_27_code 19 = .ok (.iload 4, 2) := by decide +kernel
theorem d_Mo_told_21 : decode prog_9_method_27_code 21 = .ok (.ifCond .ge 8, 3) := by decide +kernel
theorem d_Mo_told_24 : decode prog_9_method_27_code 24 = .ok (.iload 4, 2) := by decide +kernel
theorem d_Mo_told_26 : decode prog_9_method_27_code 26 = .ok (.goto 10, 3) := by decide +kernel
theorem d_Mo_told_29 : decode prog_9_method_27_code 29 = .ok (.aload_n 0, 1) := by decide +kernel
theorem d_Mo_told_30 : decode prog_9_method_27_code 30 = .ok (.iload_n 1, 1) := by decide +kernel
theorem d_Mo_told_31 : decode prog_9_method_27_code 31 = .ok (.iload_n 2, 1) := by decide +kernel
theorem d_Mo_told_32 : decode prog_9_method_27_code 32 = .ok (.iload_n 3, 1) := by decide +kernel
theorem d_Mo_told_33 : decode prog_9_method_27_code 33 = .ok (.invokevirtual 142, 3) := by decide +kernel
theorem d_Mo_told_36 : decode prog_9_method_27_code 36 = .ok (.ireturn, 1) := by decide +kernel
set_option maxHeartbeats 4000000 in
set_option maxRecDepth 20000 in
theorem tM_told {g : GG} (G : Gok g) {σ : AH} {S : Sp} (hS : RelM S σ) (x y w : Int32) : TerI g 4 m_Mo_told [rV 106, iV x, iV y, iV w] σ (fun r τ => r = (sp_told S x y w).1 ∧ RelM (sp_told S x y w).2 τ ∧ frM σ τ) := by
  refine TerI.mk G (by decide +kernel) rfl (Nat.le_of_ble_eq_true rfl) (fun K B Rt => ?_)
  have B : Cx g K prog_9_method_27_code 5 R_Mo 4 := B
  have Rt : RetI g K prog_9_method_27_code 5 (fun r τ => r = (sp_told S x y w).1 ∧ RelM (sp_told S x y w).2 τ ∧ frM σ τ) := Rt
  show AW g K 5 0 [(0, rV 106), (1, iV x), (2, iV y), (3, iV w)] [] σ
  refine a_iload_n B d_Mo_told_0 rfl rfl ?_
  refine a_iconst B d_Mo_told_1 ci_0 ?_
  refine a_iconst B d_Mo_told_2 ci_5 ?_
  refine a_callSI B (t_Mo_in G w (nI 0) (nI 5)) d_Mo_told_3 ok_Mo_in ml_Mo_87 rfl (by decide) (by decide) rfl (Nat.le_of_ble_eq_true rfl) (fun r_3 τ_3 h_3 => ?_)
  obtain ⟨hr_3, hs_3⟩ := h_3
  subst hr_3
  replace hs_3 := hs_3.symm
  subst hs_3
  first | refine b_if_ne_b B 11 d_Mo_told_6 rfl (fun c_6 => ?_) (fun c_6 => ?_) | refine a_if_ne B 11 d_Mo_told_6 rfl (fun c_6 => ?_) (fun c_6 => ?_)
  · skip
    obtain ⟨k, hqk⟩ := isS_t ((in_rngP (n := 6) (by decide) (by decide)).symm.trans c_6)
    obtain ⟨hk, rfl⟩ := rngQ_some (by decide) hqk
    refine a_aload_n B d_Mo_told_11 rfl rfl ?_
    refine a_iload_n B d_Mo_told_12 rfl rfl ?_
    refine a_iload_n B d_Mo_told_13 rfl rfl ?_
    refine a_callVI (ci := 7) B (t_Mo_askedNode G hS x y) d_Mo_told_14 ok_Mo_askedNode ml_Mo_139 ly_106 rfl rfl (by decide) (by decide) rfl (Nat.le_of_ble_eq_true rfl) (fun r_14 τ_14 h_14 => ?_)
    rcases h_14 with ⟨q, hq, hr9, hR9, hF9⟩ | ⟨q9, hq, hr9, hs9⟩
    · skip
      subst hr9
      refine a_istore (lv1 := [(0, _), (1, _), (2, _), (3, _), (4, _)]) B d_Mo_told_17 (by decide) rfl ?_
      refine a_iload B d_Mo_told_19 rfl ?_
      refine a_if_ge B 29 d_Mo_told_21 rfl (fun c9 => absurd (neg_nz (ndQ_neg hq)).2 (Int32.not_lt.mpr c9)) (fun _ => ?_)
      refine a_iload B d_Mo_told_24 rfl ?_
      refine a_goto B 36 d_Mo_told_26 rfl ?_
      exact Rt _ _ _ _ d_Mo_told_36 (by first | (have e : sp_told S x y (nI k) = q := (by rw [sp_told, hqk]; show (match ndQ S x y with | .inl r => r | .inr q => _) = _; rw [hq]); rw [e]; exact ⟨rfl, hR9, hF9⟩) | (have e : sp_told S (nI t) (nI v) (nI k) = (tellT (sT S t) v k, S) := (by rw [sp_told, hqk]; show (match ndQ S (nI t) (nI v) with | .inl r => r | .inr q => _) = _; rw [hq]); rw [e]; exact ⟨rfl, hS, fun _ _ => rfl⟩))
    · skip
      subst hr9
      replace hs9 := hs9.symm
      subst hs9
      obtain ⟨t, v⟩ := q9
      obtain ⟨ht, hx9, hn, hv, hy9⟩ := ndQ_ok hq (tM_le hS (ndQ_t hq))
      dsimp only at ht hx9 hn hv hy9
      subst hx9
      subst hy9
      obtain ⟨tW, tA, tB, tX⟩ := (hS.2.1 t ht).2 hn
      obtain ⟨a1, a2, a3, a4, a5, a6⟩ := id tA
      have w1 := tW.1
      have w10 := tW.2.1
      refine a_istore (lv1 := [(0, _), (1, _), (2, _), (3, _), (4, _)]) B d_Mo_told_17 (by decide) rfl ?_
      refine a_iload B d_Mo_told_19 rfl ?_
      refine b_if_ge B 29 d_Mo_told_21 rfl (by first | assumption | omega) ?_
      refine a_aload_n B d_Mo_told_29 rfl rfl ?_
      refine a_iload_n B d_Mo_told_30 rfl rfl ?_
      refine a_iload_n B d_Mo_told_31 rfl rfl ?_
      refine a_iload_n B d_Mo_told_32 rfl rfl ?_
      refine a_callVI (ci := 7) B (t_Mo_tells G ht tW tA tB hv hk) d_Mo_told_33 ok_Mo_tells ml_Mo_142 ly_106 rfl rfl (by decide) (by decide) rfl (Nat.le_of_ble_eq_true rfl) (fun r_33 τ_33 h_33 => ?_)
      obtain ⟨hr_33, hs_33⟩ := h_33
      subst hr_33
      replace hs_33 := hs_33.symm
      subst hs_33
      exact Rt _ _ _ _ d_Mo_told_36 (by first | (have e : sp_told S x y (nI k) = q := (by rw [sp_told, hqk]; show (match ndQ S x y with | .inl r => r | .inr q => _) = _; rw [hq]); rw [e]; exact ⟨rfl, hR9, hF9⟩) | (have e : sp_told S (nI t) (nI v) (nI k) = (tellT (sT S t) v k, S) := (by rw [sp_told, hqk]; show (match ndQ S (nI t) (nI v) with | .inl r => r | .inr q => _) = _; rw [hq]); rw [e]; exact ⟨rfl, hS, fun _ _ => rfl⟩))
  have hqk := isS_f ((in_rngP (n := 6) (by decide) (by decide)).symm.trans c_6)
  refine a_iconst B d_Mo_told_9 ci_m1 ?_
  exact Rt _ _ _ _ d_Mo_told_10 (by have e : sp_told S x y w = RB S := (by rw [sp_told, hqk]); rw [e]; exact ⟨rfl, hS, (fun _ _ => rfl)⟩)
theorem d_Mo_askedTwo_0 : decode prog_9_method_44_code 0 = .ok (.iload_n 1, 1) := by decide +kernel
theorem d_Mo_askedTwo_1 : decode prog_9_method_44_code 1 = .ok (.invokestatic 111, 3) := by decide +kernel
theorem d_Mo_askedTwo_4 : decode prog_9_method_44_code 4 = .ok (.ifCond .eq 10, 3) := by decide +kernel
theorem d_Mo_askedTwo_7 : decode prog_9_method_44_code 7 = .ok (.iload_n 2, 1) := by decide +kernel
theorem d_Mo_askedTwo_8 : decode prog_9_method_44_code 8 = .ok (.invokestatic 111, 3) := by decide +kernel
theorem d_Mo_askedTwo_11 : decode prog_9_method_44_code 11 = .ok (.ifCond .ne 5, 3) := by decide +kernel
theorem d_Mo_askedTwo_14 : decode prog_9_method_44_code 14 = .ok (.iconst (-1), 1) := by decide +kernel
theorem d_Mo_askedTwo_15 : decode prog_9_method_44_code 15 = .ok (.ireturn, 1) := by decide +kernel
theorem d_Mo_askedTwo_16 : decode prog_9_method_44_code 16 = .ok (.aload_n 0, 1) := by decide +kernel
theorem d_Mo_askedTwo_17 : decode prog_9_method_44_code 17 = .ok (.getfield 23, 3) := by decide +kernel
theorem d_Mo_askedTwo_20 : decode prog_9_method_44_code 20 = .ok (.iload_n 1, 1) := by decide +kernel
theorem d_Mo_askedTwo_21 : decode prog_9_method_44_code 21 = .ok (.iaload, 1) := by decide +kernel
theorem d_Mo_askedTwo_22 : decode prog_9_method_44_code 22 = .ok (.ifCond .eq 12, 3) := by decide +kernel
theorem d_Mo_askedTwo_25 : decode prog_9_method_44_code 25 = .ok (.aload_n 0, 1) := by decide +kernel
theorem d_Mo_askedTwo_26 : decode prog_9_method_44_code 26 = .ok (.getfield 23, 3) := by decide +kernel
theorem d_Mo_askedTwo_29 : decode prog_9_method_44_code 29 = .ok (.iload_n 2, 1) := by decide +kernel
theorem d_Mo_askedTwo_30 : decode prog_9_method_44_code 30 = .ok (.iaload, 1) := by decide +kernel
theorem d_Mo_askedTwo_31 : decode prog_9_method_44_code 31 = .ok (.ifCond .ne 11, 3) := by decide +kernel
theorem d_Mo_askedTwo_34 : decode prog_9_method_44_code 34 = .ok (.aload_n 0, 1) := by decide +kernel
theorem d_Mo_askedTwo_35 : decode prog_9_method_44_code 35 = .ok (.iconst 1, 1) := by decide +kernel
theorem d_Mo_askedTwo_36 : decode prog_9_method_44_code 36 = .ok (.invokevirtual 95, 3) := by decide +kernel
theorem d_Mo_askedTwo_39 : decode prog_9_method_44_code 39 = .ok (.goto 24, 3) := by decide +kernel
theorem d_Mo_askedTwo_42 : decode prog_9_method_44_code 42 = .ok (.aload_n 0, 1) := by decide +kernel
theorem d_Mo_askedTwo_43 : decode prog_9_method_44_code 43 = .ok (.getfield 23, 3) := by decide +kernel
theorem d_Mo_askedTwo_46 : decode prog_9_method_44_code 46 = .ok (.iload_n 1, 1) := by decide +kernel
theorem d_Mo_askedTwo_47 : decode prog_9_method_44_code 47 = .ok (.iaload, 1) := by decide +kernel
theorem d_Mo_askedTwo_48 : decode prog_9_method_44_code 48 = .ok (.aload_n 0, 1) := by decide +kernel
theorem d_Mo_askedTwo_49 : decode prog_9_method_44_code 49 = .ok (.getfield 23, 3) := by decide +kernel
theorem d_Mo_askedTwo_52 : decode prog_9_method_44_code 52 = .ok (.iload_n 2, 1) := by decide +kernel
theorem d_Mo_askedTwo_53 : decode prog_9_method_44_code 53 = .ok (.iaload, 1) := by decide +kernel
theorem d_Mo_askedTwo_54 : decode prog_9_method_44_code 54 = .ok (.if_icmp .eq 8, 3) := by decide +kernel
theorem d_Mo_askedTwo_57 : decode prog_9_method_44_code 57 = .ok (.bipush (-4), 2) := by decide +kernel
theorem d_Mo_askedTwo_59 : decode prog_9_method_44_code 59 = .ok (.goto 4, 3) := by decide +kernel
theorem d_Mo_askedTwo_62 : decode prog_9_method_44_code 62 = .ok (.iconst 0, 1) := by decide +kernel
theorem d_Mo_askedTwo_63 : decode prog_9_method_44_code 63 = .ok (.ireturn, 1) := by decide +kernel
set_option maxHeartbeats 4000000 in
set_option maxRecDepth 20000 in
theorem t_Mo_askedTwo {g : GG} (G : Gok g) {σ : AH} {S : Sp} (hS : RelM S σ) (x y : Int32) : TerI g 2 m_Mo_askedTwo [rV 106, iV x, iV y] σ (PM (prQ S x y) σ) := by
  refine TerI.mk G (by decide +kernel) rfl (Nat.le_of_ble_eq_true rfl) (fun K B Rt => ?_)
  have B : Cx g K prog_9_method_44_code 3 R_Mo 2 := B
  have Rt : RetI g K prog_9_method_44_code 3 (PM (prQ S x y) σ) := Rt
  show AW g K 3 0 [(0, rV 106), (1, iV x), (2, iV y)] [] σ
  refine a_iload_n B d_Mo_askedTwo_0 rfl rfl ?_
  refine a_callSI B (t_Mo_isTree G x) d_Mo_askedTwo_1 ok_Mo_isTree ml_Mo_111 rfl (by decide) (by decide) rfl (Nat.le_of_ble_eq_true rfl) (fun r_1 τ_1 h_1 => ?_)
  obtain ⟨hr_1, hs_1⟩ := h_1
  subst hr_1
  replace hs_1 := hs_1.symm
  subst hs_1
  first | refine b_if_eq_b B 14 d_Mo_askedTwo_4 rfl (fun c_4 => ?_) (fun c_4 => ?_) | refine a_if_eq B 14 d_Mo_askedTwo_4 rfl (fun c_4 => ?_) (fun c_4 => ?_)
  · skip
    have hqt := isS_f c_4
    refine a_iconst B d_Mo_askedTwo_14 ci_m1 ?_
    exact Rt _ _ _ _ d_Mo_askedTwo_15 (Or.inl ⟨RB S, (by first | (rw [prQ, hqt]; done) | (rw [prQ, hqu]; split <;> first | rfl | (rename_i h9; cases h9) | simp_all)), rfl, hS, fun _ _ => rfl⟩)
  obtain ⟨t, hqt⟩ := isS_t c_4
  obtain ⟨ht, rfl⟩ := rngQ_some (by omega) hqt
  refine a_iload_n B d_Mo_askedTwo_7 rfl rfl ?_
  refine a_callSI B (t_Mo_isTree G y) d_Mo_askedTwo_8 ok_Mo_isTree ml_Mo_111 rfl (by decide) (by decide) rfl (Nat.le_of_ble_eq_true rfl) (fun r_8 τ_8 h_8 => ?_)
  obtain ⟨hr_8, hs_8⟩ := h_8
  subst hr_8
  replace hs_8 := hs_8.symm
  subst hs_8
  first | refine b_if_ne_b B 16 d_Mo_askedTwo_11 rfl (fun c_11 => ?_) (fun c_11 => ?_) | refine a_if_ne B 16 d_Mo_askedTwo_11 rfl (fun c_11 => ?_) (fun c_11 => ?_)
  · skip
    obtain ⟨u, hqu⟩ := isS_t c_11
    obtain ⟨hu, rfl⟩ := rngQ_some (by omega) hqu
    have wt := tM_le hS ht
    have wu := tM_le hS hu
    refine a_aload_n B d_Mo_askedTwo_16 rfl rfl ?_
    refine gf_Mo_sizes B d_Mo_askedTwo_17 fl_Mo_23 ?_
    refine a_iload_n B d_Mo_askedTwo_20 rfl rfl ?_
    refine a_iald B ly_111 _ rfl (by first | assumption | omega) d_Mo_askedTwo_21 ?_
    rw [(hS.2.1 t ht).1]
    first | refine b_if_eq_b B 34 d_Mo_askedTwo_22 rfl (fun c_22 => ?_) (fun c_22 => ?_) | refine a_if_eq B 34 d_Mo_askedTwo_22 rfl (fun c_22 => ?_) (fun c_22 => ?_)
    · skip
      have hnt : tN (sT S t) = 0 := nI_z (by have := tM_le hS ht; omega) c_22
      refine a_aload_n B d_Mo_askedTwo_34 rfl rfl ?_
      refine a_iconst B d_Mo_askedTwo_35 ci_1 ?_
      refine a_callVI (ci := 7) B (t_Mo_meets G 1 (by decide)) d_Mo_askedTwo_36 ok_Mo_meets ml_Mo_95 ly_106 rfl rfl (by decide) (by decide) rfl (Nat.le_of_ble_eq_true rfl) (fun r_36 τ_36 h_36 => ?_)
      obtain ⟨hr_36, hs_36⟩ := h_36
      subst hr_36
      subst hs_36
      refine a_goto B 63 d_Mo_askedTwo_39 rfl ?_
      exact Rt _ _ _ _ d_Mo_askedTwo_63 (by first | exact Or.inl ⟨RF S 1, (by rw [prQ, hqt, hqu]; exact if_pos (by first | exact Or.inl hnt | exact Or.inr hnu)), rfl, RelM_fnd hS (by decide), frM_meet⟩ | exact Or.inl ⟨RS S, (by rw [prQ, hqt, hqu]; show (if _ then _ else _) = _; rw [if_neg (fun q => q.elim hnt hnu)]; exact if_neg c_54), rfl, hS, fun _ _ => rfl⟩ | exact Or.inr ⟨(t, u), (by rw [prQ, hqt, hqu]; show (if _ then _ else _) = _; rw [if_neg (fun q => q.elim hnt hnu)]; exact if_pos c_54), rfl, rfl⟩)
    have hnt : tN (sT S t) ≠ 0 := fun q => c_22 (by rw [q]; rfl)
    refine a_aload_n B d_Mo_askedTwo_25 rfl rfl ?_
    refine gf_Mo_sizes B d_Mo_askedTwo_26 fl_Mo_23 ?_
    refine a_iload_n B d_Mo_askedTwo_29 rfl rfl ?_
    refine a_iald B ly_111 _ rfl (by first | assumption | omega) d_Mo_askedTwo_30 ?_
    rw [(hS.2.1 u hu).1]
    first | refine b_if_ne_b B 42 d_Mo_askedTwo_31 rfl (fun c_31 => ?_) (fun c_31 => ?_) | refine a_if_ne B 42 d_Mo_askedTwo_31 rfl (fun c_31 => ?_) (fun c_31 => ?_)
    · skip
      have hnu : tN (sT S u) ≠ 0 := fun q => c_31 (by rw [q]; rfl)
      refine a_aload_n B d_Mo_askedTwo_42 rfl rfl ?_
      refine gf_Mo_sizes B d_Mo_askedTwo_43 fl_Mo_23 ?_
      refine a_iload_n B d_Mo_askedTwo_46 rfl rfl ?_
      refine a_iald B ly_111 _ rfl (by first | assumption | omega) d_Mo_askedTwo_47 ?_
      rw [(hS.2.1 t ht).1]
      refine a_aload_n B d_Mo_askedTwo_48 rfl rfl ?_
      refine gf_Mo_sizes B d_Mo_askedTwo_49 fl_Mo_23 ?_
      refine a_iload_n B d_Mo_askedTwo_52 rfl rfl ?_
      refine a_iald B ly_111 _ rfl (by first | assumption | omega) d_Mo_askedTwo_53 ?_
      rw [(hS.2.1 u hu).1]
      first | refine b_icmp_eq B 62 d_Mo_askedTwo_54 rfl (by omega) (by omega) (fun c_54 => ?_) (fun c_54 => ?_) | refine a_icmp_eq B 62 d_Mo_askedTwo_54 rfl (fun c_54 => ?_) (fun c_54 => ?_)
      · skip
        refine a_iconst B d_Mo_askedTwo_62 ci_0 ?_
        exact Rt _ _ _ _ d_Mo_askedTwo_63 (by first | exact Or.inl ⟨RF S 1, (by rw [prQ, hqt, hqu]; exact if_pos (by first | exact Or.inl hnt | exact Or.inr hnu)), rfl, RelM_fnd hS (by decide), frM_meet⟩ | exact Or.inl ⟨RS S, (by rw [prQ, hqt, hqu]; show (if _ then _ else _) = _; rw [if_neg (fun q => q.elim hnt hnu)]; exact if_neg c_54), rfl, hS, fun _ _ => rfl⟩ | exact Or.inr ⟨(t, u), (by rw [prQ, hqt, hqu]; show (if _ then _ else _) = _; rw [if_neg (fun q => q.elim hnt hnu)]; exact if_pos c_54), rfl, rfl⟩)
      refine a_bipush B d_Mo_askedTwo_57 cb_m4 ?_
      refine a_goto B 63 d_Mo_askedTwo_59 rfl ?_
      exact Rt _ _ _ _ d_Mo_askedTwo_63 (by first | exact Or.inl ⟨RF S 1, (by rw [prQ, hqt, hqu]; exact if_pos (by first | exact Or.inl hnt | exact Or.inr hnu)), rfl, RelM_fnd hS (by decide), frM_meet⟩ | exact Or.inl ⟨RS S, (by rw [prQ, hqt, hqu]; show (if _ then _ else _) = _; rw [if_neg (fun q => q.elim hnt hnu)]; exact if_neg c_54), rfl, hS, fun _ _ => rfl⟩ | exact Or.inr ⟨(t, u), (by rw [prQ, hqt, hqu]; show (if _ then _ else _) = _; rw [if_neg (fun q => q.elim hnt hnu)]; exact if_pos c_54), rfl, rfl⟩)
    have hnu : tN (sT S u) = 0 := nI_z (by have := tM_le hS hu; omega) c_31
    refine a_aload_n B d_Mo_askedTwo_34 rfl rfl ?_
    refine a_iconst B d_Mo_askedTwo_35 ci_1 ?_
    refine a_callVI (ci := 7) B (t_Mo_meets G 1 (by decide)) d_Mo_askedTwo_36 ok_Mo_meets ml_Mo_95 ly_106 rfl rfl (by decide) (by decide) rfl (Nat.le_of_ble_eq_true rfl) (fun r_36 τ_36 h_36 => ?_)
    obtain ⟨hr_36, hs_36⟩ := h_36
    subst hr_36
    subst hs_36
    refine a_goto B 63 d_Mo_askedTwo_39 rfl ?_
    exact Rt _ _ _ _ d_Mo_askedTwo_63 (by first | exact Or.inl ⟨RF S 1, (by rw [prQ, hqt, hqu]; exact if_pos (by first | exact Or.inl hnt | exact Or.inr hnu)), rfl, RelM_fnd hS (by decide), frM_meet⟩ | exact Or.inl ⟨RS S, (by rw [prQ, hqt, hqu]; show (if _ then _ else _) = _; rw [if_neg (fun q => q.elim hnt hnu)]; exact if_neg c_54), rfl, hS, fun _ _ => rfl⟩ | exact Or.inr ⟨(t, u), (by rw [prQ, hqt, hqu]; show (if _ then _ else _) = _; rw [if_neg (fun q => q.elim hnt hnu)]; exact if_pos c_54), rfl, rfl⟩)
  have hqu := isS_f c_11
  refine a_iconst B d_Mo_askedTwo_14 ci_m1 ?_
  exact Rt _ _ _ _ d_Mo_askedTwo_15 (Or.inl ⟨RB S, (by first | (rw [prQ, hqt]; done) | (rw [prQ, hqu]; split <;> first | rfl | (rename_i h9; cases h9) | simp_all)), rfl, hS, fun _ _ => rfl⟩)
def flipM (σ : AH) (t j : Nat) : AH := up1 (up1 σ 112 (upd (σ.1 112) (20 * t + j) (σ.1 113 (20 * t + j)))) 113 (upd (σ.1 113) (20 * t + j) (σ.1 112 (20 * t + j)))
theorem flipM_o {σ : AH} {t j k : Nat} (h2 : k ≠ 112) (h3 : k ≠ 113) : (flipM σ t j).1 k = σ.1 k := by
  unfold flipM
  rw [up1_o h3, up1_o h2]
theorem flipM_2 {σ : AH} {t j : Nat} : (flipM σ t j).1 112 = upd (σ.1 112) (20 * t + j) (σ.1 113 (20 * t + j)) := by
  unfold flipM
  rw [up1_o (by decide), up1_s]
theorem flipM_3 {σ : AH} {t j : Nat} : (flipM σ t j).1 113 = upd (σ.1 113) (20 * t + j) (σ.1 112 (20 * t + j)) := by
  unfold flipM
  rw [up1_s]
theorem tfM_flip {σ : AH} {t j : Nat} (hj : j < 20) : tfM t σ (flipM σ t j) := by
  refine ⟨fun k a b c d => flipM_o (by omega) (by omega), fun k _ _ => by rw [flipM_o (by decide) (by decide)], fun t' ht => ⟨by rw [flipM_o (by decide) (by decide)], fun k v q1 q2 q3 => ?_⟩⟩
  by_cases e2 : k = 112
  · rw [e2, flipM_2, upd_o (by omega)]
  · by_cases e3 : k = 113
    · rw [e3, flipM_3, upd_o (by omega)]
    · rw [flipM_o e2 e3]
theorem TmA.fl {σ τ : AH} {t : Nat} {T : TT} (h : TmA σ t T) (e : ∀ k, k ≠ 112 → k ≠ 113 → k ≠ 116 → 111 ≤ k → k ≤ 118 → τ.1 k = σ.1 k) : TmA τ t T := by
  unfold TmA at h ⊢
  rw [e 111 (by decide) (by decide) (by decide) (by decide) (by decide), e 114 (by decide) (by decide) (by decide) (by decide) (by decide), e 115 (by decide) (by decide) (by decide) (by decide) (by decide), e 117 (by decide) (by decide) (by decide) (by decide) (by decide), e 118 (by decide) (by decide) (by decide) (by decide) (by decide)]
  exact h
theorem TmB_flip {σ : AH} {t j : Nat} {T : TT} {f f' : Nat → Bool} (hB : TmB σ t (turnBy T f)) (h1 : tN T ≤ j) (h2 : j < 2 * tN T - 1) (hj : f' j = !f j) (ho : ∀ v, v ≠ j → f' v = f v) : TmB (flipM σ t j) t (turnBy T f') := by
  obtain ⟨b0, b1⟩ := hB
  refine ⟨fun l hl => ?_, fun v hv hv2 => ?_⟩
  · have hl : l < tN T := hl
    rw [flipM_2, flipM_3, upd_o (by omega), upd_o (by omega)]
    exact b0 l hl
  · have hv : tN T ≤ v := hv
    have hv2 : v < 2 * tN T - 1 := hv2
    have q := b1 v hv hv2
    rw [flipM_2, flipM_3]
    by_cases e : v = j
    · subst e
      rw [upd_s, upd_s, q.1, q.2]
      show nI (if f v then tL T v else tR T v) = nI (if f' v then tR T v else tL T v) ∧ nI (if f v then tR T v else tL T v) = nI (if f' v then tL T v else tR T v)
      rw [hj]
      cases f v <;> exact ⟨rfl, rfl⟩
    · rw [upd_o (by omega), upd_o (by omega), q.1, q.2]
      show nI (if f v then tR T v else tL T v) = nI (if f' v then tR T v else tL T v) ∧ nI (if f v then tL T v else tR T v) = nI (if f' v then tL T v else tR T v)
      rw [ho v e]
      exact ⟨rfl, rfl⟩
theorem d_Mo_flip_0 : decode prog_9_method_31_code 0 = .ok (.bipush 20, 2) := by decide +kernel
theorem d_Mo_flip_2 : decode prog_9_method_31_code 2 = .ok (.iload_n 1, 1) := by decide +kernel
theorem d_Mo_flip_3 : decode prog_9_method_31_code 3 = .ok (.imul, 1) := by decide +kernel
theorem d_Mo_flip_4 : decode prog_9_method_31_code 4 = .ok (.iload_n 2, 1) := by decide +kernel
theorem d_Mo_flip_5 : decode prog_9_method_31_code 5 = .ok (.iadd, 1) := by decide +kernel
theorem d_Mo_flip_6 : decode prog_9_method_31_code 6 = .ok (.istore_n 3, 1) := by decide +kernel
theorem d_Mo_flip_7 : decode prog_9_method_31_code 7 = .ok (.aload_n 0, 1) := by decide +kernel
theorem d_Mo_flip_8 : decode prog_9_method_31_code 8 = .ok (.getfield 26, 3) := by decide +kernel
theorem d_Mo_flip_11 : decode prog_9_method_31_code 11 = .ok (.iload_n 3, 1) := by decide +kernel
theorem d_Mo_flip_12 : decode prog_9_method_31_code 12 = .ok (.iaload, 1) := by decide +kernel
theorem d_Mo_flip_13 : decode prog_9_method_31_code 13 = .ok (.istore 4, 2) := by decide +kernel
theorem d_Mo_flip_15 : decode prog_9_method_31_code 15 = .ok (.aload_n 0, 1) := by decide +kernel
theorem d_Mo_flip_16 : decode prog_9_method_31_code 16 = .ok (.getfield 26, 3) := by decide +kernel
theorem d_Mo_flip_19 : decode prog_9_method_31_code 19 = .ok (.iload_n 3, 1) := by decide +kernel
theorem d_Mo_flip_20 : decode prog_9_method_31_code 20 = .ok (.aload_n 0, 1) := by decide +kernel
theorem d_Mo_flip_21 : decode prog_9_method_31_code 21 = .ok (.getfield 29, 3) := by decide +kernel
theorem d_Mo_flip_24 : decode prog_9_method_31_code 24 = .ok (.iload_n 3, 1) := by decide +kernel
theorem d_Mo_flip_25 : decode prog_9_method_31_code 25 = .ok (.iaload, 1) := by decide +kernel
theorem d_Mo_flip_26 : decode prog_9_method_31_code 26 = .ok (.iastore, 1) := by decide +kernel
theorem d_Mo_flip_27 : decode prog_9_method_31_code 27 = .ok (.aload_n 0, 1) := by decide +kernel
theorem d_Mo_flip_28 : decode prog_9_method_31_code 28 = .ok (.getfield 29, 3) := by decide +kernel
theorem d_Mo_flip_31 : decode prog_9_method_31_code 31 = .ok (.iload_n 3, 1) := by decide +kernel
theorem d_Mo_flip_32 : decode prog_9_method_31_code 32 = .ok (.iload 4, 2) := by decide +kernel
theorem d_Mo_flip_34 : decode prog_9_method_31_code 34 = .ok (.iastore, 1) := by decide +kernel
theorem d_Mo_flip_35 : decode prog_9_method_31_code 35 = .ok (.return_, 1) := by decide +kernel
set_option maxHeartbeats 4000000 in
set_option maxRecDepth 20000 in
theorem t_Mo_flip {g : GG} (G : Gok g) {σ : AH} {t j : Nat} (ht : t < 4) (hj : j < 20) : TerV g 0 m_Mo_flip [rV 106, iV (nI t), iV (nI j)] σ (fun τ => τ = flipM σ t j) := by
  refine TerV.mk G (by decide +kernel) rfl (Nat.le_of_ble_eq_true rfl) (fun K B Rt => ?_)
  have B : Cx g K prog_9_method_31_code 5 R_Mo 0 := B
  have Rt : RetV g K prog_9_method_31_code 5 (fun τ => τ = flipM σ t j) := Rt
  show AW g K 5 0 [(0, rV 106), (1, iV (nI t)), (2, iV (nI j))] [] σ
  refine a_bipush B d_Mo_flip_0 cb_20 ?_
  refine a_iload_n B d_Mo_flip_2 rfl rfl ?_
  first | refine b_imul B d_Mo_flip_3 ?_ | refine a_imul B d_Mo_flip_3 ?_
  refine a_iload_n B d_Mo_flip_4 rfl rfl ?_
  first | refine b_iadd B d_Mo_flip_5 ?_ | refine a_iadd B d_Mo_flip_5 ?_
  refine a_istore_n (lv1 := [(0, _), (1, _), (2, _), (3, _)]) B d_Mo_flip_6 rfl (by decide) rfl ?_
  refine a_aload_n B d_Mo_flip_7 rfl rfl ?_
  refine gf_Mo_firsts B d_Mo_flip_8 fl_Mo_26 ?_
  refine a_iload_n B d_Mo_flip_11 rfl rfl ?_
  refine a_iald B ly_112 _ rfl (by first | assumption | omega) d_Mo_flip_12 ?_
  refine a_istore (lv1 := [(0, _), (1, _), (2, _), (3, _), (4, _)]) B d_Mo_flip_13 (by decide) rfl ?_
  refine a_aload_n B d_Mo_flip_15 rfl rfl ?_
  refine gf_Mo_firsts B d_Mo_flip_16 fl_Mo_26 ?_
  refine a_iload_n B d_Mo_flip_19 rfl rfl ?_
  refine a_aload_n B d_Mo_flip_20 rfl rfl ?_
  refine gf_Mo_others B d_Mo_flip_21 fl_Mo_29 ?_
  refine a_iload_n B d_Mo_flip_24 rfl rfl ?_
  refine a_iald B ly_113 _ rfl (by first | assumption | omega) d_Mo_flip_25 ?_
  refine a_iast B ly_112 _ rfl (by first | assumption | omega) d_Mo_flip_26 ?_
  refine a_aload_n B d_Mo_flip_27 rfl rfl ?_
  refine gf_Mo_others B d_Mo_flip_28 fl_Mo_29 ?_
  refine a_iload_n B d_Mo_flip_31 rfl rfl ?_
  refine a_iload B d_Mo_flip_32 rfl ?_
  refine a_iast B ly_113 _ rfl (by first | assumption | omega) d_Mo_flip_34 ?_
  rw [up1_o (show 113 ≠ 112 by decide)]
  exact Rt _ _ _ d_Mo_flip_35 rfl
theorem jnQ_nd {S : Sp} {x y : Int32} {q : An} (h : ndQ S x y = .inl q) : jnQ S x y = .inl q := by rw [jnQ, h]
theorem jnQ_lf {S : Sp} {x y : Int32} {t v : Nat} (h : ndQ S x y = .inr (t, v)) (hl : v < tN (sT S t)) : jnQ S x y = .inl (RF S 3) := by rw [jnQ, h]; exact if_pos hl
theorem jnQ_jn {S : Sp} {x y : Int32} {t v : Nat} (h : ndQ S x y = .inr (t, v)) (hl : tN (sT S t) ≤ v) : jnQ S x y = .inr (t, v) := by rw [jnQ, h]; exact if_neg (Nat.not_lt.mpr hl)
def turnM (σ : AH) (t j : Nat) : AH := up1 (flipM σ t j) 116 (upd (σ.1 116) (20 * t + j) (σ.1 116 (20 * t + j) + 1))
theorem tfM_turn {σ : AH} {t j : Nat} (hj : j < 20) : tfM t σ (turnM σ t j) := by
  refine tfM_tr (tfM_flip hj) ?_
  have h := tfM_up (t := t) (σ := flipM σ t j) (x := σ.1 116 (20 * t + j) + 1) (show 111 < 116 by decide) (by decide) hj
  rw [show (flipM σ t j).1 116 = σ.1 116 from flipM_o (by decide) (by decide)] at h
  exact h
theorem turnM_o {σ : AH} {t j k : Nat} (h2 : k ≠ 112) (h3 : k ≠ 113) (h6 : k ≠ 116) : (turnM σ t j).1 k = σ.1 k := by
  unfold turnM
  rw [up1_o h6, flipM_o h2 h3]
theorem TmB_turn {σ : AH} {t j : Nat} {T : TT} {f f' : Nat → Bool} (hB : TmB σ t (flipsBy T f)) (hC : TmC σ t (flipsBy T f)) (h1 : tN T ≤ j) (h2 : j < 2 * tN T - 1) (hn : tN T ≤ 10) (hf : f j = false) (hj : f' j = true) (ho : ∀ v, v ≠ j → f' v = f v) : TmB (turnM σ t j) t (flipsBy T f') ∧ TmC (turnM σ t j) t (flipsBy T f') := by
  have hB' : TmB (flipM σ t j) t (turnBy T f') := TmB_flip (f := f) hB h1 h2 (by rw [hf, hj]; rfl) ho
  refine ⟨⟨fun l hl => ?_, fun v hv hv2 => ?_⟩, fun v hv => ?_⟩
  · unfold turnM
    rw [up1_o (by decide), up1_o (by decide)]
    exact hB'.1 l hl
  · unfold turnM
    rw [up1_o (by decide), up1_o (by decide)]
    exact hB'.2 v hv hv2
  · have q := hC v hv
    unfold turnM
    rw [up1_s]
    show _ = if f' v then tC T v + 1 else tC T v
    by_cases e : v = j
    · subst e
      rw [upd_s, q, hj]
      show (if f v then tC T v + 1 else tC T v) + 1 = _
      rw [hf]
      rfl
    · rw [upd_o (by omega), q, ho v e]
      rfl
theorem d_Mo_turn_0 : decode prog_9_method_32_code 0 = .ok (.aload_n 0, 1) := by decide +kernel
theorem d_Mo_turn_1 : decode prog_9_method_32_code 1 = .ok (.iload_n 1, 1) := by decide +kernel
theorem d_Mo_turn_2 : decode prog_9_method_32_code 2 = .ok (.iload_n 2, 1) := by decide +kernel
theorem d_Mo_turn_3 : decode prog_9_method_32_code 3 = .ok (.invokevirtual 139, 3) := by decide +kernel
theorem d_Mo_turn_6 : decode prog_9_method_32_code 6 = .ok (.istore_n 3, 1) := by decide +kernel
theorem d_Mo_turn_7 : decode prog_9_method_32_code 7 = .ok (.iload_n 3, 1) := by decide +kernel
theorem d_Mo_turn_8 : decode prog_9_method_32_code 8 = .ok (.ifCond .ge 5, 3) := by decide +kernel
theorem d_Mo_turn_11 : decode prog_9_method_32_code 11 = .ok (.iload_n 3, 1) := by decide +kernel
theorem d_Mo_turn_12 : decode prog_9_method_32_code 12 = .ok (.ireturn, 1) := by decide +kernel
theorem d_Mo_turn_13 : decode prog_9_method_32_code 13 = .ok (.iload_n 2, 1) := by decide +kernel
theorem d_Mo_turn_14 : decode prog_9_method_32_code 14 = .ok (.aload_n 0, 1) := by decide +kernel
theorem d_Mo_turn_15 : decode prog_9_method_32_code 15 = .ok (.getfield 23, 3) := by decide +kernel
theorem d_Mo_turn_18 : decode prog_9_method_32_code 18 = .ok (.iload_n 1, 1) := by decide +kernel
theorem d_Mo_turn_19 : decode prog_9_method_32_code 19 = .ok (.iaload, 1) := by decide +kernel
theorem d_Mo_turn_20 : decode prog_9_method_32_code 20 = .ok (.if_icmp .ge 9, 3) := by decide +kernel
theorem d_Mo_turn_23 : decode prog_9_method_32_code 23 = .ok (.aload_n 0, 1) := by decide +kernel
theorem d_Mo_turn_24 : decode prog_9_method_32_code 24 = .ok (.iconst 3, 1) := by decide +kernel
theorem d_Mo_turn_25 : decode prog_9_method_32_code 25 = .ok (.invokevirtual 95, 3) := by decide +kernel
theorem d_Mo_turn_28 : decode prog_9_method_32_code 28 = .ok (.ireturn, 1) := by decide +kernel
theorem d_Mo_turn_29 : decode prog_9_method_32_code 29 = .ok (.aload_n 0, 1) := by decide +kernel
theorem d_Mo_turn_30 : decode prog_9_method_32_code 30 = .ok (.getfield 41, 3) := by decide +kernel
theorem d_Mo_turn_33 : decode prog_9_method_32_code 33 = .ok (.bipush 20, 2) := by decide +kernel
theorem d_Mo_turn_35 : decode prog_9_method_32_code 35 = .ok (.iload_n 1, 1) := by decide +kernel
theorem d_Mo_turn_36 : decode prog_9_method_32_code 36 = .ok (.imul, 1) := by decide +kernel
theorem d_Mo_turn_37 : decode prog_9_method_32_code 37 = .ok (.iload_n 2, 1) := by decide +kernel
theorem d_Mo_turn_38 : decode prog_9_method_32_code 38 = .ok (.iadd, 1) := by decide +kernel
theorem d_Mo_turn_39 : decode prog_9_method_32_code 39 = .ok (.baload, 1) := by decide +kernel
theorem d_Mo_turn_40 : decode prog_9_method_32_code 40 = .ok (.ifCond .eq 6, 3) := by decide +kernel
theorem d_Mo_turn_43 : decode prog_9_method_32_code 43 = .ok (.bipush (-4), 2) := by decide +kernel
theorem d_Mo_turn_45 : decode prog_9_method_32_code 45 = .ok (.ireturn, 1) := by decide +kernel
theorem d_Mo_turn_46 : decode prog_9_method_32_code 46 = .ok (.aload_n 0, 1) := by decide +kernel
theorem d_Mo_turn_47 : decode prog_9_method_32_code 47 = .ok (.iload_n 1, 1) := by decide +kernel
theorem d_Mo_turn_48 : decode prog_9_method_32_code 48 = .ok (.iload_n 2, 1) := by decide +kernel
theorem d_Mo_turn_49 : decode prog_9_method_32_code 49 = .ok (.invokevirtual 153, 3) := by decide +kernel
theorem d_Mo_turn_52 : decode prog_9_method_32_code 52 = .ok (.aload_n 0, 1) := by decide +kernel
theorem d_Mo_turn_53 : decode prog_9_method_32_code 53 = .ok (.getfield 38, 3) := by decide +kernel
theorem d_Mo_turn_56 : decode prog_9_method_32_code 56 = .ok (.bipush 20, 2) := by decide +kernel
theorem d_Mo_turn_58 : decode prog_9_method_32_code 58 = .ok (.iload_n 1, 1) := by decide +kernel
theorem d_Mo_turn_59 : decode prog_9_method_32_code 59 = .ok (.imul, 1) := by decide +kernel
theorem d_Mo_turn_60 : decode prog_9_method_32_code 60 = .ok (.iload_n 2, 1) := by decide +kernel
theorem d_Mo_turn_61 : decode prog_9_method_32_code 61 = .ok (.iadd, 1) := by decide +kernel
theorem d_Mo_turn_62 : decode prog_9_method_32_code 62 = .ok (.dup2, 1) := by decide +kernel
theorem d_Mo_turn_63 : decode prog_9_method_32_code 63 = .ok (.iaload, 1) := by decide +kernel
theorem d_Mo_turn_64 : decode prog_9_method_32_code 64 = .ok (.iconst 1, 1) := by decide +kernel
theorem d_Mo_turn_65 : decode prog_9_method_32_code 65 = .ok (.iadd, 1) := by decide +kernel
theorem d_Mo_turn_66 : decode prog_9_method_32_code 66 = .ok (.iastore, 1) := by decide +kernel
theorem d_Mo_turn_67 : decode prog_9_method_32_code 67 = .ok (.aload_n 0, 1) := by decide +kernel
theorem d_Mo_turn_68 : decode prog_9_method_32_code 68 = .ok (.getfield 38, 3) := by decide +kernel
theorem d_Mo_turn_71 : decode prog_9_method_32_code 71 = .ok (.bipush 20, 2) := by decide +kernel
theorem d_Mo_turn_73 : decode prog_9_method_32_code 73 = .ok (.iload_n 1, 1) := by decide +kernel
theorem d_Mo_turn_74 : decode prog_9_method_32_code 74 = .ok (.imul, 1) := by decide +kernel
theorem d_Mo_turn_75 : decode prog_9_method_32_code 75 = .ok (.iload_n 2, 1) := by decide +kernel
theorem d_Mo_turn_76 : decode prog_9_method_32_code 76 = .ok (.iadd, 1) := by decide +kernel
theorem d_Mo_turn_77 : decode prog_9_method_32_code 77 = .ok (.iaload, 1) := by decide +kernel
theorem d_Mo_turn_78 : decode prog_9_method_32_code 78 = .ok (.ireturn, 1) := by decide +kernel
set_option maxHeartbeats 4000000 in
set_option maxRecDepth 20000 in
theorem tM_turn {g : GG} (G : Gok g) {σ : AH} {S : Sp} (hS : RelM S σ) (x y : Int32) : TerI g 4 m_Mo_turn [rV 106, iV x, iV y] σ (fun r τ => r = (sp_turn S x y).1 ∧ RelM (sp_turn S x y).2 τ ∧ frM σ τ) := by
  refine TerI.mk G (by decide +kernel) rfl (Nat.le_of_ble_eq_true rfl) (fun K B Rt => ?_)
  have B : Cx g K prog_9_method_32_code 4 R_Mo 4 := B
  have Rt : RetI g K prog_9_method_32_code 4 (fun r τ => r = (sp_turn S x y).1 ∧ RelM (sp_turn S x y).2 τ ∧ frM σ τ) := Rt
  show AW g K 4 0 [(0, rV 106), (1, iV x), (2, iV y)] [] σ
  refine a_aload_n B d_Mo_turn_0 rfl rfl ?_
  refine a_iload_n B d_Mo_turn_1 rfl rfl ?_
  refine a_iload_n B d_Mo_turn_2 rfl rfl ?_
  refine a_callVI (ci := 7) B (t_Mo_askedNode G hS x y) d_Mo_turn_3 ok_Mo_askedNode ml_Mo_139 ly_106 rfl rfl (by decide) (by decide) rfl (Nat.le_of_ble_eq_true rfl) (fun r_3 τ_3 h_3 => ?_)
  rcases h_3 with ⟨q, hq, hr9, hR9, hF9⟩ | ⟨q9, hq, hr9, hs9⟩
  · skip
    subst hr9
    refine a_istore_n (lv1 := [(0, _), (1, _), (2, _), (3, _)]) B d_Mo_turn_6 rfl (by decide) rfl ?_
    refine a_iload_n B d_Mo_turn_7 rfl rfl ?_
    refine a_if_ge B 13 d_Mo_turn_8 rfl (fun c9 => absurd (neg_nz (ndQ_neg hq)).2 (Int32.not_lt.mpr c9)) (fun _ => ?_)
    refine a_iload_n B d_Mo_turn_11 rfl rfl ?_
    exact Rt _ _ _ _ d_Mo_turn_12 (by have e : sp_turn S x y = q := (by rw [sp_turn, jnQ_nd hq]); rw [e]; exact ⟨rfl, hR9, hF9⟩)
  · skip
    subst hr9
    replace hs9 := hs9.symm
    subst hs9
    obtain ⟨t, v⟩ := q9
    obtain ⟨ht, hx9, hn, hv, hy9⟩ := ndQ_ok hq (tM_le hS (ndQ_t hq))
    dsimp only at ht hx9 hn hv hy9
    subst hx9
    subst hy9
    obtain ⟨tW, tA, tB, tX⟩ := (hS.2.1 t ht).2 hn
    obtain ⟨a1, a2, a3, a4, a5, a6⟩ := id tA
    have w1 := tW.1
    have w10 := tW.2.1
    refine a_istore_n (lv1 := [(0, _), (1, _), (2, _), (3, _)]) B d_Mo_turn_6 rfl (by decide) rfl ?_
    refine a_iload_n B d_Mo_turn_7 rfl rfl ?_
    refine b_if_ge B 13 d_Mo_turn_8 rfl (by first | assumption | omega) ?_
    refine a_iload_n B d_Mo_turn_13 rfl rfl ?_
    refine a_aload_n B d_Mo_turn_14 rfl rfl ?_
    refine gf_Mo_sizes B d_Mo_turn_15 fl_Mo_23 ?_
    refine a_iload_n B d_Mo_turn_18 rfl rfl ?_
    refine a_iald B ly_111 _ rfl (by first | assumption | omega) d_Mo_turn_19 ?_
    rw [a1]
    first | refine b_icmp_ge B 29 d_Mo_turn_20 rfl (by omega) (by omega) (fun c_20 => ?_) (fun c_20 => ?_) | refine a_icmp_ge B 29 d_Mo_turn_20 rfl (fun c_20 => ?_) (fun c_20 => ?_)
    · skip
      refine a_aload_n B d_Mo_turn_29 rfl rfl ?_
      refine gf_Mo_isHeld B d_Mo_turn_30 fl_Mo_41 ?_
      refine a_bipush B d_Mo_turn_33 cb_20 ?_
      refine a_iload_n B d_Mo_turn_35 rfl rfl ?_
      first | refine b_imul B d_Mo_turn_36 ?_ | refine a_imul B d_Mo_turn_36 ?_
      refine a_iload_n B d_Mo_turn_37 rfl rfl ?_
      first | refine b_iadd B d_Mo_turn_38 ?_ | refine a_iadd B d_Mo_turn_38 ?_
      refine a_zald B ly_117 _ rfl (by first | assumption | omega) d_Mo_turn_39 ?_
      rw [a5 v hv]
      first | refine b_if_eq_b B 46 d_Mo_turn_40 rfl (fun c_40 => ?_) (fun c_40 => ?_) | refine a_if_eq B 46 d_Mo_turn_40 rfl (fun c_40 => ?_) (fun c_40 => ?_)
      · skip
        refine a_aload_n B d_Mo_turn_46 rfl rfl ?_
        refine a_iload_n B d_Mo_turn_47 rfl rfl ?_
        refine a_iload_n B d_Mo_turn_48 rfl rfl ?_
        refine a_callVV (ci := 7) B (t_Mo_flip G ht (j := v) (by omega)) d_Mo_turn_49 ok_Mo_flip ml_Mo_153 ly_106 rfl rfl (by decide) (by decide) rfl (Nat.le_of_ble_eq_true rfl) (fun τ_49 h_49 => ?_)
        subst h_49
        refine a_aload_n B d_Mo_turn_52 rfl rfl ?_
        refine gf_Mo_turned B d_Mo_turn_53 fl_Mo_38 ?_
        refine a_bipush B d_Mo_turn_56 cb_20 ?_
        refine a_iload_n B d_Mo_turn_58 rfl rfl ?_
        first | refine b_imul B d_Mo_turn_59 ?_ | refine a_imul B d_Mo_turn_59 ?_
        refine a_iload_n B d_Mo_turn_60 rfl rfl ?_
        first | refine b_iadd B d_Mo_turn_61 ?_ | refine a_iadd B d_Mo_turn_61 ?_
        refine a_dup2 B d_Mo_turn_62 rfl rfl ?_
        refine a_iald B ly_116 _ rfl (by first | assumption | omega) d_Mo_turn_63 ?_
        rw [flipM_o (by decide) (by decide)]
        refine a_iconst B d_Mo_turn_64 ci_1 ?_
        first | refine b_iadd B d_Mo_turn_65 ?_ | refine a_iadd B d_Mo_turn_65 ?_
        refine a_iast B ly_116 _ rfl (by first | assumption | omega) d_Mo_turn_66 ?_
        rw [flipM_o (k := 116) (by decide) (by decide)]
        rw [show up1 (flipM σ t v) 116 (upd (σ.1 116) (20 * t + v) (σ.1 116 (20 * t + v) + nI 1)) = turnM σ t v from rfl]
        have hBC := TmB_turn (σ := σ) (t := t) (j := v) (T := sT S t) (f := fun _ => false) (f' := fun w => decide (w = v)) (by rw [flipsBy_no (fun _ => rfl)]; exact tB) (by rw [flipsBy_no (fun _ => rfl)]; exact tX) c_20 hv w10 rfl (by simp) (fun w hw => by simp [hw])
        refine a_aload_n B d_Mo_turn_67 rfl rfl ?_
        refine gf_Mo_turned B d_Mo_turn_68 fl_Mo_38 ?_
        refine a_bipush B d_Mo_turn_71 cb_20 ?_
        refine a_iload_n B d_Mo_turn_73 rfl rfl ?_
        first | refine b_imul B d_Mo_turn_74 ?_ | refine a_imul B d_Mo_turn_74 ?_
        refine a_iload_n B d_Mo_turn_75 rfl rfl ?_
        first | refine b_iadd B d_Mo_turn_76 ?_ | refine a_iadd B d_Mo_turn_76 ?_
        refine a_iald B ly_116 _ rfl (by first | assumption | omega) d_Mo_turn_77 ?_
        rw [hBC.2 v hv, show tC (flipsBy (sT S t) (fun w => decide (w = v))) v = tC (sT S t) v + 1 from if_pos (by simp)]
        exact Rt _ _ _ _ d_Mo_turn_78 (by have e : sp_turn S (nI t) (nI v) = (tC (sT S t) v + 1, pT S t (flipsBy (sT S t) (fun w => decide (w = v)))) := (by rw [sp_turn, jnQ_jn hq c_20]; exact if_neg (by rw [c_40]; decide)); rw [e]; exact ⟨rfl, RelM_tree hS ⟨by rw [turnM_o (by decide) (by decide) (by decide)]; exact a1, fun _ => ⟨Wf_flips tW, tA.fl (fun k q2 q3 q6 _ _ => turnM_o q2 q3 q6), hBC.1, hBC.2⟩⟩ (tfM_turn (by omega)), tfM_fr (tfM_turn (by omega))⟩)
      refine a_bipush B d_Mo_turn_43 cb_m4 ?_
      exact Rt _ _ _ _ d_Mo_turn_45 (by have e : sp_turn S (nI t) (nI v) = RS S := (by rw [sp_turn, jnQ_jn hq c_20]; exact if_pos c_40); rw [e]; exact ⟨rfl, hS, (fun _ _ => rfl)⟩)
    refine a_aload_n B d_Mo_turn_23 rfl rfl ?_
    refine a_iconst B d_Mo_turn_24 ci_3 ?_
    refine a_callVI (ci := 7) B (t_Mo_meets G 3 (by decide)) d_Mo_turn_25 ok_Mo_meets ml_Mo_95 ly_106 rfl rfl (by decide) (by decide) rfl (Nat.le_of_ble_eq_true rfl) (fun r_25 τ_25 h_25 => ?_)
    obtain ⟨hr_25, hs_25⟩ := h_25
    subst hr_25
    subst hs_25
    exact Rt _ _ _ _ d_Mo_turn_28 (by have e : sp_turn S (nI t) (nI v) = RF S 3 := (by rw [sp_turn, jnQ_lf hq c_20]); rw [e]; exact ⟨rfl, RelM_fnd hS (by decide), frM_meet⟩)
theorem hold_TrM {σ : AH} {t v : Nat} {T : TT} {b : Bool} (hW : Wf T) (hv : v < 2 * tN T - 1) (hA : TmA σ t T) (hB : TmB σ t T) (hC : TmC σ t T) : TrM (up1 σ 117 (upd (σ.1 117) (20 * t + v) (bI b))) t (heldBy T v b) := by
  have e : ∀ k, k ≠ 117 → (up1 σ 117 (upd (σ.1 117) (20 * t + v) (bI b))).1 k = σ.1 k := fun k q => up1_o q
  have w10 := hW.2.1
  obtain ⟨a1, a2, a3, a4, a5, a6⟩ := hA
  refine ⟨by rw [e _ (by decide)]; exact a1, fun _ => ⟨hW, ⟨by rw [e _ (by decide)]; exact a1, by rw [e _ (by decide)]; exact a2, by rw [e _ (by decide)]; exact a3, by rw [e _ (by decide)]; exact a4, fun w hw => ?_, by rw [e _ (by decide)]; exact a6⟩, ⟨by rw [e _ (by decide), e _ (by decide)]; exact hB.1, by rw [e _ (by decide), e _ (by decide)]; exact hB.2⟩, fun w hw => by rw [e _ (by decide)]; exact hC w hw⟩⟩
  rw [up1_s]
  show _ = bI (va_up (tD T) v b w)
  by_cases e9 : w = v
  · rw [e9, upd_s, va_up_s]
  · rw [upd_o (by omega), va_up_o e9]; exact a5 w hw
theorem d_Mo_hold_0 : decode prog_9_method_33_code 0 = .ok (.aload_n 0, 1) := by decide +kernel
theorem d_Mo_hold_1 : decode prog_9_method_33_code 1 = .ok (.iload_n 1, 1) := by decide +kernel
theorem d_Mo_hold_2 : decode prog_9_method_33_code 2 = .ok (.iload_n 2, 1) := by decide +kernel
theorem d_Mo_hold_3 : decode prog_9_method_33_code 3 = .ok (.invokevirtual 139, 3) := by decide +kernel
theorem d_Mo_hold_6 : decode prog_9_method_33_code 6 = .ok (.istore 4, 2) := by decide +kernel
theorem d_Mo_hold_8 : decode prog_9_method_33_code 8 = .ok (.iload 4, 2) := by decide +kernel
theorem d_Mo_hold_10 : decode prog_9_method_33_code 10 = .ok (.ifCond .ge 6, 3) := by decide +kernel
theorem d_Mo_hold_13 : decode prog_9_method_33_code 13 = .ok (.iload 4, 2) := by decide +kernel
theorem d_Mo_hold_15 : decode prog_9_method_33_code 15 = .ok (.ireturn, 1) := by decide +kernel
theorem d_Mo_hold_16 : decode prog_9_method_33_code 16 = .ok (.iload_n 2, 1) := by decide +kernel
theorem d_Mo_hold_17 : decode prog_9_method_33_code 17 = .ok (.aload_n 0, 1) := by decide +kernel
theorem d_Mo_hold_18 : decode prog_9_method_33_code 18 = .ok (.getfield 23, 3) := by decide +kernel
theorem d_Mo_hold_21 : decode prog_9_method_33_code 21 = .ok (.iload_n 1, 1) := by decide +kernel
theorem d_Mo_hold_22 : decode prog_9_method_33_code 22 = .ok (.iaload, 1) := by decide +kernel
theorem d_Mo_hold_23 : decode prog_9_method_33_code 23 = .ok (.if_icmp .ge 9, 3) := by decide +kernel
theorem d_Mo_hold_26 : decode prog_9_method_33_code 26 = .ok (.aload_n 0, 1) := by decide +kernel
theorem d_Mo_hold_27 : decode prog_9_method_33_code 27 = .ok (.iconst 3, 1) := by decide +kernel
theorem d_Mo_hold_28 : decode prog_9_method_33_code 28 = .ok (.invokevirtual 95, 3) := by decide +kernel
theorem d_Mo_hold_31 : decode prog_9_method_33_code 31 = .ok (.ireturn, 1) := by decide +kernel
theorem d_Mo_hold_32 : decode prog_9_method_33_code 32 = .ok (.aload_n 0, 1) := by decide +kernel
theorem d_Mo_hold_33 : decode prog_9_method_33_code 33 = .ok (.getfield 41, 3) := by decide +kernel
theorem d_Mo_hold_36 : decode prog_9_method_33_code 36 = .ok (.bipush 20, 2) := by decide +kernel
theorem d_Mo_hold_38 : decode prog_9_method_33_code 38 = .ok (.iload_n 1, 1) := by decide +kernel
theorem d_Mo_hold_39 : decode prog_9_method_33_code 39 = .ok (.imul, 1) := by decide +kernel
theorem d_Mo_hold_40 : decode prog_9_method_33_code 40 = .ok (.iload_n 2, 1) := by decide +kernel
theorem d_Mo_hold_41 : decode prog_9_method_33_code 41 = .ok (.iadd, 1) := by decide +kernel
theorem d_Mo_hold_42 : decode prog_9_method_33_code 42 = .ok (.baload, 1) := by decide +kernel
theorem d_Mo_hold_43 : decode prog_9_method_33_code 43 = .ok (.ifCond .eq 7, 3) := by decide +kernel
theorem d_Mo_hold_46 : decode prog_9_method_33_code 46 = .ok (.iconst 1, 1) := by decide +kernel
theorem d_Mo_hold_47 : decode prog_9_method_33_code 47 = .ok (.goto 4, 3) := by decide +kernel
theorem d_Mo_hold_50 : decode prog_9_method_33_code 50 = .ok (.iconst 0, 1) := by decide +kernel
theorem d_Mo_hold_51 : decode prog_9_method_33_code 51 = .ok (.istore 5, 2) := by decide +kernel
theorem d_Mo_hold_53 : decode prog_9_method_33_code 53 = .ok (.aload_n 0, 1) := by decide +kernel
theorem d_Mo_hold_54 : decode prog_9_method_33_code 54 = .ok (.getfield 41, 3) := by decide +kernel
theorem d_Mo_hold_57 : decode prog_9_method_33_code 57 = .ok (.bipush 20, 2) := by decide +kernel
theorem d_Mo_hold_59 : decode prog_9_method_33_code 59 = .ok (.iload_n 1, 1) := by decide +kernel
theorem d_Mo_hold_60 : decode prog_9_method_33_code 60 = .ok (.imul, 1) := by decide +kernel
theorem d_Mo_hold_61 : decode prog_9_method_33_code 61 = .ok (.iload_n 2, 1) := by decide +kernel
theorem d_Mo_hold_62 : decode prog_9_method_33_code 62 = .ok (.iadd, 1) := by decide +kernel
theorem d_Mo_hold_63 : decode prog_9_method_33_code 63 = .ok (.iload_n 3, 1) := by decide +kernel
theorem d_Mo_hold_64 : decode prog_9_method_33_code 64 = .ok (.bastore, 1) := by decide +kernel
theorem d_Mo_hold_65 : decode prog_9_method_33_code 65 = .ok (.iload 5, 2) := by decide +kernel
theorem d_Mo_hold_67 : decode prog_9_method_33_code 67 = .ok (.ireturn, 1) := by decide +kernel
set_option maxHeartbeats 4000000 in
set_option maxRecDepth 20000 in
theorem tM_hold {g : GG} (G : Gok g) {σ : AH} {S : Sp} (hS : RelM S σ) (x y : Int32) (b : Bool) : TerI g 4 m_Mo_hold [rV 106, iV x, iV y, iV (bI b)] σ (fun r τ => r = (sp_hold S x y b).1 ∧ RelM (sp_hold S x y b).2 τ ∧ frM σ τ) := by
  refine TerI.mk G (by decide +kernel) rfl (Nat.le_of_ble_eq_true rfl) (fun K B Rt => ?_)
  have B : Cx g K prog_9_method_33_code 6 R_Mo 4 := B
  have Rt : RetI g K prog_9_method_33_code 6 (fun r τ => r = (sp_hold S x y b).1 ∧ RelM (sp_hold S x y b).2 τ ∧ frM σ τ) := Rt
  show AW g K 6 0 [(0, rV 106), (1, iV x), (2, iV y), (3, iV (bI b))] [] σ
  refine a_aload_n B d_Mo_hold_0 rfl rfl ?_
  refine a_iload_n B d_Mo_hold_1 rfl rfl ?_
  refine a_iload_n B d_Mo_hold_2 rfl rfl ?_
  refine a_callVI (ci := 7) B (t_Mo_askedNode G hS x y) d_Mo_hold_3 ok_Mo_askedNode ml_Mo_139 ly_106 rfl rfl (by decide) (by decide) rfl (Nat.le_of_ble_eq_true rfl) (fun r_3 τ_3 h_3 => ?_)
  rcases h_3 with ⟨q, hq, hr9, hR9, hF9⟩ | ⟨q9, hq, hr9, hs9⟩
  · skip
    subst hr9
    refine a_istore (lv1 := [(0, _), (1, _), (2, _), (3, _), (4, _)]) B d_Mo_hold_6 (by decide) rfl ?_
    refine a_iload B d_Mo_hold_8 rfl ?_
    refine a_if_ge B 16 d_Mo_hold_10 rfl (fun c9 => absurd (neg_nz (ndQ_neg hq)).2 (Int32.not_lt.mpr c9)) (fun _ => ?_)
    refine a_iload B d_Mo_hold_13 rfl ?_
    exact Rt _ _ _ _ d_Mo_hold_15 (by have e : sp_hold S x y b = q := (by rw [sp_hold, jnQ_nd hq]); rw [e]; exact ⟨rfl, hR9, hF9⟩)
  · skip
    subst hr9
    replace hs9 := hs9.symm
    subst hs9
    obtain ⟨t, v⟩ := q9
    obtain ⟨ht, hx9, hn, hv, hy9⟩ := ndQ_ok hq (tM_le hS (ndQ_t hq))
    dsimp only at ht hx9 hn hv hy9
    subst hx9
    subst hy9
    obtain ⟨tW, tA, tB, tX⟩ := (hS.2.1 t ht).2 hn
    obtain ⟨a1, a2, a3, a4, a5, a6⟩ := id tA
    have w1 := tW.1
    have w10 := tW.2.1
    refine a_istore (lv1 := [(0, _), (1, _), (2, _), (3, _), (4, _)]) B d_Mo_hold_6 (by decide) rfl ?_
    refine a_iload B d_Mo_hold_8 rfl ?_
    refine b_if_ge B 16 d_Mo_hold_10 rfl (by first | assumption | omega) ?_
    refine a_iload_n B d_Mo_hold_16 rfl rfl ?_
    refine a_aload_n B d_Mo_hold_17 rfl rfl ?_
    refine gf_Mo_sizes B d_Mo_hold_18 fl_Mo_23 ?_
    refine a_iload_n B d_Mo_hold_21 rfl rfl ?_
    refine a_iald B ly_111 _ rfl (by first | assumption | omega) d_Mo_hold_22 ?_
    rw [a1]
    first | refine b_icmp_ge B 32 d_Mo_hold_23 rfl (by omega) (by omega) (fun c_23 => ?_) (fun c_23 => ?_) | refine a_icmp_ge B 32 d_Mo_hold_23 rfl (fun c_23 => ?_) (fun c_23 => ?_)
    · skip
      refine a_aload_n B d_Mo_hold_32 rfl rfl ?_
      refine gf_Mo_isHeld B d_Mo_hold_33 fl_Mo_41 ?_
      refine a_bipush B d_Mo_hold_36 cb_20 ?_
      refine a_iload_n B d_Mo_hold_38 rfl rfl ?_
      first | refine b_imul B d_Mo_hold_39 ?_ | refine a_imul B d_Mo_hold_39 ?_
      refine a_iload_n B d_Mo_hold_40 rfl rfl ?_
      first | refine b_iadd B d_Mo_hold_41 ?_ | refine a_iadd B d_Mo_hold_41 ?_
      refine a_zald B ly_117 _ rfl (by first | assumption | omega) d_Mo_hold_42 ?_
      rw [a5 v hv]
      first | refine b_if_eq_b B 50 d_Mo_hold_43 rfl (fun c_43 => ?_) (fun c_43 => ?_) | refine a_if_eq B 50 d_Mo_hold_43 rfl (fun c_43 => ?_) (fun c_43 => ?_)
      · skip
        refine a_iconst B d_Mo_hold_50 ci_0 ?_
        refine a_istore (lv1 := [(0, _), (1, _), (2, _), (3, _), (4, _), (5, _)]) B d_Mo_hold_51 (by decide) rfl ?_
        refine a_aload_n B d_Mo_hold_53 rfl rfl ?_
        refine gf_Mo_isHeld B d_Mo_hold_54 fl_Mo_41 ?_
        refine a_bipush B d_Mo_hold_57 cb_20 ?_
        refine a_iload_n B d_Mo_hold_59 rfl rfl ?_
        first | refine b_imul B d_Mo_hold_60 ?_ | refine a_imul B d_Mo_hold_60 ?_
        refine a_iload_n B d_Mo_hold_61 rfl rfl ?_
        first | refine b_iadd B d_Mo_hold_62 ?_ | refine a_iadd B d_Mo_hold_62 ?_
        refine a_iload_n B d_Mo_hold_63 rfl rfl ?_
        refine a_zast B ly_117 _ rfl (by first | assumption | omega) (nar_b b) d_Mo_hold_64 ?_
        refine a_iload B d_Mo_hold_65 rfl ?_
        exact Rt _ _ _ _ d_Mo_hold_67 (by have e : sp_hold S (nI t) (nI v) b = (bI (tD (sT S t) v), pT S t (heldBy (sT S t) v b)) := (by rw [sp_hold, jnQ_jn hq c_23]); rw [e]; exact ⟨by rw [c_43]; rfl, RelM_tree hS (hold_TrM tW hv tA tB tX) (tfM_up (by decide) (by decide) (by omega)), tfM_fr (tfM_up (t := t) (by decide) (by decide) (by omega))⟩)
      refine a_iconst B d_Mo_hold_46 ci_1 ?_
      refine a_goto B 51 d_Mo_hold_47 rfl ?_
      refine a_istore (lv1 := [(0, _), (1, _), (2, _), (3, _), (4, _), (5, _)]) B d_Mo_hold_51 (by decide) rfl ?_
      refine a_aload_n B d_Mo_hold_53 rfl rfl ?_
      refine gf_Mo_isHeld B d_Mo_hold_54 fl_Mo_41 ?_
      refine a_bipush B d_Mo_hold_57 cb_20 ?_
      refine a_iload_n B d_Mo_hold_59 rfl rfl ?_
      first | refine b_imul B d_Mo_hold_60 ?_ | refine a_imul B d_Mo_hold_60 ?_
      refine a_iload_n B d_Mo_hold_61 rfl rfl ?_
      first | refine b_iadd B d_Mo_hold_62 ?_ | refine a_iadd B d_Mo_hold_62 ?_
      refine a_iload_n B d_Mo_hold_63 rfl rfl ?_
      refine a_zast B ly_117 _ rfl (by first | assumption | omega) (nar_b b) d_Mo_hold_64 ?_
      refine a_iload B d_Mo_hold_65 rfl ?_
      exact Rt _ _ _ _ d_Mo_hold_67 (by have e : sp_hold S (nI t) (nI v) b = (bI (tD (sT S t) v), pT S t (heldBy (sT S t) v b)) := (by rw [sp_hold, jnQ_jn hq c_23]); rw [e]; exact ⟨by rw [c_43]; rfl, RelM_tree hS (hold_TrM tW hv tA tB tX) (tfM_up (by decide) (by decide) (by omega)), tfM_fr (tfM_up (t := t) (by decide) (by decide) (by omega))⟩)
    refine a_aload_n B d_Mo_hold_26 rfl rfl ?_
    refine a_iconst B d_Mo_hold_27 ci_3 ?_
    refine a_callVI (ci := 7) B (t_Mo_meets G 3 (by decide)) d_Mo_hold_28 ok_Mo_meets ml_Mo_95 ly_106 rfl rfl (by decide) (by decide) rfl (Nat.le_of_ble_eq_true rfl) (fun r_28 τ_28 h_28 => ?_)
    obtain ⟨hr_28, hs_28⟩ := h_28
    subst hr_28
    subst hs_28
    exact Rt _ _ _ _ d_Mo_hold_31 (by have e : sp_hold S (nI t) (nI v) b = RF S 3 := (by rw [sp_hold, jnQ_lf hq c_23]); rw [e]; exact ⟨rfl, RelM_fnd hS (by decide), frM_meet⟩)
