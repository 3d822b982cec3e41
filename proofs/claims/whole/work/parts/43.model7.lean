/-! the reference: axes told, counts, the digest -/
theorem RelM_axes {S : Sp} {σ τ : AH} {n : Nat} {W : Nat → Nat → Int} (h : RelM S σ) (hA : AxM τ n W) (e : ∀ k, k ≠ 106 → k ≠ 126 → τ.1 k = σ.1 k) (f : ∀ j, j ≠ 26 → τ.1 106 j = σ.1 106 j) : RelM (pX S n W) τ := by
  obtain ⟨h1, h2, h3, h4⟩ := h
  refine ⟨h1.of (f _ (by decide)) (e _ (by decide) (by decide)) (e _ (by decide) (by decide)), fun t ht => (h2 t ht).of (fun k q1 q2 => e k (by omega) (by omega)), ?_, hA⟩
  exact MiM_of (S := S) h3 (f _ (by decide)) (f _ (by decide)) (f _ (by decide)) (f _ (by decide)) (f _ (by decide)) (e _ (by decide) (by decide)) (e _ (by decide) (by decide)) (e _ (by decide) (by decide)) (e _ (by decide) (by decide))
theorem d_Mo_axes_0 : decode prog_9_method_55_code 0 = .ok (.iload_n 1, 1) := by decide +kernel
theorem d_Mo_axes_1 : decode prog_9_method_55_code 1 = .ok (.iconst 0, 1) := by decide +kernel
theorem d_Mo_axes_2 : decode prog_9_method_55_code 2 = .ok (.bipush 8, 2) := by decide +kernel
theorem d_Mo_axes_4 : decode prog_9_method_55_code 4 = .ok (.invokestatic 87, 3) := by decide +kernel
theorem d_Mo_axes_7 : decode prog_9_method_55_code 7 = .ok (.ifCond .ne 5, 3) := by decide +kernel
theorem d_Mo_axes_10 : decode prog_9_method_55_code 10 = .ok (.iconst (-1), 1) := by decide +kernel
theorem d_Mo_axes_11 : decode prog_9_method_55_code 11 = .ok (.ireturn, 1) := by decide +kernel
theorem d_Mo_axes_12 : decode prog_9_method_55_code 12 = .ok (.aload_n 0, 1) := by decide +kernel
theorem d_Mo_axes_13 : decode prog_9_method_55_code 13 = .ok (.iload_n 1, 1) := by decide +kernel
theorem d_Mo_axes_14 : decode prog_9_method_55_code 14 = .ok (.putfield 193, 3) := by decide +kernel
theorem d_Mo_axes_17 : decode prog_9_method_55_code 17 = .ok (.iconst 0, 1) := by decide +kernel
theorem d_Mo_axes_18 : decode prog_9_method_55_code 18 = .ok (.istore_n 2, 1) := by decide +kernel
theorem d_Mo_axes_19 : decode prog_9_method_55_code 19 = .ok (.iload_n 2, 1) := by decide +kernel
theorem d_Mo_axes_20 : decode prog_9_method_55_code 20 = .ok (.bipush 64, 2) := by decide +kernel
theorem d_Mo_axes_22 : decode prog_9_method_55_code 22 = .ok (.if_icmp .ge 16, 3) := by decide +kernel
theorem d_Mo_axes_25 : decode prog_9_method_55_code 25 = .ok (.aload_n 0, 1) := by decide +kernel
theorem d_Mo_axes_26 : decode prog_9_method_55_code 26 = .ok (.getfield 68, 3) := by decide +kernel
theorem d_Mo_axes_29 : decode prog_9_method_55_code 29 = .ok (.iload_n 2, 1) := by decide +kernel
theorem d_Mo_axes_30 : decode prog_9_method_55_code 30 = .ok (.iconst 0, 1) := by decide +kernel
theorem d_Mo_axes_31 : decode prog_9_method_55_code 31 = .ok (.iastore, 1) := by decide +kernel
theorem d_Mo_axes_32 : decode prog_9_method_55_code 32 = .ok (.iinc 2 1, 3) := by decide +kernel
theorem d_Mo_axes_35 : decode prog_9_method_55_code 35 = .ok (.goto (-16), 3) := by decide +kernel
theorem d_Mo_axes_38 : decode prog_9_method_55_code 38 = .ok (.iload_n 1, 1) := by decide +kernel
theorem d_Mo_axes_39 : decode prog_9_method_55_code 39 = .ok (.ireturn, 1) := by decide +kernel
set_option maxHeartbeats 4000000 in
set_option maxRecDepth 20000 in
theorem tM_axes {g : GG} (G : Gok g) {σ : AH} {S : Sp} (hS : RelM S σ) (x : Int32) : TerI g 1 m_Mo_axes [rV 106, iV x] σ (fun r τ => r = (sp_axes S x).1 ∧ RelM (sp_axes S x).2 τ ∧ frM σ τ) := by
  refine TerI.mk G (by decide +kernel) rfl (Nat.le_of_ble_eq_true rfl) (fun K B Rt => ?_)
  have B : Cx g K prog_9_method_55_code 3 R_Mo 1 := B
  have Rt : RetI g K prog_9_method_55_code 3 (fun r τ => r = (sp_axes S x).1 ∧ RelM (sp_axes S x).2 τ ∧ frM σ τ) := Rt
  show AW g K 3 0 [(0, rV 106), (1, iV x)] [] σ
  refine a_iload_n B d_Mo_axes_0 rfl rfl ?_
  refine a_iconst B d_Mo_axes_1 ci_0 ?_
  refine a_bipush B d_Mo_axes_2 cb_8 ?_
  refine a_callSI B (t_Mo_in G x (nI 0) (nI 8)) d_Mo_axes_4 ok_Mo_in ml_Mo_87 rfl (by decide) (by decide) rfl (Nat.le_of_ble_eq_true rfl) (fun r_4 τ_4 h_4 => ?_)
  obtain ⟨hr_4, hs_4⟩ := h_4
  subst hr_4
  replace hs_4 := hs_4.symm
  subst hs_4
  first | refine b_if_ne_b B 12 d_Mo_axes_7 rfl (fun c_7 => ?_) (fun c_7 => ?_) | refine a_if_ne B 12 d_Mo_axes_7 rfl (fun c_7 => ?_) (fun c_7 => ?_)
  · skip
    obtain ⟨k, hqk⟩ := isS_t ((in_rngP (n := 9) (by decide) (by decide)).symm.trans c_7)
    obtain ⟨hk, rfl⟩ := rngQ_some (by decide) hqk
    refine a_aload_n B d_Mo_axes_12 rfl rfl ?_
    refine a_iload_n B d_Mo_axes_13 rfl rfl ?_
    refine pf_Mo_many B d_Mo_axes_14 fl_Mo_193 ?_
    refine a_iconst B d_Mo_axes_17 ci_0 ?_
    refine a_istore_n (lv1 := [(0, _), (1, _), (2, _)]) B d_Mo_axes_18 rfl (by decide) rfl ?_
    refine a_forR 64 (fun i lv τ => lv = [(0, rV 106), (1, iV (nI k)), (2, iV (nI i))] ∧ (∀ j, j ≠ 126 → τ.1 j = (up1 σ 106 (upd (σ.1 106) 26 (nI k))).1 j) ∧ (∀ x, x < i → τ.1 126 x = 0)) (fun i lv τ hi hI ihi => ?_) (fun lv τ hI => ?_) 0 (Nat.zero_le _) _ _ ⟨rfl, fun _ _ => rfl, fun _ h => absurd h (Nat.not_lt_zero _)⟩
    · skip
      obtain ⟨rfl, hF, hQ⟩ := hI
      refine a_iload_n B d_Mo_axes_19 rfl rfl ?_
      refine a_bipush B d_Mo_axes_20 cb_64 ?_
      first | refine b_icmp_ge B 38 d_Mo_axes_22 rfl (by omega) (by omega) (fun c_22 => ?_) (fun c_22 => ?_) | refine a_icmp_ge B 38 d_Mo_axes_22 rfl (fun c_22 => ?_) (fun c_22 => ?_)
      · skip
        exact absurd c_22 (by omega)
      refine a_aload_n B d_Mo_axes_25 rfl rfl ?_
      refine gf_Mo_worths B d_Mo_axes_26 fl_Mo_68 ?_
      refine a_iload_n B d_Mo_axes_29 rfl rfl ?_
      refine a_iconst B d_Mo_axes_30 ci_0 ?_
      refine a_iast B ly_126 _ rfl (by first | assumption | omega) d_Mo_axes_31 ?_
      first | refine b_iinc (lv1 := [(0, _), (1, _), (2, _)]) B d_Mo_axes_32 rfl ci_1 (by decide) rfl ?_ | refine a_iinc (lv1 := [(0, _), (1, _), (2, _)]) B d_Mo_axes_32 rfl rfl (by decide) rfl ?_
      refine a_goto B 19 d_Mo_axes_35 rfl ?_
      refine ihi _ _ ⟨rfl, fun j q => by rw [up1_o q]; exact hF j q, fun x hx => ?_⟩
      rw [up1_s]
      by_cases e : x = i
      · rw [e, upd_s]; rfl
      · rw [upd_o e]; exact hQ x (by omega)
    · skip
      obtain ⟨rfl, hF, hQ⟩ := hI
      refine a_iload_n B d_Mo_axes_19 rfl rfl ?_
      refine a_bipush B d_Mo_axes_20 cb_64 ?_
      first | refine b_icmp_ge B 38 d_Mo_axes_22 rfl (by omega) (by omega) (fun c_22 => ?_) (fun c_22 => ?_) | refine a_icmp_ge B 38 d_Mo_axes_22 rfl (fun c_22 => ?_) (fun c_22 => ?_)
      · skip
        refine a_iload_n B d_Mo_axes_38 rfl rfl ?_
        exact Rt _ _ _ _ d_Mo_axes_39 (by have e : sp_axes S (nI k) = (nI k, pX S k (fun _ _ => 0)) := (by rw [sp_axes, hqk]); rw [e]; exact ⟨rfl, RelM_axes hS ⟨by rw [hF 106 (by decide), up1_s, upd_s], by omega, fun a b ha hb => by rw [hQ _ (by omega)]; rfl, fun a b => ⟨by show (-1000 : Int) ≤ 0; decide, by show (0 : Int) ≤ 1000; decide⟩⟩ (fun j q1 q2 => by rw [hF j q2, up1_o q1]) (fun j hj => by rw [hF 106 (by decide), up1_s, upd_o hj]), fun j hj => by rw [hF j (by omega), up1_o (by omega)]⟩)
      exact absurd c_22 (by omega)
  have hqk := isS_f ((in_rngP (n := 9) (by decide) (by decide)).symm.trans c_7)
  refine a_iconst B d_Mo_axes_10 ci_m1 ?_
  exact Rt _ _ _ _ d_Mo_axes_11 (by have e : sp_axes S x = RB S := (by rw [sp_axes, hqk]); rw [e]; exact ⟨rfl, hS, (fun _ _ => rfl)⟩)
theorem d_Mo_isAxis_0 : decode prog_9_method_56_code 0 = .ok (.iload_n 1, 1) := by decide +kernel
theorem d_Mo_isAxis_1 : decode prog_9_method_56_code 1 = .ok (.iconst 0, 1) := by decide +kernel
theorem d_Mo_isAxis_2 : decode prog_9_method_56_code 2 = .ok (.aload_n 0, 1) := by decide +kernel
theorem d_Mo_isAxis_3 : decode prog_9_method_56_code 3 = .ok (.getfield 193, 3) := by decide +kernel
theorem d_Mo_isAxis_6 : decode prog_9_method_56_code 6 = .ok (.iconst 1, 1) := by decide +kernel
theorem d_Mo_isAxis_7 : decode prog_9_method_56_code 7 = .ok (.isub, 1) := by decide +kernel
theorem d_Mo_isAxis_8 : decode prog_9_method_56_code 8 = .ok (.invokestatic 87, 3) := by decide +kernel
theorem d_Mo_isAxis_11 : decode prog_9_method_56_code 11 = .ok (.ireturn, 1) := by decide +kernel
set_option maxHeartbeats 4000000 in
set_option maxRecDepth 20000 in
theorem t_Mo_isAxis {g : GG} (G : Gok g) {σ : AH} {S : Sp} (hS : RelM S σ) (x : Int32) : TerI g 1 m_Mo_isAxis [rV 106, iV x] σ (fun r τ => r = bI (rngQ (sMx S) x).isSome ∧ τ = σ) := by
  refine TerI.mkZ G (by decide +kernel) rfl (Nat.le_of_ble_eq_true rfl) (fun K B Rt => ?_)
  have B : Cx g K prog_9_method_56_code 2 R_Mo 1 := B
  have Rt : RetZ g K prog_9_method_56_code 2 (fun r τ => r = bI (rngQ (sMx S) x).isSome ∧ τ = σ) := Rt
  show AW g K 2 0 [(0, rV 106), (1, iV x)] [] σ
  have hm8 := hS.2.2.2.2.1
  refine a_iload_n B d_Mo_isAxis_0 rfl rfl ?_
  refine a_iconst B d_Mo_isAxis_1 ci_0 ?_
  refine a_aload_n B d_Mo_isAxis_2 rfl rfl ?_
  refine gf_Mo_many B d_Mo_isAxis_3 fl_Mo_193 ?_
  rw [hS.2.2.2.1]
  refine a_iconst B d_Mo_isAxis_6 ci_1 ?_
  first | refine b_isub B (by omega) d_Mo_isAxis_7 ?_ | refine a_isub B d_Mo_isAxis_7 ?_
  refine a_callSI B (t_Mo_in G x (nI 0) (nI (sMx S) - nI 1)) d_Mo_isAxis_8 ok_Mo_in ml_Mo_87 rfl (by decide) (by decide) rfl (Nat.le_of_ble_eq_true rfl) (fun r_8 τ_8 h_8 => ?_)
  obtain ⟨hr_8, hs_8⟩ := h_8
  subst hr_8
  replace hs_8 := hs_8.symm
  subst hs_8
  exact Rt _ _ _ _ d_Mo_isAxis_11 (bI_01 _) ⟨congrArg bI (in_rng (n := sMx S) (by omega)), rfl⟩
theorem AxM_worth {σ : AH} {m a b : Nat} {v : Int} {W : Nat → Nat → Int} (h : AxM σ m W) (ha : a < 8) (hb : b < 8) (hv1 : -1000 ≤ v) (hv2 : v ≤ 1000) (τ : AH) (e26 : τ.1 106 26 = σ.1 106 26) (e : τ.1 126 = upd (upd (σ.1 126) (8 * a + b) (zI v)) (8 * b + a) (zI v)) : AxM τ m (setW W a b v) := by
  obtain ⟨h1, h2, h3, h4⟩ := h
  refine ⟨by rw [e26]; exact h1, h2, fun x y hx hy => ?_, fun x y => ?_⟩
  · rw [e]
    unfold setW
    by_cases q : (x = a ∧ y = b) ∨ (x = b ∧ y = a)
    · rw [if_pos q]
      rcases q with ⟨rfl, rfl⟩ | ⟨rfl, rfl⟩
      · by_cases q2 : 8 * x + y = 8 * y + x
        · rw [q2, upd_s]
        · rw [upd_o q2, upd_s]
      · rw [upd_s]
    · rw [if_neg q, upd_o (by omega), upd_o (by omega)]
      exact h3 x y hx hy
  · unfold setW
    split
    · exact ⟨hv1, hv2⟩
    · exact h4 x y
theorem d_Mo_worth_0 : decode prog_9_method_57_code 0 = .ok (.aload_n 0, 1) := by decide +kernel
theorem d_Mo_worth_1 : decode prog_9_method_57_code 1 = .ok (.iload_n 1, 1) := by decide +kernel
theorem d_Mo_worth_2 : decode prog_9_method_57_code 2 = .ok (.invokevirtual 196, 3) := by decide +kernel
theorem d_Mo_worth_5 : decode prog_9_method_57_code 5 = .ok (.ifCond .eq 29, 3) := by decide +kernel
theorem d_Mo_worth_8 : decode prog_9_method_57_code 8 = .ok (.aload_n 0, 1) := by decide +kernel
theorem d_Mo_worth_9 : decode prog_9_method_57_code 9 = .ok (.iload_n 2, 1) := by decide +kernel
theorem d_Mo_worth_10 : decode prog_9_method_57_code 10 = .ok (.invokevirtual 196, 3) := by decide +kernel
theorem d_Mo_worth_13 : decode prog_9_method_57_code 13 = .ok (.ifCond .eq 21, 3) := by decide +kernel
theorem d_Mo_worth_16 : decode prog_9_method_57_code 16 = .ok (.iload_n 1, 1) := by decide +kernel
theorem d_Mo_worth_17 : decode prog_9_method_57_code 17 = .ok (.iload_n 2, 1) := by decide +kernel
theorem d_Mo_worth_18 : decode prog_9_method_57_code 18 = .ok (.if_icmp .eq 16, 3) := by decide +kernel
theorem d_Mo_worth_21 : decode prog_9_method_57_code 21 = .ok (.iload_n 3, 1) := by decide +kernel
theorem d_Mo_worth_22 : decode prog_9_method_57_code 22 = .ok (.sipush (-1000), 3) := by decide +kernel
theorem d_Mo_worth_25 : decode prog_9_method_57_code 25 = .ok (.sipush 1000, 3) := by decide +kernel
theorem d_Mo_worth_28 : decode prog_9_method_57_code 28 = .ok (.invokestatic 87, 3) := by decide +kernel
theorem d_Mo_worth_31 : decode prog_9_method_57_code 31 = .ok (.ifCond .ne 5, 3) := by decide +kernel
theorem d_Mo_worth_34 : decode prog_9_method_57_code 34 = .ok (.iconst (-1), 1) := by decide +kernel
theorem d_Mo_worth_35 : decode prog_9_method_57_code 35 = .ok (.ireturn, 1) := by decide +kernel
theorem d_Mo_worth_36 : decode prog_9_method_57_code 36 = .ok (.aload_n 0, 1) := by decide +kernel
theorem d_Mo_worth_37 : decode prog_9_method_57_code 37 = .ok (.aload_n 0, 1) := by decide +kernel
theorem d_Mo_worth_38 : decode prog_9_method_57_code 38 = .ok (.getfield 68, 3) := by decide +kernel
theorem d_Mo_worth_41 : decode prog_9_method_57_code 41 = .ok (.bipush 8, 2) := by decide +kernel
theorem d_Mo_worth_43 : decode prog_9_method_57_code 43 = .ok (.iload_n 1, 1) := by decide +kernel
theorem d_Mo_worth_44 : decode prog_9_method_57_code 44 = .ok (.imul, 1) := by decide +kernel
theorem d_Mo_worth_45 : decode prog_9_method_57_code 45 = .ok (.iload_n 2, 1) := by decide +kernel
theorem d_Mo_worth_46 : decode prog_9_method_57_code 46 = .ok (.iadd, 1) := by decide +kernel
theorem d_Mo_worth_47 : decode prog_9_method_57_code 47 = .ok (.iaload, 1) := by decide +kernel
theorem d_Mo_worth_48 : decode prog_9_method_57_code 48 = .ok (.putfield 81, 3) := by decide +kernel
theorem d_Mo_worth_51 : decode prog_9_method_57_code 51 = .ok (.aload_n 0, 1) := by decide +kernel
theorem d_Mo_worth_52 : decode prog_9_method_57_code 52 = .ok (.getfield 68, 3) := by decide +kernel
theorem d_Mo_worth_55 : decode prog_9_method_57_code 55 = .ok (.bipush 8, 2) := by decide +kernel
theorem d_Mo_worth_57 : decode prog_9_method_57_code 57 = .ok (.iload_n 1, 1) := by decide +kernel
theorem d_Mo_worth_58 : decode prog_9_method_57_code 58 = .ok (.imul, 1) := by decide +kernel
theorem d_Mo_worth_59 : decode prog_9_method_57_code 59 = .ok (.iload_n 2, 1) := by decide +kernel
theorem d_Mo_worth_60 : decode prog_9_method_57_code 60 = .ok (.iadd, 1) := by decide +kernel
theorem d_Mo_worth_61 : decode prog_9_method_57_code 61 = .ok (.iload_n 3, 1) := by decide +kernel
theorem d_Mo_worth_62 : decode prog_9_method_57_code 62 = .ok (.iastore, 1) := by decide +kernel
theorem d_Mo_worth_63 : decode prog_9_method_57_code 63 = .ok (.aload_n 0, 1) := by decide +kernel
theorem d_Mo_worth_64 : decode prog_9_method_57_code 64 = .ok (.getfield 68, 3) := by decide +kernel
theorem d_Mo_worth_67 : decode prog_9_method_57_code 67 = .ok (.bipush 8, 2) := by decide +kernel
theorem d_Mo_worth_69 : decode prog_9_method_57_code 69 = .ok (.iload_n 2, 1) := by decide +kernel
theorem d_Mo_worth_70 : decode prog_9_method_57_code 70 = .ok (.imul, 1) := by decide +kernel
theorem d_Mo_worth_71 : decode prog_9_method_57_code 71 = .ok (.iload_n 1, 1) := by decide +kernel
theorem d_Mo_worth_72 : decode prog_9_method_57_code 72 = .ok (.iadd, 1) := by decide +kernel
theorem d_Mo_worth_73 : decode prog_9_method_57_code 73 = .ok (.iload_n 3, 1) := by decide +kernel
theorem d_Mo_worth_74 : decode prog_9_method_57_code 74 = .ok (.iastore, 1) := by decide +kernel
theorem d_Mo_worth_75 : decode prog_9_method_57_code 75 = .ok (.iconst 1, 1) := by decide +kernel
theorem d_Mo_worth_76 : decode prog_9_method_57_code 76 = .ok (.ireturn, 1) := by decide +kernel
set_option maxHeartbeats 4000000 in
set_option maxRecDepth 20000 in
theorem tM_worth {g : GG} (G : Gok g) {σ : AH} {S : Sp} (hS : RelM S σ) (x y v : Int32) : TerI g 2 m_Mo_worth [rV 106, iV x, iV y, iV v] σ (fun r τ => r = (sp_worth S x y v).1 ∧ RelM (sp_worth S x y v).2 τ ∧ frM σ τ) := by
  refine TerI.mk G (by decide +kernel) rfl (Nat.le_of_ble_eq_true rfl) (fun K B Rt => ?_)
  have B : Cx g K prog_9_method_57_code 4 R_Mo 2 := B
  have Rt : RetI g K prog_9_method_57_code 4 (fun r τ => r = (sp_worth S x y v).1 ∧ RelM (sp_worth S x y v).2 τ ∧ frM σ τ) := Rt
  show AW g K 4 0 [(0, rV 106), (1, iV x), (2, iV y), (3, iV v)] [] σ
  have hm8 := hS.2.2.2.2.1
  refine a_aload_n B d_Mo_worth_0 rfl rfl ?_
  refine a_iload_n B d_Mo_worth_1 rfl rfl ?_
  refine a_callVI (ci := 7) B (t_Mo_isAxis G hS x) d_Mo_worth_2 ok_Mo_isAxis ml_Mo_196 ly_106 rfl rfl (by decide) (by decide) rfl (Nat.le_of_ble_eq_true rfl) (fun r_2 τ_2 h_2 => ?_)
  obtain ⟨hr_2, hs_2⟩ := h_2
  subst hr_2
  replace hs_2 := hs_2.symm
  subst hs_2
  first | refine b_if_eq_b B 34 d_Mo_worth_5 rfl (fun c_5 => ?_) (fun c_5 => ?_) | refine a_if_eq B 34 d_Mo_worth_5 rfl (fun c_5 => ?_) (fun c_5 => ?_)
  · skip
    have hqa := isS_f c_5
    refine a_iconst B d_Mo_worth_34 ci_m1 ?_
    exact Rt _ _ _ _ d_Mo_worth_35 (by first | exact (by have e : sp_worth S x y v = RB S := (by rw [sp_worth, hqa]); rw [e]; exact ⟨rfl, hS, (fun _ _ => rfl)⟩) | exact (by have e : sp_worth S (nI a) y v = RB S := (by rw [sp_worth, hqa, hqb]); rw [e]; exact ⟨rfl, hS, (fun _ _ => rfl)⟩) | exact (by have e : sp_worth S (nI a) (nI b) v = RB S := (by rw [sp_worth, hqa, hqb]; show (if _ then _ else _) = _; exact if_pos (Or.inl c_18)); rw [e]; exact ⟨rfl, hS, (fun _ _ => rfl)⟩) | exact (by have e : sp_worth S (nI a) (nI b) v = RB S := (by rw [sp_worth, hqa, hqb]; show (if _ then _ else _) = _; exact if_pos (Or.inr (Decidable.byContradiction (fun q => c_31 ⟨Int32.not_lt.mp (fun h => q (Or.inl h)), Int32.not_lt.mp (fun h => q (Or.inr h))⟩)))); rw [e]; exact ⟨rfl, hS, (fun _ _ => rfl)⟩))
  obtain ⟨a, hqa⟩ := isS_t c_5
  obtain ⟨ha, rfl⟩ := rngQ_some (by omega) hqa
  refine a_aload_n B d_Mo_worth_8 rfl rfl ?_
  refine a_iload_n B d_Mo_worth_9 rfl rfl ?_
  refine a_callVI (ci := 7) B (t_Mo_isAxis G hS y) d_Mo_worth_10 ok_Mo_isAxis ml_Mo_196 ly_106 rfl rfl (by decide) (by decide) rfl (Nat.le_of_ble_eq_true rfl) (fun r_10 τ_10 h_10 => ?_)
  obtain ⟨hr_10, hs_10⟩ := h_10
  subst hr_10
  replace hs_10 := hs_10.symm
  subst hs_10
  first | refine b_if_eq_b B 34 d_Mo_worth_13 rfl (fun c_13 => ?_) (fun c_13 => ?_) | refine a_if_eq B 34 d_Mo_worth_13 rfl (fun c_13 => ?_) (fun c_13 => ?_)
  · skip
    have hqb := isS_f c_13
    refine a_iconst B d_Mo_worth_34 ci_m1 ?_
    exact Rt _ _ _ _ d_Mo_worth_35 (by first | exact (by have e : sp_worth S x y v = RB S := (by rw [sp_worth, hqa]); rw [e]; exact ⟨rfl, hS, (fun _ _ => rfl)⟩) | exact (by have e : sp_worth S (nI a) y v = RB S := (by rw [sp_worth, hqa, hqb]); rw [e]; exact ⟨rfl, hS, (fun _ _ => rfl)⟩) | exact (by have e : sp_worth S (nI a) (nI b) v = RB S := (by rw [sp_worth, hqa, hqb]; show (if _ then _ else _) = _; exact if_pos (Or.inl c_18)); rw [e]; exact ⟨rfl, hS, (fun _ _ => rfl)⟩) | exact (by have e : sp_worth S (nI a) (nI b) v = RB S := (by rw [sp_worth, hqa, hqb]; show (if _ then _ else _) = _; exact if_pos (Or.inr (Decidable.byContradiction (fun q => c_31 ⟨Int32.not_lt.mp (fun h => q (Or.inl h)), Int32.not_lt.mp (fun h => q (Or.inr h))⟩)))); rw [e]; exact ⟨rfl, hS, (fun _ _ => rfl)⟩))
  obtain ⟨b, hqb⟩ := isS_t c_13
  obtain ⟨hb, rfl⟩ := rngQ_some (by omega) hqb
  refine a_iload_n B d_Mo_worth_16 rfl rfl ?_
  refine a_iload_n B d_Mo_worth_17 rfl rfl ?_
  first | refine b_icmp_eq B 34 d_Mo_worth_18 rfl (by omega) (by omega) (fun c_18 => ?_) (fun c_18 => ?_) | refine a_icmp_eq B 34 d_Mo_worth_18 rfl (fun c_18 => ?_) (fun c_18 => ?_)
  · skip
    refine a_iconst B d_Mo_worth_34 ci_m1 ?_
    exact Rt _ _ _ _ d_Mo_worth_35 (by first | exact (by have e : sp_worth S x y v = RB S := (by rw [sp_worth, hqa]); rw [e]; exact ⟨rfl, hS, (fun _ _ => rfl)⟩) | exact (by have e : sp_worth S (nI a) y v = RB S := (by rw [sp_worth, hqa, hqb]); rw [e]; exact ⟨rfl, hS, (fun _ _ => rfl)⟩) | exact (by have e : sp_worth S (nI a) (nI b) v = RB S := (by rw [sp_worth, hqa, hqb]; show (if _ then _ else _) = _; exact if_pos (Or.inl c_18)); rw [e]; exact ⟨rfl, hS, (fun _ _ => rfl)⟩) | exact (by have e : sp_worth S (nI a) (nI b) v = RB S := (by rw [sp_worth, hqa, hqb]; show (if _ then _ else _) = _; exact if_pos (Or.inr (Decidable.byContradiction (fun q => c_31 ⟨Int32.not_lt.mp (fun h => q (Or.inl h)), Int32.not_lt.mp (fun h => q (Or.inr h))⟩)))); rw [e]; exact ⟨rfl, hS, (fun _ _ => rfl)⟩))
  refine a_iload_n B d_Mo_worth_21 rfl rfl ?_
  refine a_sipush B d_Mo_worth_22 cs_m1000 ?_
  refine a_sipush B d_Mo_worth_25 cs_1000 ?_
  refine a_callSI B (t_Mo_in G v (-1000) (nI 1000)) d_Mo_worth_28 ok_Mo_in ml_Mo_87 rfl (by decide) (by decide) rfl (Nat.le_of_ble_eq_true rfl) (fun r_28 τ_28 h_28 => ?_)
  obtain ⟨hr_28, hs_28⟩ := h_28
  subst hr_28
  replace hs_28 := hs_28.symm
  subst hs_28
  first | refine b_if_ne_b B 36 d_Mo_worth_31 rfl (fun c_31 => ?_) (fun c_31 => ?_) | refine a_if_ne B 36 d_Mo_worth_31 rfl (fun c_31 => ?_) (fun c_31 => ?_)
  · skip
    have c_31 := of_decide_eq_true c_31
    obtain ⟨v1, v2, v3⟩ := tnc_w (Int32.not_lt.mpr c_31.1) c_31.2
    refine a_aload_n B d_Mo_worth_36 rfl rfl ?_
    refine a_aload_n B d_Mo_worth_37 rfl rfl ?_
    refine gf_Mo_worths B d_Mo_worth_38 fl_Mo_68 ?_
    refine a_bipush B d_Mo_worth_41 cb_8 ?_
    refine a_iload_n B d_Mo_worth_43 rfl rfl ?_
    first | refine b_imul B d_Mo_worth_44 ?_ | refine a_imul B d_Mo_worth_44 ?_
    refine a_iload_n B d_Mo_worth_45 rfl rfl ?_
    first | refine b_iadd B d_Mo_worth_46 ?_ | refine a_iadd B d_Mo_worth_46 ?_
    refine a_iald B ly_126 _ rfl (by first | assumption | omega) d_Mo_worth_47 ?_
    rw [hS.2.2.2.2.2.1 a b (by omega) (by omega)]
    refine pf_Mo_asked B d_Mo_worth_48 fl_Mo_81 ?_
    rw [show up1 σ 106 (upd (σ.1 106) 2 (zI (sWo S a b))) = askH σ (zI (sWo S a b)) from rfl]
    have hA9 := RelM_asked (v := zI (sWo S a b)) hS
    refine a_aload_n B d_Mo_worth_51 rfl rfl ?_
    refine gf_Mo_worths B d_Mo_worth_52 fl_Mo_68 ?_
    refine a_bipush B d_Mo_worth_55 cb_8 ?_
    refine a_iload_n B d_Mo_worth_57 rfl rfl ?_
    first | refine b_imul B d_Mo_worth_58 ?_ | refine a_imul B d_Mo_worth_58 ?_
    refine a_iload_n B d_Mo_worth_59 rfl rfl ?_
    first | refine b_iadd B d_Mo_worth_60 ?_ | refine a_iadd B d_Mo_worth_60 ?_
    refine a_iload_n B d_Mo_worth_61 rfl rfl ?_
    refine a_iast B ly_126 _ rfl (by first | assumption | omega) d_Mo_worth_62 ?_
    refine a_aload_n B d_Mo_worth_63 rfl rfl ?_
    refine gf_Mo_worths B d_Mo_worth_64 fl_Mo_68 ?_
    refine a_bipush B d_Mo_worth_67 cb_8 ?_
    refine a_iload_n B d_Mo_worth_69 rfl rfl ?_
    first | refine b_imul B d_Mo_worth_70 ?_ | refine a_imul B d_Mo_worth_70 ?_
    refine a_iload_n B d_Mo_worth_71 rfl rfl ?_
    first | refine b_iadd B d_Mo_worth_72 ?_ | refine a_iadd B d_Mo_worth_72 ?_
    refine a_iload_n B d_Mo_worth_73 rfl rfl ?_
    refine a_iast B ly_126 _ rfl (by first | assumption | omega) d_Mo_worth_74 ?_
    refine a_iconst B d_Mo_worth_75 ci_1 ?_
    exact Rt _ _ _ _ d_Mo_worth_76 (by have e : sp_worth S (nI a) (nI b) v = (1, pA (pX S (sMx S) (setW (sWo S) a b v.toInt)) (zI (sWo S a b))) := (by rw [sp_worth, hqa, hqb]; show (if _ then _ else _) = _; exact if_neg (fun q => q.elim c_18 (fun q => q.elim (Int32.not_lt.mpr c_31.1) (Int32.not_lt.mpr c_31.2)))); rw [e]; exact ⟨rfl, RelM_axes (S := pA S (zI (sWo S a b))) hA9 (AxM_worth hA9.2.2.2 (by omega) (by omega) v1 v2 _ (by rw [up1_o (by decide), up1_o (by decide)]) (by rw [up1_s, up1_s, ← v3])) (fun k q1 q2 => by rw [up1_o q2, up1_o q2]) (fun j _ => by rw [up1_o (by decide), up1_o (by decide)]), fun k hk => by rw [up1_o (by omega), up1_o (by omega)]; exact askH_o (by omega)⟩)
  have c_31 := of_decide_eq_false c_31
  refine a_iconst B d_Mo_worth_34 ci_m1 ?_
  exact Rt _ _ _ _ d_Mo_worth_35 (by first | exact (by have e : sp_worth S x y v = RB S := (by rw [sp_worth, hqa]); rw [e]; exact ⟨rfl, hS, (fun _ _ => rfl)⟩) | exact (by have e : sp_worth S (nI a) y v = RB S := (by rw [sp_worth, hqa, hqb]); rw [e]; exact ⟨rfl, hS, (fun _ _ => rfl)⟩) | exact (by have e : sp_worth S (nI a) (nI b) v = RB S := (by rw [sp_worth, hqa, hqb]; show (if _ then _ else _) = _; exact if_pos (Or.inl c_18)); rw [e]; exact ⟨rfl, hS, (fun _ _ => rfl)⟩) | exact (by have e : sp_worth S (nI a) (nI b) v = RB S := (by rw [sp_worth, hqa, hqb]; show (if _ then _ else _) = _; exact if_pos (Or.inr (Decidable.byContradiction (fun q => c_31 ⟨Int32.not_lt.mp (fun h => q (Or.inl h)), Int32.not_lt.mp (fun h => q (Or.inr h))⟩)))); rw [e]; exact ⟨rfl, hS, (fun _ _ => rfl)⟩))
theorem d_Mo_axis_0 : decode prog_9_method_60_code 0 = .ok (.iload_n 1, 1) := by decide +kernel
theorem d_Mo_axis_1 : decode prog_9_method_60_code 1 = .ok (.iconst 0, 1) := by decide +kernel
theorem d_Mo_axis_2 : decode prog_9_method_60_code 2 = .ok (.aload_n 0, 1) := by decide +kernel
theorem d_Mo_axis_3 : decode prog_9_method_60_code 3 = .ok (.getfield 203, 3) := by decide +kernel
theorem d_Mo_axis_6 : decode prog_9_method_60_code 6 = .ok (.iconst 1, 1) := by decide +kernel
theorem d_Mo_axis_7 : decode prog_9_method_60_code 7 = .ok (.isub, 1) := by decide +kernel
theorem d_Mo_axis_8 : decode prog_9_method_60_code 8 = .ok (.invokestatic 87, 3) := by decide +kernel
theorem d_Mo_axis_11 : decode prog_9_method_60_code 11 = .ok (.ifCond .eq 12, 3) := by decide +kernel
theorem d_Mo_axis_14 : decode prog_9_method_60_code 14 = .ok (.aload_n 0, 1) := by decide +kernel
theorem d_Mo_axis_15 : decode prog_9_method_60_code 15 = .ok (.getfield 74, 3) := by decide +kernel
theorem d_Mo_axis_18 : decode prog_9_method_60_code 18 = .ok (.iload_n 1, 1) := by decide +kernel
theorem d_Mo_axis_19 : decode prog_9_method_60_code 19 = .ok (.iaload, 1) := by decide +kernel
theorem d_Mo_axis_20 : decode prog_9_method_60_code 20 = .ok (.goto 5, 3) := by decide +kernel
theorem d_Mo_axis_23 : decode prog_9_method_60_code 23 = .ok (.bipush (-9), 2) := by decide +kernel
theorem d_Mo_axis_25 : decode prog_9_method_60_code 25 = .ok (.ireturn, 1) := by decide +kernel
set_option maxHeartbeats 4000000 in
set_option maxRecDepth 20000 in
theorem tM_axis {g : GG} (G : Gok g) {σ : AH} {S : Sp} (hS : RelM S σ) (x : Int32) : TerI g 1 m_Mo_axis [rV 106, iV x] σ (fun r τ => r = (sp_axis S x).1 ∧ RelM (sp_axis S x).2 τ ∧ frM σ τ) := by
  refine TerI.mk G (by decide +kernel) rfl (Nat.le_of_ble_eq_true rfl) (fun K B Rt => ?_)
  have B : Cx g K prog_9_method_60_code 2 R_Mo 1 := B
  have Rt : RetI g K prog_9_method_60_code 2 (fun r τ => r = (sp_axis S x).1 ∧ RelM (sp_axis S x).2 τ ∧ frM σ τ) := Rt
  show AW g K 2 0 [(0, rV 106), (1, iV x)] [] σ
  obtain ⟨m1, m2, m3, m4, m5, m6, m7, m8, m9, m10⟩ := id hS.2.2.1
  refine a_iload_n B d_Mo_axis_0 rfl rfl ?_
  refine a_iconst B d_Mo_axis_1 ci_0 ?_
  refine a_aload_n B d_Mo_axis_2 rfl rfl ?_
  refine gf_Mo_laid B d_Mo_axis_3 fl_Mo_203 ?_
  rw [m8]
  refine a_iconst B d_Mo_axis_6 ci_1 ?_
  first | refine b_isub B (by omega) d_Mo_axis_7 ?_ | refine a_isub B d_Mo_axis_7 ?_
  refine a_callSI B (t_Mo_in G x (nI 0) (nI (sLn S) - nI 1)) d_Mo_axis_8 ok_Mo_in ml_Mo_87 rfl (by decide) (by decide) rfl (Nat.le_of_ble_eq_true rfl) (fun r_8 τ_8 h_8 => ?_)
  obtain ⟨hr_8, hs_8⟩ := h_8
  subst hr_8
  replace hs_8 := hs_8.symm
  subst hs_8
  first | refine b_if_eq_b B 23 d_Mo_axis_11 rfl (fun c_11 => ?_) (fun c_11 => ?_) | refine a_if_eq B 23 d_Mo_axis_11 rfl (fun c_11 => ?_) (fun c_11 => ?_)
  · skip
    have hqi := isS_f ((in_rng (n := sLn S) (by omega)).symm.trans c_11)
    refine a_bipush B d_Mo_axis_23 cb_m9 ?_
    exact Rt _ _ _ _ d_Mo_axis_25 (by first | exact (by have e : sp_axis S (nI i) = (nI (sLd S i), S) := (by show (match rngQ (sLn S) (nI i) with | none => (-9 : Int32) | some i => nI (sLd S i), S) = _; rw [hqi]); rw [e]; exact ⟨rfl, hS, (fun _ _ => rfl)⟩) | exact (by have e : sp_axis S x = (-9, S) := (by show (match rngQ (sLn S) x with | none => (-9 : Int32) | some i => nI (sLd S i), S) = _; rw [hqi]); rw [e]; exact ⟨rfl, hS, (fun _ _ => rfl)⟩))
  obtain ⟨i, hqi⟩ := isS_t ((in_rng (n := sLn S) (by omega)).symm.trans c_11)
  obtain ⟨hi, rfl⟩ := rngQ_some (by omega) hqi
  refine a_aload_n B d_Mo_axis_14 rfl rfl ?_
  refine gf_Mo_laying B d_Mo_axis_15 fl_Mo_74 ?_
  refine a_iload_n B d_Mo_axis_18 rfl rfl ?_
  refine a_iald B ly_128 _ rfl (by first | assumption | omega) d_Mo_axis_19 ?_
  rw [m10 i hi]
  refine a_goto B 25 d_Mo_axis_20 rfl ?_
  exact Rt _ _ _ _ d_Mo_axis_25 (by first | exact (by have e : sp_axis S (nI i) = (nI (sLd S i), S) := (by show (match rngQ (sLn S) (nI i) with | none => (-9 : Int32) | some i => nI (sLd S i), S) = _; rw [hqi]); rw [e]; exact ⟨rfl, hS, (fun _ _ => rfl)⟩) | exact (by have e : sp_axis S x = (-9, S) := (by show (match rngQ (sLn S) x with | none => (-9 : Int32) | some i => nI (sLd S i), S) = _; rw [hqi]); rw [e]; exact ⟨rfl, hS, (fun _ _ => rfl)⟩))
theorem d_Mo_asked_0 : decode prog_9_method_61_code 0 = .ok (.aload_n 0, 1) := by decide +kernel
theorem d_Mo_asked_1 : decode prog_9_method_61_code 1 = .ok (.getfield 81, 3) := by decide +kernel
theorem d_Mo_asked_4 : decode prog_9_method_61_code 4 = .ok (.ireturn, 1) := by decide +kernel
set_option maxHeartbeats 4000000 in
set_option maxRecDepth 20000 in
theorem tM_asked {g : GG} (G : Gok g) {σ : AH} {S : Sp} (hS : RelM S σ) : TerI g 0 m_Mo_asked [rV 106] σ (fun r τ => r = sAs S ∧ τ = σ) := by
  refine TerI.mk G (by decide +kernel) rfl (Nat.le_of_ble_eq_true rfl) (fun K B Rt => ?_)
  have B : Cx g K prog_9_method_61_code 1 R_Mo 0 := B
  have Rt : RetI g K prog_9_method_61_code 1 (fun r τ => r = sAs S ∧ τ = σ) := Rt
  show AW g K 1 0 [(0, rV 106)] [] σ
  refine a_aload_n B d_Mo_asked_0 rfl rfl ?_
  refine gf_Mo_asked B d_Mo_asked_1 fl_Mo_81 ?_
  exact Rt _ _ _ _ d_Mo_asked_4 ⟨hS.2.2.1.2.2.1, rfl⟩
theorem d_Mo_finding_0 : decode prog_9_method_63_code 0 = .ok (.aload_n 0, 1) := by decide +kernel
theorem d_Mo_finding_1 : decode prog_9_method_63_code 1 = .ok (.getfield 77, 3) := by decide +kernel
theorem d_Mo_finding_4 : decode prog_9_method_63_code 4 = .ok (.ireturn, 1) := by decide +kernel
set_option maxHeartbeats 4000000 in
set_option maxRecDepth 20000 in
theorem tM_finding {g : GG} (G : Gok g) {σ : AH} {S : Sp} (hS : RelM S σ) : TerI g 0 m_Mo_finding [rV 106] σ (fun r τ => r = nI (sFi S) ∧ τ = σ) := by
  refine TerI.mk G (by decide +kernel) rfl (Nat.le_of_ble_eq_true rfl) (fun K B Rt => ?_)
  have B : Cx g K prog_9_method_63_code 1 R_Mo 0 := B
  have Rt : RetI g K prog_9_method_63_code 1 (fun r τ => r = nI (sFi S) ∧ τ = σ) := Rt
  show AW g K 1 0 [(0, rV 106)] [] σ
  refine a_aload_n B d_Mo_finding_0 rfl rfl ?_
  refine gf_Mo_finding B d_Mo_finding_1 fl_Mo_77 ?_
  exact Rt _ _ _ _ d_Mo_finding_4 ⟨hS.2.2.1.1, rfl⟩
theorem d_Mo_findings_0 : decode prog_9_method_64_code 0 = .ok (.iload_n 1, 1) := by decide +kernel
theorem d_Mo_findings_1 : decode prog_9_method_64_code 1 = .ok (.iconst 1, 1) := by decide +kernel
theorem d_Mo_findings_2 : decode prog_9_method_64_code 2 = .ok (.iconst 5, 1) := by decide +kernel
theorem d_Mo_findings_3 : decode prog_9_method_64_code 3 = .ok (.invokestatic 87, 3) := by decide +kernel
theorem d_Mo_findings_6 : decode prog_9_method_64_code 6 = .ok (.ifCond .eq 12, 3) := by decide +kernel
theorem d_Mo_findings_9 : decode prog_9_method_64_code 9 = .ok (.aload_n 0, 1) := by decide +kernel
theorem d_Mo_findings_10 : decode prog_9_method_64_code 10 = .ok (.getfield 7, 3) := by decide +kernel
theorem d_Mo_findings_13 : decode prog_9_method_64_code 13 = .ok (.iload_n 1, 1) := by decide +kernel
theorem d_Mo_findings_14 : decode prog_9_method_64_code 14 = .ok (.iaload, 1) := by decide +kernel
theorem d_Mo_findings_15 : decode prog_9_method_64_code 15 = .ok (.goto 4, 3) := by decide +kernel
theorem d_Mo_findings_18 : decode prog_9_method_64_code 18 = .ok (.iconst (-1), 1) := by decide +kernel
theorem d_Mo_findings_19 : decode prog_9_method_64_code 19 = .ok (.ireturn, 1) := by decide +kernel
set_option maxHeartbeats 4000000 in
set_option maxRecDepth 20000 in
theorem tM_findings {g : GG} (G : Gok g) {σ : AH} {S : Sp} (hS : RelM S σ) (x : Int32) : TerI g 1 m_Mo_findings [rV 106, iV x] σ (fun r τ => r = (sp_findings S x).1 ∧ RelM (sp_findings S x).2 τ ∧ frM σ τ) := by
  refine TerI.mk G (by decide +kernel) rfl (Nat.le_of_ble_eq_true rfl) (fun K B Rt => ?_)
  have B : Cx g K prog_9_method_64_code 2 R_Mo 1 := B
  have Rt : RetI g K prog_9_method_64_code 2 (fun r τ => r = (sp_findings S x).1 ∧ RelM (sp_findings S x).2 τ ∧ frM σ τ) := Rt
  show AW g K 2 0 [(0, rV 106), (1, iV x)] [] σ
  refine a_iload_n B d_Mo_findings_0 rfl rfl ?_
  refine a_iconst B d_Mo_findings_1 ci_1 ?_
  refine a_iconst B d_Mo_findings_2 ci_5 ?_
  refine a_callSI B (t_Mo_in G x (nI 1) (nI 5)) d_Mo_findings_3 ok_Mo_in ml_Mo_87 rfl (by decide) (by decide) rfl (Nat.le_of_ble_eq_true rfl) (fun r_3 τ_3 h_3 => ?_)
  obtain ⟨hr_3, hs_3⟩ := h_3
  subst hr_3
  replace hs_3 := hs_3.symm
  subst hs_3
  first | refine b_if_eq_b B 18 d_Mo_findings_6 rfl (fun c_6 => ?_) (fun c_6 => ?_) | refine a_if_eq B 18 d_Mo_findings_6 rfl (fun c_6 => ?_) (fun c_6 => ?_)
  · skip
    have c_6 : ¬ ((1 : Int32) ≤ x ∧ x ≤ 5) := of_decide_eq_false c_6
    refine a_iconst B d_Mo_findings_18 ci_m1 ?_
    exact Rt _ _ _ _ d_Mo_findings_19 (by first | exact (by have e : sp_findings S (nI k) = (sFs S k, S) := (by rw [sp_findings, if_pos c_6, hxk]); rw [e]; exact ⟨rfl, hS, (fun _ _ => rfl)⟩) | exact (by have e : sp_findings S x = (-1, S) := (by rw [sp_findings, if_neg c_6]); rw [e]; exact ⟨rfl, hS, (fun _ _ => rfl)⟩))
  have c_6 : (1 : Int32) ≤ x ∧ x ≤ 5 := of_decide_eq_true c_6
  obtain ⟨k, hk1, hk5, hxe, hxk⟩ := tnc_5 (Int32.not_lt.mpr c_6.1) (Int32.not_lt.mpr c_6.2)
  subst hxe
  refine a_aload_n B d_Mo_findings_9 rfl rfl ?_
  refine gf_Mo_findings B d_Mo_findings_10 fl_Mo_7 ?_
  refine a_iload_n B d_Mo_findings_13 rfl rfl ?_
  refine a_iald B ly_107 _ rfl (by first | assumption | omega) d_Mo_findings_14 ?_
  rw [hS.2.2.1.2.1 k (by omega)]
  refine a_goto B 19 d_Mo_findings_15 rfl ?_
  exact Rt _ _ _ _ d_Mo_findings_19 (by first | exact (by have e : sp_findings S (nI k) = (sFs S k, S) := (by rw [sp_findings, if_pos c_6, hxk]); rw [e]; exact ⟨rfl, hS, (fun _ _ => rfl)⟩) | exact (by have e : sp_findings S x = (-1, S) := (by rw [sp_findings, if_neg c_6]); rw [e]; exact ⟨rfl, hS, (fun _ _ => rfl)⟩))
theorem le0_n {i : Nat} (hi : i < 2 ^ 31) (h : nI i ≤ 0) : decide (i ≠ 0) = false := decide_eq_false (fun q => q (le_0 hi h))
theorem nle0_n {i : Nat} (hi : i < 2 ^ 31) (h : ¬ nI i ≤ 0) : decide (i ≠ 0) = true := decide_eq_true (by have := nle_0 hi h; omega)
theorem held_eq {T : TT} (hn : 1 ≤ tN T) : heldT T (2 * tN T - 1) = cntB (fun k => tD T (tN T + k)) (tN T - 1) := by
  unfold heldT
  rw [show 2 * tN T - 1 - tN T = tN T - 1 by omega]
theorem d_Mo_count_0 : decode prog_9_method_62_code 0 = .ok (.iconst 0, 1) := by decide +kernel
theorem d_Mo_count_1 : decode prog_9_method_62_code 1 = .ok (.istore_n 2, 1) := by decide +kernel
theorem d_Mo_count_2 : decode prog_9_method_62_code 2 = .ok (.iload_n 1, 1) := by decide +kernel
theorem d_Mo_count_3 : decode prog_9_method_62_code 3 = .ok (.tableswitch 170 0 4 #[33, 38, 71, 103, 108], 33) := by decide +kernel
theorem d_Mo_count_36 : decode prog_9_method_62_code 36 = .ok (.aload_n 0, 1) := by decide +kernel
theorem d_Mo_count_37 : decode prog_9_method_62_code 37 = .ok (.getfield 84, 3) := by decide +kernel
theorem d_Mo_count_40 : decode prog_9_method_62_code 40 = .ok (.ireturn, 1) := by decide +kernel
theorem d_Mo_count_41 : decode prog_9_method_62_code 41 = .ok (.iconst 0, 1) := by decide +kernel
theorem d_Mo_count_42 : decode prog_9_method_62_code 42 = .ok (.istore_n 3, 1) := by decide +kernel
theorem d_Mo_count_43 : decode prog_9_method_62_code 43 = .ok (.iload_n 3, 1) := by decide +kernel
theorem d_Mo_count_44 : decode prog_9_method_62_code 44 = .ok (.bipush 10, 2) := by decide +kernel
theorem d_Mo_count_46 : decode prog_9_method_62_code 46 = .ok (.if_icmp .ge 26, 3) := by decide +kernel
theorem d_Mo_count_49 : decode prog_9_method_62_code 49 = .ok (.iload_n 2, 1) := by decide +kernel
theorem d_Mo_count_50 : decode prog_9_method_62_code 50 = .ok (.aload_n 0, 1) := by decide +kernel
theorem d_Mo_count_51 : decode prog_9_method_62_code 51 = .ok (.getfield 13, 3) := by decide +kernel
theorem d_Mo_count_54 : decode prog_9_method_62_code 54 = .ok (.iload_n 3, 1) := by decide +kernel
theorem d_Mo_count_55 : decode prog_9_method_62_code 55 = .ok (.baload, 1) := by decide +kernel
theorem d_Mo_count_56 : decode prog_9_method_62_code 56 = .ok (.ifCond .eq 7, 3) := by decide +kernel
theorem d_Mo_count_59 : decode prog_9_method_62_code 59 = .ok (.iconst 1, 1) := by decide +kernel
theorem d_Mo_count_60 : decode prog_9_method_62_code 60 = .ok (.goto 4, 3) := by decide +kernel
theorem d_Mo_count_63 : decode prog_9_method_62_code 63 = .ok (.iconst 0, 1) := by decide +kernel
theorem d_Mo_count_64 : decode prog_9_method_62_code 64 = .ok (.iadd, 1) := by decide +kernel
theorem d_Mo_count_65 : decode prog_9_method_62_code 65 = .ok (.istore_n 2, 1) := by decide +kernel
theorem d_Mo_count_66 : decode prog_9_method_62_code 66 = .ok (.iinc 3 1, 3) := by decide +kernel
theorem d_Mo_count_69 : decode prog_9_method_62_code 69 = .ok (.goto (-26), 3) := by decide +kernel
theorem d_Mo_count_72 : decode prog_9_method_62_code 72 = .ok (.iload_n 2, 1) := by decide +kernel
theorem d_Mo_count_73 : decode prog_9_method_62_code 73 = .ok (.ireturn, 1) := by decide +kernel
theorem d_Mo_count_74 : decode prog_9_method_62_code 74 = .ok (.iconst 0, 1) := by decide +kernel
theorem d_Mo_count_75 : decode prog_9_method_62_code 75 = .ok (.istore_n 3, 1) := by decide +kernel
theorem d_Mo_count_76 : decode prog_9_method_62_code 76 = .ok (.iload_n 3, 1) := by decide +kernel
theorem d_Mo_count_77 : decode prog_9_method_62_code 77 = .ok (.iconst 4, 1) := by decide +kernel
theorem d_Mo_count_78 : decode prog_9_method_62_code 78 = .ok (.if_icmp .ge 26, 3) := by decide +kernel
theorem d_Mo_count_81 : decode prog_9_method_62_code 81 = .ok (.iload_n 2, 1) := by decide +kernel
theorem d_Mo_count_82 : decode prog_9_method_62_code 82 = .ok (.aload_n 0, 1) := by decide +kernel
theorem d_Mo_count_83 : decode prog_9_method_62_code 83 = .ok (.getfield 23, 3) := by decide +kernel
theorem d_Mo_count_86 : decode prog_9_method_62_code 86 = .ok (.iload_n 3, 1) := by decide +kernel
theorem d_Mo_count_87 : decode prog_9_method_62_code 87 = .ok (.iaload, 1) := by decide +kernel
theorem d_Mo_count_88 : decode prog_9_method_62_code 88 = .ok (.ifCond .le 7, 3) := by decide +kernel
theorem d_Mo_count_91 : decode prog_9_method_62_code 91 = .ok (.iconst 1, 1) := by decide +kernel
theorem d_Mo_count_92 : decode prog_9_method_62_code 92 = .ok (.goto 4, 3) := by decide +kernel
theorem d_Mo_count_95 : decode prog_9_method_62_code 95 = .ok (.iconst 0, 1) := by decide +kernel
theorem d_Mo_count_96 : decode prog_9_method_62_code 96 = .ok (.iadd, 1) := by decide +kernel
theorem d_Mo_count_97 : decode prog_9_method_62_code 97 = .ok (.istore_n 2, 1) := by decide +kernel
theorem d_Mo_count_98 : decode prog_9_method_62_code 98 = .ok (.iinc 3 1, 3) := by decide +kernel
theorem d_Mo_count_101 : decode prog_9_method_62_code 101 = .ok (.goto (-25), 3) := by decide +kernel
theorem d_Mo_count_104 : decode prog_9_method_62_code 104 = .ok (.iload_n 2, 1) := by decide +kernel
theorem d_Mo_count_105 : decode prog_9_method_62_code 105 = .ok (.ireturn, 1) := by decide +kernel
theorem d_Mo_count_106 : decode prog_9_method_62_code 106 = .ok (.aload_n 0, 1) := by decide +kernel
theorem d_Mo_count_107 : decode prog_9_method_62_code 107 = .ok (.getfield 193, 3) := by decide +kernel
theorem d_Mo_count_110 : decode prog_9_method_62_code 110 = .ok (.ireturn, 1) := by decide +kernel
theorem d_Mo_count_111 : decode prog_9_method_62_code 111 = .ok (.iconst 0, 1) := by decide +kernel
theorem d_Mo_count_112 : decode prog_9_method_62_code 112 = .ok (.istore_n 3, 1) := by decide +kernel
theorem d_Mo_count_113 : decode prog_9_method_62_code 113 = .ok (.iload_n 3, 1) := by decide +kernel
theorem d_Mo_count_114 : decode prog_9_method_62_code 114 = .ok (.iconst 4, 1) := by decide +kernel
theorem d_Mo_count_115 : decode prog_9_method_62_code 115 = .ok (.if_icmp .ge 56, 3) := by decide +kernel
theorem d_Mo_count_118 : decode prog_9_method_62_code 118 = .ok (.aload_n 0, 1) := by decide +kernel
theorem d_Mo_count_119 : decode prog_9_method_62_code 119 = .ok (.getfield 23, 3) := by decide +kernel
theorem d_Mo_count_122 : decode prog_9_method_62_code 122 = .ok (.iload_n 3, 1) := by decide +kernel
theorem d_Mo_count_123 : decode prog_9_method_62_code 123 = .ok (.iaload, 1) := by decide +kernel
theorem d_Mo_count_124 : decode prog_9_method_62_code 124 = .ok (.istore 4, 2) := by decide +kernel
theorem d_Mo_count_126 : decode prog_9_method_62_code 126 = .ok (.iload 4, 2) := by decide +kernel
theorem d_Mo_count_128 : decode prog_9_method_62_code 128 = .ok (.aload_n 0, 1) := by decide +kernel
theorem d_Mo_count_129 : decode prog_9_method_62_code 129 = .ok (.iload_n 3, 1) := by decide +kernel
theorem d_Mo_count_130 : decode prog_9_method_62_code 130 = .ok (.invokevirtual 123, 3) := by decide +kernel
theorem d_Mo_count_133 : decode prog_9_method_62_code 133 = .ok (.if_icmp .ge 32, 3) := by decide +kernel
theorem d_Mo_count_136 : decode prog_9_method_62_code 136 = .ok (.iload_n 2, 1) := by decide +kernel
theorem d_Mo_count_137 : decode prog_9_method_62_code 137 = .ok (.aload_n 0, 1) := by decide +kernel
theorem d_Mo_count_138 : decode prog_9_method_62_code 138 = .ok (.getfield 41, 3) := by decide +kernel
theorem d_Mo_count_141 : decode prog_9_method_62_code 141 = .ok (.bipush 20, 2) := by decide +kernel
theorem d_Mo_count_143 : decode prog_9_method_62_code 143 = .ok (.iload_n 3, 1) := by decide +kernel
theorem d_Mo_count_144 : decode prog_9_method_62_code 144 = .ok (.imul, 1) := by decide +kernel
theorem d_Mo_count_145 : decode prog_9_method_62_code 145 = .ok (.iload 4, 2) := by decide +kernel
theorem d_Mo_count_147 : decode prog_9_method_62_code 147 = .ok (.iadd, 1) := by decide +kernel
theorem d_Mo_count_148 : decode prog_9_method_62_code 148 = .ok (.baload, 1) := by decide +kernel
theorem d_Mo_count_149 : decode prog_9_method_62_code 149 = .ok (.ifCond .eq 7, 3) := by decide +kernel
theorem d_Mo_count_152 : decode prog_9_method_62_code 152 = .ok (.iconst 1, 1) := by decide +kernel
theorem d_Mo_count_153 : decode prog_9_method_62_code 153 = .ok (.goto 4, 3) := by decide +kernel
theorem d_Mo_count_156 : decode prog_9_method_62_code 156 = .ok (.iconst 0, 1) := by decide +kernel
theorem d_Mo_count_157 : decode prog_9_method_62_code 157 = .ok (.iadd, 1) := by decide +kernel
theorem d_Mo_count_158 : decode prog_9_method_62_code 158 = .ok (.istore_n 2, 1) := by decide +kernel
theorem d_Mo_count_159 : decode prog_9_method_62_code 159 = .ok (.iinc 4 1, 3) := by decide +kernel
theorem d_Mo_count_162 : decode prog_9_method_62_code 162 = .ok (.goto (-36), 3) := by decide +kernel
theorem d_Mo_count_165 : decode prog_9_method_62_code 165 = .ok (.iinc 3 1, 3) := by decide +kernel
theorem d_Mo_count_168 : decode prog_9_method_62_code 168 = .ok (.goto (-55), 3) := by decide +kernel
theorem d_Mo_count_171 : decode prog_9_method_62_code 171 = .ok (.iload_n 2, 1) := by decide +kernel
theorem d_Mo_count_172 : decode prog_9_method_62_code 172 = .ok (.ireturn, 1) := by decide +kernel
theorem d_Mo_count_173 : decode prog_9_method_62_code 173 = .ok (.iconst (-1), 1) := by decide +kernel
theorem d_Mo_count_174 : decode prog_9_method_62_code 174 = .ok (.ireturn, 1) := by decide +kernel
set_option maxHeartbeats 4000000 in
set_option maxRecDepth 20000 in
theorem tM_count {g : GG} (G : Gok g) {σ : AH} {S : Sp} (hS : RelM S σ) (x : Int32) : TerI g 1 m_Mo_count [rV 106, iV x] σ (fun r τ => r = (sp_count S x).1 ∧ RelM (sp_count S x).2 τ ∧ frM σ τ) := by
  refine TerI.mk G (by decide +kernel) rfl (Nat.le_of_ble_eq_true rfl) (fun K B Rt => ?_)
  have B : Cx g K prog_9_method_62_code 5 R_Mo 1 := B
  have Rt : RetI g K prog_9_method_62_code 5 (fun r τ => r = (sp_count S x).1 ∧ RelM (sp_count S x).2 τ ∧ frM σ τ) := Rt
  show AW g K 5 0 [(0, rV 106), (1, iV x)] [] σ
  obtain ⟨hN, hn, hth, hpl, hbd⟩ := id hS.1
  refine a_iconst B d_Mo_count_0 ci_0 ?_
  refine a_istore_n (lv1 := [(0, _), (1, _), (2, _)]) B d_Mo_count_1 rfl (by decide) rfl ?_
  refine a_iload_n B d_Mo_count_2 rfl rfl ?_
  rcases sw5 x with rfl | rfl | rfl | rfl | rfl | ⟨hx, n0, n1, n2, n3, n4⟩
  · refine a_tableIn B 36 d_Mo_count_3 (by decide +kernel) (by decide +kernel) (off := 33) (by decide +kernel) (by decide) ?_
    refine a_aload_n B d_Mo_count_36 rfl rfl ?_
    refine gf_Mo_leaves B d_Mo_count_37 fl_Mo_84 ?_
    rw [hN]
    exact Rt _ _ _ _ d_Mo_count_40 (by have e : sp_count S 0 = (nI (sN S), S) := (by rfl); rw [e]; exact ⟨rfl, hS, (fun _ _ => rfl)⟩)
  · refine a_tableIn B 41 d_Mo_count_3 (by decide +kernel) (by decide +kernel) (off := 38) (by decide +kernel) (by decide) ?_
    refine a_iconst B d_Mo_count_41 ci_0 ?_
    refine a_istore_n (lv1 := [(0, _), (1, _), (2, _), (3, _)]) B d_Mo_count_42 rfl (by decide) rfl ?_
    refine a_for (lf := fun i => [(0, rV 106), (1, iV 1), (2, iV (nI (cntB (sTh S) i))), (3, iV (nI i))]) (τ := fun i => σ) 10 (fun i hi ihi => ?_) ?_ 0 (Nat.zero_le _)
    · skip
      refine a_iload_n B d_Mo_count_43 rfl rfl ?_
      refine a_bipush B d_Mo_count_44 cb_10 ?_
      first | refine b_icmp_ge B 72 d_Mo_count_46 rfl (by omega) (by omega) (fun c_46 => ?_) (fun c_46 => ?_) | refine a_icmp_ge B 72 d_Mo_count_46 rfl (fun c_46 => ?_) (fun c_46 => ?_)
      · skip
        exact absurd c_46 (by omega)
      refine a_iload_n B d_Mo_count_49 rfl rfl ?_
      refine a_aload_n B d_Mo_count_50 rfl rfl ?_
      refine gf_Mo_isRow B d_Mo_count_51 fl_Mo_13 ?_
      refine a_iload_n B d_Mo_count_54 rfl rfl ?_
      refine a_zald B ly_108 _ rfl (by first | assumption | omega) d_Mo_count_55 ?_
      rw [hth i (by omega)]
      first | refine b_if_eq_b B 63 d_Mo_count_56 rfl (fun c_56 => ?_) (fun c_56 => ?_) | refine a_if_eq B 63 d_Mo_count_56 rfl (fun c_56 => ?_) (fun c_56 => ?_)
      · skip
        refine a_iconst B d_Mo_count_63 ci_0 ?_
        first | refine b_iadd B d_Mo_count_64 ?_ | refine a_iadd B d_Mo_count_64 ?_
        refine a_istore_n (lv1 := [(0, _), (1, _), (2, _), (3, _)]) B d_Mo_count_65 rfl (by decide) rfl ?_
        first | refine b_iinc (lv1 := [(0, _), (1, _), (2, _), (3, _)]) B d_Mo_count_66 rfl ci_1 (by decide) rfl ?_ | refine a_iinc (lv1 := [(0, _), (1, _), (2, _), (3, _)]) B d_Mo_count_66 rfl rfl (by decide) rfl ?_
        refine a_goto B 43 d_Mo_count_69 rfl ?_
        first | (rw [cntB_t (p := sTh S) (i := i) c_56] at ihi; exact ihi) | (rw [cntB_f (p := sTh S) (i := i) c_56] at ihi; exact ihi)
      refine a_iconst B d_Mo_count_59 ci_1 ?_
      refine a_goto B 64 d_Mo_count_60 rfl ?_
      first | refine b_iadd B d_Mo_count_64 ?_ | refine a_iadd B d_Mo_count_64 ?_
      refine a_istore_n (lv1 := [(0, _), (1, _), (2, _), (3, _)]) B d_Mo_count_65 rfl (by decide) rfl ?_
      first | refine b_iinc (lv1 := [(0, _), (1, _), (2, _), (3, _)]) B d_Mo_count_66 rfl ci_1 (by decide) rfl ?_ | refine a_iinc (lv1 := [(0, _), (1, _), (2, _), (3, _)]) B d_Mo_count_66 rfl rfl (by decide) rfl ?_
      refine a_goto B 43 d_Mo_count_69 rfl ?_
      first | (rw [cntB_t (p := sTh S) (i := i) c_56] at ihi; exact ihi) | (rw [cntB_f (p := sTh S) (i := i) c_56] at ihi; exact ihi)
    · skip
      refine a_iload_n B d_Mo_count_43 rfl rfl ?_
      refine a_bipush B d_Mo_count_44 cb_10 ?_
      first | refine b_icmp_ge B 72 d_Mo_count_46 rfl (by omega) (by omega) (fun c_46 => ?_) (fun c_46 => ?_) | refine a_icmp_ge B 72 d_Mo_count_46 rfl (fun c_46 => ?_) (fun c_46 => ?_)
      · skip
        refine a_iload_n B d_Mo_count_72 rfl rfl ?_
        exact Rt _ _ _ _ d_Mo_count_73 (by have e : sp_count S 1 = (nI (cntB (sTh S) 10), S) := (by rfl); rw [e]; exact ⟨rfl, hS, (fun _ _ => rfl)⟩)
      exact absurd c_46 (by omega)
  · refine a_tableIn B 74 d_Mo_count_3 (by decide +kernel) (by decide +kernel) (off := 71) (by decide +kernel) (by decide) ?_
    refine a_iconst B d_Mo_count_74 ci_0 ?_
    refine a_istore_n (lv1 := [(0, _), (1, _), (2, _), (3, _)]) B d_Mo_count_75 rfl (by decide) rfl ?_
    refine a_for (lf := fun i => [(0, rV 106), (1, iV 2), (2, iV (nI (cntB (fun t => decide (tN (sT S t) ≠ 0)) i))), (3, iV (nI i))]) (τ := fun i => σ) 4 (fun i hi ihi => ?_) ?_ 0 (Nat.zero_le _)
    · skip
      refine a_iload_n B d_Mo_count_76 rfl rfl ?_
      refine a_iconst B d_Mo_count_77 ci_4 ?_
      first | refine b_icmp_ge B 104 d_Mo_count_78 rfl (by omega) (by omega) (fun c_78 => ?_) (fun c_78 => ?_) | refine a_icmp_ge B 104 d_Mo_count_78 rfl (fun c_78 => ?_) (fun c_78 => ?_)
      · skip
        exact absurd c_78 (by omega)
      refine a_iload_n B d_Mo_count_81 rfl rfl ?_
      refine a_aload_n B d_Mo_count_82 rfl rfl ?_
      refine gf_Mo_sizes B d_Mo_count_83 fl_Mo_23 ?_
      refine a_iload_n B d_Mo_count_86 rfl rfl ?_
      refine a_iald B ly_111 _ rfl (by first | assumption | omega) d_Mo_count_87 ?_
      rw [(hS.2.1 i (by omega)).1]
      have hb9 : tN (sT S i) < 2 ^ 31 := (by have := tM_le hS (t := i) (by omega); omega)
      refine a_if_le B 95 d_Mo_count_88 rfl (fun c_88 => ?_) (fun c_88 => ?_)
      · skip
        refine a_iconst B d_Mo_count_95 ci_0 ?_
        first | refine b_iadd B d_Mo_count_96 ?_ | refine a_iadd B d_Mo_count_96 ?_
        refine a_istore_n (lv1 := [(0, _), (1, _), (2, _), (3, _)]) B d_Mo_count_97 rfl (by decide) rfl ?_
        first | refine b_iinc (lv1 := [(0, _), (1, _), (2, _), (3, _)]) B d_Mo_count_98 rfl ci_1 (by decide) rfl ?_ | refine a_iinc (lv1 := [(0, _), (1, _), (2, _), (3, _)]) B d_Mo_count_98 rfl rfl (by decide) rfl ?_
        refine a_goto B 76 d_Mo_count_101 rfl ?_
        first | (rw [cntB_t (p := fun t => decide (tN (sT S t) ≠ 0)) (i := i) (nle0_n hb9 c_88)] at ihi; exact ihi) | (rw [cntB_f (p := fun t => decide (tN (sT S t) ≠ 0)) (i := i) (le0_n hb9 c_88)] at ihi; exact ihi)
      refine a_iconst B d_Mo_count_91 ci_1 ?_
      refine a_goto B 96 d_Mo_count_92 rfl ?_
      first | refine b_iadd B d_Mo_count_96 ?_ | refine a_iadd B d_Mo_count_96 ?_
      refine a_istore_n (lv1 := [(0, _), (1, _), (2, _), (3, _)]) B d_Mo_count_97 rfl (by decide) rfl ?_
      first | refine b_iinc (lv1 := [(0, _), (1, _), (2, _), (3, _)]) B d_Mo_count_98 rfl ci_1 (by decide) rfl ?_ | refine a_iinc (lv1 := [(0, _), (1, _), (2, _), (3, _)]) B d_Mo_count_98 rfl rfl (by decide) rfl ?_
      refine a_goto B 76 d_Mo_count_101 rfl ?_
      first | (rw [cntB_t (p := fun t => decide (tN (sT S t) ≠ 0)) (i := i) (nle0_n hb9 c_88)] at ihi; exact ihi) | (rw [cntB_f (p := fun t => decide (tN (sT S t) ≠ 0)) (i := i) (le0_n hb9 c_88)] at ihi; exact ihi)
    · skip
      refine a_iload_n B d_Mo_count_76 rfl rfl ?_
      refine a_iconst B d_Mo_count_77 ci_4 ?_
      first | refine b_icmp_ge B 104 d_Mo_count_78 rfl (by omega) (by omega) (fun c_78 => ?_) (fun c_78 => ?_) | refine a_icmp_ge B 104 d_Mo_count_78 rfl (fun c_78 => ?_) (fun c_78 => ?_)
      · skip
        refine a_iload_n B d_Mo_count_104 rfl rfl ?_
        exact Rt _ _ _ _ d_Mo_count_105 (by have e : sp_count S 2 = (nI (treesN S), S) := (by rfl); rw [e]; exact ⟨rfl, hS, (fun _ _ => rfl)⟩)
      exact absurd c_78 (by omega)
  · refine a_tableIn B 106 d_Mo_count_3 (by decide +kernel) (by decide +kernel) (off := 103) (by decide +kernel) (by decide) ?_
    refine a_aload_n B d_Mo_count_106 rfl rfl ?_
    refine gf_Mo_many B d_Mo_count_107 fl_Mo_193 ?_
    rw [hS.2.2.2.1]
    exact Rt _ _ _ _ d_Mo_count_110 (by have e : sp_count S 3 = (nI (sMx S), S) := (by rfl); rw [e]; exact ⟨rfl, hS, (fun _ _ => rfl)⟩)
  · refine a_tableIn B 111 d_Mo_count_3 (by decide +kernel) (by decide +kernel) (off := 108) (by decide +kernel) (by decide) ?_
    refine a_iconst B d_Mo_count_111 ci_0 ?_
    refine a_istore_n (lv1 := [(0, _), (1, _), (2, _), (3, _)]) B d_Mo_count_112 rfl (by decide) rfl ?_
    refine a_for (lf := fun i => [(0, rV 106), (1, iV 4), (2, iV (nI (sumTo (fun t => if tN (sT S t) = 0 then 0 else heldT (sT S t) (2 * tN (sT S t) - 1)) i))), (3, iV (nI i))]) (τ := fun i => σ) 4 (fun i hi ihi => ?_) ?_ 0 (Nat.zero_le _)
    · skip
      refine a_iload_n B d_Mo_count_113 rfl rfl ?_
      refine a_iconst B d_Mo_count_114 ci_4 ?_
      first | refine b_icmp_ge B 171 d_Mo_count_115 rfl (by omega) (by omega) (fun c_115 => ?_) (fun c_115 => ?_) | refine a_icmp_ge B 171 d_Mo_count_115 rfl (fun c_115 => ?_) (fun c_115 => ?_)
      · skip
        exact absurd c_115 (by omega)
      refine a_aload_n B d_Mo_count_118 rfl rfl ?_
      refine gf_Mo_sizes B d_Mo_count_119 fl_Mo_23 ?_
      refine a_iload_n B d_Mo_count_122 rfl rfl ?_
      refine a_iald B ly_111 _ rfl (by first | assumption | omega) d_Mo_count_123 ?_
      rw [(hS.2.1 i (by omega)).1]
      refine a_istore (lv1 := [(0, _), (1, _), (2, _), (3, _), (4, _)]) B d_Mo_count_124 (by decide) rfl ?_
      by_cases hn : tN (sT S i) = 0
      · have z1 : σ.1 111 i = nI 0 := (by rw [(hS.2.1 i (by omega)).1, hn])
        rw [show nI (tN (sT S i)) = 0 by rw [hn]; exact nI_0]
        refine a_iload B d_Mo_count_126 rfl ?_
        refine a_aload_n B d_Mo_count_128 rfl rfl ?_
        refine a_iload_n B d_Mo_count_129 rfl rfl ?_
        refine a_callVI (ci := 7) B (t_Mo_nodes0 G (show i < 4 by omega) z1) d_Mo_count_130 ok_Mo_nodes ml_Mo_123 ly_106 rfl rfl (by decide) (by decide) rfl (Nat.le_of_ble_eq_true rfl) (fun r_130 τ_130 h_130 => ?_)
        obtain ⟨hr_130, hs_130⟩ := h_130
        subst hr_130
        replace hs_130 := hs_130.symm
        subst hs_130
        first | refine b_icmp_ge B 165 d_Mo_count_133 rfl (by omega) (by omega) (fun c_133 => ?_) (fun c_133 => ?_) | refine a_icmp_ge B 165 d_Mo_count_133 rfl (fun c_133 => ?_) (fun c_133 => ?_)
        · skip
          first | refine b_iinc (lv1 := [(0, _), (1, _), (2, _), (3, _), (4, _)]) B d_Mo_count_165 rfl ci_1 (by decide) rfl ?_ | refine a_iinc (lv1 := [(0, _), (1, _), (2, _), (3, _), (4, _)]) B d_Mo_count_165 rfl rfl (by decide) rfl ?_
          refine a_goto B 113 d_Mo_count_168 rfl ?_
          refine a_sub (lv1 := [(0, _), (1, _), (2, _), (3, _)]) rfl ?_
          rw [show sumTo (fun t => if tN (sT S t) = 0 then 0 else heldT (sT S t) (2 * tN (sT S t) - 1)) (i + 1) = sumTo (fun t => if tN (sT S t) = 0 then 0 else heldT (sT S t) (2 * tN (sT S t) - 1)) i from congrArg (sumTo (fun t => if tN (sT S t) = 0 then 0 else heldT (sT S t) (2 * tN (sT S t) - 1)) i + ·) (if_pos hn)] at ihi
          exact ihi
        · exact absurd (show (-1 : Int32) ≤ 0 by decide) c_133
      · obtain ⟨tW, tA, tB, tX⟩ := (hS.2.1 i (by omega)).2 hn
        obtain ⟨a1, a2, a3, a4, a5, a6⟩ := id tA
        have w1 := tW.1
        have w10 := tW.2.1
        refine a_for (lf := fun j => [(0, rV 106), (1, iV 4), (2, iV (nI (sumTo (fun t => if tN (sT S t) = 0 then 0 else heldT (sT S t) (2 * tN (sT S t) - 1)) i + cntB (fun k => tD (sT S i) (tN (sT S i) + k)) j))), (3, iV (nI i)), (4, iV (nI (tN (sT S i) + j)))]) (τ := fun j => σ) (tN (sT S i) - 1) (fun j hj ihj => ?_) ?_ 0 (Nat.zero_le _)
        · skip
          refine a_iload B d_Mo_count_126 rfl ?_
          refine a_aload_n B d_Mo_count_128 rfl rfl ?_
          refine a_iload_n B d_Mo_count_129 rfl rfl ?_
          refine a_callVI (ci := 7) B (t_Mo_nodes G (show i < 4 by omega) w1 w10 a1) d_Mo_count_130 ok_Mo_nodes ml_Mo_123 ly_106 rfl rfl (by decide) (by decide) rfl (Nat.le_of_ble_eq_true rfl) (fun r_130 τ_130 h_130 => ?_)
          obtain ⟨hr_130, hs_130⟩ := h_130
          subst hr_130
          replace hs_130 := hs_130.symm
          subst hs_130
          first | refine b_icmp_ge B 165 d_Mo_count_133 rfl (by omega) (by omega) (fun c_133 => ?_) (fun c_133 => ?_) | refine a_icmp_ge B 165 d_Mo_count_133 rfl (fun c_133 => ?_) (fun c_133 => ?_)
          · skip
            exact absurd c_133 (by omega)
          refine a_iload_n B d_Mo_count_136 rfl rfl ?_
          refine a_aload_n B d_Mo_count_137 rfl rfl ?_
          refine gf_Mo_isHeld B d_Mo_count_138 fl_Mo_41 ?_
          refine a_bipush B d_Mo_count_141 cb_20 ?_
          refine a_iload_n B d_Mo_count_143 rfl rfl ?_
          first | refine b_imul B d_Mo_count_144 ?_ | refine a_imul B d_Mo_count_144 ?_
          refine a_iload B d_Mo_count_145 rfl ?_
          first | refine b_iadd B d_Mo_count_147 ?_ | refine a_iadd B d_Mo_count_147 ?_
          refine a_zald B ly_117 _ rfl (by first | assumption | omega) d_Mo_count_148 ?_
          rw [a5 _ (by omega)]
          first | refine b_if_eq_b B 156 d_Mo_count_149 rfl (fun c_149 => ?_) (fun c_149 => ?_) | refine a_if_eq B 156 d_Mo_count_149 rfl (fun c_149 => ?_) (fun c_149 => ?_)
          · skip
            refine a_iconst B d_Mo_count_156 ci_0 ?_
            first | refine b_iadd B d_Mo_count_157 ?_ | refine a_iadd B d_Mo_count_157 ?_
            refine a_istore_n (lv1 := [(0, _), (1, _), (2, _), (3, _), (4, _)]) B d_Mo_count_158 rfl (by decide) rfl ?_
            first | refine b_iinc (lv1 := [(0, _), (1, _), (2, _), (3, _), (4, _)]) B d_Mo_count_159 rfl ci_1 (by decide) rfl ?_ | refine a_iinc (lv1 := [(0, _), (1, _), (2, _), (3, _), (4, _)]) B d_Mo_count_159 rfl rfl (by decide) rfl ?_
            refine a_goto B 126 d_Mo_count_162 rfl ?_
            first | (rw [cntB_t (p := fun k => tD (sT S i) (tN (sT S i) + k)) (i := j) c_149, ← Nat.add_assoc] at ihj; exact ihj) | (rw [cntB_f (p := fun k => tD (sT S i) (tN (sT S i) + k)) (i := j) c_149] at ihj; exact ihj)
          refine a_iconst B d_Mo_count_152 ci_1 ?_
          refine a_goto B 157 d_Mo_count_153 rfl ?_
          first | refine b_iadd B d_Mo_count_157 ?_ | refine a_iadd B d_Mo_count_157 ?_
          refine a_istore_n (lv1 := [(0, _), (1, _), (2, _), (3, _), (4, _)]) B d_Mo_count_158 rfl (by decide) rfl ?_
          first | refine b_iinc (lv1 := [(0, _), (1, _), (2, _), (3, _), (4, _)]) B d_Mo_count_159 rfl ci_1 (by decide) rfl ?_ | refine a_iinc (lv1 := [(0, _), (1, _), (2, _), (3, _), (4, _)]) B d_Mo_count_159 rfl rfl (by decide) rfl ?_
          refine a_goto B 126 d_Mo_count_162 rfl ?_
          first | (rw [cntB_t (p := fun k => tD (sT S i) (tN (sT S i) + k)) (i := j) c_149, ← Nat.add_assoc] at ihj; exact ihj) | (rw [cntB_f (p := fun k => tD (sT S i) (tN (sT S i) + k)) (i := j) c_149] at ihj; exact ihj)
        · skip
          refine a_iload B d_Mo_count_126 rfl ?_
          refine a_aload_n B d_Mo_count_128 rfl rfl ?_
          refine a_iload_n B d_Mo_count_129 rfl rfl ?_
          refine a_callVI (ci := 7) B (t_Mo_nodes G (show i < 4 by omega) w1 w10 a1) d_Mo_count_130 ok_Mo_nodes ml_Mo_123 ly_106 rfl rfl (by decide) (by decide) rfl (Nat.le_of_ble_eq_true rfl) (fun r_130 τ_130 h_130 => ?_)
          obtain ⟨hr_130, hs_130⟩ := h_130
          subst hr_130
          replace hs_130 := hs_130.symm
          subst hs_130
          first | refine b_icmp_ge B 165 d_Mo_count_133 rfl (by omega) (by omega) (fun c_133 => ?_) (fun c_133 => ?_) | refine a_icmp_ge B 165 d_Mo_count_133 rfl (fun c_133 => ?_) (fun c_133 => ?_)
          · skip
            first | refine b_iinc (lv1 := [(0, _), (1, _), (2, _), (3, _), (4, _)]) B d_Mo_count_165 rfl ci_1 (by decide) rfl ?_ | refine a_iinc (lv1 := [(0, _), (1, _), (2, _), (3, _), (4, _)]) B d_Mo_count_165 rfl rfl (by decide) rfl ?_
            refine a_goto B 113 d_Mo_count_168 rfl ?_
            refine a_sub (lv1 := [(0, _), (1, _), (2, _), (3, _)]) rfl ?_
            rw [show sumTo (fun t => if tN (sT S t) = 0 then 0 else heldT (sT S t) (2 * tN (sT S t) - 1)) (i + 1) = sumTo (fun t => if tN (sT S t) = 0 then 0 else heldT (sT S t) (2 * tN (sT S t) - 1)) i + cntB (fun k => tD (sT S i) (tN (sT S i) + k)) (tN (sT S i) - 1) from congrArg (sumTo (fun t => if tN (sT S t) = 0 then 0 else heldT (sT S t) (2 * tN (sT S t) - 1)) i + ·) ((if_neg hn).trans (held_eq w1))] at ihi
            exact ihi
          exact absurd c_133 (by omega)
    · skip
      refine a_iload_n B d_Mo_count_113 rfl rfl ?_
      refine a_iconst B d_Mo_count_114 ci_4 ?_
      first | refine b_icmp_ge B 171 d_Mo_count_115 rfl (by omega) (by omega) (fun c_115 => ?_) (fun c_115 => ?_) | refine a_icmp_ge B 171 d_Mo_count_115 rfl (fun c_115 => ?_) (fun c_115 => ?_)
      · skip
        refine a_iload_n B d_Mo_count_171 rfl rfl ?_
        exact Rt _ _ _ _ d_Mo_count_172 (by have e : sp_count S 4 = (nI (heldN S), S) := (by rfl); rw [e]; exact ⟨rfl, hS, (fun _ _ => rfl)⟩)
      exact absurd c_115 (by omega)
  · refine a_tableOut B 173 d_Mo_count_3 hx (by decide) ?_
    refine a_iconst B d_Mo_count_173 ci_m1 ?_
    exact Rt _ _ _ _ d_Mo_count_174 (by have e : sp_count S x = (-1, S) := (by rw [sp_count, if_neg n0, if_neg n1, if_neg n2, if_neg n3, if_neg n4]); rw [e]; exact ⟨rfl, hS, (fun _ _ => rfl)⟩)
