/-! the reference: rows and what is told of them -/
theorem lg_gt {a b : Nat} (ha : a < 2 ^ 62) (hb : b < 2 ^ 62) : (0 < lg_cmp (lN a) (lN b)) ↔ b < a := by
  unfold lg_cmp
  have h1 := pk_lLT (a := b) (b := a) (by omega) (by omega)
  by_cases q : lN a > lN b
  · rw [if_pos q]
    exact ⟨fun _ => h1.mp q, fun _ => by decide⟩
  · rw [if_neg q]
    refine ⟨fun h => ?_, fun h => absurd (h1.mpr h) q⟩
    revert h
    split <;> intro h <;> exact absurd h (by decide)
theorem nn_ex {x : Int32} (h : ¬ x < 0) : ∃ a, a < 2 ^ 31 ∧ x = nI a := by
  have q1 : 0 ≤ x.toInt := by have := Int32.le_iff_toInt_le.mp (Int32.not_lt.mp h); rw [Int32.toInt_zero] at this; exact this
  have q2 := x.toInt_lt
  refine ⟨x.toInt.toNat, by omega, Int32.toInt_inj.mp ?_⟩
  rw [nI_toInt (by omega)]
  omega
theorem hasP_nI {a k : Nat} (ha : a < 2 ^ 31) (hk : k < 2 ^ 31) : hasP (nI a) (nI k) = decide (a + k ≤ 10) := by
  unfold hasP
  have h1 : nI a ≤ (10 : Int32) ↔ a ≤ 10 := nI_le' ha (by decide)
  by_cases q : a ≤ 10
  · have h2 : nI k ≤ (10 : Int32) - nI a ↔ k ≤ 10 - a := by
      rw [show (10 : Int32) = nI 10 from rfl, nI_sub' q]
      exact nI_le' hk (by omega)
    rw [decide_eq_true (nI_ge0 ha), decide_eq_true (h1.mpr q)]
    show decide _ = decide _
    exact decide_eq_decide.mpr (h2.trans (by omega))
  · rw [decide_eq_false (fun z => q (h1.mp z)), decide_eq_false (p := a + k ≤ 10) (by omega)]
    simp
theorem up1_id {σ : AH} {k : Nat} {f : Nat → Int32} (h : σ.1 k = f) : up1 σ k f = σ := by rw [← h, up1_self]
theorem cpy_0 {f g : Nat → Int32} {sp dp : Nat} : va_cpy f g sp dp 0 = g := by
  funext k
  exact if_neg (by omega)
theorem cpy_s {f g : Nat → Int32} {sp dp n : Nat} : upd (va_cpy f g sp dp n) (dp + n) (f (sp + n)) = va_cpy f g sp dp (n + 1) := by
  funext k
  unfold va_cpy
  by_cases e : k = dp + n
  · rw [e, upd_s, if_pos (by omega), show dp + n - dp = n by omega]
  · rw [upd_o e]
    by_cases e2 : dp ≤ k ∧ k < dp + n
    · rw [if_pos e2, if_pos (by omega)]
    · rw [if_neg e2, if_neg (by omega)]
theorem d_Mo_lay_0 : decode prog_9_method_10_code 0 = .ok (.iload_n 3, 1) := by decide +kernel
theorem d_Mo_lay_1 : decode prog_9_method_10_code 1 = .ok (.iconst 0, 1) := by decide +kernel
theorem d_Mo_lay_2 : decode prog_9_method_10_code 2 = .ok (.sipush 10000, 3) := by decide +kernel
theorem d_Mo_lay_5 : decode prog_9_method_10_code 5 = .ok (.invokestatic 87, 3) := by decide +kernel
theorem d_Mo_lay_8 : decode prog_9_method_10_code 8 = .ok (.ifCond .ne 5, 3) := by decide +kernel
theorem d_Mo_lay_11 : decode prog_9_method_10_code 11 = .ok (.iconst (-1), 1) := by decide +kernel
theorem d_Mo_lay_12 : decode prog_9_method_10_code 12 = .ok (.ireturn, 1) := by decide +kernel
theorem d_Mo_lay_13 : decode prog_9_method_10_code 13 = .ok (.aload_n 0, 1) := by decide +kernel
theorem d_Mo_lay_14 : decode prog_9_method_10_code 14 = .ok (.iload_n 1, 1) := by decide +kernel
theorem d_Mo_lay_15 : decode prog_9_method_10_code 15 = .ok (.invokevirtual 99, 3) := by decide +kernel
theorem d_Mo_lay_18 : decode prog_9_method_10_code 18 = .ok (.istore 4, 2) := by decide +kernel
theorem d_Mo_lay_20 : decode prog_9_method_10_code 20 = .ok (.iload 4, 2) := by decide +kernel
theorem d_Mo_lay_22 : decode prog_9_method_10_code 22 = .ok (.ifCond .ge 6, 3) := by decide +kernel
theorem d_Mo_lay_25 : decode prog_9_method_10_code 25 = .ok (.iload 4, 2) := by decide +kernel
theorem d_Mo_lay_27 : decode prog_9_method_10_code 27 = .ok (.ireturn, 1) := by decide +kernel
theorem d_Mo_lay_28 : decode prog_9_method_10_code 28 = .ok (.iload_n 2, 1) := by decide +kernel
theorem d_Mo_lay_29 : decode prog_9_method_10_code 29 = .ok (.invokestatic 91, 3) := by decide +kernel
theorem d_Mo_lay_32 : decode prog_9_method_10_code 32 = .ok (.ifCond .ne 9, 3) := by decide +kernel
theorem d_Mo_lay_35 : decode prog_9_method_10_code 35 = .ok (.aload_n 0, 1) := by decide +kernel
theorem d_Mo_lay_36 : decode prog_9_method_10_code 36 = .ok (.iconst 2, 1) := by decide +kernel
theorem d_Mo_lay_37 : decode prog_9_method_10_code 37 = .ok (.invokevirtual 95, 3) := by decide +kernel
theorem d_Mo_lay_40 : decode prog_9_method_10_code 40 = .ok (.ireturn, 1) := by decide +kernel
theorem d_Mo_lay_41 : decode prog_9_method_10_code 41 = .ok (.aload_n 0, 1) := by decide +kernel
theorem d_Mo_lay_42 : decode prog_9_method_10_code 42 = .ok (.aload_n 0, 1) := by decide +kernel
theorem d_Mo_lay_43 : decode prog_9_method_10_code 43 = .ok (.getfield 17, 3) := by decide +kernel
theorem d_Mo_lay_46 : decode prog_9_method_10_code 46 = .ok (.bipush 10, 2) := by decide +kernel
theorem d_Mo_lay_48 : decode prog_9_method_10_code 48 = .ok (.iload_n 1, 1) := by decide +kernel
theorem d_Mo_lay_49 : decode prog_9_method_10_code 49 = .ok (.imul, 1) := by decide +kernel
theorem d_Mo_lay_50 : decode prog_9_method_10_code 50 = .ok (.iload_n 2, 1) := by decide +kernel
theorem d_Mo_lay_51 : decode prog_9_method_10_code 51 = .ok (.iadd, 1) := by decide +kernel
theorem d_Mo_lay_52 : decode prog_9_method_10_code 52 = .ok (.iaload, 1) := by decide +kernel
theorem d_Mo_lay_53 : decode prog_9_method_10_code 53 = .ok (.putfield 81, 3) := by decide +kernel
theorem d_Mo_lay_56 : decode prog_9_method_10_code 56 = .ok (.aload_n 0, 1) := by decide +kernel
theorem d_Mo_lay_57 : decode prog_9_method_10_code 57 = .ok (.getfield 17, 3) := by decide +kernel
theorem d_Mo_lay_60 : decode prog_9_method_10_code 60 = .ok (.bipush 10, 2) := by decide +kernel
theorem d_Mo_lay_62 : decode prog_9_method_10_code 62 = .ok (.iload_n 1, 1) := by decide +kernel
theorem d_Mo_lay_63 : decode prog_9_method_10_code 63 = .ok (.imul, 1) := by decide +kernel
theorem d_Mo_lay_64 : decode prog_9_method_10_code 64 = .ok (.iload_n 2, 1) := by decide +kernel
theorem d_Mo_lay_65 : decode prog_9_method_10_code 65 = .ok (.iadd, 1) := by decide +kernel
theorem d_Mo_lay_66 : decode prog_9_method_10_code 66 = .ok (.iload_n 3, 1) := by decide +kernel
theorem d_Mo_lay_67 : decode prog_9_method_10_code 67 = .ok (.iastore, 1) := by decide +kernel
theorem d_Mo_lay_68 : decode prog_9_method_10_code 68 = .ok (.iconst 1, 1) := by decide +kernel
theorem d_Mo_lay_69 : decode prog_9_method_10_code 69 = .ok (.ireturn, 1) := by decide +kernel
set_option maxHeartbeats 4000000 in
set_option maxRecDepth 20000 in
theorem tM_lay {g : GG} (G : Gok g) {σ : AH} {S : Sp} (hS : RelM S σ) (x y v : Int32) : TerI g 3 m_Mo_lay [rV 106, iV x, iV y, iV v] σ (fun r τ => r = (sp_lay S x y v).1 ∧ RelM (sp_lay S x y v).2 τ ∧ frM σ τ) := by
  refine TerI.mk G (by decide +kernel) rfl (Nat.le_of_ble_eq_true rfl) (fun K B Rt => ?_)
  have B : Cx g K prog_9_method_10_code 5 R_Mo 3 := B
  have Rt : RetI g K prog_9_method_10_code 5 (fun r τ => r = (sp_lay S x y v).1 ∧ RelM (sp_lay S x y v).2 τ ∧ frM σ τ) := Rt
  show AW g K 5 0 [(0, rV 106), (1, iV x), (2, iV y), (3, iV v)] [] σ
  obtain ⟨hN, hn, hth, hpl, hbd⟩ := id hS.1
  refine a_iload_n B d_Mo_lay_0 rfl rfl ?_
  refine a_iconst B d_Mo_lay_1 ci_0 ?_
  refine a_sipush B d_Mo_lay_2 cs_10000 ?_
  refine a_callSI B (t_Mo_in G v (nI 0) (nI 10000)) d_Mo_lay_5 ok_Mo_in ml_Mo_87 rfl (by decide) (by decide) rfl (Nat.le_of_ble_eq_true rfl) (fun r_5 τ_5 h_5 => ?_)
  obtain ⟨hr_5, hs_5⟩ := h_5
  subst hr_5
  replace hs_5 := hs_5.symm
  subst hs_5
  first | refine b_if_ne_b B 13 d_Mo_lay_8 rfl (fun c_8 => ?_) (fun c_8 => ?_) | refine a_if_ne B 13 d_Mo_lay_8 rfl (fun c_8 => ?_) (fun c_8 => ?_)
  · skip
    have c_8 := of_decide_eq_true c_8
    obtain ⟨hv1, hv2⟩ := tnc_le (Int32.not_lt.mpr c_8.1) c_8.2
    refine a_aload_n B d_Mo_lay_13 rfl rfl ?_
    refine a_iload_n B d_Mo_lay_14 rfl rfl ?_
    refine a_callVI (ci := 7) B (t_Mo_looked G hS x) d_Mo_lay_15 ok_Mo_looked ml_Mo_99 ly_106 rfl rfl (by decide) (by decide) rfl (Nat.le_of_ble_eq_true rfl) (fun r_15 τ_15 h_15 => ?_)
    rcases h_15 with ⟨q, hq, hr9, hR9, hF9⟩ | ⟨i, hq, hr9, hs9⟩
    · skip
      subst hr9
      refine a_istore (lv1 := [(0, _), (1, _), (2, _), (3, _), (4, _)]) B d_Mo_lay_18 (by decide) rfl ?_
      refine a_iload B d_Mo_lay_20 rfl ?_
      refine a_if_ge B 28 d_Mo_lay_22 rfl (fun c9 => absurd (neg_nz (rwQ_neg hq)).2 (Int32.not_lt.mpr c9)) (fun _ => ?_)
      refine a_iload B d_Mo_lay_25 rfl ?_
      exact Rt _ _ _ _ d_Mo_lay_27 (by have e : sp_lay S x y v = q := (by rw [sp_lay]; rcases rwQ_inl hq with ⟨hz, rfl⟩ | ⟨z, hz, hzb, rfl⟩; rw [hz]; rw [hz]; show (if _ then _ else _) = _; rw [if_neg (fun q => q.elim (Int32.not_lt.mpr c_8.1) (Int32.not_lt.mpr c_8.2))]; exact if_pos hzb); rw [e]; exact ⟨rfl, hR9, hF9⟩)
    · skip
      subst hr9
      replace hs9 := hs9.symm
      subst hs9
      obtain ⟨hi, rfl, hti, hqi⟩ := rwQ_ok hq
      refine a_istore (lv1 := [(0, _), (1, _), (2, _), (3, _), (4, _)]) B d_Mo_lay_18 (by decide) rfl ?_
      refine a_iload B d_Mo_lay_20 rfl ?_
      refine b_if_ge B 28 d_Mo_lay_22 rfl (by first | assumption | omega) ?_
      refine a_iload_n B d_Mo_lay_28 rfl rfl ?_
      refine a_callSI B (t_Mo_isNumber G y) d_Mo_lay_29 ok_Mo_isNumber ml_Mo_91 rfl (by decide) (by decide) rfl (Nat.le_of_ble_eq_true rfl) (fun r_29 τ_29 h_29 => ?_)
      obtain ⟨hr_29, hs_29⟩ := h_29
      subst hr_29
      replace hs_29 := hs_29.symm
      subst hs_29
      first | refine b_if_ne_b B 41 d_Mo_lay_32 rfl (fun c_32 => ?_) (fun c_32 => ?_) | refine a_if_ne B 41 d_Mo_lay_32 rfl (fun c_32 => ?_) (fun c_32 => ?_)
      · skip
        obtain ⟨j, hqj⟩ := isS_t c_32
        obtain ⟨hj, rfl⟩ := rngQ_some (by omega) hqj
        refine a_aload_n B d_Mo_lay_41 rfl rfl ?_
        refine a_aload_n B d_Mo_lay_42 rfl rfl ?_
        refine gf_Mo_rows B d_Mo_lay_43 fl_Mo_17 ?_
        refine a_bipush B d_Mo_lay_46 cb_10 ?_
        refine a_iload_n B d_Mo_lay_48 rfl rfl ?_
        first | refine b_imul B d_Mo_lay_49 ?_ | refine a_imul B d_Mo_lay_49 ?_
        refine a_iload_n B d_Mo_lay_50 rfl rfl ?_
        first | refine b_iadd B d_Mo_lay_51 ?_ | refine a_iadd B d_Mo_lay_51 ?_
        refine a_iald B ly_109 _ rfl (by first | assumption | omega) d_Mo_lay_52 ?_
        rw [hpl i j hi hj]
        refine pf_Mo_asked B d_Mo_lay_53 fl_Mo_81 ?_
        rw [show up1 σ 106 (upd (σ.1 106) 2 (nI (sPl S i j))) = askH σ (nI (sPl S i j)) from rfl]
        have hA9 := RelM_asked (v := nI (sPl S i j)) hS
        refine a_aload_n B d_Mo_lay_56 rfl rfl ?_
        refine gf_Mo_rows B d_Mo_lay_57 fl_Mo_17 ?_
        refine a_bipush B d_Mo_lay_60 cb_10 ?_
        refine a_iload_n B d_Mo_lay_62 rfl rfl ?_
        first | refine b_imul B d_Mo_lay_63 ?_ | refine a_imul B d_Mo_lay_63 ?_
        refine a_iload_n B d_Mo_lay_64 rfl rfl ?_
        first | refine b_iadd B d_Mo_lay_65 ?_ | refine a_iadd B d_Mo_lay_65 ?_
        refine a_iload_n B d_Mo_lay_66 rfl rfl ?_
        refine a_iast B ly_109 _ rfl (by first | assumption | omega) d_Mo_lay_67 ?_
        refine a_iconst B d_Mo_lay_68 ci_1 ?_
        exact Rt _ _ _ _ d_Mo_lay_69 (by have e : sp_lay S (nI i) (nI j) v = (1, pA (pR S (sTh S) (va_up (sPl S) i (va_up (sPl S i) j v.toNatClampNeg))) (nI (sPl S i j))) := (by rw [sp_lay, hqi]; show (if _ then _ else _) = _; rw [if_neg (fun q => q.elim (Int32.not_lt.mpr c_8.1) (Int32.not_lt.mpr c_8.2)), if_neg (by rw [hti]; decide), hqj]); rw [e]; exact ⟨rfl, RelM_rows (S := pA S (nI (sPl S i j))) (n := sN S) hA9 (RoM_place hA9.1 hi (by rw [up1_o (by decide)]) (by rw [up1_o (by decide)]) (fun k hk => by rw [up1_s]; (by_cases e9 : k = j; rw [e9, upd_s, va_up_s]; exact hv2; rw [upd_o (by omega), va_up_o e9, askH_o (by decide)]; exact hpl i k hi hk)) (fun k k2 hk hne hk2 => by rw [up1_s, upd_o (by omega)]) (fun k => by (by_cases e9 : k = j; rw [e9, va_up_s]; exact hv1; rw [va_up_o e9]; exact hbd i k))) (fun k q => up1_o (by omega)) (up1_o (by decide)) (fun j _ => by rw [up1_o (by decide)]), fun k hk => by rw [up1_o (by omega)]; exact askH_o (by omega)⟩)
      have hqj := isS_f c_32
      refine a_aload_n B d_Mo_lay_35 rfl rfl ?_
      refine a_iconst B d_Mo_lay_36 ci_2 ?_
      refine a_callVI (ci := 7) B (t_Mo_meets G 2 (by decide)) d_Mo_lay_37 ok_Mo_meets ml_Mo_95 ly_106 rfl rfl (by decide) (by decide) rfl (Nat.le_of_ble_eq_true rfl) (fun r_37 τ_37 h_37 => ?_)
      obtain ⟨hr_37, hs_37⟩ := h_37
      subst hr_37
      subst hs_37
      exact Rt _ _ _ _ d_Mo_lay_40 (by have e : sp_lay S (nI i) y v = RF S 2 := (by rw [sp_lay, hqi]; show (if _ then _ else _) = _; rw [if_neg (fun q => q.elim (Int32.not_lt.mpr c_8.1) (Int32.not_lt.mpr c_8.2)), if_neg (by rw [hti]; decide), hqj]); rw [e]; exact ⟨rfl, RelM_fnd hS (by decide), frM_meet⟩)
  have c_8 := of_decide_eq_false c_8
  refine a_iconst B d_Mo_lay_11 ci_m1 ?_
  exact Rt _ _ _ _ d_Mo_lay_12 (by have e : sp_lay S x y v = RB S := (by rw [sp_lay]; split; rfl; exact if_pos (Decidable.byContradiction (fun q => c_8 ⟨Int32.not_lt.mp (fun h => q (Or.inl h)), Int32.not_lt.mp (fun h => q (Or.inr h))⟩))); rw [e]; exact ⟨rfl, hS, (fun _ _ => rfl)⟩)
theorem d_Mo_tear_0 : decode prog_9_method_11_code 0 = .ok (.aload_n 0, 1) := by decide +kernel
theorem d_Mo_tear_1 : decode prog_9_method_11_code 1 = .ok (.iload_n 1, 1) := by decide +kernel
theorem d_Mo_tear_2 : decode prog_9_method_11_code 2 = .ok (.invokevirtual 99, 3) := by decide +kernel
theorem d_Mo_tear_5 : decode prog_9_method_11_code 5 = .ok (.istore_n 2, 1) := by decide +kernel
theorem d_Mo_tear_6 : decode prog_9_method_11_code 6 = .ok (.iload_n 2, 1) := by decide +kernel
theorem d_Mo_tear_7 : decode prog_9_method_11_code 7 = .ok (.ifCond .ge 5, 3) := by decide +kernel
theorem d_Mo_tear_10 : decode prog_9_method_11_code 10 = .ok (.iload_n 2, 1) := by decide +kernel
theorem d_Mo_tear_11 : decode prog_9_method_11_code 11 = .ok (.ireturn, 1) := by decide +kernel
theorem d_Mo_tear_12 : decode prog_9_method_11_code 12 = .ok (.aload_n 0, 1) := by decide +kernel
theorem d_Mo_tear_13 : decode prog_9_method_11_code 13 = .ok (.getfield 13, 3) := by decide +kernel
theorem d_Mo_tear_16 : decode prog_9_method_11_code 16 = .ok (.iload_n 1, 1) := by decide +kernel
theorem d_Mo_tear_17 : decode prog_9_method_11_code 17 = .ok (.iconst 0, 1) := by decide +kernel
theorem d_Mo_tear_18 : decode prog_9_method_11_code 18 = .ok (.bastore, 1) := by decide +kernel
theorem d_Mo_tear_19 : decode prog_9_method_11_code 19 = .ok (.iconst 1, 1) := by decide +kernel
theorem d_Mo_tear_20 : decode prog_9_method_11_code 20 = .ok (.ireturn, 1) := by decide +kernel
set_option maxHeartbeats 4000000 in
set_option maxRecDepth 20000 in
theorem tM_tear {g : GG} (G : Gok g) {σ : AH} {S : Sp} (hS : RelM S σ) (x : Int32) : TerI g 3 m_Mo_tear [rV 106, iV x] σ (fun r τ => r = (sp_tear S x).1 ∧ RelM (sp_tear S x).2 τ ∧ frM σ τ) := by
  refine TerI.mk G (by decide +kernel) rfl (Nat.le_of_ble_eq_true rfl) (fun K B Rt => ?_)
  have B : Cx g K prog_9_method_11_code 3 R_Mo 3 := B
  have Rt : RetI g K prog_9_method_11_code 3 (fun r τ => r = (sp_tear S x).1 ∧ RelM (sp_tear S x).2 τ ∧ frM σ τ) := Rt
  show AW g K 3 0 [(0, rV 106), (1, iV x)] [] σ
  obtain ⟨hN, hn, hth, hpl, hbd⟩ := id hS.1
  refine a_aload_n B d_Mo_tear_0 rfl rfl ?_
  refine a_iload_n B d_Mo_tear_1 rfl rfl ?_
  refine a_callVI (ci := 7) B (t_Mo_looked G hS x) d_Mo_tear_2 ok_Mo_looked ml_Mo_99 ly_106 rfl rfl (by decide) (by decide) rfl (Nat.le_of_ble_eq_true rfl) (fun r_2 τ_2 h_2 => ?_)
  rcases h_2 with ⟨q, hq, hr9, hR9, hF9⟩ | ⟨i, hq, hr9, hs9⟩
  · skip
    subst hr9
    refine a_istore_n (lv1 := [(0, _), (1, _), (2, _)]) B d_Mo_tear_5 rfl (by decide) rfl ?_
    refine a_iload_n B d_Mo_tear_6 rfl rfl ?_
    refine a_if_ge B 12 d_Mo_tear_7 rfl (fun c9 => absurd (neg_nz (rwQ_neg hq)).2 (Int32.not_lt.mpr c9)) (fun _ => ?_)
    refine a_iload_n B d_Mo_tear_10 rfl rfl ?_
    exact Rt _ _ _ _ d_Mo_tear_11 (by have e : sp_tear S x = q := (by rw [sp_tear]; rcases rwQ_inl hq with ⟨hz, rfl⟩ | ⟨z, hz, hzb, rfl⟩; rw [hz]; rw [hz]; exact if_pos hzb); rw [e]; exact ⟨rfl, hR9, hF9⟩)
  · skip
    subst hr9
    replace hs9 := hs9.symm
    subst hs9
    obtain ⟨hi, rfl, hti, hqi⟩ := rwQ_ok hq
    refine a_istore_n (lv1 := [(0, _), (1, _), (2, _)]) B d_Mo_tear_5 rfl (by decide) rfl ?_
    refine a_iload_n B d_Mo_tear_6 rfl rfl ?_
    refine b_if_ge B 12 d_Mo_tear_7 rfl (by first | assumption | omega) ?_
    refine a_aload_n B d_Mo_tear_12 rfl rfl ?_
    refine gf_Mo_isRow B d_Mo_tear_13 fl_Mo_13 ?_
    refine a_iload_n B d_Mo_tear_16 rfl rfl ?_
    refine a_iconst B d_Mo_tear_17 ci_0 ?_
    refine a_zast B ly_108 _ rfl (by first | assumption | omega) rfl d_Mo_tear_18 ?_
    refine a_iconst B d_Mo_tear_19 ci_1 ?_
    exact Rt _ _ _ _ d_Mo_tear_20 (by have e : sp_tear S (nI i) = (1, pR S (va_up (sTh S) i false) (sPl S)) := (by rw [sp_tear, hqi]; exact if_neg (by rw [hti]; decide)); rw [e]; exact ⟨rfl, RelM_rows hS (RoM_there (b := false) hS.1) (fun k q => up1_o (by omega)) (up1_o (by decide)) (fun j _ => by rw [up1_o (by decide)]), fun k hk => up1_o (by omega)⟩)
theorem d_Mo_copy_0 : decode prog_9_method_12_code 0 = .ok (.iload_n 1, 1) := by decide +kernel
theorem d_Mo_copy_1 : decode prog_9_method_12_code 1 = .ok (.invokestatic 91, 3) := by decide +kernel
theorem d_Mo_copy_4 : decode prog_9_method_12_code 4 = .ok (.ifCond .eq 10, 3) := by decide +kernel
theorem d_Mo_copy_7 : decode prog_9_method_12_code 7 = .ok (.iload_n 3, 1) := by decide +kernel
theorem d_Mo_copy_8 : decode prog_9_method_12_code 8 = .ok (.invokestatic 91, 3) := by decide +kernel
theorem d_Mo_copy_11 : decode prog_9_method_12_code 11 = .ok (.ifCond .ne 5, 3) := by decide +kernel
theorem d_Mo_copy_14 : decode prog_9_method_12_code 14 = .ok (.iconst (-1), 1) := by decide +kernel
theorem d_Mo_copy_15 : decode prog_9_method_12_code 15 = .ok (.ireturn, 1) := by decide +kernel
theorem d_Mo_copy_16 : decode prog_9_method_12_code 16 = .ok (.iload 5, 2) := by decide +kernel
theorem d_Mo_copy_18 : decode prog_9_method_12_code 18 = .ok (.ifCond .ge 9, 3) := by decide +kernel
theorem d_Mo_copy_21 : decode prog_9_method_12_code 21 = .ok (.aload_n 0, 1) := by decide +kernel
theorem d_Mo_copy_22 : decode prog_9_method_12_code 22 = .ok (.iconst 5, 1) := by decide +kernel
theorem d_Mo_copy_23 : decode prog_9_method_12_code 23 = .ok (.invokevirtual 95, 3) := by decide +kernel
theorem d_Mo_copy_26 : decode prog_9_method_12_code 26 = .ok (.ireturn, 1) := by decide +kernel
theorem d_Mo_copy_27 : decode prog_9_method_12_code 27 = .ok (.aload_n 0, 1) := by decide +kernel
theorem d_Mo_copy_28 : decode prog_9_method_12_code 28 = .ok (.getfield 13, 3) := by decide +kernel
theorem d_Mo_copy_31 : decode prog_9_method_12_code 31 = .ok (.iload_n 1, 1) := by decide +kernel
theorem d_Mo_copy_32 : decode prog_9_method_12_code 32 = .ok (.baload, 1) := by decide +kernel
theorem d_Mo_copy_33 : decode prog_9_method_12_code 33 = .ok (.ifCond .eq 12, 3) := by decide +kernel
theorem d_Mo_copy_36 : decode prog_9_method_12_code 36 = .ok (.aload_n 0, 1) := by decide +kernel
theorem d_Mo_copy_37 : decode prog_9_method_12_code 37 = .ok (.getfield 13, 3) := by decide +kernel
theorem d_Mo_copy_40 : decode prog_9_method_12_code 40 = .ok (.iload_n 3, 1) := by decide +kernel
theorem d_Mo_copy_41 : decode prog_9_method_12_code 41 = .ok (.baload, 1) := by decide +kernel
theorem d_Mo_copy_42 : decode prog_9_method_12_code 42 = .ok (.ifCond .ne 9, 3) := by decide +kernel
theorem d_Mo_copy_45 : decode prog_9_method_12_code 45 = .ok (.aload_n 0, 1) := by decide +kernel
theorem d_Mo_copy_46 : decode prog_9_method_12_code 46 = .ok (.iconst 1, 1) := by decide +kernel
theorem d_Mo_copy_47 : decode prog_9_method_12_code 47 = .ok (.invokevirtual 95, 3) := by decide +kernel
theorem d_Mo_copy_50 : decode prog_9_method_12_code 50 = .ok (.ireturn, 1) := by decide +kernel
theorem d_Mo_copy_51 : decode prog_9_method_12_code 51 = .ok (.iload_n 2, 1) := by decide +kernel
theorem d_Mo_copy_52 : decode prog_9_method_12_code 52 = .ok (.ifCond .lt 35, 3) := by decide +kernel
theorem d_Mo_copy_55 : decode prog_9_method_12_code 55 = .ok (.iload 4, 2) := by decide +kernel
theorem d_Mo_copy_57 : decode prog_9_method_12_code 57 = .ok (.ifCond .lt 30, 3) := by decide +kernel
theorem d_Mo_copy_60 : decode prog_9_method_12_code 60 = .ok (.iload_n 2, 1) := by decide +kernel
theorem d_Mo_copy_61 : decode prog_9_method_12_code 61 = .ok (.i2l, 1) := by decide +kernel
theorem d_Mo_copy_62 : decode prog_9_method_12_code 62 = .ok (.iload 5, 2) := by decide +kernel
theorem d_Mo_copy_64 : decode prog_9_method_12_code 64 = .ok (.i2l, 1) := by decide +kernel
theorem d_Mo_copy_65 : decode prog_9_method_12_code 65 = .ok (.ladd, 1) := by decide +kernel
theorem d_Mo_copy_66 : decode prog_9_method_12_code 66 = .ok (.ldc2_w 102, 3) := by decide +kernel
theorem d_Mo_copy_69 : decode prog_9_method_12_code 69 = .ok (.lcmp, 1) := by decide +kernel
theorem d_Mo_copy_70 : decode prog_9_method_12_code 70 = .ok (.ifCond .gt 17, 3) := by decide +kernel
theorem d_Mo_copy_73 : decode prog_9_method_12_code 73 = .ok (.iload 4, 2) := by decide +kernel
theorem d_Mo_copy_75 : decode prog_9_method_12_code 75 = .ok (.i2l, 1) := by decide +kernel
theorem d_Mo_copy_76 : decode prog_9_method_12_code 76 = .ok (.iload 5, 2) := by decide +kernel
theorem d_Mo_copy_78 : decode prog_9_method_12_code 78 = .ok (.i2l, 1) := by decide +kernel
theorem d_Mo_copy_79 : decode prog_9_method_12_code 79 = .ok (.ladd, 1) := by decide +kernel
theorem d_Mo_copy_80 : decode prog_9_method_12_code 80 = .ok (.ldc2_w 102, 3) := by decide +kernel
theorem d_Mo_copy_83 : decode prog_9_method_12_code 83 = .ok (.lcmp, 1) := by decide +kernel
theorem d_Mo_copy_84 : decode prog_9_method_12_code 84 = .ok (.ifCond .le 9, 3) := by decide +kernel
theorem d_Mo_copy_87 : decode prog_9_method_12_code 87 = .ok (.aload_n 0, 1) := by decide +kernel
theorem d_Mo_copy_88 : decode prog_9_method_12_code 88 = .ok (.iconst 2, 1) := by decide +kernel
theorem d_Mo_copy_89 : decode prog_9_method_12_code 89 = .ok (.invokevirtual 95, 3) := by decide +kernel
theorem d_Mo_copy_92 : decode prog_9_method_12_code 92 = .ok (.ireturn, 1) := by decide +kernel
theorem d_Mo_copy_93 : decode prog_9_method_12_code 93 = .ok (.iconst 0, 1) := by decide +kernel
theorem d_Mo_copy_94 : decode prog_9_method_12_code 94 = .ok (.istore 6, 2) := by decide +kernel
theorem d_Mo_copy_96 : decode prog_9_method_12_code 96 = .ok (.iload 6, 2) := by decide +kernel
theorem d_Mo_copy_98 : decode prog_9_method_12_code 98 = .ok (.iload 5, 2) := by decide +kernel
theorem d_Mo_copy_100 : decode prog_9_method_12_code 100 = .ok (.if_icmp .ge 30, 3) := by decide +kernel
theorem d_Mo_copy_103 : decode prog_9_method_12_code 103 = .ok (.aload_n 0, 1) := by decide +kernel
theorem d_Mo_copy_104 : decode prog_9_method_12_code 104 = .ok (.getfield 20, 3) := by decide +kernel
theorem d_Mo_copy_107 : decode prog_9_method_12_code 107 = .ok (.iload 6, 2) := by decide +kernel
theorem d_Mo_copy_109 : decode prog_9_method_12_code 109 = .ok (.aload_n 0, 1) := by decide +kernel
theorem d_Mo_copy_110 : decode prog_9_method_12_code 110 = .ok (.getfield 17, 3) := by decide +kernel
theorem d_Mo_copy_113 : decode prog_9_method_12_code 113 = .ok (.bipush 10, 2) := by decide +kernel
theorem d_Mo_copy_115 : decode prog_9_method_12_code 115 = .ok (.iload_n 1, 1) := by decide +kernel
theorem d_Mo_copy_116 : decode prog_9_method_12_code 116 = .ok (.imul, 1) := by decide +kernel
theorem d_Mo_copy_117 : decode prog_9_method_12_code 117 = .ok (.iload_n 2, 1) := by decide +kernel
theorem d_Mo_copy_118 : decode prog_9_method_12_code 118 = .ok (.iadd, 1) := by decide +kernel
theorem d_Mo_copy_119 : decode prog_9_method_12_code 119 = .ok (.iload 6, 2) := by decide +kernel
theorem d_Mo_copy_121 : decode prog_9_method_12_code 121 = .ok (.iadd, 1) := by decide +kernel
theorem d_Mo_copy_122 : decode prog_9_method_12_code 122 = .ok (.iaload, 1) := by decide +kernel
theorem d_Mo_copy_123 : decode prog_9_method_12_code 123 = .ok (.iastore, 1) := by decide +kernel
theorem d_Mo_copy_124 : decode prog_9_method_12_code 124 = .ok (.iinc 6 1, 3) := by decide +kernel
theorem d_Mo_copy_127 : decode prog_9_method_12_code 127 = .ok (.goto (-31), 3) := by decide +kernel
theorem d_Mo_copy_130 : decode prog_9_method_12_code 130 = .ok (.iconst 0, 1) := by decide +kernel
theorem d_Mo_copy_131 : decode prog_9_method_12_code 131 = .ok (.istore 6, 2) := by decide +kernel
theorem d_Mo_copy_133 : decode prog_9_method_12_code 133 = .ok (.iload 6, 2) := by decide +kernel
theorem d_Mo_copy_135 : decode prog_9_method_12_code 135 = .ok (.iload 5, 2) := by decide +kernel
theorem d_Mo_copy_137 : decode prog_9_method_12_code 137 = .ok (.if_icmp .ge 31, 3) := by decide +kernel
theorem d_Mo_copy_140 : decode prog_9_method_12_code 140 = .ok (.aload_n 0, 1) := by decide +kernel
theorem d_Mo_copy_141 : decode prog_9_method_12_code 141 = .ok (.getfield 17, 3) := by decide +kernel
theorem d_Mo_copy_144 : decode prog_9_method_12_code 144 = .ok (.bipush 10, 2) := by decide +kernel
theorem d_Mo_copy_146 : decode prog_9_method_12_code 146 = .ok (.iload_n 3, 1) := by decide +kernel
theorem d_Mo_copy_147 : decode prog_9_method_12_code 147 = .ok (.imul, 1) := by decide +kernel
theorem d_Mo_copy_148 : decode prog_9_method_12_code 148 = .ok (.iload 4, 2) := by decide +kernel
theorem d_Mo_copy_150 : decode prog_9_method_12_code 150 = .ok (.iadd, 1) := by decide +kernel
theorem d_Mo_copy_151 : decode prog_9_method_12_code 151 = .ok (.iload 6, 2) := by decide +kernel
theorem d_Mo_copy_153 : decode prog_9_method_12_code 153 = .ok (.iadd, 1) := by decide +kernel
theorem d_Mo_copy_154 : decode prog_9_method_12_code 154 = .ok (.aload_n 0, 1) := by decide +kernel
theorem d_Mo_copy_155 : decode prog_9_method_12_code 155 = .ok (.getfield 20, 3) := by decide +kernel
theorem d_Mo_copy_158 : decode prog_9_method_12_code 158 = .ok (.iload 6, 2) := by decide +kernel
theorem d_Mo_copy_160 : decode prog_9_method_12_code 160 = .ok (.iaload, 1) := by decide +kernel
theorem d_Mo_copy_161 : decode prog_9_method_12_code 161 = .ok (.iastore, 1) := by decide +kernel
theorem d_Mo_copy_162 : decode prog_9_method_12_code 162 = .ok (.iinc 6 1, 3) := by decide +kernel
theorem d_Mo_copy_165 : decode prog_9_method_12_code 165 = .ok (.goto (-32), 3) := by decide +kernel
theorem d_Mo_copy_168 : decode prog_9_method_12_code 168 = .ok (.iconst 1, 1) := by decide +kernel
theorem d_Mo_copy_169 : decode prog_9_method_12_code 169 = .ok (.ireturn, 1) := by decide +kernel
set_option maxHeartbeats 4000000 in
set_option maxRecDepth 20000 in
theorem tM_copy {g : GG} (G : Gok g) {σ : AH} {S : Sp} (hS : RelM S σ) (x f y a n : Int32) : TerI g 2 m_Mo_copy [rV 106, iV x, iV f, iV y, iV a, iV n] σ (fun r τ => r = (sp_copy S x f y a n).1 ∧ RelM (sp_copy S x f y a n).2 τ ∧ frM σ τ) := by
  refine TerI.mk G (by decide +kernel) rfl (Nat.le_of_ble_eq_true rfl) (fun K B Rt => ?_)
  have B : Cx g K prog_9_method_12_code 7 R_Mo 2 := B
  have Rt : RetI g K prog_9_method_12_code 7 (fun r τ => r = (sp_copy S x f y a n).1 ∧ RelM (sp_copy S x f y a n).2 τ ∧ frM σ τ) := Rt
  show AW g K 7 0 [(0, rV 106), (1, iV x), (2, iV f), (3, iV y), (4, iV a), (5, iV n)] [] σ
  obtain ⟨hN, hn, hth, hpl, hbd⟩ := id hS.1
  refine a_iload_n B d_Mo_copy_0 rfl rfl ?_
  refine a_callSI B (t_Mo_isNumber G x) d_Mo_copy_1 ok_Mo_isNumber ml_Mo_91 rfl (by decide) (by decide) rfl (Nat.le_of_ble_eq_true rfl) (fun r_1 τ_1 h_1 => ?_)
  obtain ⟨hr_1, hs_1⟩ := h_1
  subst hr_1
  replace hs_1 := hs_1.symm
  subst hs_1
  first | refine b_if_eq_b B 14 d_Mo_copy_4 rfl (fun c_4 => ?_) (fun c_4 => ?_) | refine a_if_eq B 14 d_Mo_copy_4 rfl (fun c_4 => ?_) (fun c_4 => ?_)
  · skip
    have hqi := isS_f c_4
    refine a_iconst B d_Mo_copy_14 ci_m1 ?_
    exact Rt _ _ _ _ d_Mo_copy_15 (by first | exact (by have e : sp_copy S x f y a n = RB S := (by rw [sp_copy, hqi]); rw [e]; exact ⟨rfl, hS, (fun _ _ => rfl)⟩) | exact (by have e : sp_copy S (nI i) f y a n = RB S := (by rw [sp_copy, hqi, hqo]); rw [e]; exact ⟨rfl, hS, (fun _ _ => rfl)⟩))
  obtain ⟨i, hqi⟩ := isS_t c_4
  obtain ⟨hi, rfl⟩ := rngQ_some (by omega) hqi
  refine a_iload_n B d_Mo_copy_7 rfl rfl ?_
  refine a_callSI B (t_Mo_isNumber G y) d_Mo_copy_8 ok_Mo_isNumber ml_Mo_91 rfl (by decide) (by decide) rfl (Nat.le_of_ble_eq_true rfl) (fun r_8 τ_8 h_8 => ?_)
  obtain ⟨hr_8, hs_8⟩ := h_8
  subst hr_8
  replace hs_8 := hs_8.symm
  subst hs_8
  first | refine b_if_ne_b B 16 d_Mo_copy_11 rfl (fun c_11 => ?_) (fun c_11 => ?_) | refine a_if_ne B 16 d_Mo_copy_11 rfl (fun c_11 => ?_) (fun c_11 => ?_)
  · skip
    obtain ⟨o, hqo⟩ := isS_t c_11
    obtain ⟨ho, rfl⟩ := rngQ_some (by omega) hqo
    refine a_iload B d_Mo_copy_16 rfl ?_
    refine a_if_ge B 27 d_Mo_copy_18 rfl (fun c_18 => ?_) (fun c_18 => ?_)
    · skip
      have hn0 : ¬ n < 0 := Int32.not_lt.mpr c_18
      refine a_aload_n B d_Mo_copy_27 rfl rfl ?_
      refine gf_Mo_isRow B d_Mo_copy_28 fl_Mo_13 ?_
      refine a_iload_n B d_Mo_copy_31 rfl rfl ?_
      refine a_zald B ly_108 _ rfl (by first | assumption | omega) d_Mo_copy_32 ?_
      rw [hth i hi]
      first | refine b_if_eq_b B 45 d_Mo_copy_33 rfl (fun c_33 => ?_) (fun c_33 => ?_) | refine a_if_eq B 45 d_Mo_copy_33 rfl (fun c_33 => ?_) (fun c_33 => ?_)
      · skip
        refine a_aload_n B d_Mo_copy_45 rfl rfl ?_
        refine a_iconst B d_Mo_copy_46 ci_1 ?_
        refine a_callVI (ci := 7) B (t_Mo_meets G 1 (by decide)) d_Mo_copy_47 ok_Mo_meets ml_Mo_95 ly_106 rfl rfl (by decide) (by decide) rfl (Nat.le_of_ble_eq_true rfl) (fun r_47 τ_47 h_47 => ?_)
        obtain ⟨hr_47, hs_47⟩ := h_47
        subst hr_47
        subst hs_47
        exact Rt _ _ _ _ d_Mo_copy_50 (by first | exact (by have e : sp_copy S (nI i) f (nI o) a n = RF S 1 := (by rw [sp_copy, hqi, hqo]; show (if _ then _ else _) = _; rw [if_neg hn0]; exact if_pos (Or.inl c_33)); rw [e]; exact ⟨rfl, RelM_fnd hS (by decide), frM_meet⟩) | exact (by have e : sp_copy S (nI i) f (nI o) a n = RF S 1 := (by rw [sp_copy, hqi, hqo]; show (if _ then _ else _) = _; rw [if_neg hn0]; exact if_pos (Or.inr c_42)); rw [e]; exact ⟨rfl, RelM_fnd hS (by decide), frM_meet⟩))
      refine a_aload_n B d_Mo_copy_36 rfl rfl ?_
      refine gf_Mo_isRow B d_Mo_copy_37 fl_Mo_13 ?_
      refine a_iload_n B d_Mo_copy_40 rfl rfl ?_
      refine a_zald B ly_108 _ rfl (by first | assumption | omega) d_Mo_copy_41 ?_
      rw [hth o ho]
      first | refine b_if_ne_b B 51 d_Mo_copy_42 rfl (fun c_42 => ?_) (fun c_42 => ?_) | refine a_if_ne B 51 d_Mo_copy_42 rfl (fun c_42 => ?_) (fun c_42 => ?_)
      · skip
        refine a_iload_n B d_Mo_copy_51 rfl rfl ?_
        refine a_if_lt B 87 d_Mo_copy_52 rfl (fun c_52 => ?_) (fun c_52 => ?_)
        · skip
          refine a_aload_n B d_Mo_copy_87 rfl rfl ?_
          refine a_iconst B d_Mo_copy_88 ci_2 ?_
          refine a_callVI (ci := 7) B (t_Mo_meets G 2 (by decide)) d_Mo_copy_89 ok_Mo_meets ml_Mo_95 ly_106 rfl rfl (by decide) (by decide) rfl (Nat.le_of_ble_eq_true rfl) (fun r_89 τ_89 h_89 => ?_)
          obtain ⟨hr_89, hs_89⟩ := h_89
          subst hr_89
          subst hs_89
          exact Rt _ _ _ _ d_Mo_copy_92 (by first | exact (by have e : sp_copy S (nI i) f (nI o) a n = RF S 2 := (by rw [sp_copy, hqi, hqo]; show (if _ then _ else _) = _; rw [if_neg hn0, if_neg (by rw [c_33, c_42]; decide)]; exact if_pos (by unfold hasP; rw [decide_eq_false (Int32.not_le.mpr c_52)]; rfl)); rw [e]; exact ⟨rfl, RelM_fnd hS (by decide), frM_meet⟩) | exact (by have e : sp_copy S (nI i) f (nI o) a n = RF S 2 := (by rw [sp_copy, hqi, hqo]; show (if _ then _ else _) = _; rw [if_neg hn0, if_neg (by rw [c_33, c_42]; decide)]; exact if_pos (by unfold hasP; rw [decide_eq_false (p := 0 ≤ a) (Int32.not_le.mpr c_57)]; simp)); rw [e]; exact ⟨rfl, RelM_fnd hS (by decide), frM_meet⟩) | exact (by have e : sp_copy S (nI i) (nI f) (nI o) (nI a) (nI n) = RF S 2 := (by rw [sp_copy, hqi, hqo]; show (if _ then _ else _) = _; rw [if_neg hn0, if_neg (by rw [c_33, c_42]; decide)]; exact if_pos (by rw [hasP_nI hf hn9, decide_eq_false (by omega)]; rfl)); rw [e]; exact ⟨rfl, RelM_fnd hS (by decide), frM_meet⟩) | exact (by have e : sp_copy S (nI i) (nI f) (nI o) (nI a) (nI n) = RF S 2 := (by rw [sp_copy, hqi, hqo]; show (if _ then _ else _) = _; rw [if_neg hn0, if_neg (by rw [c_33, c_42]; decide)]; exact if_pos (by rw [hasP_nI ha hn9, decide_eq_false (p := a + n ≤ 10) (by omega)]; simp)); rw [e]; exact ⟨rfl, RelM_fnd hS (by decide), frM_meet⟩))
        refine a_iload B d_Mo_copy_55 rfl ?_
        refine a_if_lt B 87 d_Mo_copy_57 rfl (fun c_57 => ?_) (fun c_57 => ?_)
        · skip
          refine a_aload_n B d_Mo_copy_87 rfl rfl ?_
          refine a_iconst B d_Mo_copy_88 ci_2 ?_
          refine a_callVI (ci := 7) B (t_Mo_meets G 2 (by decide)) d_Mo_copy_89 ok_Mo_meets ml_Mo_95 ly_106 rfl rfl (by decide) (by decide) rfl (Nat.le_of_ble_eq_true rfl) (fun r_89 τ_89 h_89 => ?_)
          obtain ⟨hr_89, hs_89⟩ := h_89
          subst hr_89
          subst hs_89
          exact Rt _ _ _ _ d_Mo_copy_92 (by first | exact (by have e : sp_copy S (nI i) f (nI o) a n = RF S 2 := (by rw [sp_copy, hqi, hqo]; show (if _ then _ else _) = _; rw [if_neg hn0, if_neg (by rw [c_33, c_42]; decide)]; exact if_pos (by unfold hasP; rw [decide_eq_false (Int32.not_le.mpr c_52)]; rfl)); rw [e]; exact ⟨rfl, RelM_fnd hS (by decide), frM_meet⟩) | exact (by have e : sp_copy S (nI i) f (nI o) a n = RF S 2 := (by rw [sp_copy, hqi, hqo]; show (if _ then _ else _) = _; rw [if_neg hn0, if_neg (by rw [c_33, c_42]; decide)]; exact if_pos (by unfold hasP; rw [decide_eq_false (p := 0 ≤ a) (Int32.not_le.mpr c_57)]; simp)); rw [e]; exact ⟨rfl, RelM_fnd hS (by decide), frM_meet⟩) | exact (by have e : sp_copy S (nI i) (nI f) (nI o) (nI a) (nI n) = RF S 2 := (by rw [sp_copy, hqi, hqo]; show (if _ then _ else _) = _; rw [if_neg hn0, if_neg (by rw [c_33, c_42]; decide)]; exact if_pos (by rw [hasP_nI hf hn9, decide_eq_false (by omega)]; rfl)); rw [e]; exact ⟨rfl, RelM_fnd hS (by decide), frM_meet⟩) | exact (by have e : sp_copy S (nI i) (nI f) (nI o) (nI a) (nI n) = RF S 2 := (by rw [sp_copy, hqi, hqo]; show (if _ then _ else _) = _; rw [if_neg hn0, if_neg (by rw [c_33, c_42]; decide)]; exact if_pos (by rw [hasP_nI ha hn9, decide_eq_false (p := a + n ≤ 10) (by omega)]; simp)); rw [e]; exact ⟨rfl, RelM_fnd hS (by decide), frM_meet⟩))
        obtain ⟨f, hf, rfl⟩ := nn_ex c_52
        obtain ⟨a, ha, rfl⟩ := nn_ex c_57
        obtain ⟨n, hn9, rfl⟩ := nn_ex hn0
        refine a_iload_n B d_Mo_copy_60 rfl rfl ?_
        refine a_i2l B d_Mo_copy_61 ?_
        rw [nI_l (by omega)]
        refine a_iload B d_Mo_copy_62 rfl ?_
        refine a_i2l B d_Mo_copy_64 ?_
        rw [nI_l (by omega)]
        refine a_ladd B d_Mo_copy_65 ?_
        rw [lN_add]
        refine a_ldc2 B d_Mo_copy_66 kl_Mo_102 ?_
        refine a_lcmp B d_Mo_copy_69 ?_
        rw [show (10 : Int64) = lN 10 from rfl]
        refine a_if_gt B 87 d_Mo_copy_70 rfl (fun c_70 => ?_) (fun c_70 => ?_)
        · skip
          have c_70 := (lg_gt (by omega) (by decide)).mp c_70
          refine a_aload_n B d_Mo_copy_87 rfl rfl ?_
          refine a_iconst B d_Mo_copy_88 ci_2 ?_
          refine a_callVI (ci := 7) B (t_Mo_meets G 2 (by decide)) d_Mo_copy_89 ok_Mo_meets ml_Mo_95 ly_106 rfl rfl (by decide) (by decide) rfl (Nat.le_of_ble_eq_true rfl) (fun r_89 τ_89 h_89 => ?_)
          obtain ⟨hr_89, hs_89⟩ := h_89
          subst hr_89
          subst hs_89
          exact Rt _ _ _ _ d_Mo_copy_92 (by first | exact (by have e : sp_copy S (nI i) f (nI o) a n = RF S 2 := (by rw [sp_copy, hqi, hqo]; show (if _ then _ else _) = _; rw [if_neg hn0, if_neg (by rw [c_33, c_42]; decide)]; exact if_pos (by unfold hasP; rw [decide_eq_false (Int32.not_le.mpr c_52)]; rfl)); rw [e]; exact ⟨rfl, RelM_fnd hS (by decide), frM_meet⟩) | exact (by have e : sp_copy S (nI i) f (nI o) a n = RF S 2 := (by rw [sp_copy, hqi, hqo]; show (if _ then _ else _) = _; rw [if_neg hn0, if_neg (by rw [c_33, c_42]; decide)]; exact if_pos (by unfold hasP; rw [decide_eq_false (p := 0 ≤ a) (Int32.not_le.mpr c_57)]; simp)); rw [e]; exact ⟨rfl, RelM_fnd hS (by decide), frM_meet⟩) | exact (by have e : sp_copy S (nI i) (nI f) (nI o) (nI a) (nI n) = RF S 2 := (by rw [sp_copy, hqi, hqo]; show (if _ then _ else _) = _; rw [if_neg hn0, if_neg (by rw [c_33, c_42]; decide)]; exact if_pos (by rw [hasP_nI hf hn9, decide_eq_false (by omega)]; rfl)); rw [e]; exact ⟨rfl, RelM_fnd hS (by decide), frM_meet⟩) | exact (by have e : sp_copy S (nI i) (nI f) (nI o) (nI a) (nI n) = RF S 2 := (by rw [sp_copy, hqi, hqo]; show (if _ then _ else _) = _; rw [if_neg hn0, if_neg (by rw [c_33, c_42]; decide)]; exact if_pos (by rw [hasP_nI ha hn9, decide_eq_false (p := a + n ≤ 10) (by omega)]; simp)); rw [e]; exact ⟨rfl, RelM_fnd hS (by decide), frM_meet⟩))
        have c_70 : f + n ≤ 10 := Nat.not_lt.mp (fun q => c_70 ((lg_gt (by omega) (by decide)).mpr q))
        refine a_iload B d_Mo_copy_73 rfl ?_
        refine a_i2l B d_Mo_copy_75 ?_
        rw [nI_l (by omega)]
        refine a_iload B d_Mo_copy_76 rfl ?_
        refine a_i2l B d_Mo_copy_78 ?_
        rw [nI_l (by omega)]
        refine a_ladd B d_Mo_copy_79 ?_
        rw [lN_add]
        refine a_ldc2 B d_Mo_copy_80 kl_Mo_102 ?_
        refine a_lcmp B d_Mo_copy_83 ?_
        rw [show (10 : Int64) = lN 10 from rfl]
        refine a_if_le B 93 d_Mo_copy_84 rfl (fun c_84 => ?_) (fun c_84 => ?_)
        · skip
          have c_84 : ¬ 0 < lg_cmp (lN (a + n)) (lN 10) := Int32.not_lt.mpr c_84
          have c_84 : a + n ≤ 10 := Nat.not_lt.mp (fun q => c_84 ((lg_gt (by omega) (by decide)).mpr q))
          refine a_iconst B d_Mo_copy_93 ci_0 ?_
          refine a_istore (lv1 := [(0, _), (1, _), (2, _), (3, _), (4, _), (5, _), (6, _)]) B d_Mo_copy_94 (by decide) rfl ?_
          have e0 : σ = up1 σ 110 (va_cpy (σ.1 109) (σ.1 110) (10 * i + f) 0 0) := (by rw [cpy_0, up1_self])
          refine (show ∀ σ9, σ = σ9 → AW g K 7 96 [(0, rV 106), (1, iV (nI i)), (2, iV (nI f)), (3, iV (nI o)), (4, iV (nI a)), (5, iV (nI n)), (6, iV (nI 0))] [] σ9 → AW g K 7 96 [(0, rV 106), (1, iV (nI i)), (2, iV (nI f)), (3, iV (nI o)), (4, iV (nI a)), (5, iV (nI n)), (6, iV (nI 0))] [] σ from fun σ9 e9 h9 => e9 ▸ h9) _ e0 ?_
          refine a_for (lf := fun k => [(0, rV 106), (1, iV (nI i)), (2, iV (nI f)), (3, iV (nI o)), (4, iV (nI a)), (5, iV (nI n)), (6, iV (nI k))]) (τ := fun k => up1 σ 110 (va_cpy (σ.1 109) (σ.1 110) (10 * i + f) 0 k)) n (fun k hk ihk => ?_) ?_ 0 (Nat.zero_le _)
          · skip
            refine a_iload B d_Mo_copy_96 rfl ?_
            refine a_iload B d_Mo_copy_98 rfl ?_
            first | refine b_icmp_ge B 130 d_Mo_copy_100 rfl (by omega) (by omega) (fun c_100 => ?_) (fun c_100 => ?_) | refine a_icmp_ge B 130 d_Mo_copy_100 rfl (fun c_100 => ?_) (fun c_100 => ?_)
            · skip
              exact absurd c_100 (by omega)
            refine a_aload_n B d_Mo_copy_103 rfl rfl ?_
            refine gf_Mo_moving B d_Mo_copy_104 fl_Mo_20 ?_
            refine a_iload B d_Mo_copy_107 rfl ?_
            refine a_aload_n B d_Mo_copy_109 rfl rfl ?_
            refine gf_Mo_rows B d_Mo_copy_110 fl_Mo_17 ?_
            refine a_bipush B d_Mo_copy_113 cb_10 ?_
            refine a_iload_n B d_Mo_copy_115 rfl rfl ?_
            first | refine b_imul B d_Mo_copy_116 ?_ | refine a_imul B d_Mo_copy_116 ?_
            refine a_iload_n B d_Mo_copy_117 rfl rfl ?_
            first | refine b_iadd B d_Mo_copy_118 ?_ | refine a_iadd B d_Mo_copy_118 ?_
            refine a_iload B d_Mo_copy_119 rfl ?_
            first | refine b_iadd B d_Mo_copy_121 ?_ | refine a_iadd B d_Mo_copy_121 ?_
            refine a_iald B ly_109 _ rfl (by first | assumption | omega) d_Mo_copy_122 ?_
            refine a_iast B ly_110 _ rfl (by first | assumption | omega) d_Mo_copy_123 ?_
            first | refine b_iinc (lv1 := [(0, _), (1, _), (2, _), (3, _), (4, _), (5, _), (6, _)]) B d_Mo_copy_124 rfl ci_1 (by decide) rfl ?_ | refine a_iinc (lv1 := [(0, _), (1, _), (2, _), (3, _), (4, _), (5, _), (6, _)]) B d_Mo_copy_124 rfl rfl (by decide) rfl ?_
            refine a_goto B 96 d_Mo_copy_127 rfl ?_
            rw [up1_o (show 109 ≠ 110 by decide), up1_s, up1_up1]
            rw [show upd (va_cpy (σ.1 109) (σ.1 110) (10 * i + f) 0 k) k (σ.1 109 (10 * i + f + k)) = va_cpy (σ.1 109) (σ.1 110) (10 * i + f) 0 (k + 1) from (by have := cpy_s (f := σ.1 109) (g := σ.1 110) (sp := 10 * i + f) (dp := 0) (n := k); rw [show 0 + k = k by omega] at this; exact this)]
            exact ihk
          · skip
            refine a_iload B d_Mo_copy_96 rfl ?_
            refine a_iload B d_Mo_copy_98 rfl ?_
            first | refine b_icmp_ge B 130 d_Mo_copy_100 rfl (by omega) (by omega) (fun c_100 => ?_) (fun c_100 => ?_) | refine a_icmp_ge B 130 d_Mo_copy_100 rfl (fun c_100 => ?_) (fun c_100 => ?_)
            · skip
              refine a_iconst B d_Mo_copy_130 ci_0 ?_
              refine a_istore (lv1 := [(0, _), (1, _), (2, _), (3, _), (4, _), (5, _), (6, _)]) B d_Mo_copy_131 (by decide) rfl ?_
              have e0 : up1 σ 110 (va_cpy (σ.1 109) (σ.1 110) (10 * i + f) 0 n) = up1 (up1 σ 110 (va_cpy (σ.1 109) (σ.1 110) (10 * i + f) 0 n)) 109 (va_cpy (va_cpy (σ.1 109) (σ.1 110) (10 * i + f) 0 n) (σ.1 109) 0 (10 * o + a) 0) := (by rw [cpy_0]; exact (up1_id (up1_o (by decide))).symm)
              rw [e0]
              refine a_for (lf := fun k => [(0, rV 106), (1, iV (nI i)), (2, iV (nI f)), (3, iV (nI o)), (4, iV (nI a)), (5, iV (nI n)), (6, iV (nI k))]) (τ := fun k => up1 (up1 σ 110 (va_cpy (σ.1 109) (σ.1 110) (10 * i + f) 0 n)) 109 (va_cpy (va_cpy (σ.1 109) (σ.1 110) (10 * i + f) 0 n) (σ.1 109) 0 (10 * o + a) k)) n (fun k hk ihk => ?_) ?_ 0 (Nat.zero_le _)
              · skip
                refine a_iload B d_Mo_copy_133 rfl ?_
                refine a_iload B d_Mo_copy_135 rfl ?_
                first | refine b_icmp_ge B 168 d_Mo_copy_137 rfl (by omega) (by omega) (fun c_137 => ?_) (fun c_137 => ?_) | refine a_icmp_ge B 168 d_Mo_copy_137 rfl (fun c_137 => ?_) (fun c_137 => ?_)
                · skip
                  exact absurd c_137 (by omega)
                refine a_aload_n B d_Mo_copy_140 rfl rfl ?_
                refine gf_Mo_rows B d_Mo_copy_141 fl_Mo_17 ?_
                refine a_bipush B d_Mo_copy_144 cb_10 ?_
                refine a_iload_n B d_Mo_copy_146 rfl rfl ?_
                first | refine b_imul B d_Mo_copy_147 ?_ | refine a_imul B d_Mo_copy_147 ?_
                refine a_iload B d_Mo_copy_148 rfl ?_
                first | refine b_iadd B d_Mo_copy_150 ?_ | refine a_iadd B d_Mo_copy_150 ?_
                refine a_iload B d_Mo_copy_151 rfl ?_
                first | refine b_iadd B d_Mo_copy_153 ?_ | refine a_iadd B d_Mo_copy_153 ?_
                refine a_aload_n B d_Mo_copy_154 rfl rfl ?_
                refine gf_Mo_moving B d_Mo_copy_155 fl_Mo_20 ?_
                refine a_iload B d_Mo_copy_158 rfl ?_
                refine a_iald B ly_110 _ rfl (by first | assumption | omega) d_Mo_copy_160 ?_
                refine a_iast B ly_109 _ rfl (by first | assumption | omega) d_Mo_copy_161 ?_
                first | refine b_iinc (lv1 := [(0, _), (1, _), (2, _), (3, _), (4, _), (5, _), (6, _)]) B d_Mo_copy_162 rfl ci_1 (by decide) rfl ?_ | refine a_iinc (lv1 := [(0, _), (1, _), (2, _), (3, _), (4, _), (5, _), (6, _)]) B d_Mo_copy_162 rfl rfl (by decide) rfl ?_
                refine a_goto B 133 d_Mo_copy_165 rfl ?_
                have e9 := cpy_s (f := (va_cpy (σ.1 109) (σ.1 110) (10 * i + f) 0 n)) (g := σ.1 109) (sp := 0) (dp := 10 * o + a) (n := k)
                rw [show 0 + k = k by omega] at e9
                rw [up1_s, up1_up1, up1_o (show 110 ≠ 109 by decide), up1_s, e9]
                exact ihk
              · skip
                refine a_iload B d_Mo_copy_133 rfl ?_
                refine a_iload B d_Mo_copy_135 rfl ?_
                first | refine b_icmp_ge B 168 d_Mo_copy_137 rfl (by omega) (by omega) (fun c_137 => ?_) (fun c_137 => ?_) | refine a_icmp_ge B 168 d_Mo_copy_137 rfl (fun c_137 => ?_) (fun c_137 => ?_)
                · skip
                  refine a_iconst B d_Mo_copy_168 ci_1 ?_
                  exact Rt _ _ _ _ d_Mo_copy_169 (by have e : sp_copy S (nI i) (nI f) (nI o) (nI a) (nI n) = (1, pR S (sTh S) (va_up (sPl S) o (va_cpy (sPl S i) (sPl S o) f a n))) := (by rw [sp_copy, hqi, hqo]; show (if _ then _ else _) = _; rw [if_neg hn0, if_neg (by rw [c_33, c_42]; decide), if_neg (by rw [hasP_nI hf hn9, hasP_nI ha hn9, decide_eq_true c_70, decide_eq_true c_84]; decide), nI_clamp (by omega), nI_clamp (by omega), nI_clamp (by omega)]); rw [e]; exact ⟨rfl, RelM_rows hS (RoM_place hS.1 ho (by rw [up1_o (by decide), up1_o (by decide)]) (by rw [up1_o (by decide), up1_o (by decide)]) (fun j hj => by rw [up1_s]; unfold va_cpy; (by_cases e9 : a ≤ j ∧ j < a + n; rw [if_pos (by omega), if_pos (by omega), if_pos e9, show 10 * i + f + (0 + (10 * o + j - (10 * o + a)) - 0) = 10 * i + (f + (j - a)) by omega]; exact hpl i _ hi (by omega); rw [if_neg (by omega), if_neg e9]; exact hpl o j ho hj)) (fun k k2 hk hne hk2 => by rw [up1_s]; exact if_neg (by omega)) (fun j => by unfold va_cpy; (by_cases e9 : a ≤ j ∧ j < a + n; rw [if_pos e9]; exact hbd i _; rw [if_neg e9]; exact hbd o j))) (fun k q => by rw [up1_o (by omega), up1_o (by omega)]) (by rw [up1_o (by omega), up1_o (by omega)]) (fun j _ => by rw [up1_o (by omega), up1_o (by omega)]), fun k hk => by rw [up1_o (by omega), up1_o (by omega)]⟩)
                exact absurd c_137 (by omega)
            exact absurd c_100 (by omega)
        have c_84 := (lg_gt (by omega) (by decide)).mp (Int32.not_le.mp c_84)
        refine a_aload_n B d_Mo_copy_87 rfl rfl ?_
        refine a_iconst B d_Mo_copy_88 ci_2 ?_
        refine a_callVI (ci := 7) B (t_Mo_meets G 2 (by decide)) d_Mo_copy_89 ok_Mo_meets ml_Mo_95 ly_106 rfl rfl (by decide) (by decide) rfl (Nat.le_of_ble_eq_true rfl) (fun r_89 τ_89 h_89 => ?_)
        obtain ⟨hr_89, hs_89⟩ := h_89
        subst hr_89
        subst hs_89
        exact Rt _ _ _ _ d_Mo_copy_92 (by first | exact (by have e : sp_copy S (nI i) f (nI o) a n = RF S 2 := (by rw [sp_copy, hqi, hqo]; show (if _ then _ else _) = _; rw [if_neg hn0, if_neg (by rw [c_33, c_42]; decide)]; exact if_pos (by unfold hasP; rw [decide_eq_false (Int32.not_le.mpr c_52)]; rfl)); rw [e]; exact ⟨rfl, RelM_fnd hS (by decide), frM_meet⟩) | exact (by have e : sp_copy S (nI i) f (nI o) a n = RF S 2 := (by rw [sp_copy, hqi, hqo]; show (if _ then _ else _) = _; rw [if_neg hn0, if_neg (by rw [c_33, c_42]; decide)]; exact if_pos (by unfold hasP; rw [decide_eq_false (p := 0 ≤ a) (Int32.not_le.mpr c_57)]; simp)); rw [e]; exact ⟨rfl, RelM_fnd hS (by decide), frM_meet⟩) | exact (by have e : sp_copy S (nI i) (nI f) (nI o) (nI a) (nI n) = RF S 2 := (by rw [sp_copy, hqi, hqo]; show (if _ then _ else _) = _; rw [if_neg hn0, if_neg (by rw [c_33, c_42]; decide)]; exact if_pos (by rw [hasP_nI hf hn9, decide_eq_false (by omega)]; rfl)); rw [e]; exact ⟨rfl, RelM_fnd hS (by decide), frM_meet⟩) | exact (by have e : sp_copy S (nI i) (nI f) (nI o) (nI a) (nI n) = RF S 2 := (by rw [sp_copy, hqi, hqo]; show (if _ then _ else _) = _; rw [if_neg hn0, if_neg (by rw [c_33, c_42]; decide)]; exact if_pos (by rw [hasP_nI ha hn9, decide_eq_false (p := a + n ≤ 10) (by omega)]; simp)); rw [e]; exact ⟨rfl, RelM_fnd hS (by decide), frM_meet⟩))
      refine a_aload_n B d_Mo_copy_45 rfl rfl ?_
      refine a_iconst B d_Mo_copy_46 ci_1 ?_
      refine a_callVI (ci := 7) B (t_Mo_meets G 1 (by decide)) d_Mo_copy_47 ok_Mo_meets ml_Mo_95 ly_106 rfl rfl (by decide) (by decide) rfl (Nat.le_of_ble_eq_true rfl) (fun r_47 τ_47 h_47 => ?_)
      obtain ⟨hr_47, hs_47⟩ := h_47
      subst hr_47
      subst hs_47
      exact Rt _ _ _ _ d_Mo_copy_50 (by first | exact (by have e : sp_copy S (nI i) f (nI o) a n = RF S 1 := (by rw [sp_copy, hqi, hqo]; show (if _ then _ else _) = _; rw [if_neg hn0]; exact if_pos (Or.inl c_33)); rw [e]; exact ⟨rfl, RelM_fnd hS (by decide), frM_meet⟩) | exact (by have e : sp_copy S (nI i) f (nI o) a n = RF S 1 := (by rw [sp_copy, hqi, hqo]; show (if _ then _ else _) = _; rw [if_neg hn0]; exact if_pos (Or.inr c_42)); rw [e]; exact ⟨rfl, RelM_fnd hS (by decide), frM_meet⟩))
    refine a_aload_n B d_Mo_copy_21 rfl rfl ?_
    refine a_iconst B d_Mo_copy_22 ci_5 ?_
    refine a_callVI (ci := 7) B (t_Mo_meets G 5 (by decide)) d_Mo_copy_23 ok_Mo_meets ml_Mo_95 ly_106 rfl rfl (by decide) (by decide) rfl (Nat.le_of_ble_eq_true rfl) (fun r_23 τ_23 h_23 => ?_)
    obtain ⟨hr_23, hs_23⟩ := h_23
    subst hr_23
    subst hs_23
    exact Rt _ _ _ _ d_Mo_copy_26 (by have e : sp_copy S (nI i) f (nI o) a n = RF S 5 := (by rw [sp_copy, hqi, hqo]; show (if _ then _ else _) = _; exact if_pos (Int32.not_le.mp c_18)); rw [e]; exact ⟨rfl, RelM_fnd hS (by decide), frM_meet⟩)
  have hqo := isS_f c_11
  refine a_iconst B d_Mo_copy_14 ci_m1 ?_
  exact Rt _ _ _ _ d_Mo_copy_15 (by first | exact (by have e : sp_copy S x f y a n = RB S := (by rw [sp_copy, hqi]); rw [e]; exact ⟨rfl, hS, (fun _ _ => rfl)⟩) | exact (by have e : sp_copy S (nI i) f y a n = RB S := (by rw [sp_copy, hqi, hqo]); rw [e]; exact ⟨rfl, hS, (fun _ _ => rfl)⟩))
theorem d_Mo_unlikeness_0 : decode prog_9_method_13_code 0 = .ok (.iload_n 1, 1) := by decide +kernel
theorem d_Mo_unlikeness_1 : decode prog_9_method_13_code 1 = .ok (.iload_n 2, 1) := by decide +kernel
theorem d_Mo_unlikeness_2 : decode prog_9_method_13_code 2 = .ok (.if_icmp .ge 7, 3) := by decide +kernel
theorem d_Mo_unlikeness_5 : decode prog_9_method_13_code 5 = .ok (.iload_n 1, 1) := by decide +kernel
theorem d_Mo_unlikeness_6 : decode prog_9_method_13_code 6 = .ok (.goto 4, 3) := by decide +kernel
theorem d_Mo_unlikeness_9 : decode prog_9_method_13_code 9 = .ok (.iload_n 2, 1) := by decide +kernel
theorem d_Mo_unlikeness_10 : decode prog_9_method_13_code 10 = .ok (.istore_n 3, 1) := by decide +kernel
theorem d_Mo_unlikeness_11 : decode prog_9_method_13_code 11 = .ok (.iload_n 1, 1) := by decide +kernel
theorem d_Mo_unlikeness_12 : decode prog_9_method_13_code 12 = .ok (.iload_n 2, 1) := by decide +kernel
theorem d_Mo_unlikeness_13 : decode prog_9_method_13_code 13 = .ok (.if_icmp .ge 7, 3) := by decide +kernel
theorem d_Mo_unlikeness_16 : decode prog_9_method_13_code 16 = .ok (.iload_n 2, 1) := by decide +kernel
theorem d_Mo_unlikeness_17 : decode prog_9_method_13_code 17 = .ok (.goto 4, 3) := by decide +kernel
theorem d_Mo_unlikeness_20 : decode prog_9_method_13_code 20 = .ok (.iload_n 1, 1) := by decide +kernel
theorem d_Mo_unlikeness_21 : decode prog_9_method_13_code 21 = .ok (.istore 4, 2) := by decide +kernel
theorem d_Mo_unlikeness_23 : decode prog_9_method_13_code 23 = .ok (.iload_n 3, 1) := by decide +kernel
theorem d_Mo_unlikeness_24 : decode prog_9_method_13_code 24 = .ok (.iload 4, 2) := by decide +kernel
theorem d_Mo_unlikeness_26 : decode prog_9_method_13_code 26 = .ok (.if_icmp .eq 22, 3) := by decide +kernel
theorem d_Mo_unlikeness_29 : decode prog_9_method_13_code 29 = .ok (.aload_n 0, 1) := by decide +kernel
theorem d_Mo_unlikeness_30 : decode prog_9_method_13_code 30 = .ok (.getfield 13, 3) := by decide +kernel
theorem d_Mo_unlikeness_33 : decode prog_9_method_13_code 33 = .ok (.iload 4, 2) := by decide +kernel
theorem d_Mo_unlikeness_35 : decode prog_9_method_13_code 35 = .ok (.baload, 1) := by decide +kernel
theorem d_Mo_unlikeness_36 : decode prog_9_method_13_code 36 = .ok (.ifCond .eq 12, 3) := by decide +kernel
theorem d_Mo_unlikeness_39 : decode prog_9_method_13_code 39 = .ok (.aload_n 0, 1) := by decide +kernel
theorem d_Mo_unlikeness_40 : decode prog_9_method_13_code 40 = .ok (.getfield 84, 3) := by decide +kernel
theorem d_Mo_unlikeness_43 : decode prog_9_method_13_code 43 = .ok (.iload 4, 2) := by decide +kernel
theorem d_Mo_unlikeness_45 : decode prog_9_method_13_code 45 = .ok (.if_icmp .gt 7, 3) := by decide +kernel
theorem d_Mo_unlikeness_48 : decode prog_9_method_13_code 48 = .ok (.iconst 0, 1) := by decide +kernel
theorem d_Mo_unlikeness_49 : decode prog_9_method_13_code 49 = .ok (.goto 15, 3) := by decide +kernel
theorem d_Mo_unlikeness_52 : decode prog_9_method_13_code 52 = .ok (.aload_n 0, 1) := by decide +kernel
theorem d_Mo_unlikeness_53 : decode prog_9_method_13_code 53 = .ok (.getfield 17, 3) := by decide +kernel
theorem d_Mo_unlikeness_56 : decode prog_9_method_13_code 56 = .ok (.bipush 10, 2) := by decide +kernel
theorem d_Mo_unlikeness_58 : decode prog_9_method_13_code 58 = .ok (.iload 4, 2) := by decide +kernel
theorem d_Mo_unlikeness_60 : decode prog_9_method_13_code 60 = .ok (.imul, 1) := by decide +kernel
theorem d_Mo_unlikeness_61 : decode prog_9_method_13_code 61 = .ok (.iload_n 3, 1) := by decide +kernel
theorem d_Mo_unlikeness_62 : decode prog_9_method_13_code 62 = .ok (.iadd, 1) := by decide +kernel
theorem d_Mo_unlikeness_63 : decode prog_9_method_13_code 63 = .ok (.iaload, 1) := by decide +kernel
theorem d_Mo_unlikeness_64 : decode prog_9_method_13_code 64 = .ok (.ireturn, 1) := by decide +kernel
set_option maxHeartbeats 4000000 in
set_option maxRecDepth 20000 in
theorem t_Mo_unlikeness {g : GG} (G : Gok g) {σ : AH} {n : Nat} {th : Nat → Bool} {pl : Nat → Nat → Nat} (hR : RoM σ n th pl) {a b : Nat} (ha : a < 10) (hb : b < 10) : TerI g 0 m_Mo_unlikeness [rV 106, iV (nI a), iV (nI b)] σ (fun r τ => r = nI (unl n th pl a b) ∧ τ = σ) := by
  refine TerI.mk G (by decide +kernel) rfl (Nat.le_of_ble_eq_true rfl) (fun K B Rt => ?_)
  have B : Cx g K prog_9_method_13_code 5 R_Mo 0 := B
  have Rt : RetI g K prog_9_method_13_code 5 (fun r τ => r = nI (unl n th pl a b) ∧ τ = σ) := Rt
  show AW g K 5 0 [(0, rV 106), (1, iV (nI a)), (2, iV (nI b))] [] σ
  obtain ⟨hN, hn, hth, hpl, hbd⟩ := id hR
  refine a_iload_n B d_Mo_unlikeness_0 rfl rfl ?_
  refine a_iload_n B d_Mo_unlikeness_1 rfl rfl ?_
  first | refine b_icmp_ge B 9 d_Mo_unlikeness_2 rfl (by omega) (by omega) (fun c_2 => ?_) (fun c_2 => ?_) | refine a_icmp_ge B 9 d_Mo_unlikeness_2 rfl (fun c_2 => ?_) (fun c_2 => ?_)
  · skip
    refine a_iload_n B d_Mo_unlikeness_9 rfl rfl ?_
    refine a_istore_n (lv1 := [(0, _), (1, _), (2, _), (3, _)]) B d_Mo_unlikeness_10 rfl (by decide) rfl ?_
    refine a_iload_n B d_Mo_unlikeness_11 rfl rfl ?_
    refine a_iload_n B d_Mo_unlikeness_12 rfl rfl ?_
    first | refine b_icmp_ge B 20 d_Mo_unlikeness_13 rfl (by omega) (by omega) (fun c_13 => ?_) (fun c_13 => ?_) | refine a_icmp_ge B 20 d_Mo_unlikeness_13 rfl (fun c_13 => ?_) (fun c_13 => ?_)
    · skip
      refine a_iload_n B d_Mo_unlikeness_20 rfl rfl ?_
      refine a_istore (lv1 := [(0, _), (1, _), (2, _), (3, _), (4, _)]) B d_Mo_unlikeness_21 (by decide) rfl ?_
      refine a_iload_n B d_Mo_unlikeness_23 rfl rfl ?_
      refine a_iload B d_Mo_unlikeness_24 rfl ?_
      first | refine b_icmp_eq B 48 d_Mo_unlikeness_26 rfl (by omega) (by omega) (fun c_26 => ?_) (fun c_26 => ?_) | refine a_icmp_eq B 48 d_Mo_unlikeness_26 rfl (fun c_26 => ?_) (fun c_26 => ?_)
      · skip
        refine a_iconst B d_Mo_unlikeness_48 ci_0 ?_
        refine a_goto B 64 d_Mo_unlikeness_49 rfl ?_
        exact Rt _ _ _ _ d_Mo_unlikeness_64 ⟨by first | (rw [unl, if_pos (by first | (left; omega) | (right; left; omega) | (right; right; first | rw [show max a b = b by omega]; exact c_36 | rw [show max a b = a by omega]; exact c_36))]; done) | (rw [unl, if_neg (by rintro (h | h | h); omega; omega; first | (rw [show max a b = b by omega, c_36] at h; cases h) | (rw [show max a b = a by omega, c_36] at h; cases h)), show max a b = b by omega, show min a b = a by omega]; done) | (rw [unl, if_neg (by rintro (h | h | h); omega; omega; first | (rw [show max a b = b by omega, c_36] at h; cases h) | (rw [show max a b = a by omega, c_36] at h; cases h)), show max a b = a by omega, show min a b = b by omega]; done) | omega, rfl⟩
      refine a_aload_n B d_Mo_unlikeness_29 rfl rfl ?_
      refine gf_Mo_isRow B d_Mo_unlikeness_30 fl_Mo_13 ?_
      refine a_iload B d_Mo_unlikeness_33 rfl ?_
      refine a_zald B ly_108 _ rfl (by first | assumption | omega) d_Mo_unlikeness_35 ?_
      rw [hth _ (by omega)]
      first | refine b_if_eq_b B 48 d_Mo_unlikeness_36 rfl (fun c_36 => ?_) (fun c_36 => ?_) | refine a_if_eq B 48 d_Mo_unlikeness_36 rfl (fun c_36 => ?_) (fun c_36 => ?_)
      · skip
        refine a_iconst B d_Mo_unlikeness_48 ci_0 ?_
        refine a_goto B 64 d_Mo_unlikeness_49 rfl ?_
        exact Rt _ _ _ _ d_Mo_unlikeness_64 ⟨by first | (rw [unl, if_pos (by first | (left; omega) | (right; left; omega) | (right; right; first | rw [show max a b = b by omega]; exact c_36 | rw [show max a b = a by omega]; exact c_36))]; done) | (rw [unl, if_neg (by rintro (h | h | h); omega; omega; first | (rw [show max a b = b by omega, c_36] at h; cases h) | (rw [show max a b = a by omega, c_36] at h; cases h)), show max a b = b by omega, show min a b = a by omega]; done) | (rw [unl, if_neg (by rintro (h | h | h); omega; omega; first | (rw [show max a b = b by omega, c_36] at h; cases h) | (rw [show max a b = a by omega, c_36] at h; cases h)), show max a b = a by omega, show min a b = b by omega]; done) | omega, rfl⟩
      refine a_aload_n B d_Mo_unlikeness_39 rfl rfl ?_
      refine gf_Mo_leaves B d_Mo_unlikeness_40 fl_Mo_84 ?_
      rw [hN]
      refine a_iload B d_Mo_unlikeness_43 rfl ?_
      first | refine b_icmp_gt B 52 d_Mo_unlikeness_45 rfl (by omega) (by omega) (fun c_45 => ?_) (fun c_45 => ?_) | refine a_icmp_gt B 52 d_Mo_unlikeness_45 rfl (fun c_45 => ?_) (fun c_45 => ?_)
      · skip
        refine a_aload_n B d_Mo_unlikeness_52 rfl rfl ?_
        refine gf_Mo_rows B d_Mo_unlikeness_53 fl_Mo_17 ?_
        refine a_bipush B d_Mo_unlikeness_56 cb_10 ?_
        refine a_iload B d_Mo_unlikeness_58 rfl ?_
        first | refine b_imul B d_Mo_unlikeness_60 ?_ | refine a_imul B d_Mo_unlikeness_60 ?_
        refine a_iload_n B d_Mo_unlikeness_61 rfl rfl ?_
        first | refine b_iadd B d_Mo_unlikeness_62 ?_ | refine a_iadd B d_Mo_unlikeness_62 ?_
        refine a_iald B ly_109 _ rfl (by first | assumption | omega) d_Mo_unlikeness_63 ?_
        rw [hpl _ _ (by omega) (by omega)]
        exact Rt _ _ _ _ d_Mo_unlikeness_64 ⟨by first | (rw [unl, if_pos (by first | (left; omega) | (right; left; omega) | (right; right; first | rw [show max a b = b by omega]; exact c_36 | rw [show max a b = a by omega]; exact c_36))]; done) | (rw [unl, if_neg (by rintro (h | h | h); omega; omega; first | (rw [show max a b = b by omega, c_36] at h; cases h) | (rw [show max a b = a by omega, c_36] at h; cases h)), show max a b = b by omega, show min a b = a by omega]; done) | (rw [unl, if_neg (by rintro (h | h | h); omega; omega; first | (rw [show max a b = b by omega, c_36] at h; cases h) | (rw [show max a b = a by omega, c_36] at h; cases h)), show max a b = a by omega, show min a b = b by omega]; done) | omega, rfl⟩
      refine a_iconst B d_Mo_unlikeness_48 ci_0 ?_
      refine a_goto B 64 d_Mo_unlikeness_49 rfl ?_
      exact Rt _ _ _ _ d_Mo_unlikeness_64 ⟨by first | (rw [unl, if_pos (by first | (left; omega) | (right; left; omega) | (right; right; first | rw [show max a b = b by omega]; exact c_36 | rw [show max a b = a by omega]; exact c_36))]; done) | (rw [unl, if_neg (by rintro (h | h | h); omega; omega; first | (rw [show max a b = b by omega, c_36] at h; cases h) | (rw [show max a b = a by omega, c_36] at h; cases h)), show max a b = b by omega, show min a b = a by omega]; done) | (rw [unl, if_neg (by rintro (h | h | h); omega; omega; first | (rw [show max a b = b by omega, c_36] at h; cases h) | (rw [show max a b = a by omega, c_36] at h; cases h)), show max a b = a by omega, show min a b = b by omega]; done) | omega, rfl⟩
    refine a_iload_n B d_Mo_unlikeness_16 rfl rfl ?_
    refine a_goto B 21 d_Mo_unlikeness_17 rfl ?_
    refine a_istore (lv1 := [(0, _), (1, _), (2, _), (3, _), (4, _)]) B d_Mo_unlikeness_21 (by decide) rfl ?_
    refine a_iload_n B d_Mo_unlikeness_23 rfl rfl ?_
    refine a_iload B d_Mo_unlikeness_24 rfl ?_
    first | refine b_icmp_eq B 48 d_Mo_unlikeness_26 rfl (by omega) (by omega) (fun c_26 => ?_) (fun c_26 => ?_) | refine a_icmp_eq B 48 d_Mo_unlikeness_26 rfl (fun c_26 => ?_) (fun c_26 => ?_)
    · skip
      refine a_iconst B d_Mo_unlikeness_48 ci_0 ?_
      refine a_goto B 64 d_Mo_unlikeness_49 rfl ?_
      exact Rt _ _ _ _ d_Mo_unlikeness_64 ⟨by first | (rw [unl, if_pos (by first | (left; omega) | (right; left; omega) | (right; right; first | rw [show max a b = b by omega]; exact c_36 | rw [show max a b = a by omega]; exact c_36))]; done) | (rw [unl, if_neg (by rintro (h | h | h); omega; omega; first | (rw [show max a b = b by omega, c_36] at h; cases h) | (rw [show max a b = a by omega, c_36] at h; cases h)), show max a b = b by omega, show min a b = a by omega]; done) | (rw [unl, if_neg (by rintro (h | h | h); omega; omega; first | (rw [show max a b = b by omega, c_36] at h; cases h) | (rw [show max a b = a by omega, c_36] at h; cases h)), show max a b = a by omega, show min a b = b by omega]; done) | omega, rfl⟩
    refine a_aload_n B d_Mo_unlikeness_29 rfl rfl ?_
    refine gf_Mo_isRow B d_Mo_unlikeness_30 fl_Mo_13 ?_
    refine a_iload B d_Mo_unlikeness_33 rfl ?_
    refine a_zald B ly_108 _ rfl (by first | assumption | omega) d_Mo_unlikeness_35 ?_
    rw [hth _ (by omega)]
    first | refine b_if_eq_b B 48 d_Mo_unlikeness_36 rfl (fun c_36 => ?_) (fun c_36 => ?_) | refine a_if_eq B 48 d_Mo_unlikeness_36 rfl (fun c_36 => ?_) (fun c_36 => ?_)
    · skip
      refine a_iconst B d_Mo_unlikeness_48 ci_0 ?_
      refine a_goto B 64 d_Mo_unlikeness_49 rfl ?_
      exact Rt _ _ _ _ d_Mo_unlikeness_64 ⟨by first | (rw [unl, if_pos (by first | (left; omega) | (right; left; omega) | (right; right; first | rw [show max a b = b by omega]; exact c_36 | rw [show max a b = a by omega]; exact c_36))]; done) | (rw [unl, if_neg (by rintro (h | h | h); omega; omega; first | (rw [show max a b = b by omega, c_36] at h; cases h) | (rw [show max a b = a by omega, c_36] at h; cases h)), show max a b = b by omega, show min a b = a by omega]; done) | (rw [unl, if_neg (by rintro (h | h | h); omega; omega; first | (rw [show max a b = b by omega, c_36] at h; cases h) | (rw [show max a b = a by omega, c_36] at h; cases h)), show max a b = a by omega, show min a b = b by omega]; done) | omega, rfl⟩
    refine a_aload_n B d_Mo_unlikeness_39 rfl rfl ?_
    refine gf_Mo_leaves B d_Mo_unlikeness_40 fl_Mo_84 ?_
    rw [hN]
    refine a_iload B d_Mo_unlikeness_43 rfl ?_
    first | refine b_icmp_gt B 52 d_Mo_unlikeness_45 rfl (by omega) (by omega) (fun c_45 => ?_) (fun c_45 => ?_) | refine a_icmp_gt B 52 d_Mo_unlikeness_45 rfl (fun c_45 => ?_) (fun c_45 => ?_)
    · skip
      refine a_aload_n B d_Mo_unlikeness_52 rfl rfl ?_
      refine gf_Mo_rows B d_Mo_unlikeness_53 fl_Mo_17 ?_
      refine a_bipush B d_Mo_unlikeness_56 cb_10 ?_
      refine a_iload B d_Mo_unlikeness_58 rfl ?_
      first | refine b_imul B d_Mo_unlikeness_60 ?_ | refine a_imul B d_Mo_unlikeness_60 ?_
      refine a_iload_n B d_Mo_unlikeness_61 rfl rfl ?_
      first | refine b_iadd B d_Mo_unlikeness_62 ?_ | refine a_iadd B d_Mo_unlikeness_62 ?_
      refine a_iald B ly_109 _ rfl (by first | assumption | omega) d_Mo_unlikeness_63 ?_
      rw [hpl _ _ (by omega) (by omega)]
      exact Rt _ _ _ _ d_Mo_unlikeness_64 ⟨by first | (rw [unl, if_pos (by first | (left; omega) | (right; left; omega) | (right; right; first | rw [show max a b = b by omega]; exact c_36 | rw [show max a b = a by omega]; exact c_36))]; done) | (rw [unl, if_neg (by rintro (h | h | h); omega; omega; first | (rw [show max a b = b by omega, c_36] at h; cases h) | (rw [show max a b = a by omega, c_36] at h; cases h)), show max a b = b by omega, show min a b = a by omega]; done) | (rw [unl, if_neg (by rintro (h | h | h); omega; omega; first | (rw [show max a b = b by omega, c_36] at h; cases h) | (rw [show max a b = a by omega, c_36] at h; cases h)), show max a b = a by omega, show min a b = b by omega]; done) | omega, rfl⟩
    refine a_iconst B d_Mo_unlikeness_48 ci_0 ?_
    refine a_goto B 64 d_Mo_unlikeness_49 rfl ?_
    exact Rt _ _ _ _ d_Mo_unlikeness_64 ⟨by first | (rw [unl, if_pos (by first | (left; omega) | (right; left; omega) | (right; right; first | rw [show max a b = b by omega]; exact c_36 | rw [show max a b = a by omega]; exact c_36))]; done) | (rw [unl, if_neg (by rintro (h | h | h); omega; omega; first | (rw [show max a b = b by omega, c_36] at h; cases h) | (rw [show max a b = a by omega, c_36] at h; cases h)), show max a b = b by omega, show min a b = a by omega]; done) | (rw [unl, if_neg (by rintro (h | h | h); omega; omega; first | (rw [show max a b = b by omega, c_36] at h; cases h) | (rw [show max a b = a by omega, c_36] at h; cases h)), show max a b = a by omega, show min a b = b by omega]; done) | omega, rfl⟩
  refine a_iload_n B d_Mo_unlikeness_5 rfl rfl ?_
  refine a_goto B 10 d_Mo_unlikeness_6 rfl ?_
  refine a_istore_n (lv1 := [(0, _), (1, _), (2, _), (3, _)]) B d_Mo_unlikeness_10 rfl (by decide) rfl ?_
  refine a_iload_n B d_Mo_unlikeness_11 rfl rfl ?_
  refine a_iload_n B d_Mo_unlikeness_12 rfl rfl ?_
  first | refine b_icmp_ge B 20 d_Mo_unlikeness_13 rfl (by omega) (by omega) (fun c_13 => ?_) (fun c_13 => ?_) | refine a_icmp_ge B 20 d_Mo_unlikeness_13 rfl (fun c_13 => ?_) (fun c_13 => ?_)
  · skip
    refine a_iload_n B d_Mo_unlikeness_20 rfl rfl ?_
    refine a_istore (lv1 := [(0, _), (1, _), (2, _), (3, _), (4, _)]) B d_Mo_unlikeness_21 (by decide) rfl ?_
    refine a_iload_n B d_Mo_unlikeness_23 rfl rfl ?_
    refine a_iload B d_Mo_unlikeness_24 rfl ?_
    first | refine b_icmp_eq B 48 d_Mo_unlikeness_26 rfl (by omega) (by omega) (fun c_26 => ?_) (fun c_26 => ?_) | refine a_icmp_eq B 48 d_Mo_unlikeness_26 rfl (fun c_26 => ?_) (fun c_26 => ?_)
    · skip
      refine a_iconst B d_Mo_unlikeness_48 ci_0 ?_
      refine a_goto B 64 d_Mo_unlikeness_49 rfl ?_
      exact Rt _ _ _ _ d_Mo_unlikeness_64 ⟨by first | (rw [unl, if_pos (by first | (left; omega) | (right; left; omega) | (right; right; first | rw [show max a b = b by omega]; exact c_36 | rw [show max a b = a by omega]; exact c_36))]; done) | (rw [unl, if_neg (by rintro (h | h | h); omega; omega; first | (rw [show max a b = b by omega, c_36] at h; cases h) | (rw [show max a b = a by omega, c_36] at h; cases h)), show max a b = b by omega, show min a b = a by omega]; done) | (rw [unl, if_neg (by rintro (h | h | h); omega; omega; first | (rw [show max a b = b by omega, c_36] at h; cases h) | (rw [show max a b = a by omega, c_36] at h; cases h)), show max a b = a by omega, show min a b = b by omega]; done) | omega, rfl⟩
    refine a_aload_n B d_Mo_unlikeness_29 rfl rfl ?_
    refine gf_Mo_isRow B d_Mo_unlikeness_30 fl_Mo_13 ?_
    refine a_iload B d_Mo_unlikeness_33 rfl ?_
    refine a_zald B ly_108 _ rfl (by first | assumption | omega) d_Mo_unlikeness_35 ?_
    rw [hth _ (by omega)]
    first | refine b_if_eq_b B 48 d_Mo_unlikeness_36 rfl (fun c_36 => ?_) (fun c_36 => ?_) | refine a_if_eq B 48 d_Mo_unlikeness_36 rfl (fun c_36 => ?_) (fun c_36 => ?_)
    · skip
      refine a_iconst B d_Mo_unlikeness_48 ci_0 ?_
      refine a_goto B 64 d_Mo_unlikeness_49 rfl ?_
      exact Rt _ _ _ _ d_Mo_unlikeness_64 ⟨by first | (rw [unl, if_pos (by first | (left; omega) | (right; left; omega) | (right; right; first | rw [show max a b = b by omega]; exact c_36 | rw [show max a b = a by omega]; exact c_36))]; done) | (rw [unl, if_neg (by rintro (h | h | h); omega; omega; first | (rw [show max a b = b by omega, c_36] at h; cases h) | (rw [show max a b = a by omega, c_36] at h; cases h)), show max a b = b by omega, show min a b = a by omega]; done) | (rw [unl, if_neg (by rintro (h | h | h); omega; omega; first | (rw [show max a b = b by omega, c_36] at h; cases h) | (rw [show max a b = a by omega, c_36] at h; cases h)), show max a b = a by omega, show min a b = b by omega]; done) | omega, rfl⟩
    refine a_aload_n B d_Mo_unlikeness_39 rfl rfl ?_
    refine gf_Mo_leaves B d_Mo_unlikeness_40 fl_Mo_84 ?_
    rw [hN]
    refine a_iload B d_Mo_unlikeness_43 rfl ?_
    first | refine b_icmp_gt B 52 d_Mo_unlikeness_45 rfl (by omega) (by omega) (fun c_45 => ?_) (fun c_45 => ?_) | refine a_icmp_gt B 52 d_Mo_unlikeness_45 rfl (fun c_45 => ?_) (fun c_45 => ?_)
    · skip
      refine a_aload_n B d_Mo_unlikeness_52 rfl rfl ?_
      refine gf_Mo_rows B d_Mo_unlikeness_53 fl_Mo_17 ?_
      refine a_bipush B d_Mo_unlikeness_56 cb_10 ?_
      refine a_iload B d_Mo_unlikeness_58 rfl ?_
      first | refine b_imul B d_Mo_unlikeness_60 ?_ | refine a_imul B d_Mo_unlikeness_60 ?_
      refine a_iload_n B d_Mo_unlikeness_61 rfl rfl ?_
      first | refine b_iadd B d_Mo_unlikeness_62 ?_ | refine a_iadd B d_Mo_unlikeness_62 ?_
      refine a_iald B ly_109 _ rfl (by first | assumption | omega) d_Mo_unlikeness_63 ?_
      rw [hpl _ _ (by omega) (by omega)]
      exact Rt _ _ _ _ d_Mo_unlikeness_64 ⟨by first | (rw [unl, if_pos (by first | (left; omega) | (right; left; omega) | (right; right; first | rw [show max a b = b by omega]; exact c_36 | rw [show max a b = a by omega]; exact c_36))]; done) | (rw [unl, if_neg (by rintro (h | h | h); omega; omega; first | (rw [show max a b = b by omega, c_36] at h; cases h) | (rw [show max a b = a by omega, c_36] at h; cases h)), show max a b = b by omega, show min a b = a by omega]; done) | (rw [unl, if_neg (by rintro (h | h | h); omega; omega; first | (rw [show max a b = b by omega, c_36] at h; cases h) | (rw [show max a b = a by omega, c_36] at h; cases h)), show max a b = a by omega, show min a b = b by omega]; done) | omega, rfl⟩
    refine a_iconst B d_Mo_unlikeness_48 ci_0 ?_
    refine a_goto B 64 d_Mo_unlikeness_49 rfl ?_
    exact Rt _ _ _ _ d_Mo_unlikeness_64 ⟨by first | (rw [unl, if_pos (by first | (left; omega) | (right; left; omega) | (right; right; first | rw [show max a b = b by omega]; exact c_36 | rw [show max a b = a by omega]; exact c_36))]; done) | (rw [unl, if_neg (by rintro (h | h | h); omega; omega; first | (rw [show max a b = b by omega, c_36] at h; cases h) | (rw [show max a b = a by omega, c_36] at h; cases h)), show max a b = b by omega, show min a b = a by omega]; done) | (rw [unl, if_neg (by rintro (h | h | h); omega; omega; first | (rw [show max a b = b by omega, c_36] at h; cases h) | (rw [show max a b = a by omega, c_36] at h; cases h)), show max a b = a by omega, show min a b = b by omega]; done) | omega, rfl⟩
  refine a_iload_n B d_Mo_unlikeness_16 rfl rfl ?_
  refine a_goto B 21 d_Mo_unlikeness_17 rfl ?_
  refine a_istore (lv1 := [(0, _), (1, _), (2, _), (3, _), (4, _)]) B d_Mo_unlikeness_21 (by decide) rfl ?_
  refine a_iload_n B d_Mo_unlikeness_23 rfl rfl ?_
  refine a_iload B d_Mo_unlikeness_24 rfl ?_
  first | refine b_icmp_eq B 48 d_Mo_unlikeness_26 rfl (by omega) (by omega) (fun c_26 => ?_) (fun c_26 => ?_) | refine a_icmp_eq B 48 d_Mo_unlikeness_26 rfl (fun c_26 => ?_) (fun c_26 => ?_)
  · skip
    refine a_iconst B d_Mo_unlikeness_48 ci_0 ?_
    refine a_goto B 64 d_Mo_unlikeness_49 rfl ?_
    exact Rt _ _ _ _ d_Mo_unlikeness_64 ⟨by first | (rw [unl, if_pos (by first | (left; omega) | (right; left; omega) | (right; right; first | rw [show max a b = b by omega]; exact c_36 | rw [show max a b = a by omega]; exact c_36))]; done) | (rw [unl, if_neg (by rintro (h | h | h); omega; omega; first | (rw [show max a b = b by omega, c_36] at h; cases h) | (rw [show max a b = a by omega, c_36] at h; cases h)), show max a b = b by omega, show min a b = a by omega]; done) | (rw [unl, if_neg (by rintro (h | h | h); omega; omega; first | (rw [show max a b = b by omega, c_36] at h; cases h) | (rw [show max a b = a by omega, c_36] at h; cases h)), show max a b = a by omega, show min a b = b by omega]; done) | omega, rfl⟩
  refine a_aload_n B d_Mo_unlikeness_29 rfl rfl ?_
  refine gf_Mo_isRow B d_Mo_unlikeness_30 fl_Mo_13 ?_
  refine a_iload B d_Mo_unlikeness_33 rfl ?_
  refine a_zald B ly_108 _ rfl (by first | assumption | omega) d_Mo_unlikeness_35 ?_
  rw [hth _ (by omega)]
  first | refine b_if_eq_b B 48 d_Mo_unlikeness_36 rfl (fun c_36 => ?_) (fun c_36 => ?_) | refine a_if_eq B 48 d_Mo_unlikeness_36 rfl (fun c_36 => ?_) (fun c_36 => ?_)
  · skip
    refine a_iconst B d_Mo_unlikeness_48 ci_0 ?_
    refine a_goto B 64 d_Mo_unlikeness_49 rfl ?_
    exact Rt _ _ _ _ d_Mo_unlikeness_64 ⟨by first | (rw [unl, if_pos (by first | (left; omega) | (right; left; omega) | (right; right; first | rw [show max a b = b by omega]; exact c_36 | rw [show max a b = a by omega]; exact c_36))]; done) | (rw [unl, if_neg (by rintro (h | h | h); omega; omega; first | (rw [show max a b = b by omega, c_36] at h; cases h) | (rw [show max a b = a by omega, c_36] at h; cases h)), show max a b = b by omega, show min a b = a by omega]; done) | (rw [unl, if_neg (by rintro (h | h | h); omega; omega; first | (rw [show max a b = b by omega, c_36] at h; cases h) | (rw [show max a b = a by omega, c_36] at h; cases h)), show max a b = a by omega, show min a b = b by omega]; done) | omega, rfl⟩
  refine a_aload_n B d_Mo_unlikeness_39 rfl rfl ?_
  refine gf_Mo_leaves B d_Mo_unlikeness_40 fl_Mo_84 ?_
  rw [hN]
  refine a_iload B d_Mo_unlikeness_43 rfl ?_
  first | refine b_icmp_gt B 52 d_Mo_unlikeness_45 rfl (by omega) (by omega) (fun c_45 => ?_) (fun c_45 => ?_) | refine a_icmp_gt B 52 d_Mo_unlikeness_45 rfl (fun c_45 => ?_) (fun c_45 => ?_)
  · skip
    refine a_aload_n B d_Mo_unlikeness_52 rfl rfl ?_
    refine gf_Mo_rows B d_Mo_unlikeness_53 fl_Mo_17 ?_
    refine a_bipush B d_Mo_unlikeness_56 cb_10 ?_
    refine a_iload B d_Mo_unlikeness_58 rfl ?_
    first | refine b_imul B d_Mo_unlikeness_60 ?_ | refine a_imul B d_Mo_unlikeness_60 ?_
    refine a_iload_n B d_Mo_unlikeness_61 rfl rfl ?_
    first | refine b_iadd B d_Mo_unlikeness_62 ?_ | refine a_iadd B d_Mo_unlikeness_62 ?_
    refine a_iald B ly_109 _ rfl (by first | assumption | omega) d_Mo_unlikeness_63 ?_
    rw [hpl _ _ (by omega) (by omega)]
    exact Rt _ _ _ _ d_Mo_unlikeness_64 ⟨by first | (rw [unl, if_pos (by first | (left; omega) | (right; left; omega) | (right; right; first | rw [show max a b = b by omega]; exact c_36 | rw [show max a b = a by omega]; exact c_36))]; done) | (rw [unl, if_neg (by rintro (h | h | h); omega; omega; first | (rw [show max a b = b by omega, c_36] at h; cases h) | (rw [show max a b = a by omega, c_36] at h; cases h)), show max a b = b by omega, show min a b = a by omega]; done) | (rw [unl, if_neg (by rintro (h | h | h); omega; omega; first | (rw [show max a b = b by omega, c_36] at h; cases h) | (rw [show max a b = a by omega, c_36] at h; cases h)), show max a b = a by omega, show min a b = b by omega]; done) | omega, rfl⟩
  refine a_iconst B d_Mo_unlikeness_48 ci_0 ?_
  refine a_goto B 64 d_Mo_unlikeness_49 rfl ?_
  exact Rt _ _ _ _ d_Mo_unlikeness_64 ⟨by first | (rw [unl, if_pos (by first | (left; omega) | (right; left; omega) | (right; right; first | rw [show max a b = b by omega]; exact c_36 | rw [show max a b = a by omega]; exact c_36))]; done) | (rw [unl, if_neg (by rintro (h | h | h); omega; omega; first | (rw [show max a b = b by omega, c_36] at h; cases h) | (rw [show max a b = a by omega, c_36] at h; cases h)), show max a b = b by omega, show min a b = a by omega]; done) | (rw [unl, if_neg (by rintro (h | h | h); omega; omega; first | (rw [show max a b = b by omega, c_36] at h; cases h) | (rw [show max a b = a by omega, c_36] at h; cases h)), show max a b = a by omega, show min a b = b by omega]; done) | omega, rfl⟩
theorem d_Mo_unlike_0 : decode prog_9_method_14_code 0 = .ok (.iload_n 1, 1) := by decide +kernel
theorem d_Mo_unlike_1 : decode prog_9_method_14_code 1 = .ok (.iconst 0, 1) := by decide +kernel
theorem d_Mo_unlike_2 : decode prog_9_method_14_code 2 = .ok (.aload_n 0, 1) := by decide +kernel
theorem d_Mo_unlike_3 : decode prog_9_method_14_code 3 = .ok (.getfield 84, 3) := by decide +kernel
theorem d_Mo_unlike_6 : decode prog_9_method_14_code 6 = .ok (.iconst 1, 1) := by decide +kernel
theorem d_Mo_unlike_7 : decode prog_9_method_14_code 7 = .ok (.isub, 1) := by decide +kernel
theorem d_Mo_unlike_8 : decode prog_9_method_14_code 8 = .ok (.invokestatic 87, 3) := by decide +kernel
theorem d_Mo_unlike_11 : decode prog_9_method_14_code 11 = .ok (.ifCond .eq 31, 3) := by decide +kernel
theorem d_Mo_unlike_14 : decode prog_9_method_14_code 14 = .ok (.iload_n 2, 1) := by decide +kernel
theorem d_Mo_unlike_15 : decode prog_9_method_14_code 15 = .ok (.iconst 0, 1) := by decide +kernel
theorem d_Mo_unlike_16 : decode prog_9_method_14_code 16 = .ok (.aload_n 0, 1) := by decide +kernel
theorem d_Mo_unlike_17 : decode prog_9_method_14_code 17 = .ok (.getfield 84, 3) := by decide +kernel
theorem d_Mo_unlike_20 : decode prog_9_method_14_code 20 = .ok (.iconst 1, 1) := by decide +kernel
theorem d_Mo_unlike_21 : decode prog_9_method_14_code 21 = .ok (.isub, 1) := by decide +kernel
theorem d_Mo_unlike_22 : decode prog_9_method_14_code 22 = .ok (.invokestatic 87, 3) := by decide +kernel
theorem d_Mo_unlike_25 : decode prog_9_method_14_code 25 = .ok (.ifCond .eq 17, 3) := by decide +kernel
theorem d_Mo_unlike_28 : decode prog_9_method_14_code 28 = .ok (.aload_n 0, 1) := by decide +kernel
theorem d_Mo_unlike_29 : decode prog_9_method_14_code 29 = .ok (.aload_n 0, 1) := by decide +kernel
theorem d_Mo_unlike_30 : decode prog_9_method_14_code 30 = .ok (.iload_n 1, 1) := by decide +kernel
theorem d_Mo_unlike_31 : decode prog_9_method_14_code 31 = .ok (.iload_n 2, 1) := by decide +kernel
theorem d_Mo_unlike_32 : decode prog_9_method_14_code 32 = .ok (.invokevirtual 104, 3) := by decide +kernel
theorem d_Mo_unlike_35 : decode prog_9_method_14_code 35 = .ok (.iconst 1, 1) := by decide +kernel
theorem d_Mo_unlike_36 : decode prog_9_method_14_code 36 = .ok (.invokevirtual 108, 3) := by decide +kernel
theorem d_Mo_unlike_39 : decode prog_9_method_14_code 39 = .ok (.goto 4, 3) := by decide +kernel
theorem d_Mo_unlike_42 : decode prog_9_method_14_code 42 = .ok (.iconst (-1), 1) := by decide +kernel
theorem d_Mo_unlike_43 : decode prog_9_method_14_code 43 = .ok (.ireturn, 1) := by decide +kernel
set_option maxHeartbeats 4000000 in
set_option maxRecDepth 20000 in
theorem tM_unlike {g : GG} (G : Gok g) {σ : AH} {S : Sp} (hS : RelM S σ) (x y : Int32) : TerI g 1 m_Mo_unlike [rV 106, iV x, iV y] σ (fun r τ => r = (sp_unlike S x y).1 ∧ RelM (sp_unlike S x y).2 τ ∧ frM σ τ) := by
  refine TerI.mk G (by decide +kernel) rfl (Nat.le_of_ble_eq_true rfl) (fun K B Rt => ?_)
  have B : Cx g K prog_9_method_14_code 3 R_Mo 1 := B
  have Rt : RetI g K prog_9_method_14_code 3 (fun r τ => r = (sp_unlike S x y).1 ∧ RelM (sp_unlike S x y).2 τ ∧ frM σ τ) := Rt
  show AW g K 3 0 [(0, rV 106), (1, iV x), (2, iV y)] [] σ
  obtain ⟨hN, hn, hth, hpl, hbd⟩ := id hS.1
  refine a_iload_n B d_Mo_unlike_0 rfl rfl ?_
  refine a_iconst B d_Mo_unlike_1 ci_0 ?_
  refine a_aload_n B d_Mo_unlike_2 rfl rfl ?_
  refine gf_Mo_leaves B d_Mo_unlike_3 fl_Mo_84 ?_
  rw [hN]
  refine a_iconst B d_Mo_unlike_6 ci_1 ?_
  first | refine b_isub B (by omega) d_Mo_unlike_7 ?_ | refine a_isub B d_Mo_unlike_7 ?_
  refine a_callSI B (t_Mo_in G x (nI 0) (nI (sN S) - nI 1)) d_Mo_unlike_8 ok_Mo_in ml_Mo_87 rfl (by decide) (by decide) rfl (Nat.le_of_ble_eq_true rfl) (fun r_8 τ_8 h_8 => ?_)
  obtain ⟨hr_8, hs_8⟩ := h_8
  subst hr_8
  replace hs_8 := hs_8.symm
  subst hs_8
  first | refine b_if_eq_b B 42 d_Mo_unlike_11 rfl (fun c_11 => ?_) (fun c_11 => ?_) | refine a_if_eq B 42 d_Mo_unlike_11 rfl (fun c_11 => ?_) (fun c_11 => ?_)
  · skip
    have hqa := isS_f ((in_rng (by omega)).symm.trans c_11)
    refine a_iconst B d_Mo_unlike_42 ci_m1 ?_
    exact Rt _ _ _ _ d_Mo_unlike_43 (by first | exact (by have e : sp_unlike S x y = RB S := (by rw [sp_unlike, hqa]); rw [e]; exact ⟨rfl, hS, (fun _ _ => rfl)⟩) | exact (by have e : sp_unlike S (nI a) y = RB S := (by rw [sp_unlike, hqa, hqb]); rw [e]; exact ⟨rfl, hS, (fun _ _ => rfl)⟩) | exact (by have e : sp_unlike S (nI a) (nI b) = (1, pA S (nI (uS S a b))) := (by rw [sp_unlike, hqa, hqb]); rw [e]; exact ⟨rfl, RelM_asked hS, frM_ask⟩))
  obtain ⟨a, hqa⟩ := isS_t ((in_rng (by omega)).symm.trans c_11)
  obtain ⟨ha, rfl⟩ := rngQ_some (by omega) hqa
  refine a_iload_n B d_Mo_unlike_14 rfl rfl ?_
  refine a_iconst B d_Mo_unlike_15 ci_0 ?_
  refine a_aload_n B d_Mo_unlike_16 rfl rfl ?_
  refine gf_Mo_leaves B d_Mo_unlike_17 fl_Mo_84 ?_
  rw [hN]
  refine a_iconst B d_Mo_unlike_20 ci_1 ?_
  first | refine b_isub B (by omega) d_Mo_unlike_21 ?_ | refine a_isub B d_Mo_unlike_21 ?_
  refine a_callSI B (t_Mo_in G y (nI 0) (nI (sN S - 1))) d_Mo_unlike_22 ok_Mo_in ml_Mo_87 rfl (by decide) (by decide) rfl (Nat.le_of_ble_eq_true rfl) (fun r_22 τ_22 h_22 => ?_)
  obtain ⟨hr_22, hs_22⟩ := h_22
  subst hr_22
  replace hs_22 := hs_22.symm
  subst hs_22
  first | refine b_if_eq_b B 42 d_Mo_unlike_25 rfl (fun c_25 => ?_) (fun c_25 => ?_) | refine a_if_eq B 42 d_Mo_unlike_25 rfl (fun c_25 => ?_) (fun c_25 => ?_)
  · skip
    have hqb := isS_f ((in_rngP (by omega) (by omega)).symm.trans c_25)
    refine a_iconst B d_Mo_unlike_42 ci_m1 ?_
    exact Rt _ _ _ _ d_Mo_unlike_43 (by first | exact (by have e : sp_unlike S x y = RB S := (by rw [sp_unlike, hqa]); rw [e]; exact ⟨rfl, hS, (fun _ _ => rfl)⟩) | exact (by have e : sp_unlike S (nI a) y = RB S := (by rw [sp_unlike, hqa, hqb]); rw [e]; exact ⟨rfl, hS, (fun _ _ => rfl)⟩) | exact (by have e : sp_unlike S (nI a) (nI b) = (1, pA S (nI (uS S a b))) := (by rw [sp_unlike, hqa, hqb]); rw [e]; exact ⟨rfl, RelM_asked hS, frM_ask⟩))
  obtain ⟨b, hqb⟩ := isS_t ((in_rngP (by omega) (by omega)).symm.trans c_25)
  obtain ⟨hb, rfl⟩ := rngQ_some (by omega) hqb
  refine a_aload_n B d_Mo_unlike_28 rfl rfl ?_
  refine a_aload_n B d_Mo_unlike_29 rfl rfl ?_
  refine a_iload_n B d_Mo_unlike_30 rfl rfl ?_
  refine a_iload_n B d_Mo_unlike_31 rfl rfl ?_
  refine a_callVI (ci := 7) B (t_Mo_unlikeness G hS.1 (by omega) (by omega)) d_Mo_unlike_32 ok_Mo_unlikeness ml_Mo_104 ly_106 rfl rfl (by decide) (by decide) rfl (Nat.le_of_ble_eq_true rfl) (fun r_32 τ_32 h_32 => ?_)
  obtain ⟨hr_32, hs_32⟩ := h_32
  subst hr_32
  replace hs_32 := hs_32.symm
  subst hs_32
  refine a_iconst B d_Mo_unlike_35 ci_1 ?_
  refine a_callVI (ci := 7) B (t_Mo_ask G _ (nI 1)) d_Mo_unlike_36 ok_Mo_ask ml_Mo_108 ly_106 rfl rfl (by decide) (by decide) rfl (Nat.le_of_ble_eq_true rfl) (fun r_36 τ_36 h_36 => ?_)
  obtain ⟨hr_36, hs_36⟩ := h_36
  subst hr_36
  subst hs_36
  refine a_goto B 43 d_Mo_unlike_39 rfl ?_
  exact Rt _ _ _ _ d_Mo_unlike_43 (by first | exact (by have e : sp_unlike S x y = RB S := (by rw [sp_unlike, hqa]); rw [e]; exact ⟨rfl, hS, (fun _ _ => rfl)⟩) | exact (by have e : sp_unlike S (nI a) y = RB S := (by rw [sp_unlike, hqa, hqb]); rw [e]; exact ⟨rfl, hS, (fun _ _ => rfl)⟩) | exact (by have e : sp_unlike S (nI a) (nI b) = (1, pA S (nI (uS S a b))) := (by rw [sp_unlike, hqa, hqb]); rw [e]; exact ⟨rfl, RelM_asked hS, frM_ask⟩))
theorem d_Mo_mean_0 : decode prog_9_method_15_code 0 = .ok (.aload_n 0, 1) := by decide +kernel
theorem d_Mo_mean_1 : decode prog_9_method_15_code 1 = .ok (.iload_n 1, 1) := by decide +kernel
theorem d_Mo_mean_2 : decode prog_9_method_15_code 2 = .ok (.invokevirtual 99, 3) := by decide +kernel
theorem d_Mo_mean_5 : decode prog_9_method_15_code 5 = .ok (.istore_n 2, 1) := by decide +kernel
theorem d_Mo_mean_6 : decode prog_9_method_15_code 6 = .ok (.iload_n 2, 1) := by decide +kernel
theorem d_Mo_mean_7 : decode prog_9_method_15_code 7 = .ok (.ifCond .ge 5, 3) := by decide +kernel
theorem d_Mo_mean_10 : decode prog_9_method_15_code 10 = .ok (.iload_n 2, 1) := by decide +kernel
theorem d_Mo_mean_11 : decode prog_9_method_15_code 11 = .ok (.ireturn, 1) := by decide +kernel
theorem d_Mo_mean_12 : decode prog_9_method_15_code 12 = .ok (.iconst 0, 1) := by decide +kernel
theorem d_Mo_mean_13 : decode prog_9_method_15_code 13 = .ok (.istore_n 3, 1) := by decide +kernel
theorem d_Mo_mean_14 : decode prog_9_method_15_code 14 = .ok (.iconst 0, 1) := by decide +kernel
theorem d_Mo_mean_15 : decode prog_9_method_15_code 15 = .ok (.istore 4, 2) := by decide +kernel
theorem d_Mo_mean_17 : decode prog_9_method_15_code 17 = .ok (.iload 4, 2) := by decide +kernel
theorem d_Mo_mean_19 : decode prog_9_method_15_code 19 = .ok (.iload_n 1, 1) := by decide +kernel
theorem d_Mo_mean_20 : decode prog_9_method_15_code 20 = .ok (.if_icmp .ge 24, 3) := by decide +kernel
theorem d_Mo_mean_23 : decode prog_9_method_15_code 23 = .ok (.iload_n 3, 1) := by decide +kernel
theorem d_Mo_mean_24 : decode prog_9_method_15_code 24 = .ok (.aload_n 0, 1) := by decide +kernel
theorem d_Mo_mean_25 : decode prog_9_method_15_code 25 = .ok (.getfield 17, 3) := by decide +kernel
theorem d_Mo_mean_28 : decode prog_9_method_15_code 28 = .ok (.bipush 10, 2) := by decide +kernel
theorem d_Mo_mean_30 : decode prog_9_method_15_code 30 = .ok (.iload_n 1, 1) := by decide +kernel
theorem d_Mo_mean_31 : decode prog_9_method_15_code 31 = .ok (.imul, 1) := by decide +kernel
theorem d_Mo_mean_32 : decode prog_9_method_15_code 32 = .ok (.iload 4, 2) := by decide +kernel
theorem d_Mo_mean_34 : decode prog_9_method_15_code 34 = .ok (.iadd, 1) := by decide +kernel
theorem d_Mo_mean_35 : decode prog_9_method_15_code 35 = .ok (.iaload, 1) := by decide +kernel
theorem d_Mo_mean_36 : decode prog_9_method_15_code 36 = .ok (.iadd, 1) := by decide +kernel
theorem d_Mo_mean_37 : decode prog_9_method_15_code 37 = .ok (.istore_n 3, 1) := by decide +kernel
theorem d_Mo_mean_38 : decode prog_9_method_15_code 38 = .ok (.iinc 4 1, 3) := by decide +kernel
theorem d_Mo_mean_41 : decode prog_9_method_15_code 41 = .ok (.goto (-24), 3) := by decide +kernel
theorem d_Mo_mean_44 : decode prog_9_method_15_code 44 = .ok (.iload_n 1, 1) := by decide +kernel
theorem d_Mo_mean_45 : decode prog_9_method_15_code 45 = .ok (.ifCond .ne 11, 3) := by decide +kernel
theorem d_Mo_mean_48 : decode prog_9_method_15_code 48 = .ok (.aload_n 0, 1) := by decide +kernel
theorem d_Mo_mean_49 : decode prog_9_method_15_code 49 = .ok (.iconst 4, 1) := by decide +kernel
theorem d_Mo_mean_50 : decode prog_9_method_15_code 50 = .ok (.invokevirtual 95, 3) := by decide +kernel
theorem d_Mo_mean_53 : decode prog_9_method_15_code 53 = .ok (.goto 6, 3) := by decide +kernel
theorem d_Mo_mean_56 : decode prog_9_method_15_code 56 = .ok (.iload_n 3, 1) := by decide +kernel
theorem d_Mo_mean_57 : decode prog_9_method_15_code 57 = .ok (.iload_n 1, 1) := by decide +kernel
theorem d_Mo_mean_58 : decode prog_9_method_15_code 58 = .ok (.idiv, 1) := by decide +kernel
theorem d_Mo_mean_59 : decode prog_9_method_15_code 59 = .ok (.ireturn, 1) := by decide +kernel
set_option maxHeartbeats 4000000 in
set_option maxRecDepth 20000 in
theorem tM_mean {g : GG} (G : Gok g) {σ : AH} {S : Sp} (hS : RelM S σ) (x : Int32) : TerI g 3 m_Mo_mean [rV 106, iV x] σ (fun r τ => r = (sp_mean S x).1 ∧ RelM (sp_mean S x).2 τ ∧ frM σ τ) := by
  refine TerI.mk G (by decide +kernel) rfl (Nat.le_of_ble_eq_true rfl) (fun K B Rt => ?_)
  have B : Cx g K prog_9_method_15_code 5 R_Mo 3 := B
  have Rt : RetI g K prog_9_method_15_code 5 (fun r τ => r = (sp_mean S x).1 ∧ RelM (sp_mean S x).2 τ ∧ frM σ τ) := Rt
  show AW g K 5 0 [(0, rV 106), (1, iV x)] [] σ
  obtain ⟨hN, hn, hth, hpl, hbd⟩ := id hS.1
  refine a_aload_n B d_Mo_mean_0 rfl rfl ?_
  refine a_iload_n B d_Mo_mean_1 rfl rfl ?_
  refine a_callVI (ci := 7) B (t_Mo_looked G hS x) d_Mo_mean_2 ok_Mo_looked ml_Mo_99 ly_106 rfl rfl (by decide) (by decide) rfl (Nat.le_of_ble_eq_true rfl) (fun r_2 τ_2 h_2 => ?_)
  rcases h_2 with ⟨q, hq, hr9, hR9, hF9⟩ | ⟨i, hq, hr9, hs9⟩
  · skip
    subst hr9
    refine a_istore_n (lv1 := [(0, _), (1, _), (2, _)]) B d_Mo_mean_5 rfl (by decide) rfl ?_
    refine a_iload_n B d_Mo_mean_6 rfl rfl ?_
    refine a_if_ge B 12 d_Mo_mean_7 rfl (fun c9 => absurd (neg_nz (rwQ_neg hq)).2 (Int32.not_lt.mpr c9)) (fun _ => ?_)
    refine a_iload_n B d_Mo_mean_10 rfl rfl ?_
    exact Rt _ _ _ _ d_Mo_mean_11 (by have e : sp_mean S x = q := (by rw [sp_mean]; rcases rwQ_inl hq with ⟨hz, rfl⟩ | ⟨z, hz, hzb, rfl⟩; rw [hz]; rw [hz]; exact if_pos hzb); rw [e]; exact ⟨rfl, hR9, hF9⟩)
  · skip
    subst hr9
    replace hs9 := hs9.symm
    subst hs9
    obtain ⟨hi, rfl, hti, hqi⟩ := rwQ_ok hq
    refine a_istore_n (lv1 := [(0, _), (1, _), (2, _)]) B d_Mo_mean_5 rfl (by decide) rfl ?_
    refine a_iload_n B d_Mo_mean_6 rfl rfl ?_
    refine b_if_ge B 12 d_Mo_mean_7 rfl (by first | assumption | omega) ?_
    refine a_iconst B d_Mo_mean_12 ci_0 ?_
    refine a_istore_n (lv1 := [(0, _), (1, _), (2, _), (3, _)]) B d_Mo_mean_13 rfl (by decide) rfl ?_
    refine a_iconst B d_Mo_mean_14 ci_0 ?_
    refine a_istore (lv1 := [(0, _), (1, _), (2, _), (3, _), (4, _)]) B d_Mo_mean_15 (by decide) rfl ?_
    refine a_for (lf := fun j => [(0, rV 106), (1, iV (nI i)), (2, iV (nI 0)), (3, iV (nI (sumTo (sPl S i) j))), (4, iV (nI j))]) (τ := fun j => σ) i (fun j hj ihj => ?_) ?_ 0 (Nat.zero_le _)
    · skip
      refine a_iload B d_Mo_mean_17 rfl ?_
      refine a_iload_n B d_Mo_mean_19 rfl rfl ?_
      first | refine b_icmp_ge B 44 d_Mo_mean_20 rfl (by omega) (by omega) (fun c_20 => ?_) (fun c_20 => ?_) | refine a_icmp_ge B 44 d_Mo_mean_20 rfl (fun c_20 => ?_) (fun c_20 => ?_)
      · skip
        exact absurd c_20 (by omega)
      refine a_iload_n B d_Mo_mean_23 rfl rfl ?_
      refine a_aload_n B d_Mo_mean_24 rfl rfl ?_
      refine gf_Mo_rows B d_Mo_mean_25 fl_Mo_17 ?_
      refine a_bipush B d_Mo_mean_28 cb_10 ?_
      refine a_iload_n B d_Mo_mean_30 rfl rfl ?_
      first | refine b_imul B d_Mo_mean_31 ?_ | refine a_imul B d_Mo_mean_31 ?_
      refine a_iload B d_Mo_mean_32 rfl ?_
      first | refine b_iadd B d_Mo_mean_34 ?_ | refine a_iadd B d_Mo_mean_34 ?_
      refine a_iald B ly_109 _ rfl (by first | assumption | omega) d_Mo_mean_35 ?_
      rw [hpl i j hi (by omega)]
      first | refine b_iadd B d_Mo_mean_36 ?_ | refine a_iadd B d_Mo_mean_36 ?_
      refine a_istore_n (lv1 := [(0, _), (1, _), (2, _), (3, _), (4, _)]) B d_Mo_mean_37 rfl (by decide) rfl ?_
      first | refine b_iinc (lv1 := [(0, _), (1, _), (2, _), (3, _), (4, _)]) B d_Mo_mean_38 rfl ci_1 (by decide) rfl ?_ | refine a_iinc (lv1 := [(0, _), (1, _), (2, _), (3, _), (4, _)]) B d_Mo_mean_38 rfl rfl (by decide) rfl ?_
      refine a_goto B 17 d_Mo_mean_41 rfl ?_
      exact ihj
    · skip
      refine a_iload B d_Mo_mean_17 rfl ?_
      refine a_iload_n B d_Mo_mean_19 rfl rfl ?_
      first | refine b_icmp_ge B 44 d_Mo_mean_20 rfl (by omega) (by omega) (fun c_20 => ?_) (fun c_20 => ?_) | refine a_icmp_ge B 44 d_Mo_mean_20 rfl (fun c_20 => ?_) (fun c_20 => ?_)
      · skip
        refine a_iload_n B d_Mo_mean_44 rfl rfl ?_
        first | refine b_if_ne_b B 56 d_Mo_mean_45 rfl (fun c_45 => ?_) (fun c_45 => ?_) | refine a_if_ne B 56 d_Mo_mean_45 rfl (fun c_45 => ?_) (fun c_45 => ?_)
        · skip
          refine a_iload_n B d_Mo_mean_56 rfl rfl ?_
          refine a_iload_n B d_Mo_mean_57 rfl rfl ?_
          refine a_idiv B d_Mo_mean_58 c_45 ?_
          rw [nI_div (by have := sumTo_le (f := sPl S i) (c := 10000) (hbd i) i; omega) (by omega)]
          exact Rt _ _ _ _ d_Mo_mean_59 (by first | exact (by have e : sp_mean S (nI i) = RF S 4 := (by rw [sp_mean, hqi]; show (if _ then _ else _) = _; rw [if_neg (by rw [hti]; decide)]; exact if_pos (nI_z (by omega) c_45)); rw [e]; exact ⟨rfl, RelM_fnd hS (by decide), frM_meet⟩) | exact (by have e : sp_mean S (nI i) = (nI (sumTo (sPl S i) i / i), S) := (by rw [sp_mean, hqi]; show (if _ then _ else _) = _; rw [if_neg (by rw [hti]; decide)]; exact if_neg (fun q => c_45 (by rw [q]; rfl))); rw [e]; exact ⟨rfl, hS, (fun _ _ => rfl)⟩))
        refine a_aload_n B d_Mo_mean_48 rfl rfl ?_
        refine a_iconst B d_Mo_mean_49 ci_4 ?_
        refine a_callVI (ci := 7) B (t_Mo_meets G 4 (by decide)) d_Mo_mean_50 ok_Mo_meets ml_Mo_95 ly_106 rfl rfl (by decide) (by decide) rfl (Nat.le_of_ble_eq_true rfl) (fun r_50 τ_50 h_50 => ?_)
        obtain ⟨hr_50, hs_50⟩ := h_50
        subst hr_50
        subst hs_50
        refine a_goto B 59 d_Mo_mean_53 rfl ?_
        exact Rt _ _ _ _ d_Mo_mean_59 (by first | exact (by have e : sp_mean S (nI i) = RF S 4 := (by rw [sp_mean, hqi]; show (if _ then _ else _) = _; rw [if_neg (by rw [hti]; decide)]; exact if_pos (nI_z (by omega) c_45)); rw [e]; exact ⟨rfl, RelM_fnd hS (by decide), frM_meet⟩) | exact (by have e : sp_mean S (nI i) = (nI (sumTo (sPl S i) i / i), S) := (by rw [sp_mean, hqi]; show (if _ then _ else _) = _; rw [if_neg (by rw [hti]; decide)]; exact if_neg (fun q => c_45 (by rw [q]; rfl))); rw [e]; exact ⟨rfl, hS, (fun _ _ => rfl)⟩))
      exact absurd c_20 (by omega)
