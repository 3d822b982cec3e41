/-! the class: calls that read, and small changes -/
theorem RoC_place {σ : AH} {n : Nat} {th : Nat → Bool} {pl : Nat → Nat → Nat} {i : Nat} {f : Nat → Nat} {F : Nat → Int32} (h : RoC σ n th pl) (hi : i < 10) (hf : ∀ j, j < 10 → F j = nI (f j)) (hb : ∀ j, f j ≤ 10000) : RoC (up1 σ (20 + i) F) n th (va_up pl i f) := by
  obtain ⟨a1, a2, a3, a4, a5⟩ := h
  refine ⟨by rw [up1_o (by omega)]; exact a1, a2, fun k hk => by rw [up1_o (by omega)]; exact a3 k hk, fun k j hk hj => ?_, fun k j => ?_⟩
  · by_cases e : k = i
    · rw [e, up1_s, va_up_s]; exact hf j hj
    · rw [up1_o (by omega), va_up_o e]; exact a4 k j hk hj
  · by_cases e : k = i
    · rw [e, va_up_s]; exact hb j
    · rw [va_up_o e]; exact a5 k j
theorem tnc_le {v : Int32} (h1 : ¬ v < 0) (h2 : v ≤ nI 10000) : v.toNatClampNeg ≤ 10000 ∧ v = nI v.toNatClampNeg := by
  have q1 : 0 ≤ v.toInt := by have := Int32.le_iff_toInt_le.mp (Int32.not_lt.mp h1); rw [Int32.toInt_zero] at this; exact this
  have q2 : v.toInt ≤ 10000 := by have := Int32.le_iff_toInt_le.mp h2; rw [nI_toInt (by decide)] at this; exact this
  have e : v.toNatClampNeg = v.toInt.toNat := rfl
  refine ⟨by rw [e]; omega, Int32.toInt_inj.mp ?_⟩
  rw [nI_toInt (by rw [e]; omega), e]
  omega
theorem d_Lo_lay_0 : decode prog_1_method_4_code 0 = .ok (.iload_n 1, 1) := by decide +kernel
theorem d_Lo_lay_1 : decode prog_1_method_4_code 1 = .ok (.invokestatic 77, 3) := by decide +kernel
theorem d_Lo_lay_4 : decode prog_1_method_4_code 4 = .ok (.ifCond .eq 14, 3) := by decide +kernel
theorem d_Lo_lay_7 : decode prog_1_method_4_code 7 = .ok (.iload_n 3, 1) := by decide +kernel
theorem d_Lo_lay_8 : decode prog_1_method_4_code 8 = .ok (.ifCond .lt 10, 3) := by decide +kernel
theorem d_Lo_lay_11 : decode prog_1_method_4_code 11 = .ok (.iload_n 3, 1) := by decide +kernel
theorem d_Lo_lay_12 : decode prog_1_method_4_code 12 = .ok (.sipush 10000, 3) := by decide +kernel
theorem d_Lo_lay_15 : decode prog_1_method_4_code 15 = .ok (.if_icmp .le 5, 3) := by decide +kernel
theorem d_Lo_lay_18 : decode prog_1_method_4_code 18 = .ok (.iconst (-1), 1) := by decide +kernel
theorem d_Lo_lay_19 : decode prog_1_method_4_code 19 = .ok (.ireturn, 1) := by decide +kernel
theorem d_Lo_lay_20 : decode prog_1_method_4_code 20 = .ok (.aload_n 0, 1) := by decide +kernel
theorem d_Lo_lay_21 : decode prog_1_method_4_code 21 = .ok (.getfield 12, 3) := by decide +kernel
theorem d_Lo_lay_24 : decode prog_1_method_4_code 24 = .ok (.getfield 81, 3) := by decide +kernel
theorem d_Lo_lay_27 : decode prog_1_method_4_code 27 = .ok (.iload_n 1, 1) := by decide +kernel
theorem d_Lo_lay_28 : decode prog_1_method_4_code 28 = .ok (.baload, 1) := by decide +kernel
theorem d_Lo_lay_29 : decode prog_1_method_4_code 29 = .ok (.ifCond .ne 12, 3) := by decide +kernel
theorem d_Lo_lay_32 : decode prog_1_method_4_code 32 = .ok (.aload_n 0, 1) := by decide +kernel
theorem d_Lo_lay_33 : decode prog_1_method_4_code 33 = .ok (.getfield 47, 3) := by decide +kernel
theorem d_Lo_lay_36 : decode prog_1_method_4_code 36 = .ok (.iconst 1, 1) := by decide +kernel
theorem d_Lo_lay_37 : decode prog_1_method_4_code 37 = .ok (.invokevirtual 89, 3) := by decide +kernel
theorem d_Lo_lay_40 : decode prog_1_method_4_code 40 = .ok (.ireturn, 1) := by decide +kernel
theorem d_Lo_lay_41 : decode prog_1_method_4_code 41 = .ok (.iload_n 2, 1) := by decide +kernel
theorem d_Lo_lay_42 : decode prog_1_method_4_code 42 = .ok (.ifCond .lt 9, 3) := by decide +kernel
theorem d_Lo_lay_45 : decode prog_1_method_4_code 45 = .ok (.iload_n 2, 1) := by decide +kernel
theorem d_Lo_lay_46 : decode prog_1_method_4_code 46 = .ok (.bipush 10, 2) := by decide +kernel
theorem d_Lo_lay_48 : decode prog_1_method_4_code 48 = .ok (.if_icmp .lt 12, 3) := by decide +kernel
theorem d_Lo_lay_51 : decode prog_1_method_4_code 51 = .ok (.aload_n 0, 1) := by decide +kernel
theorem d_Lo_lay_52 : decode prog_1_method_4_code 52 = .ok (.getfield 47, 3) := by decide +kernel
theorem d_Lo_lay_55 : decode prog_1_method_4_code 55 = .ok (.iconst 2, 1) := by decide +kernel
theorem d_Lo_lay_56 : decode prog_1_method_4_code 56 = .ok (.invokevirtual 89, 3) := by decide +kernel
theorem d_Lo_lay_59 : decode prog_1_method_4_code 59 = .ok (.ireturn, 1) := by decide +kernel
theorem d_Lo_lay_60 : decode prog_1_method_4_code 60 = .ok (.aload_n 0, 1) := by decide +kernel
theorem d_Lo_lay_61 : decode prog_1_method_4_code 61 = .ok (.aload_n 0, 1) := by decide +kernel
theorem d_Lo_lay_62 : decode prog_1_method_4_code 62 = .ok (.getfield 12, 3) := by decide +kernel
theorem d_Lo_lay_65 : decode prog_1_method_4_code 65 = .ok (.getfield 85, 3) := by decide +kernel
theorem d_Lo_lay_68 : decode prog_1_method_4_code 68 = .ok (.iload_n 1, 1) := by decide +kernel
theorem d_Lo_lay_69 : decode prog_1_method_4_code 69 = .ok (.aaload, 1) := by decide +kernel
theorem d_Lo_lay_70 : decode prog_1_method_4_code 70 = .ok (.iload_n 2, 1) := by decide +kernel
theorem d_Lo_lay_71 : decode prog_1_method_4_code 71 = .ok (.iaload, 1) := by decide +kernel
theorem d_Lo_lay_72 : decode prog_1_method_4_code 72 = .ok (.putfield 71, 3) := by decide +kernel
theorem d_Lo_lay_75 : decode prog_1_method_4_code 75 = .ok (.aload_n 0, 1) := by decide +kernel
theorem d_Lo_lay_76 : decode prog_1_method_4_code 76 = .ok (.getfield 12, 3) := by decide +kernel
theorem d_Lo_lay_79 : decode prog_1_method_4_code 79 = .ok (.getfield 85, 3) := by decide +kernel
theorem d_Lo_lay_82 : decode prog_1_method_4_code 82 = .ok (.iload_n 1, 1) := by decide +kernel
theorem d_Lo_lay_83 : decode prog_1_method_4_code 83 = .ok (.aaload, 1) := by decide +kernel
theorem d_Lo_lay_84 : decode prog_1_method_4_code 84 = .ok (.iload_n 2, 1) := by decide +kernel
theorem d_Lo_lay_85 : decode prog_1_method_4_code 85 = .ok (.iload_n 3, 1) := by decide +kernel
theorem d_Lo_lay_86 : decode prog_1_method_4_code 86 = .ok (.iastore, 1) := by decide +kernel
theorem d_Lo_lay_87 : decode prog_1_method_4_code 87 = .ok (.iconst 1, 1) := by decide +kernel
theorem d_Lo_lay_88 : decode prog_1_method_4_code 88 = .ok (.ireturn, 1) := by decide +kernel
set_option maxHeartbeats 4000000 in
set_option maxRecDepth 20000 in
theorem tC_lay {g : GG} (G : Gok g) {σ : AH} {S : Sp} (hS : RelC S σ) (x y v : Int32) : TerI g 1 m_Lo_lay [rV 0, iV x, iV y, iV v] σ (fun r τ => r = (sp_lay S x y v).1 ∧ RelC (sp_lay S x y v).2 τ ∧ frC σ τ) := by
  refine TerI.mk G (by decide +kernel) rfl (Nat.le_of_ble_eq_true rfl) (fun K B Rt => ?_)
  have B : Cx g K prog_1_method_4_code 4 R_Lo 1 := B
  have Rt : RetI g K prog_1_method_4_code 4 (fun r τ => r = (sp_lay S x y v).1 ∧ RelC (sp_lay S x y v).2 τ ∧ frC σ τ) := Rt
  show AW g K 4 0 [(0, rV 0), (1, iV x), (2, iV y), (3, iV v)] [] σ
  obtain ⟨hN, hn, hth, hpl, hbd⟩ := id hS.1
  refine a_iload_n B d_Lo_lay_0 rfl rfl ?_
  refine a_callSI B (t_Lo_isRow G x) d_Lo_lay_1 ok_Lo_isRow ml_Lo_77 rfl (by decide) (by decide) rfl (Nat.le_of_ble_eq_true rfl) (fun r_1 τ_1 h_1 => ?_)
  obtain ⟨hr_1, hs_1⟩ := h_1
  subst hr_1
  replace hs_1 := hs_1.symm
  subst hs_1
  first | refine b_if_eq_b B 18 d_Lo_lay_4 rfl (fun c_4 => ?_) (fun c_4 => ?_) | refine a_if_eq B 18 d_Lo_lay_4 rfl (fun c_4 => ?_) (fun c_4 => ?_)
  · skip
    have hqi := isS_f c_4
    refine a_iconst B d_Lo_lay_18 ci_m1 ?_
    exact Rt _ _ _ _ d_Lo_lay_19 (by first | exact (by have e : sp_lay S x y v = RB S := (by rw [sp_lay, hqi]); rw [e]; exact ⟨rfl, hS, (fun _ _ => rfl)⟩) | exact (by have e : sp_lay S (nI i) y v = RB S := (by rw [sp_lay, hqi]; exact if_pos (Or.inl c_8)); rw [e]; exact ⟨rfl, hS, (fun _ _ => rfl)⟩) | exact (by have e : sp_lay S (nI i) y v = RB S := (by rw [sp_lay, hqi]; exact if_pos (Or.inr (Int32.not_le.mp c_15))); rw [e]; exact ⟨rfl, hS, (fun _ _ => rfl)⟩))
  obtain ⟨i, hqi⟩ := isS_t c_4
  obtain ⟨hi, rfl⟩ := rngQ_some (by decide) hqi
  refine a_iload_n B d_Lo_lay_7 rfl rfl ?_
  refine a_if_lt B 18 d_Lo_lay_8 rfl (fun c_8 => ?_) (fun c_8 => ?_)
  · skip
    refine a_iconst B d_Lo_lay_18 ci_m1 ?_
    exact Rt _ _ _ _ d_Lo_lay_19 (by first | exact (by have e : sp_lay S x y v = RB S := (by rw [sp_lay, hqi]); rw [e]; exact ⟨rfl, hS, (fun _ _ => rfl)⟩) | exact (by have e : sp_lay S (nI i) y v = RB S := (by rw [sp_lay, hqi]; exact if_pos (Or.inl c_8)); rw [e]; exact ⟨rfl, hS, (fun _ _ => rfl)⟩) | exact (by have e : sp_lay S (nI i) y v = RB S := (by rw [sp_lay, hqi]; exact if_pos (Or.inr (Int32.not_le.mp c_15))); rw [e]; exact ⟨rfl, hS, (fun _ _ => rfl)⟩))
  refine a_iload_n B d_Lo_lay_11 rfl rfl ?_
  refine a_sipush B d_Lo_lay_12 cs_10000 ?_
  first | refine b_icmp_le B 20 d_Lo_lay_15 rfl (by omega) (by omega) (fun c_15 => ?_) (fun c_15 => ?_) | refine a_icmp_le B 20 d_Lo_lay_15 rfl (fun c_15 => ?_) (fun c_15 => ?_)
  · skip
    obtain ⟨hv1, hv2⟩ := tnc_le c_8 c_15
    refine a_aload_n B d_Lo_lay_20 rfl rfl ?_
    refine gf_Lo_rows B d_Lo_lay_21 fl_Lo_12 ?_
    refine gf_Ro_there B d_Lo_lay_24 fl_Lo_81 ?_
    refine a_iload_n B d_Lo_lay_27 rfl rfl ?_
    refine a_zald B ly_3 _ rfl (by first | assumption | omega) d_Lo_lay_28 ?_
    rw [hth i hi]
    first | refine b_if_ne_b B 41 d_Lo_lay_29 rfl (fun c_29 => ?_) (fun c_29 => ?_) | refine a_if_ne B 41 d_Lo_lay_29 rfl (fun c_29 => ?_) (fun c_29 => ?_)
    · skip
      refine a_iload_n B d_Lo_lay_41 rfl rfl ?_
      refine a_if_lt B 51 d_Lo_lay_42 rfl (fun c_42 => ?_) (fun c_42 => ?_)
      · skip
        refine a_aload_n B d_Lo_lay_51 rfl rfl ?_
        refine gf_Lo_found B d_Lo_lay_52 fl_Lo_47 ?_
        refine a_iconst B d_Lo_lay_55 ci_2 ?_
        refine a_callVI (ci := 2) B (t_Fi_answer G 2 (by decide)) d_Lo_lay_56 ok_Fi_answer ml_Lo_89 ly_15 rfl rfl (by decide) (by decide) rfl (Nat.le_of_ble_eq_true rfl) (fun r_56 τ_56 h_56 => ?_)
        obtain ⟨hr_56, hs_56⟩ := h_56
        subst hr_56
        subst hs_56
        exact Rt _ _ _ _ d_Lo_lay_59 (by first | exact (by have e : sp_lay S (nI i) y v = RF S 2 := (by rw [sp_lay, hqi]; show (if _ then _ else _) = _; rw [if_neg (fun q => q.elim c_8 (Int32.not_lt.mpr c_15)), if_neg (by rw [c_29]; decide), isS_f (rng_lo c_42)]); rw [e]; exact ⟨rfl, RelC_fnd hS (by decide), frC_ans⟩) | exact (by have e : sp_lay S (nI i) y v = RF S 2 := (by rw [sp_lay, hqi]; show (if _ then _ else _) = _; rw [if_neg (fun q => q.elim c_8 (Int32.not_lt.mpr c_15)), if_neg (by rw [c_29]; decide), isS_f (rng_hi (Int32.not_lt.mp c_48))]); rw [e]; exact ⟨rfl, RelC_fnd hS (by decide), frC_ans⟩))
      refine a_iload_n B d_Lo_lay_45 rfl rfl ?_
      refine a_bipush B d_Lo_lay_46 cb_10 ?_
      first | refine b_icmp_lt B 60 d_Lo_lay_48 rfl (by omega) (by omega) (fun c_48 => ?_) (fun c_48 => ?_) | refine a_icmp_lt B 60 d_Lo_lay_48 rfl (fun c_48 => ?_) (fun c_48 => ?_)
      · skip
        obtain ⟨j, hqj⟩ := isS_t (rng_in (Int32.not_lt.mp c_42) c_48)
        obtain ⟨hj, rfl⟩ := rngQ_some (by decide) hqj
        refine a_aload_n B d_Lo_lay_60 rfl rfl ?_
        refine a_aload_n B d_Lo_lay_61 rfl rfl ?_
        refine gf_Lo_rows B d_Lo_lay_62 fl_Lo_12 ?_
        refine gf_Ro_places B d_Lo_lay_65 fl_Lo_85 ?_
        refine a_iload_n B d_Lo_lay_68 rfl rfl ?_
        refine al_pl B _ rfl (by first | assumption | omega) d_Lo_lay_69 ?_
        refine a_iload_n B d_Lo_lay_70 rfl rfl ?_
        refine a_iald B (ly_pl (by first | assumption | omega)) _ rfl (by first | assumption | omega) d_Lo_lay_71 ?_
        refine pf_Lo_latestAsked B d_Lo_lay_72 fl_Lo_71 ?_
        refine a_aload_n B d_Lo_lay_75 rfl rfl ?_
        refine gf_Lo_rows B d_Lo_lay_76 fl_Lo_12 ?_
        refine gf_Ro_places B d_Lo_lay_79 fl_Lo_85 ?_
        refine a_iload_n B d_Lo_lay_82 rfl rfl ?_
        refine al_pl B _ rfl (by first | assumption | omega) d_Lo_lay_83 ?_
        refine a_iload_n B d_Lo_lay_84 rfl rfl ?_
        refine a_iload_n B d_Lo_lay_85 rfl rfl ?_
        refine a_iast B (ly_pl (by first | assumption | omega)) _ rfl (by first | assumption | omega) d_Lo_lay_86 ?_
        refine a_iconst B d_Lo_lay_87 ci_1 ?_
        exact Rt _ _ _ _ d_Lo_lay_88 (by have e : sp_lay S (nI i) (nI j) v = (1, pA (pR S (sTh S) (va_up (sPl S) i (va_up (sPl S i) j v.toNatClampNeg))) (nI (sPl S i j))) := (by rw [sp_lay, hqi]; show (if _ then _ else _) = _; rw [if_neg (fun q => q.elim c_8 (Int32.not_lt.mpr c_15)), if_neg (by rw [c_29]; decide), hqj]); rw [e]; exact ⟨rfl, RelC_rows (S := pA S (nI (sPl S i j))) (n := sN S) (by rw [← hpl i j hi hj]; exact RelC_asked hS) (RoC_place (RelC_asked hS).1 hi (fun k hk => by rw [up1_o (by omega)]; (by_cases e9 : k = j; rw [e9, upd_s, va_up_s]; exact hv2; rw [upd_o e9, va_up_o e9]; exact hpl i k hi hk)) (fun k => by (by_cases e9 : k = j; rw [e9, va_up_s]; exact hv1; rw [va_up_o e9]; exact hbd i k))) (fun k q1 q3 q20 => by rw [up1_o (by omega)]), fun k hk => by rw [up1_o (by omega), up1_o (by omega)]⟩)
      refine a_aload_n B d_Lo_lay_51 rfl rfl ?_
      refine gf_Lo_found B d_Lo_lay_52 fl_Lo_47 ?_
      refine a_iconst B d_Lo_lay_55 ci_2 ?_
      refine a_callVI (ci := 2) B (t_Fi_answer G 2 (by decide)) d_Lo_lay_56 ok_Fi_answer ml_Lo_89 ly_15 rfl rfl (by decide) (by decide) rfl (Nat.le_of_ble_eq_true rfl) (fun r_56 τ_56 h_56 => ?_)
      obtain ⟨hr_56, hs_56⟩ := h_56
      subst hr_56
      subst hs_56
      exact Rt _ _ _ _ d_Lo_lay_59 (by first | exact (by have e : sp_lay S (nI i) y v = RF S 2 := (by rw [sp_lay, hqi]; show (if _ then _ else _) = _; rw [if_neg (fun q => q.elim c_8 (Int32.not_lt.mpr c_15)), if_neg (by rw [c_29]; decide), isS_f (rng_lo c_42)]); rw [e]; exact ⟨rfl, RelC_fnd hS (by decide), frC_ans⟩) | exact (by have e : sp_lay S (nI i) y v = RF S 2 := (by rw [sp_lay, hqi]; show (if _ then _ else _) = _; rw [if_neg (fun q => q.elim c_8 (Int32.not_lt.mpr c_15)), if_neg (by rw [c_29]; decide), isS_f (rng_hi (Int32.not_lt.mp c_48))]); rw [e]; exact ⟨rfl, RelC_fnd hS (by decide), frC_ans⟩))
    refine a_aload_n B d_Lo_lay_32 rfl rfl ?_
    refine gf_Lo_found B d_Lo_lay_33 fl_Lo_47 ?_
    refine a_iconst B d_Lo_lay_36 ci_1 ?_
    refine a_callVI (ci := 2) B (t_Fi_answer G 1 (by decide)) d_Lo_lay_37 ok_Fi_answer ml_Lo_89 ly_15 rfl rfl (by decide) (by decide) rfl (Nat.le_of_ble_eq_true rfl) (fun r_37 τ_37 h_37 => ?_)
    obtain ⟨hr_37, hs_37⟩ := h_37
    subst hr_37
    subst hs_37
    exact Rt _ _ _ _ d_Lo_lay_40 (by have e : sp_lay S (nI i) y v = RF S 1 := (by rw [sp_lay, hqi]; show (if _ then _ else _) = _; rw [if_neg (fun q => q.elim c_8 (Int32.not_lt.mpr c_15))]; exact if_pos c_29); rw [e]; exact ⟨rfl, RelC_fnd hS (by decide), frC_ans⟩)
  refine a_iconst B d_Lo_lay_18 ci_m1 ?_
  exact Rt _ _ _ _ d_Lo_lay_19 (by first | exact (by have e : sp_lay S x y v = RB S := (by rw [sp_lay, hqi]); rw [e]; exact ⟨rfl, hS, (fun _ _ => rfl)⟩) | exact (by have e : sp_lay S (nI i) y v = RB S := (by rw [sp_lay, hqi]; exact if_pos (Or.inl c_8)); rw [e]; exact ⟨rfl, hS, (fun _ _ => rfl)⟩) | exact (by have e : sp_lay S (nI i) y v = RB S := (by rw [sp_lay, hqi]; exact if_pos (Or.inr (Int32.not_le.mp c_15))); rw [e]; exact ⟨rfl, hS, (fun _ _ => rfl)⟩))
theorem d_Lo_unlike_0 : decode prog_1_method_7_code 0 = .ok (.aload_n 0, 1) := by decide +kernel
theorem d_Lo_unlike_1 : decode prog_1_method_7_code 1 = .ok (.iload_n 1, 1) := by decide +kernel
theorem d_Lo_unlike_2 : decode prog_1_method_7_code 2 = .ok (.invokevirtual 103, 3) := by decide +kernel
theorem d_Lo_unlike_5 : decode prog_1_method_7_code 5 = .ok (.ifCond .eq 11, 3) := by decide +kernel
theorem d_Lo_unlike_8 : decode prog_1_method_7_code 8 = .ok (.aload_n 0, 1) := by decide +kernel
theorem d_Lo_unlike_9 : decode prog_1_method_7_code 9 = .ok (.iload_n 2, 1) := by decide +kernel
theorem d_Lo_unlike_10 : decode prog_1_method_7_code 10 = .ok (.invokevirtual 103, 3) := by decide +kernel
theorem d_Lo_unlike_13 : decode prog_1_method_7_code 13 = .ok (.ifCond .ne 5, 3) := by decide +kernel
theorem d_Lo_unlike_16 : decode prog_1_method_7_code 16 = .ok (.iconst (-1), 1) := by decide +kernel
theorem d_Lo_unlike_17 : decode prog_1_method_7_code 17 = .ok (.ireturn, 1) := by decide +kernel
theorem d_Lo_unlike_18 : decode prog_1_method_7_code 18 = .ok (.aload_n 0, 1) := by decide +kernel
theorem d_Lo_unlike_19 : decode prog_1_method_7_code 19 = .ok (.aload_n 0, 1) := by decide +kernel
theorem d_Lo_unlike_20 : decode prog_1_method_7_code 20 = .ok (.getfield 12, 3) := by decide +kernel
theorem d_Lo_unlike_23 : decode prog_1_method_7_code 23 = .ok (.iload_n 1, 1) := by decide +kernel
theorem d_Lo_unlike_24 : decode prog_1_method_7_code 24 = .ok (.iload_n 2, 1) := by decide +kernel
theorem d_Lo_unlike_25 : decode prog_1_method_7_code 25 = .ok (.invokevirtual 106, 3) := by decide +kernel
theorem d_Lo_unlike_28 : decode prog_1_method_7_code 28 = .ok (.putfield 71, 3) := by decide +kernel
theorem d_Lo_unlike_31 : decode prog_1_method_7_code 31 = .ok (.iconst 1, 1) := by decide +kernel
theorem d_Lo_unlike_32 : decode prog_1_method_7_code 32 = .ok (.ireturn, 1) := by decide +kernel
set_option maxHeartbeats 4000000 in
set_option maxRecDepth 20000 in
theorem tC_unlike {g : GG} (G : Gok g) {σ : AH} {S : Sp} (hS : RelC S σ) (x y : Int32) : TerI g 2 m_Lo_unlike [rV 0, iV x, iV y] σ (fun r τ => r = (sp_unlike S x y).1 ∧ RelC (sp_unlike S x y).2 τ ∧ frC σ τ) := by
  refine TerI.mk G (by decide +kernel) rfl (Nat.le_of_ble_eq_true rfl) (fun K B Rt => ?_)
  have B : Cx g K prog_1_method_7_code 3 R_Lo 2 := B
  have Rt : RetI g K prog_1_method_7_code 3 (fun r τ => r = (sp_unlike S x y).1 ∧ RelC (sp_unlike S x y).2 τ ∧ frC σ τ) := Rt
  show AW g K 3 0 [(0, rV 0), (1, iV x), (2, iV y)] [] σ
  obtain ⟨hN, hn, hth, hpl, hbd⟩ := id hS.1
  refine a_aload_n B d_Lo_unlike_0 rfl rfl ?_
  refine a_iload_n B d_Lo_unlike_1 rfl rfl ?_
  refine a_callVI (ci := 6) B (t_Lo_isLeaf G hS x) d_Lo_unlike_2 ok_Lo_isLeaf ml_Lo_103 ly_0 rfl rfl (by decide) (by decide) rfl (Nat.le_of_ble_eq_true rfl) (fun r_2 τ_2 h_2 => ?_)
  obtain ⟨hr_2, hs_2⟩ := h_2
  subst hr_2
  replace hs_2 := hs_2.symm
  subst hs_2
  first | refine b_if_eq_b B 16 d_Lo_unlike_5 rfl (fun c_5 => ?_) (fun c_5 => ?_) | refine a_if_eq B 16 d_Lo_unlike_5 rfl (fun c_5 => ?_) (fun c_5 => ?_)
  · skip
    have hqa := isS_f c_5
    refine a_iconst B d_Lo_unlike_16 ci_m1 ?_
    exact Rt _ _ _ _ d_Lo_unlike_17 (by first | exact (by have e : sp_unlike S x y = RB S := (by rw [sp_unlike, hqa]); rw [e]; exact ⟨rfl, hS, (fun _ _ => rfl)⟩) | exact (by have e : sp_unlike S (nI a) y = RB S := (by rw [sp_unlike, hqa, hqb]); rw [e]; exact ⟨rfl, hS, (fun _ _ => rfl)⟩))
  obtain ⟨a, hqa⟩ := isS_t c_5
  obtain ⟨ha, rfl⟩ := rngQ_some (by omega) hqa
  refine a_aload_n B d_Lo_unlike_8 rfl rfl ?_
  refine a_iload_n B d_Lo_unlike_9 rfl rfl ?_
  refine a_callVI (ci := 6) B (t_Lo_isLeaf G hS y) d_Lo_unlike_10 ok_Lo_isLeaf ml_Lo_103 ly_0 rfl rfl (by decide) (by decide) rfl (Nat.le_of_ble_eq_true rfl) (fun r_10 τ_10 h_10 => ?_)
  obtain ⟨hr_10, hs_10⟩ := h_10
  subst hr_10
  replace hs_10 := hs_10.symm
  subst hs_10
  first | refine b_if_ne_b B 18 d_Lo_unlike_13 rfl (fun c_13 => ?_) (fun c_13 => ?_) | refine a_if_ne B 18 d_Lo_unlike_13 rfl (fun c_13 => ?_) (fun c_13 => ?_)
  · skip
    obtain ⟨b, hqb⟩ := isS_t c_13
    obtain ⟨hb, rfl⟩ := rngQ_some (by omega) hqb
    refine a_aload_n B d_Lo_unlike_18 rfl rfl ?_
    refine a_aload_n B d_Lo_unlike_19 rfl rfl ?_
    refine gf_Lo_rows B d_Lo_unlike_20 fl_Lo_12 ?_
    refine a_iload_n B d_Lo_unlike_23 rfl rfl ?_
    refine a_iload_n B d_Lo_unlike_24 rfl rfl ?_
    refine a_callVI (ci := 4) B (t_Ro_unlikeness G hS.1 (by omega) (by omega)) d_Lo_unlike_25 ok_Ro_unlikeness ml_Lo_106 ly_1 rfl rfl (by decide) (by decide) rfl (Nat.le_of_ble_eq_true rfl) (fun r_25 τ_25 h_25 => ?_)
    obtain ⟨hr_25, hs_25⟩ := h_25
    subst hr_25
    replace hs_25 := hs_25.symm
    subst hs_25
    refine pf_Lo_latestAsked B d_Lo_unlike_28 fl_Lo_71 ?_
    refine a_iconst B d_Lo_unlike_31 ci_1 ?_
    exact Rt _ _ _ _ d_Lo_unlike_32 (by have e : sp_unlike S (nI a) (nI b) = (1, pA S (nI (uS S a b))) := (by rw [sp_unlike, hqa, hqb]); rw [e]; exact ⟨rfl, RelC_asked hS, fun k hk => up1_o (by omega)⟩)
  have hqb := isS_f c_13
  refine a_iconst B d_Lo_unlike_16 ci_m1 ?_
  exact Rt _ _ _ _ d_Lo_unlike_17 (by first | exact (by have e : sp_unlike S x y = RB S := (by rw [sp_unlike, hqa]); rw [e]; exact ⟨rfl, hS, (fun _ _ => rfl)⟩) | exact (by have e : sp_unlike S (nI a) y = RB S := (by rw [sp_unlike, hqa, hqb]); rw [e]; exact ⟨rfl, hS, (fun _ _ => rfl)⟩))
theorem d_Lo_mean_0 : decode prog_1_method_8_code 0 = .ok (.iload_n 1, 1) := by decide +kernel
theorem d_Lo_mean_1 : decode prog_1_method_8_code 1 = .ok (.invokestatic 77, 3) := by decide +kernel
theorem d_Lo_mean_4 : decode prog_1_method_8_code 4 = .ok (.ifCond .ne 5, 3) := by decide +kernel
theorem d_Lo_mean_7 : decode prog_1_method_8_code 7 = .ok (.iconst (-1), 1) := by decide +kernel
theorem d_Lo_mean_8 : decode prog_1_method_8_code 8 = .ok (.ireturn, 1) := by decide +kernel
theorem d_Lo_mean_9 : decode prog_1_method_8_code 9 = .ok (.aload_n 0, 1) := by decide +kernel
theorem d_Lo_mean_10 : decode prog_1_method_8_code 10 = .ok (.getfield 12, 3) := by decide +kernel
theorem d_Lo_mean_13 : decode prog_1_method_8_code 13 = .ok (.getfield 81, 3) := by decide +kernel
theorem d_Lo_mean_16 : decode prog_1_method_8_code 16 = .ok (.iload_n 1, 1) := by decide +kernel
theorem d_Lo_mean_17 : decode prog_1_method_8_code 17 = .ok (.baload, 1) := by decide +kernel
theorem d_Lo_mean_18 : decode prog_1_method_8_code 18 = .ok (.ifCond .ne 12, 3) := by decide +kernel
theorem d_Lo_mean_21 : decode prog_1_method_8_code 21 = .ok (.aload_n 0, 1) := by decide +kernel
theorem d_Lo_mean_22 : decode prog_1_method_8_code 22 = .ok (.getfield 47, 3) := by decide +kernel
theorem d_Lo_mean_25 : decode prog_1_method_8_code 25 = .ok (.iconst 1, 1) := by decide +kernel
theorem d_Lo_mean_26 : decode prog_1_method_8_code 26 = .ok (.invokevirtual 89, 3) := by decide +kernel
theorem d_Lo_mean_29 : decode prog_1_method_8_code 29 = .ok (.ireturn, 1) := by decide +kernel
theorem d_Lo_mean_30 : decode prog_1_method_8_code 30 = .ok (.iload_n 1, 1) := by decide +kernel
theorem d_Lo_mean_31 : decode prog_1_method_8_code 31 = .ok (.ifCond .ne 12, 3) := by decide +kernel
theorem d_Lo_mean_34 : decode prog_1_method_8_code 34 = .ok (.aload_n 0, 1) := by decide +kernel
theorem d_Lo_mean_35 : decode prog_1_method_8_code 35 = .ok (.getfield 47, 3) := by decide +kernel
theorem d_Lo_mean_38 : decode prog_1_method_8_code 38 = .ok (.iconst 4, 1) := by decide +kernel
theorem d_Lo_mean_39 : decode prog_1_method_8_code 39 = .ok (.invokevirtual 89, 3) := by decide +kernel
theorem d_Lo_mean_42 : decode prog_1_method_8_code 42 = .ok (.ireturn, 1) := by decide +kernel
theorem d_Lo_mean_43 : decode prog_1_method_8_code 43 = .ok (.iconst 0, 1) := by decide +kernel
theorem d_Lo_mean_44 : decode prog_1_method_8_code 44 = .ok (.istore_n 2, 1) := by decide +kernel
theorem d_Lo_mean_45 : decode prog_1_method_8_code 45 = .ok (.iconst 0, 1) := by decide +kernel
theorem d_Lo_mean_46 : decode prog_1_method_8_code 46 = .ok (.istore_n 3, 1) := by decide +kernel
theorem d_Lo_mean_47 : decode prog_1_method_8_code 47 = .ok (.iload_n 3, 1) := by decide +kernel
theorem d_Lo_mean_48 : decode prog_1_method_8_code 48 = .ok (.iload_n 1, 1) := by decide +kernel
theorem d_Lo_mean_49 : decode prog_1_method_8_code 49 = .ok (.if_icmp .ge 23, 3) := by decide +kernel
theorem d_Lo_mean_52 : decode prog_1_method_8_code 52 = .ok (.iload_n 2, 1) := by decide +kernel
theorem d_Lo_mean_53 : decode prog_1_method_8_code 53 = .ok (.aload_n 0, 1) := by decide +kernel
theorem d_Lo_mean_54 : decode prog_1_method_8_code 54 = .ok (.getfield 12, 3) := by decide +kernel
theorem d_Lo_mean_57 : decode prog_1_method_8_code 57 = .ok (.getfield 85, 3) := by decide +kernel
theorem d_Lo_mean_60 : decode prog_1_method_8_code 60 = .ok (.iload_n 1, 1) := by decide +kernel
theorem d_Lo_mean_61 : decode prog_1_method_8_code 61 = .ok (.aaload, 1) := by decide +kernel
theorem d_Lo_mean_62 : decode prog_1_method_8_code 62 = .ok (.iload_n 3, 1) := by decide +kernel
theorem d_Lo_mean_63 : decode prog_1_method_8_code 63 = .ok (.iaload, 1) := by decide +kernel
theorem d_Lo_mean_64 : decode prog_1_method_8_code 64 = .ok (.iadd, 1) := by decide +kernel
theorem d_Lo_mean_65 : decode prog_1_method_8_code 65 = .ok (.istore_n 2, 1) := by decide +kernel
theorem d_Lo_mean_66 : decode prog_1_method_8_code 66 = .ok (.iinc 3 1, 3) := by decide +kernel
theorem d_Lo_mean_69 : decode prog_1_method_8_code 69 = .ok (.goto (-22), 3) := by decide +kernel
theorem d_Lo_mean_72 : decode prog_1_method_8_code 72 = .ok (.iload_n 2, 1) := by decide +kernel
theorem d_Lo_mean_73 : decode prog_1_method_8_code 73 = .ok (.iload_n 1, 1) := by decide +kernel
theorem d_Lo_mean_74 : decode prog_1_method_8_code 74 = .ok (.idiv, 1) := by decide +kernel
theorem d_Lo_mean_75 : decode prog_1_method_8_code 75 = .ok (.ireturn, 1) := by decide +kernel
set_option maxHeartbeats 4000000 in
set_option maxRecDepth 20000 in
theorem tC_mean {g : GG} (G : Gok g) {σ : AH} {S : Sp} (hS : RelC S σ) (x : Int32) : TerI g 1 m_Lo_mean [rV 0, iV x] σ (fun r τ => r = (sp_mean S x).1 ∧ RelC (sp_mean S x).2 τ ∧ frC σ τ) := by
  refine TerI.mk G (by decide +kernel) rfl (Nat.le_of_ble_eq_true rfl) (fun K B Rt => ?_)
  have B : Cx g K prog_1_method_8_code 4 R_Lo 1 := B
  have Rt : RetI g K prog_1_method_8_code 4 (fun r τ => r = (sp_mean S x).1 ∧ RelC (sp_mean S x).2 τ ∧ frC σ τ) := Rt
  show AW g K 4 0 [(0, rV 0), (1, iV x)] [] σ
  obtain ⟨hN, hn, hth, hpl, hbd⟩ := id hS.1
  refine a_iload_n B d_Lo_mean_0 rfl rfl ?_
  refine a_callSI B (t_Lo_isRow G x) d_Lo_mean_1 ok_Lo_isRow ml_Lo_77 rfl (by decide) (by decide) rfl (Nat.le_of_ble_eq_true rfl) (fun r_1 τ_1 h_1 => ?_)
  obtain ⟨hr_1, hs_1⟩ := h_1
  subst hr_1
  replace hs_1 := hs_1.symm
  subst hs_1
  first | refine b_if_ne_b B 9 d_Lo_mean_4 rfl (fun c_4 => ?_) (fun c_4 => ?_) | refine a_if_ne B 9 d_Lo_mean_4 rfl (fun c_4 => ?_) (fun c_4 => ?_)
  · skip
    obtain ⟨i, hqi⟩ := isS_t c_4
    obtain ⟨hi, rfl⟩ := rngQ_some (by decide) hqi
    refine a_aload_n B d_Lo_mean_9 rfl rfl ?_
    refine gf_Lo_rows B d_Lo_mean_10 fl_Lo_12 ?_
    refine gf_Ro_there B d_Lo_mean_13 fl_Lo_81 ?_
    refine a_iload_n B d_Lo_mean_16 rfl rfl ?_
    refine a_zald B ly_3 _ rfl (by first | assumption | omega) d_Lo_mean_17 ?_
    rw [hth i hi]
    first | refine b_if_ne_b B 30 d_Lo_mean_18 rfl (fun c_18 => ?_) (fun c_18 => ?_) | refine a_if_ne B 30 d_Lo_mean_18 rfl (fun c_18 => ?_) (fun c_18 => ?_)
    · skip
      refine a_iload_n B d_Lo_mean_30 rfl rfl ?_
      first | refine b_if_ne_b B 43 d_Lo_mean_31 rfl (fun c_31 => ?_) (fun c_31 => ?_) | refine a_if_ne B 43 d_Lo_mean_31 rfl (fun c_31 => ?_) (fun c_31 => ?_)
      · skip
        refine a_iconst B d_Lo_mean_43 ci_0 ?_
        refine a_istore_n (lv1 := [(0, _), (1, _), (2, _)]) B d_Lo_mean_44 rfl (by decide) rfl ?_
        refine a_iconst B d_Lo_mean_45 ci_0 ?_
        refine a_istore_n (lv1 := [(0, _), (1, _), (2, _), (3, _)]) B d_Lo_mean_46 rfl (by decide) rfl ?_
        refine a_for (lf := fun j => [(0, rV 0), (1, iV (nI i)), (2, iV (nI (sumTo (sPl S i) j))), (3, iV (nI j))]) (τ := fun j => σ) i (fun j hj ihj => ?_) ?_ 0 (Nat.zero_le _)
        · skip
          refine a_iload_n B d_Lo_mean_47 rfl rfl ?_
          refine a_iload_n B d_Lo_mean_48 rfl rfl ?_
          first | refine b_icmp_ge B 72 d_Lo_mean_49 rfl (by omega) (by omega) (fun c_49 => ?_) (fun c_49 => ?_) | refine a_icmp_ge B 72 d_Lo_mean_49 rfl (fun c_49 => ?_) (fun c_49 => ?_)
          · skip
            exact absurd c_49 (by omega)
          refine a_iload_n B d_Lo_mean_52 rfl rfl ?_
          refine a_aload_n B d_Lo_mean_53 rfl rfl ?_
          refine gf_Lo_rows B d_Lo_mean_54 fl_Lo_12 ?_
          refine gf_Ro_places B d_Lo_mean_57 fl_Lo_85 ?_
          refine a_iload_n B d_Lo_mean_60 rfl rfl ?_
          refine al_pl B _ rfl (by first | assumption | omega) d_Lo_mean_61 ?_
          refine a_iload_n B d_Lo_mean_62 rfl rfl ?_
          refine a_iald B (ly_pl (by first | assumption | omega)) _ rfl (by first | assumption | omega) d_Lo_mean_63 ?_
          rw [hpl i j hi (by omega)]
          first | refine b_iadd B d_Lo_mean_64 ?_ | refine a_iadd B d_Lo_mean_64 ?_
          refine a_istore_n (lv1 := [(0, _), (1, _), (2, _), (3, _)]) B d_Lo_mean_65 rfl (by decide) rfl ?_
          first | refine b_iinc (lv1 := [(0, _), (1, _), (2, _), (3, _)]) B d_Lo_mean_66 rfl ci_1 (by decide) rfl ?_ | refine a_iinc (lv1 := [(0, _), (1, _), (2, _), (3, _)]) B d_Lo_mean_66 rfl rfl (by decide) rfl ?_
          refine a_goto B 47 d_Lo_mean_69 rfl ?_
          exact ihj
        · skip
          refine a_iload_n B d_Lo_mean_47 rfl rfl ?_
          refine a_iload_n B d_Lo_mean_48 rfl rfl ?_
          first | refine b_icmp_ge B 72 d_Lo_mean_49 rfl (by omega) (by omega) (fun c_49 => ?_) (fun c_49 => ?_) | refine a_icmp_ge B 72 d_Lo_mean_49 rfl (fun c_49 => ?_) (fun c_49 => ?_)
          · skip
            refine a_iload_n B d_Lo_mean_72 rfl rfl ?_
            refine a_iload_n B d_Lo_mean_73 rfl rfl ?_
            refine a_idiv B d_Lo_mean_74 c_31 ?_
            rw [nI_div (by have := sumTo_le (f := sPl S i) (c := 10000) (hbd i) i; omega) (by omega)]
            exact Rt _ _ _ _ d_Lo_mean_75 (by have e : sp_mean S (nI i) = (nI (sumTo (sPl S i) i / i), S) := (by rw [sp_mean, hqi]; show (if _ then _ else _) = _; rw [if_neg (by rw [c_18]; decide)]; exact if_neg (fun q => c_31 (by rw [q]; rfl))); rw [e]; exact ⟨rfl, hS, (fun _ _ => rfl)⟩)
          exact absurd c_49 (by omega)
      refine a_aload_n B d_Lo_mean_34 rfl rfl ?_
      refine gf_Lo_found B d_Lo_mean_35 fl_Lo_47 ?_
      refine a_iconst B d_Lo_mean_38 ci_4 ?_
      refine a_callVI (ci := 2) B (t_Fi_answer G 4 (by decide)) d_Lo_mean_39 ok_Fi_answer ml_Lo_89 ly_15 rfl rfl (by decide) (by decide) rfl (Nat.le_of_ble_eq_true rfl) (fun r_39 τ_39 h_39 => ?_)
      obtain ⟨hr_39, hs_39⟩ := h_39
      subst hr_39
      subst hs_39
      exact Rt _ _ _ _ d_Lo_mean_42 (by have e : sp_mean S (nI i) = RF S 4 := (by rw [sp_mean, hqi]; show (if _ then _ else _) = _; rw [if_neg (by rw [c_18]; decide)]; exact if_pos (nI_z (by omega) c_31)); rw [e]; exact ⟨rfl, RelC_fnd hS (by decide), frC_ans⟩)
    refine a_aload_n B d_Lo_mean_21 rfl rfl ?_
    refine gf_Lo_found B d_Lo_mean_22 fl_Lo_47 ?_
    refine a_iconst B d_Lo_mean_25 ci_1 ?_
    refine a_callVI (ci := 2) B (t_Fi_answer G 1 (by decide)) d_Lo_mean_26 ok_Fi_answer ml_Lo_89 ly_15 rfl rfl (by decide) (by decide) rfl (Nat.le_of_ble_eq_true rfl) (fun r_26 τ_26 h_26 => ?_)
    obtain ⟨hr_26, hs_26⟩ := h_26
    subst hr_26
    subst hs_26
    exact Rt _ _ _ _ d_Lo_mean_29 (by have e : sp_mean S (nI i) = RF S 1 := (by rw [sp_mean, hqi]; exact if_pos c_18); rw [e]; exact ⟨rfl, RelC_fnd hS (by decide), frC_ans⟩)
  have hqi := isS_f c_4
  refine a_iconst B d_Lo_mean_7 ci_m1 ?_
  exact Rt _ _ _ _ d_Lo_mean_8 (by have e : sp_mean S x = RB S := (by rw [sp_mean, hqi]); rw [e]; exact ⟨rfl, hS, (fun _ _ => rfl)⟩)
theorem tnc_3 {v : Int32} (h1 : ¬ v < nI 1) (h2 : v ≤ nI 3) : ∃ k, 1 ≤ k ∧ k ≤ 3 ∧ v = nI k ∧ v.toNatClampNeg = k := by
  have q1 : 1 ≤ v.toInt := by have := Int32.le_iff_toInt_le.mp (Int32.not_lt.mp h1); rw [nI_toInt (by decide)] at this; exact this
  have q2 : v.toInt ≤ 3 := by have := Int32.le_iff_toInt_le.mp h2; rw [nI_toInt (by decide)] at this; exact this
  have e : v.toNatClampNeg = v.toInt.toNat := rfl
  refine ⟨v.toInt.toNat, by omega, by omega, Int32.toInt_inj.mp ?_, e⟩
  rw [nI_toInt (by omega)]
  omega
theorem d_Lo_mark_0 : decode prog_1_method_12_code 0 = .ok (.iload_n 3, 1) := by decide +kernel
theorem d_Lo_mark_1 : decode prog_1_method_12_code 1 = .ok (.iconst 1, 1) := by decide +kernel
theorem d_Lo_mark_2 : decode prog_1_method_12_code 2 = .ok (.if_icmp .lt 8, 3) := by decide +kernel
theorem d_Lo_mark_5 : decode prog_1_method_12_code 5 = .ok (.iload_n 3, 1) := by decide +kernel
theorem d_Lo_mark_6 : decode prog_1_method_12_code 6 = .ok (.iconst 3, 1) := by decide +kernel
theorem d_Lo_mark_7 : decode prog_1_method_12_code 7 = .ok (.if_icmp .le 5, 3) := by decide +kernel
theorem d_Lo_mark_10 : decode prog_1_method_12_code 10 = .ok (.iconst (-1), 1) := by decide +kernel
theorem d_Lo_mark_11 : decode prog_1_method_12_code 11 = .ok (.ireturn, 1) := by decide +kernel
theorem d_Lo_mark_12 : decode prog_1_method_12_code 12 = .ok (.aload_n 0, 1) := by decide +kernel
theorem d_Lo_mark_13 : decode prog_1_method_12_code 13 = .ok (.iload_n 1, 1) := by decide +kernel
theorem d_Lo_mark_14 : decode prog_1_method_12_code 14 = .ok (.iload_n 2, 1) := by decide +kernel
theorem d_Lo_mark_15 : decode prog_1_method_12_code 15 = .ok (.invokevirtual 126, 3) := by decide +kernel
theorem d_Lo_mark_18 : decode prog_1_method_12_code 18 = .ok (.istore 4, 2) := by decide +kernel
theorem d_Lo_mark_20 : decode prog_1_method_12_code 20 = .ok (.iload 4, 2) := by decide +kernel
theorem d_Lo_mark_22 : decode prog_1_method_12_code 22 = .ok (.ifCond .eq 6, 3) := by decide +kernel
theorem d_Lo_mark_25 : decode prog_1_method_12_code 25 = .ok (.iload 4, 2) := by decide +kernel
theorem d_Lo_mark_27 : decode prog_1_method_12_code 27 = .ok (.ireturn, 1) := by decide +kernel
theorem d_Lo_mark_28 : decode prog_1_method_12_code 28 = .ok (.aload_n 0, 1) := by decide +kernel
theorem d_Lo_mark_29 : decode prog_1_method_12_code 29 = .ok (.getfield 18, 3) := by decide +kernel
theorem d_Lo_mark_32 : decode prog_1_method_12_code 32 = .ok (.iload_n 1, 1) := by decide +kernel
theorem d_Lo_mark_33 : decode prog_1_method_12_code 33 = .ok (.aaload, 1) := by decide +kernel
theorem d_Lo_mark_34 : decode prog_1_method_12_code 34 = .ok (.astore 5, 2) := by decide +kernel
theorem d_Lo_mark_36 : decode prog_1_method_12_code 36 = .ok (.aload 5, 2) := by decide +kernel
theorem d_Lo_mark_38 : decode prog_1_method_12_code 38 = .ok (.iload_n 2, 1) := by decide +kernel
theorem d_Lo_mark_39 : decode prog_1_method_12_code 39 = .ok (.iload_n 3, 1) := by decide +kernel
theorem d_Lo_mark_40 : decode prog_1_method_12_code 40 = .ok (.invokevirtual 132, 3) := by decide +kernel
theorem d_Lo_mark_43 : decode prog_1_method_12_code 43 = .ok (.ifCond .ne 12, 3) := by decide +kernel
theorem d_Lo_mark_46 : decode prog_1_method_12_code 46 = .ok (.aload_n 0, 1) := by decide +kernel
theorem d_Lo_mark_47 : decode prog_1_method_12_code 47 = .ok (.getfield 47, 3) := by decide +kernel
theorem d_Lo_mark_50 : decode prog_1_method_12_code 50 = .ok (.iconst 3, 1) := by decide +kernel
theorem d_Lo_mark_51 : decode prog_1_method_12_code 51 = .ok (.invokevirtual 89, 3) := by decide +kernel
theorem d_Lo_mark_54 : decode prog_1_method_12_code 54 = .ok (.ireturn, 1) := by decide +kernel
theorem d_Lo_mark_55 : decode prog_1_method_12_code 55 = .ok (.iload_n 3, 1) := by decide +kernel
theorem d_Lo_mark_56 : decode prog_1_method_12_code 56 = .ok (.iconst 1, 1) := by decide +kernel
theorem d_Lo_mark_57 : decode prog_1_method_12_code 57 = .ok (.if_icmp .ne 11, 3) := by decide +kernel
theorem d_Lo_mark_60 : decode prog_1_method_12_code 60 = .ok (.aload 5, 2) := by decide +kernel
theorem d_Lo_mark_62 : decode prog_1_method_12_code 62 = .ok (.getfield 135, 3) := by decide +kernel
theorem d_Lo_mark_65 : decode prog_1_method_12_code 65 = .ok (.iload_n 2, 1) := by decide +kernel
theorem d_Lo_mark_66 : decode prog_1_method_12_code 66 = .ok (.iaload, 1) := by decide +kernel
theorem d_Lo_mark_67 : decode prog_1_method_12_code 67 = .ok (.ireturn, 1) := by decide +kernel
theorem d_Lo_mark_68 : decode prog_1_method_12_code 68 = .ok (.iload_n 3, 1) := by decide +kernel
theorem d_Lo_mark_69 : decode prog_1_method_12_code 69 = .ok (.iconst 2, 1) := by decide +kernel
theorem d_Lo_mark_70 : decode prog_1_method_12_code 70 = .ok (.if_icmp .ne 13, 3) := by decide +kernel
theorem d_Lo_mark_73 : decode prog_1_method_12_code 73 = .ok (.aload 5, 2) := by decide +kernel
theorem d_Lo_mark_75 : decode prog_1_method_12_code 75 = .ok (.getfield 138, 3) := by decide +kernel
theorem d_Lo_mark_78 : decode prog_1_method_12_code 78 = .ok (.iload_n 2, 1) := by decide +kernel
theorem d_Lo_mark_79 : decode prog_1_method_12_code 79 = .ok (.iaload, 1) := by decide +kernel
theorem d_Lo_mark_80 : decode prog_1_method_12_code 80 = .ok (.goto 9, 3) := by decide +kernel
theorem d_Lo_mark_83 : decode prog_1_method_12_code 83 = .ok (.aload 5, 2) := by decide +kernel
theorem d_Lo_mark_85 : decode prog_1_method_12_code 85 = .ok (.iload_n 2, 1) := by decide +kernel
theorem d_Lo_mark_86 : decode prog_1_method_12_code 86 = .ok (.invokevirtual 141, 3) := by decide +kernel
theorem d_Lo_mark_89 : decode prog_1_method_12_code 89 = .ok (.ireturn, 1) := by decide +kernel
set_option maxHeartbeats 4000000 in
set_option maxRecDepth 20000 in
theorem tC_mark {g : GG} (G : Gok g) {σ : AH} {S : Sp} (hS : RelC S σ) (x y w : Int32) : TerI g 3 m_Lo_mark [rV 0, iV x, iV y, iV w] σ (fun r τ => r = (sp_mark S x y w).1 ∧ RelC (sp_mark S x y w).2 τ ∧ frC σ τ) := by
  refine TerI.mk G (by decide +kernel) rfl (Nat.le_of_ble_eq_true rfl) (fun K B Rt => ?_)
  have B : Cx g K prog_1_method_12_code 6 R_Lo 3 := B
  have Rt : RetI g K prog_1_method_12_code 6 (fun r τ => r = (sp_mark S x y w).1 ∧ RelC (sp_mark S x y w).2 τ ∧ frC σ τ) := Rt
  show AW g K 6 0 [(0, rV 0), (1, iV x), (2, iV y), (3, iV w)] [] σ
  refine a_iload_n B d_Lo_mark_0 rfl rfl ?_
  refine a_iconst B d_Lo_mark_1 ci_1 ?_
  first | refine b_icmp_lt B 10 d_Lo_mark_2 rfl (by omega) (by omega) (fun c_2 => ?_) (fun c_2 => ?_) | refine a_icmp_lt B 10 d_Lo_mark_2 rfl (fun c_2 => ?_) (fun c_2 => ?_)
  · skip
    refine a_iconst B d_Lo_mark_10 ci_m1 ?_
    exact Rt _ _ _ _ d_Lo_mark_11 (by first | exact (by have e : sp_mark S x y w = RB S := (by rw [sp_mark]; exact if_pos (Or.inl c_2)); rw [e]; exact ⟨rfl, hS, (fun _ _ => rfl)⟩) | exact (by have e : sp_mark S x y w = RB S := (by rw [sp_mark]; exact if_pos (Or.inr (Int32.not_le.mp c_7))); rw [e]; exact ⟨rfl, hS, (fun _ _ => rfl)⟩))
  refine a_iload_n B d_Lo_mark_5 rfl rfl ?_
  refine a_iconst B d_Lo_mark_6 ci_3 ?_
  first | refine b_icmp_le B 12 d_Lo_mark_7 rfl (by omega) (by omega) (fun c_7 => ?_) (fun c_7 => ?_) | refine a_icmp_le B 12 d_Lo_mark_7 rfl (fun c_7 => ?_) (fun c_7 => ?_)
  · skip
    obtain ⟨k, hk1, hk3, hwe, hwk⟩ := tnc_3 c_2 c_7
    refine a_aload_n B d_Lo_mark_12 rfl rfl ?_
    refine a_iload_n B d_Lo_mark_13 rfl rfl ?_
    refine a_iload_n B d_Lo_mark_14 rfl rfl ?_
    refine a_callVI (ci := 6) B (t_Lo_nodeRefused G hS x y) d_Lo_mark_15 ok_Lo_nodeRefused ml_Lo_126 ly_0 rfl rfl (by decide) (by decide) rfl (Nat.le_of_ble_eq_true rfl) (fun r_15 τ_15 h_15 => ?_)
    rcases h_15 with ⟨q, hq, hr9, hR9, hF9⟩ | ⟨q9, hq, hr9, hs9⟩
    · skip
      subst hr9
      refine a_istore (lv1 := [(0, _), (1, _), (2, _), (3, _), (4, _)]) B d_Lo_mark_18 (by decide) rfl ?_
      refine a_iload B d_Lo_mark_20 rfl ?_
      refine a_if_eq B 28 d_Lo_mark_22 rfl (fun c9 => absurd c9 (neg_nz (ndQ_neg hq)).1) (fun _ => ?_)
      refine a_iload B d_Lo_mark_25 rfl ?_
      exact Rt _ _ _ _ d_Lo_mark_27 (by have e : sp_mark S x y w = q := (by rw [sp_mark]; show (if _ then _ else _) = _; rw [if_neg (fun q => q.elim c_2 (Int32.not_lt.mpr c_7)), hq]); rw [e]; exact ⟨rfl, hR9, hF9⟩)
    · skip
      subst hr9
      replace hs9 := hs9.symm
      subst hs9
      obtain ⟨t, v⟩ := q9
      obtain ⟨ht, hx9, hn, hv, hy9⟩ := ndQ_ok hq (tN_le hS (ndQ_t hq))
      dsimp only at ht hx9 hn hv hy9
      subst hx9
      subst hy9
      obtain ⟨t11, tW, tA, tB, tP⟩ := TrC_in (hS.2.1 t ht) hn
      have w1 := tW.1
      have w10 := tW.2.1
      have h58 : tI t = 58 + 12 * t := rfl
      subst hwe
      refine a_istore (lv1 := [(0, _), (1, _), (2, _), (3, _), (4, _)]) B d_Lo_mark_18 (by decide) rfl ?_
      refine a_iload B d_Lo_mark_20 rfl ?_
      refine a_if_eq B 28 d_Lo_mark_22 rfl (fun _ => ?_) (fun c9 => absurd nI_0 c9)
      refine a_aload_n B d_Lo_mark_28 rfl rfl ?_
      refine gf_Lo_trees B d_Lo_mark_29 fl_Lo_18 ?_
      refine a_iload_n B d_Lo_mark_32 rfl rfl ?_
      refine al_tr B _ rfl (by first | assumption | omega) d_Lo_mark_33 ?_
      refine a_astore (lv1 := [(0, _), (1, _), (2, _), (3, _), (4, _), (5, _)]) B d_Lo_mark_34 (by decide) rfl ?_
      refine a_aload B d_Lo_mark_36 rfl ?_
      refine a_iload_n B d_Lo_mark_38 rfl rfl ?_
      refine a_iload_n B d_Lo_mark_39 rfl rfl ?_
      refine a_callVI (ci := 5) B (t_Tr_isOf G ht tW tA (v := v) (k := k) hv (by omega)) d_Lo_mark_40 ok_Tr_isOf ml_Lo_132 (ly_T (by first | assumption | omega)) rfl rfl (by decide) (by decide) rfl (Nat.le_of_ble_eq_true rfl) (fun r_40 τ_40 h_40 => ?_)
      obtain ⟨hr_40, hs_40⟩ := h_40
      subst hr_40
      replace hs_40 := hs_40.symm
      subst hs_40
      first | refine b_if_ne_b B 55 d_Lo_mark_43 rfl (fun c_43 => ?_) (fun c_43 => ?_) | refine a_if_ne B 55 d_Lo_mark_43 rfl (fun c_43 => ?_) (fun c_43 => ?_)
      · skip
        refine a_iload_n B d_Lo_mark_55 rfl rfl ?_
        refine a_iconst B d_Lo_mark_56 ci_1 ?_
        first | refine b_icmp_ne B 68 d_Lo_mark_57 rfl (by omega) (by omega) (fun c_57 => ?_) (fun c_57 => ?_) | refine a_icmp_ne B 68 d_Lo_mark_57 rfl (fun c_57 => ?_) (fun c_57 => ?_)
        · skip
          have c_57 : ¬ k = 1 := c_57
          refine a_iload_n B d_Lo_mark_68 rfl rfl ?_
          refine a_iconst B d_Lo_mark_69 ci_2 ?_
          first | refine b_icmp_ne B 83 d_Lo_mark_70 rfl (by omega) (by omega) (fun c_70 => ?_) (fun c_70 => ?_) | refine a_icmp_ne B 83 d_Lo_mark_70 rfl (fun c_70 => ?_) (fun c_70 => ?_)
          · skip
            have hge : tN (sT S t) ≤ v := (by have c9 := c_43; rw [isOfT, if_neg c_57] at c9; simp at c9; exact c9.1)
            refine a_aload B d_Lo_mark_83 rfl ?_
            refine a_iload_n B d_Lo_mark_85 rfl rfl ?_
            refine a_callVI (ci := 5) B (t_Tr_heldBelow G ht tW tA (e := v) hge hv) d_Lo_mark_86 ok_Tr_heldBelow ml_Lo_141 (ly_T (by first | assumption | omega)) rfl rfl (by decide) (by decide) rfl (Nat.le_of_ble_eq_true rfl) (fun r_86 τ_86 h_86 => ?_)
            obtain ⟨hr_86, hs_86⟩ := h_86
            subst hr_86
            replace hs_86 := hs_86.symm
            subst hs_86
            exact Rt _ _ _ _ d_Lo_mark_89 (by first | exact (by have e : sp_mark S (nI t) (nI v) (nI k) = (tC (sT S t) v, S) := (by rw [sp_mark]; show (if _ then _ else _) = _; rw [if_neg (fun q => q.elim c_2 (Int32.not_lt.mpr c_7)), hq]; show (if _ then _ else _) = _; rw [hwk]; rw [if_neg (by rw [c_43]; decide), if_neg c_57, if_pos c_70]); rw [e]; exact ⟨rfl, hS, (fun _ _ => rfl)⟩) | exact (by have e : sp_mark S (nI t) (nI v) (nI k) = (nI (belowT (sT S t) v), S) := (by rw [sp_mark]; show (if _ then _ else _) = _; rw [if_neg (fun q => q.elim c_2 (Int32.not_lt.mpr c_7)), hq]; show (if _ then _ else _) = _; rw [hwk]; rw [if_neg (by rw [c_43]; decide), if_neg c_57, if_neg c_70]); rw [e]; exact ⟨rfl, hS, (fun _ _ => rfl)⟩))
          refine a_aload B d_Lo_mark_73 rfl ?_
          refine gf_Tr_turned B (by first | assumption | omega) d_Lo_mark_75 fl_Lo_138 ?_
          refine a_iload_n B d_Lo_mark_78 rfl rfl ?_
          refine a_iald B (ly_T_turned (by first | assumption | omega)) _ rfl (by first | assumption | omega) d_Lo_mark_79 ?_
          rw [tB.2.2 v hv]
          refine a_goto B 89 d_Lo_mark_80 rfl ?_
          exact Rt _ _ _ _ d_Lo_mark_89 (by first | exact (by have e : sp_mark S (nI t) (nI v) (nI k) = (tC (sT S t) v, S) := (by rw [sp_mark]; show (if _ then _ else _) = _; rw [if_neg (fun q => q.elim c_2 (Int32.not_lt.mpr c_7)), hq]; show (if _ then _ else _) = _; rw [hwk]; rw [if_neg (by rw [c_43]; decide), if_neg c_57, if_pos c_70]); rw [e]; exact ⟨rfl, hS, (fun _ _ => rfl)⟩) | exact (by have e : sp_mark S (nI t) (nI v) (nI k) = (nI (belowT (sT S t) v), S) := (by rw [sp_mark]; show (if _ then _ else _) = _; rw [if_neg (fun q => q.elim c_2 (Int32.not_lt.mpr c_7)), hq]; show (if _ then _ else _) = _; rw [hwk]; rw [if_neg (by rw [c_43]; decide), if_neg c_57, if_neg c_70]); rw [e]; exact ⟨rfl, hS, (fun _ _ => rfl)⟩))
        refine a_aload B d_Lo_mark_60 rfl ?_
        refine gf_Tr_start B (by first | assumption | omega) d_Lo_mark_62 fl_Lo_135 ?_
        refine a_iload_n B d_Lo_mark_65 rfl rfl ?_
        refine a_iald B (ly_T_start (by first | assumption | omega)) _ rfl (by first | assumption | omega) d_Lo_mark_66 ?_
        rw [tP.1 v hv]
        exact Rt _ _ _ _ d_Lo_mark_67 (by have e : sp_mark S (nI t) (nI v) (nI k) = (nI (posT (sT S t) v), S) := (by rw [sp_mark]; show (if _ then _ else _) = _; rw [if_neg (fun q => q.elim c_2 (Int32.not_lt.mpr c_7)), hq]; show (if _ then _ else _) = _; rw [hwk]; rw [if_neg (by rw [c_43]; decide), if_pos c_57]); rw [e]; exact ⟨rfl, hS, (fun _ _ => rfl)⟩)
      refine a_aload_n B d_Lo_mark_46 rfl rfl ?_
      refine gf_Lo_found B d_Lo_mark_47 fl_Lo_47 ?_
      refine a_iconst B d_Lo_mark_50 ci_3 ?_
      refine a_callVI (ci := 2) B (t_Fi_answer G 3 (by decide)) d_Lo_mark_51 ok_Fi_answer ml_Lo_89 ly_15 rfl rfl (by decide) (by decide) rfl (Nat.le_of_ble_eq_true rfl) (fun r_51 τ_51 h_51 => ?_)
      obtain ⟨hr_51, hs_51⟩ := h_51
      subst hr_51
      subst hs_51
      exact Rt _ _ _ _ d_Lo_mark_54 (by have e : sp_mark S (nI t) (nI v) (nI k) = RF S 3 := (by rw [sp_mark]; show (if _ then _ else _) = _; rw [if_neg (fun q => q.elim c_2 (Int32.not_lt.mpr c_7)), hq]; show (if _ then _ else _) = _; rw [hwk]; exact if_pos c_43); rw [e]; exact ⟨rfl, RelC_fnd hS (by decide), frC_ans⟩)
  refine a_iconst B d_Lo_mark_10 ci_m1 ?_
  exact Rt _ _ _ _ d_Lo_mark_11 (by first | exact (by have e : sp_mark S x y w = RB S := (by rw [sp_mark]; exact if_pos (Or.inl c_2)); rw [e]; exact ⟨rfl, hS, (fun _ _ => rfl)⟩) | exact (by have e : sp_mark S x y w = RB S := (by rw [sp_mark]; exact if_pos (Or.inr (Int32.not_le.mp c_7))); rw [e]; exact ⟨rfl, hS, (fun _ _ => rfl)⟩))
