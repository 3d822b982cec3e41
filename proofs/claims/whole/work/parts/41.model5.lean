/-! the reference: crossings, turns -/
def AgM (σ τ : AH) (p : Nat → Int32) : Prop := (∀ k, k ≠ 120 → k ≠ 121 → k ≠ 123 → τ.1 k = σ.1 k) ∧ ∀ l, l < 10 → τ.1 123 l = p l
theorem AgM.wk {σ τ : AH} {p : Nat → Int32} (h : AgM σ τ p) : wkM σ τ := ⟨fun k a b c d => h.1 k (by omega) (by omega) (by omega), fun j _ _ => by rw [h.1 106 (by decide) (by decide) (by decide)]⟩
theorem AgM.cr {σ τ : AH} {p : Nat → Int32} (h : AgM σ τ p) {n : Nat} (hn : n ≤ 10) : ∀ x, x < n → τ.1 123 x = p x := fun x hx => h.2 x (by omega)
theorem wkA {σ τ : AH} {t : Nat} {T : TT} (h : TmA σ t T) (e : wkM σ τ) : TmA τ t T := h.fl (fun k _ _ _ q1 q2 => e.1 k (by omega) (by omega) (by omega) (by omega))
theorem wkB {σ τ : AH} {t : Nat} {T : TT} (h : TmB σ t T) (e : wkM σ τ) : TmB τ t T := h.of (e.1 _ (by decide) (by decide) (by decide) (by decide)) (e.1 _ (by decide) (by decide) (by decide) (by decide))
theorem wkC {σ τ : AH} {t : Nat} {T : TT} (h : TmC σ t T) (e : wkM σ τ) : TmC τ t T := h.of (e.1 _ (by decide) (by decide) (by decide) (by decide))
theorem d_Mo_setAgainst_0 : decode prog_9_method_40_code 0 = .ok (.aload_n 0, 1) := by decide +kernel
theorem d_Mo_setAgainst_1 : decode prog_9_method_40_code 1 = .ok (.iload_n 1, 1) := by decide +kernel
theorem d_Mo_setAgainst_2 : decode prog_9_method_40_code 2 = .ok (.invokevirtual 146, 3) := by decide +kernel
theorem d_Mo_setAgainst_5 : decode prog_9_method_40_code 5 = .ok (.iconst 0, 1) := by decide +kernel
theorem d_Mo_setAgainst_6 : decode prog_9_method_40_code 6 = .ok (.istore_n 2, 1) := by decide +kernel
theorem d_Mo_setAgainst_7 : decode prog_9_method_40_code 7 = .ok (.iload_n 2, 1) := by decide +kernel
theorem d_Mo_setAgainst_8 : decode prog_9_method_40_code 8 = .ok (.bipush 10, 2) := by decide +kernel
theorem d_Mo_setAgainst_10 : decode prog_9_method_40_code 10 = .ok (.if_icmp .ge 36, 3) := by decide +kernel
theorem d_Mo_setAgainst_13 : decode prog_9_method_40_code 13 = .ok (.aload_n 0, 1) := by decide +kernel
theorem d_Mo_setAgainst_14 : decode prog_9_method_40_code 14 = .ok (.getfield 59, 3) := by decide +kernel
theorem d_Mo_setAgainst_17 : decode prog_9_method_40_code 17 = .ok (.iload_n 2, 1) := by decide +kernel
theorem d_Mo_setAgainst_18 : decode prog_9_method_40_code 18 = .ok (.iload_n 2, 1) := by decide +kernel
theorem d_Mo_setAgainst_19 : decode prog_9_method_40_code 19 = .ok (.aload_n 0, 1) := by decide +kernel
theorem d_Mo_setAgainst_20 : decode prog_9_method_40_code 20 = .ok (.getfield 23, 3) := by decide +kernel
theorem d_Mo_setAgainst_23 : decode prog_9_method_40_code 23 = .ok (.iload_n 1, 1) := by decide +kernel
theorem d_Mo_setAgainst_24 : decode prog_9_method_40_code 24 = .ok (.iaload, 1) := by decide +kernel
theorem d_Mo_setAgainst_25 : decode prog_9_method_40_code 25 = .ok (.if_icmp .ge 12, 3) := by decide +kernel
theorem d_Mo_setAgainst_28 : decode prog_9_method_40_code 28 = .ok (.aload_n 0, 1) := by decide +kernel
theorem d_Mo_setAgainst_29 : decode prog_9_method_40_code 29 = .ok (.getfield 53, 3) := by decide +kernel
theorem d_Mo_setAgainst_32 : decode prog_9_method_40_code 32 = .ok (.iload_n 2, 1) := by decide +kernel
theorem d_Mo_setAgainst_33 : decode prog_9_method_40_code 33 = .ok (.iaload, 1) := by decide +kernel
theorem d_Mo_setAgainst_34 : decode prog_9_method_40_code 34 = .ok (.goto 5, 3) := by decide +kernel
theorem d_Mo_setAgainst_37 : decode prog_9_method_40_code 37 = .ok (.bipush (-9), 2) := by decide +kernel
theorem d_Mo_setAgainst_39 : decode prog_9_method_40_code 39 = .ok (.iastore, 1) := by decide +kernel
theorem d_Mo_setAgainst_40 : decode prog_9_method_40_code 40 = .ok (.iinc 2 1, 3) := by decide +kernel
theorem d_Mo_setAgainst_43 : decode prog_9_method_40_code 43 = .ok (.goto (-36), 3) := by decide +kernel
theorem d_Mo_setAgainst_46 : decode prog_9_method_40_code 46 = .ok (.return_, 1) := by decide +kernel
set_option maxHeartbeats 4000000 in
set_option maxRecDepth 20000 in
theorem t_Mo_setAgainst {g : GG} (G : Gok g) {σ : AH} {t : Nat} {T : TT} (ht : t < 4) (tW : Wf T) (tA : TmA σ t T) (tB : TmB σ t T) : TerV g 2 m_Mo_setAgainst [rV 106, iV (nI t)] σ (fun τ => AgM σ τ (plT T)) := by
  refine TerV.mk G (by decide +kernel) rfl (Nat.le_of_ble_eq_true rfl) (fun K B Rt => ?_)
  have B : Cx g K prog_9_method_40_code 3 R_Mo 2 := B
  have Rt : RetV g K prog_9_method_40_code 3 (fun τ => AgM σ τ (plT T)) := Rt
  show AW g K 3 0 [(0, rV 106), (1, iV (nI t))] [] σ
  obtain ⟨a1, a2, a3, a4, a5, a6⟩ := id tA
  have w1 := tW.1
  have w10 := tW.2.1
  refine a_aload_n B d_Mo_setAgainst_0 rfl rfl ?_
  refine a_iload_n B d_Mo_setAgainst_1 rfl rfl ?_
  refine a_callVV (ci := 7) B (t_Mo_setOrder G ht tW tA tB) d_Mo_setAgainst_2 ok_Mo_setOrder ml_Mo_146 ly_106 rfl rfl (by decide) (by decide) rfl (Nat.le_of_ble_eq_true rfl) (fun τ_2 h_2 => ?_)
  refine a_iconst B d_Mo_setAgainst_5 ci_0 ?_
  refine a_istore_n (lv1 := [(0, _), (1, _), (2, _)]) B d_Mo_setAgainst_6 rfl (by decide) rfl ?_
  refine a_forR 10 (fun i lv τ => lv = [(0, rV 106), (1, iV (nI t)), (2, iV (nI i))] ∧ (∀ k, k ≠ 120 → k ≠ 121 → k ≠ 123 → τ.1 k = σ.1 k) ∧ (∀ x, x < tN T → τ.1 121 x = nI (posT T x)) ∧ (∀ x, x < i → τ.1 123 x = plT T x)) (fun i lv τ hi hI ihi => ?_) (fun lv τ hI => ?_) 0 (Nat.zero_le _) _ _ ⟨rfl, fun k q0 q1 _ => h_2.1 k q0 q1, h_2.2.1, fun _ h => absurd h (Nat.not_lt_zero _)⟩
  · skip
    obtain ⟨rfl, hF, hP, hQ⟩ := hI
    refine a_iload_n B d_Mo_setAgainst_7 rfl rfl ?_
    refine a_bipush B d_Mo_setAgainst_8 cb_10 ?_
    first | refine b_icmp_ge B 46 d_Mo_setAgainst_10 rfl (by omega) (by omega) (fun c_10 => ?_) (fun c_10 => ?_) | refine a_icmp_ge B 46 d_Mo_setAgainst_10 rfl (fun c_10 => ?_) (fun c_10 => ?_)
    · skip
      exact absurd c_10 (by omega)
    refine a_aload_n B d_Mo_setAgainst_13 rfl rfl ?_
    refine gf_Mo_against B d_Mo_setAgainst_14 fl_Mo_59 ?_
    refine a_iload_n B d_Mo_setAgainst_17 rfl rfl ?_
    refine a_iload_n B d_Mo_setAgainst_18 rfl rfl ?_
    refine a_aload_n B d_Mo_setAgainst_19 rfl rfl ?_
    refine gf_Mo_sizes B d_Mo_setAgainst_20 fl_Mo_23 ?_
    refine a_iload_n B d_Mo_setAgainst_23 rfl rfl ?_
    refine a_iald B ly_111 _ rfl (by first | assumption | omega) d_Mo_setAgainst_24 ?_
    rw [hF 111 (by decide) (by decide) (by decide), a1]
    first | refine b_icmp_ge B 37 d_Mo_setAgainst_25 rfl (by omega) (by omega) (fun c_25 => ?_) (fun c_25 => ?_) | refine a_icmp_ge B 37 d_Mo_setAgainst_25 rfl (fun c_25 => ?_) (fun c_25 => ?_)
    · skip
      refine a_bipush B d_Mo_setAgainst_37 cb_m9 ?_
      refine a_iast B ly_123 _ rfl (by first | assumption | omega) d_Mo_setAgainst_39 ?_
      first | refine b_iinc (lv1 := [(0, _), (1, _), (2, _)]) B d_Mo_setAgainst_40 rfl ci_1 (by decide) rfl ?_ | refine a_iinc (lv1 := [(0, _), (1, _), (2, _)]) B d_Mo_setAgainst_40 rfl rfl (by decide) rfl ?_
      refine a_goto B 7 d_Mo_setAgainst_43 rfl ?_
      refine ihi _ _ ⟨rfl, fun k q0 q1 q3 => by rw [up1_o q3]; exact hF k q0 q1 q3, fun x hx => by rw [up1_o (by decide)]; exact hP x hx, fun x hx => ?_⟩
      rw [up1_s]
      by_cases e : x = i
      · rw [e, upd_s]; first | exact (if_pos c_25).symm | exact (if_neg (Nat.not_lt.mpr c_25)).symm
      · rw [upd_o e]; exact hQ x (by omega)
    refine a_aload_n B d_Mo_setAgainst_28 rfl rfl ?_
    refine gf_Mo_places B d_Mo_setAgainst_29 fl_Mo_53 ?_
    refine a_iload_n B d_Mo_setAgainst_32 rfl rfl ?_
    refine a_iald B ly_121 _ rfl (by first | assumption | omega) d_Mo_setAgainst_33 ?_
    rw [hP i c_25]
    refine a_goto B 39 d_Mo_setAgainst_34 rfl ?_
    refine a_iast B ly_123 _ rfl (by first | assumption | omega) d_Mo_setAgainst_39 ?_
    first | refine b_iinc (lv1 := [(0, _), (1, _), (2, _)]) B d_Mo_setAgainst_40 rfl ci_1 (by decide) rfl ?_ | refine a_iinc (lv1 := [(0, _), (1, _), (2, _)]) B d_Mo_setAgainst_40 rfl rfl (by decide) rfl ?_
    refine a_goto B 7 d_Mo_setAgainst_43 rfl ?_
    refine ihi _ _ ⟨rfl, fun k q0 q1 q3 => by rw [up1_o q3]; exact hF k q0 q1 q3, fun x hx => by rw [up1_o (by decide)]; exact hP x hx, fun x hx => ?_⟩
    rw [up1_s]
    by_cases e : x = i
    · rw [e, upd_s]; first | exact (if_pos c_25).symm | exact (if_neg (Nat.not_lt.mpr c_25)).symm
    · rw [upd_o e]; exact hQ x (by omega)
  · skip
    obtain ⟨rfl, hF, hP, hQ⟩ := hI
    refine a_iload_n B d_Mo_setAgainst_7 rfl rfl ?_
    refine a_bipush B d_Mo_setAgainst_8 cb_10 ?_
    first | refine b_icmp_ge B 46 d_Mo_setAgainst_10 rfl (by omega) (by omega) (fun c_10 => ?_) (fun c_10 => ?_) | refine a_icmp_ge B 46 d_Mo_setAgainst_10 rfl (fun c_10 => ?_) (fun c_10 => ?_)
    · skip
      exact Rt _ _ _ d_Mo_setAgainst_46 ⟨hF, hQ⟩
    exact absurd c_10 (by omega)
theorem sm_swap {f : Nat → Nat → Nat} {n : Nat} : ∀ m, sumTo (fun a => sumTo (fun b => f a b) n) m = sumTo (fun b => sumTo (fun a => f a b) m) n
  | 0 => by
    show 0 = sumTo (fun b => 0) n
    induction n with
    | zero => rfl
    | succ n ih => show 0 = sumTo (fun b => 0) n + 0; rw [← ih]
  | m + 1 => by
    show sumTo (fun a => sumTo (fun b => f a b) n) m + sumTo (fun b => f m b) n = sumTo (fun b => sumTo (fun a => f a b) m + f m b) n
    rw [sm_swap m, ← sumTo_add]
theorem pa_swap {mA mB : Nat} {pl : Nat → Int32} : sumTo (fun a => sumTo (fun b => paG mB mA pl b a) 10) 10 = pa mB mA pl := sm_swap (f := fun a b => paG mB mA pl b a) 10
theorem crs_no {x y : Int32} (h : x < 0) (h1 : 0 ≤ y) (h2 : y < x) : False := by
  have a := Int32.lt_iff_toInt_lt.mp h
  have b := Int32.le_iff_toInt_le.mp h1
  have c := Int32.lt_iff_toInt_lt.mp h2
  omega
theorem paX_1 {mA mB a b : Nat} {pl : Nat → Int32} (h1 : mA.testBit a = true) (h2 : mB.testBit b = true) (h3 : ¬ pl b < 0) (h4 : ¬ pl a ≤ pl b) : paG mB mA pl b a = 1 := by
  unfold paG
  rw [h1, h2, decide_eq_true (Int32.not_lt.mp h3), decide_eq_true (Int32.not_le.mp h4)]
  rfl
theorem paX_0 {mA mB a b : Nat} {pl : Nat → Int32} (h : mA.testBit a = false ∨ mB.testBit b = false ∨ pl a < 0 ∨ pl b < 0 ∨ pl a ≤ pl b) : paG mB mA pl b a = 0 := by
  unfold paG
  refine if_neg (fun q => ?_)
  simp only [Bool.and_eq_true, decide_eq_true_eq] at q
  obtain ⟨q1, q2, q3, q4⟩ := q
  rcases h with h | h | h | h | h
  · rw [q3] at h; cases h
  · rw [q1] at h; cases h
  · exact crs_no h q2 q4
  · exact absurd q2 (Int32.not_le.mpr h)
  · exact absurd q4 (Int32.not_lt.mpr h)
theorem d_Mo_crossed_0 : decode prog_9_method_41_code 0 = .ok (.iconst 0, 1) := by decide +kernel
theorem d_Mo_crossed_1 : decode prog_9_method_41_code 1 = .ok (.istore_n 3, 1) := by decide +kernel
theorem d_Mo_crossed_2 : decode prog_9_method_41_code 2 = .ok (.iconst 0, 1) := by decide +kernel
theorem d_Mo_crossed_3 : decode prog_9_method_41_code 3 = .ok (.istore 4, 2) := by decide +kernel
theorem d_Mo_crossed_5 : decode prog_9_method_41_code 5 = .ok (.iload 4, 2) := by decide +kernel
theorem d_Mo_crossed_7 : decode prog_9_method_41_code 7 = .ok (.bipush 10, 2) := by decide +kernel
theorem d_Mo_crossed_9 : decode prog_9_method_41_code 9 = .ok (.if_icmp .ge 102, 3) := by decide +kernel
theorem d_Mo_crossed_12 : decode prog_9_method_41_code 12 = .ok (.iconst 0, 1) := by decide +kernel
theorem d_Mo_crossed_13 : decode prog_9_method_41_code 13 = .ok (.istore 5, 2) := by decide +kernel
theorem d_Mo_crossed_15 : decode prog_9_method_41_code 15 = .ok (.iload 5, 2) := by decide +kernel
theorem d_Mo_crossed_17 : decode prog_9_method_41_code 17 = .ok (.bipush 10, 2) := by decide +kernel
theorem d_Mo_crossed_19 : decode prog_9_method_41_code 19 = .ok (.if_icmp .ge 86, 3) := by decide +kernel
theorem d_Mo_crossed_22 : decode prog_9_method_41_code 22 = .ok (.iload_n 1, 1) := by decide +kernel
theorem d_Mo_crossed_23 : decode prog_9_method_41_code 23 = .ok (.iload 4, 2) := by decide +kernel
theorem d_Mo_crossed_25 : decode prog_9_method_41_code 25 = .ok (.ishr, 1) := by decide +kernel
theorem d_Mo_crossed_26 : decode prog_9_method_41_code 26 = .ok (.iconst 1, 1) := by decide +kernel
theorem d_Mo_crossed_27 : decode prog_9_method_41_code 27 = .ok (.iand, 1) := by decide +kernel
theorem d_Mo_crossed_28 : decode prog_9_method_41_code 28 = .ok (.iconst 1, 1) := by decide +kernel
theorem d_Mo_crossed_29 : decode prog_9_method_41_code 29 = .ok (.if_icmp .ne 37, 3) := by decide +kernel
theorem d_Mo_crossed_32 : decode prog_9_method_41_code 32 = .ok (.iload_n 2, 1) := by decide +kernel
theorem d_Mo_crossed_33 : decode prog_9_method_41_code 33 = .ok (.iload 5, 2) := by decide +kernel
theorem d_Mo_crossed_35 : decode prog_9_method_41_code 35 = .ok (.ishr, 1) := by decide +kernel
theorem d_Mo_crossed_36 : decode prog_9_method_41_code 36 = .ok (.iconst 1, 1) := by decide +kernel
theorem d_Mo_crossed_37 : decode prog_9_method_41_code 37 = .ok (.iand, 1) := by decide +kernel
theorem d_Mo_crossed_38 : decode prog_9_method_41_code 38 = .ok (.iconst 1, 1) := by decide +kernel
theorem d_Mo_crossed_39 : decode prog_9_method_41_code 39 = .ok (.if_icmp .ne 27, 3) := by decide +kernel
theorem d_Mo_crossed_42 : decode prog_9_method_41_code 42 = .ok (.aload_n 0, 1) := by decide +kernel
theorem d_Mo_crossed_43 : decode prog_9_method_41_code 43 = .ok (.getfield 59, 3) := by decide +kernel
theorem d_Mo_crossed_46 : decode prog_9_method_41_code 46 = .ok (.iload 4, 2) := by decide +kernel
theorem d_Mo_crossed_48 : decode prog_9_method_41_code 48 = .ok (.iaload, 1) := by decide +kernel
theorem d_Mo_crossed_49 : decode prog_9_method_41_code 49 = .ok (.ifCond .lt 17, 3) := by decide +kernel
theorem d_Mo_crossed_52 : decode prog_9_method_41_code 52 = .ok (.aload_n 0, 1) := by decide +kernel
theorem d_Mo_crossed_53 : decode prog_9_method_41_code 53 = .ok (.getfield 59, 3) := by decide +kernel
theorem d_Mo_crossed_56 : decode prog_9_method_41_code 56 = .ok (.iload 5, 2) := by decide +kernel
theorem d_Mo_crossed_58 : decode prog_9_method_41_code 58 = .ok (.iaload, 1) := by decide +kernel
theorem d_Mo_crossed_59 : decode prog_9_method_41_code 59 = .ok (.ifCond .lt 7, 3) := by decide +kernel
theorem d_Mo_crossed_62 : decode prog_9_method_41_code 62 = .ok (.iconst 1, 1) := by decide +kernel
theorem d_Mo_crossed_63 : decode prog_9_method_41_code 63 = .ok (.goto 4, 3) := by decide +kernel
theorem d_Mo_crossed_66 : decode prog_9_method_41_code 66 = .ok (.iconst 0, 1) := by decide +kernel
theorem d_Mo_crossed_67 : decode prog_9_method_41_code 67 = .ok (.istore 6, 2) := by decide +kernel
theorem d_Mo_crossed_69 : decode prog_9_method_41_code 69 = .ok (.iload_n 3, 1) := by decide +kernel
theorem d_Mo_crossed_70 : decode prog_9_method_41_code 70 = .ok (.iload 6, 2) := by decide +kernel
theorem d_Mo_crossed_72 : decode prog_9_method_41_code 72 = .ok (.ifCond .eq 24, 3) := by decide +kernel
theorem d_Mo_crossed_75 : decode prog_9_method_41_code 75 = .ok (.aload_n 0, 1) := by decide +kernel
theorem d_Mo_crossed_76 : decode prog_9_method_41_code 76 = .ok (.getfield 59, 3) := by decide +kernel
theorem d_Mo_crossed_79 : decode prog_9_method_41_code 79 = .ok (.iload 5, 2) := by decide +kernel
theorem d_Mo_crossed_81 : decode prog_9_method_41_code 81 = .ok (.iaload, 1) := by decide +kernel
theorem d_Mo_crossed_82 : decode prog_9_method_41_code 82 = .ok (.aload_n 0, 1) := by decide +kernel
theorem d_Mo_crossed_83 : decode prog_9_method_41_code 83 = .ok (.getfield 59, 3) := by decide +kernel
theorem d_Mo_crossed_86 : decode prog_9_method_41_code 86 = .ok (.iload 4, 2) := by decide +kernel
theorem d_Mo_crossed_88 : decode prog_9_method_41_code 88 = .ok (.iaload, 1) := by decide +kernel
theorem d_Mo_crossed_89 : decode prog_9_method_41_code 89 = .ok (.if_icmp .ge 7, 3) := by decide +kernel
theorem d_Mo_crossed_92 : decode prog_9_method_41_code 92 = .ok (.iconst 1, 1) := by decide +kernel
theorem d_Mo_crossed_93 : decode prog_9_method_41_code 93 = .ok (.goto 4, 3) := by decide +kernel
theorem d_Mo_crossed_96 : decode prog_9_method_41_code 96 = .ok (.iconst 0, 1) := by decide +kernel
theorem d_Mo_crossed_97 : decode prog_9_method_41_code 97 = .ok (.iadd, 1) := by decide +kernel
theorem d_Mo_crossed_98 : decode prog_9_method_41_code 98 = .ok (.istore_n 3, 1) := by decide +kernel
theorem d_Mo_crossed_99 : decode prog_9_method_41_code 99 = .ok (.iinc 5 1, 3) := by decide +kernel
theorem d_Mo_crossed_102 : decode prog_9_method_41_code 102 = .ok (.goto (-87), 3) := by decide +kernel
theorem d_Mo_crossed_105 : decode prog_9_method_41_code 105 = .ok (.iinc 4 1, 3) := by decide +kernel
theorem d_Mo_crossed_108 : decode prog_9_method_41_code 108 = .ok (.goto (-103), 3) := by decide +kernel
theorem d_Mo_crossed_111 : decode prog_9_method_41_code 111 = .ok (.iload_n 3, 1) := by decide +kernel
theorem d_Mo_crossed_112 : decode prog_9_method_41_code 112 = .ok (.ireturn, 1) := by decide +kernel
set_option maxHeartbeats 4000000 in
set_option maxRecDepth 20000 in
theorem t_Mo_crossed {g : GG} (G : Gok g) {σ : AH} {mA mB : Nat} (hA : mA < 1024) (hB : mB < 1024) : TerI g 0 m_Mo_crossed [rV 106, iV (nI mA), iV (nI mB)] σ (fun r τ => r = nI (pa mB mA (σ.1 123)) ∧ τ = σ) := by
  refine TerI.mk G (by decide +kernel) rfl (Nat.le_of_ble_eq_true rfl) (fun K B Rt => ?_)
  have B : Cx g K prog_9_method_41_code 7 R_Mo 0 := B
  have Rt : RetI g K prog_9_method_41_code 7 (fun r τ => r = nI (pa mB mA (σ.1 123)) ∧ τ = σ) := Rt
  show AW g K 7 0 [(0, rV 106), (1, iV (nI mA)), (2, iV (nI mB))] [] σ
  refine a_iconst B d_Mo_crossed_0 ci_0 ?_
  refine a_istore_n (lv1 := [(0, _), (1, _), (2, _), (3, _)]) B d_Mo_crossed_1 rfl (by decide) rfl ?_
  refine a_iconst B d_Mo_crossed_2 ci_0 ?_
  refine a_istore (lv1 := [(0, _), (1, _), (2, _), (3, _), (4, _)]) B d_Mo_crossed_3 (by decide) rfl ?_
  refine a_for (lf := fun a => [(0, rV 106), (1, iV (nI mA)), (2, iV (nI mB)), (3, iV (nI (sumTo (fun a => sumTo (fun b => paG mB mA (σ.1 123) b a) 10) a))), (4, iV (nI a))]) (τ := fun a => σ) 10 (fun a ha iha => ?_) ?_ 0 (Nat.zero_le _)
  · skip
    refine a_iload B d_Mo_crossed_5 rfl ?_
    refine a_bipush B d_Mo_crossed_7 cb_10 ?_
    first | refine b_icmp_ge B 111 d_Mo_crossed_9 rfl (by omega) (by omega) (fun c_9 => ?_) (fun c_9 => ?_) | refine a_icmp_ge B 111 d_Mo_crossed_9 rfl (fun c_9 => ?_) (fun c_9 => ?_)
    · skip
      exact absurd c_9 (by omega)
    refine a_iconst B d_Mo_crossed_12 ci_0 ?_
    refine a_istore (lv1 := [(0, _), (1, _), (2, _), (3, _), (4, _), (5, _)]) B d_Mo_crossed_13 (by decide) rfl ?_
    refine a_for (lf := fun b => [(0, rV 106), (1, iV (nI mA)), (2, iV (nI mB)), (3, iV (nI (sumTo (fun a => sumTo (fun b => paG mB mA (σ.1 123) b a) 10) a + sumTo (fun b => paG mB mA (σ.1 123) b a) b))), (4, iV (nI a)), (5, iV (nI b))]) (τ := fun b => σ) 10 (fun b hb ihb => ?_) ?_ 0 (Nat.zero_le _)
    · skip
      refine a_iload B d_Mo_crossed_15 rfl ?_
      refine a_bipush B d_Mo_crossed_17 cb_10 ?_
      first | refine b_icmp_ge B 105 d_Mo_crossed_19 rfl (by omega) (by omega) (fun c_19 => ?_) (fun c_19 => ?_) | refine a_icmp_ge B 105 d_Mo_crossed_19 rfl (fun c_19 => ?_) (fun c_19 => ?_)
      · skip
        exact absurd c_19 (by omega)
      refine a_iload_n B d_Mo_crossed_22 rfl rfl ?_
      refine a_iload B d_Mo_crossed_23 rfl ?_
      refine a_ishr B d_Mo_crossed_25 ?_
      refine a_iconst B d_Mo_crossed_26 ci_1 ?_
      refine a_iand B d_Mo_crossed_27 ?_
      rw [bit_atN hA (by omega)]
      refine a_iconst B d_Mo_crossed_28 ci_1 ?_
      first | refine b_icmp_ne B 66 d_Mo_crossed_29 rfl (by omega) (by omega) (fun c_29 => ?_) (fun c_29 => ?_) | refine a_icmp_ne B 66 d_Mo_crossed_29 rfl (fun c_29 => ?_) (fun c_29 => ?_)
      · skip
        refine a_iconst B d_Mo_crossed_66 ci_0 ?_
        refine a_istore (lv1 := [(0, _), (1, _), (2, _), (3, _), (4, _), (5, _), (6, _)]) B d_Mo_crossed_67 (by decide) rfl ?_
        refine a_iload_n B d_Mo_crossed_69 rfl rfl ?_
        refine a_iload B d_Mo_crossed_70 rfl ?_
        refine a_if_eq B 96 d_Mo_crossed_72 rfl (fun _ => ?_) (fun c9 => absurd nI_0 c9)
        refine a_iconst B d_Mo_crossed_96 ci_0 ?_
        first | refine b_iadd B d_Mo_crossed_97 ?_ | refine a_iadd B d_Mo_crossed_97 ?_
        refine a_istore_n (lv1 := [(0, _), (1, _), (2, _), (3, _), (4, _), (5, _), (6, _)]) B d_Mo_crossed_98 rfl (by decide) rfl ?_
        first | refine b_iinc (lv1 := [(0, _), (1, _), (2, _), (3, _), (4, _), (5, _), (6, _)]) B d_Mo_crossed_99 rfl ci_1 (by decide) rfl ?_ | refine a_iinc (lv1 := [(0, _), (1, _), (2, _), (3, _), (4, _), (5, _), (6, _)]) B d_Mo_crossed_99 rfl rfl (by decide) rfl ?_
        refine a_goto B 15 d_Mo_crossed_102 rfl ?_
        refine a_sub (lv1 := [(0, _), (1, _), (2, _), (3, _), (4, _), (5, _)]) rfl ?_
        rw [show sumTo (fun b => paG mB mA (σ.1 123) b a) (b + 1) = sumTo (fun b => paG mB mA (σ.1 123) b a) b + paG mB mA (σ.1 123) b a from rfl] at ihb
        first | (rw [paX_1 (tb_1 c_29) (tb_1 c_39) c_59 c_89, ← Nat.add_assoc] at ihb; exact ihb) | (rw [paX_0 (Or.inl (tb_0 c_29))] at ihb; exact ihb) | (rw [paX_0 (Or.inr (Or.inl (tb_0 c_39)))] at ihb; exact ihb) | (rw [paX_0 (Or.inr (Or.inr (Or.inl c_49)))] at ihb; exact ihb) | (rw [paX_0 (Or.inr (Or.inr (Or.inr (Or.inl c_59))))] at ihb; exact ihb) | (rw [paX_0 (Or.inr (Or.inr (Or.inr (Or.inr c_89))))] at ihb; exact ihb)
      refine a_iload_n B d_Mo_crossed_32 rfl rfl ?_
      refine a_iload B d_Mo_crossed_33 rfl ?_
      refine a_ishr B d_Mo_crossed_35 ?_
      refine a_iconst B d_Mo_crossed_36 ci_1 ?_
      refine a_iand B d_Mo_crossed_37 ?_
      rw [bit_atN hB (by omega)]
      refine a_iconst B d_Mo_crossed_38 ci_1 ?_
      first | refine b_icmp_ne B 66 d_Mo_crossed_39 rfl (by omega) (by omega) (fun c_39 => ?_) (fun c_39 => ?_) | refine a_icmp_ne B 66 d_Mo_crossed_39 rfl (fun c_39 => ?_) (fun c_39 => ?_)
      · skip
        refine a_iconst B d_Mo_crossed_66 ci_0 ?_
        refine a_istore (lv1 := [(0, _), (1, _), (2, _), (3, _), (4, _), (5, _), (6, _)]) B d_Mo_crossed_67 (by decide) rfl ?_
        refine a_iload_n B d_Mo_crossed_69 rfl rfl ?_
        refine a_iload B d_Mo_crossed_70 rfl ?_
        refine a_if_eq B 96 d_Mo_crossed_72 rfl (fun _ => ?_) (fun c9 => absurd nI_0 c9)
        refine a_iconst B d_Mo_crossed_96 ci_0 ?_
        first | refine b_iadd B d_Mo_crossed_97 ?_ | refine a_iadd B d_Mo_crossed_97 ?_
        refine a_istore_n (lv1 := [(0, _), (1, _), (2, _), (3, _), (4, _), (5, _), (6, _)]) B d_Mo_crossed_98 rfl (by decide) rfl ?_
        first | refine b_iinc (lv1 := [(0, _), (1, _), (2, _), (3, _), (4, _), (5, _), (6, _)]) B d_Mo_crossed_99 rfl ci_1 (by decide) rfl ?_ | refine a_iinc (lv1 := [(0, _), (1, _), (2, _), (3, _), (4, _), (5, _), (6, _)]) B d_Mo_crossed_99 rfl rfl (by decide) rfl ?_
        refine a_goto B 15 d_Mo_crossed_102 rfl ?_
        refine a_sub (lv1 := [(0, _), (1, _), (2, _), (3, _), (4, _), (5, _)]) rfl ?_
        rw [show sumTo (fun b => paG mB mA (σ.1 123) b a) (b + 1) = sumTo (fun b => paG mB mA (σ.1 123) b a) b + paG mB mA (σ.1 123) b a from rfl] at ihb
        first | (rw [paX_1 (tb_1 c_29) (tb_1 c_39) c_59 c_89, ← Nat.add_assoc] at ihb; exact ihb) | (rw [paX_0 (Or.inl (tb_0 c_29))] at ihb; exact ihb) | (rw [paX_0 (Or.inr (Or.inl (tb_0 c_39)))] at ihb; exact ihb) | (rw [paX_0 (Or.inr (Or.inr (Or.inl c_49)))] at ihb; exact ihb) | (rw [paX_0 (Or.inr (Or.inr (Or.inr (Or.inl c_59))))] at ihb; exact ihb) | (rw [paX_0 (Or.inr (Or.inr (Or.inr (Or.inr c_89))))] at ihb; exact ihb)
      refine a_aload_n B d_Mo_crossed_42 rfl rfl ?_
      refine gf_Mo_against B d_Mo_crossed_43 fl_Mo_59 ?_
      refine a_iload B d_Mo_crossed_46 rfl ?_
      refine a_iald B ly_123 _ rfl (by first | assumption | omega) d_Mo_crossed_48 ?_
      refine a_if_lt B 66 d_Mo_crossed_49 rfl (fun c_49 => ?_) (fun c_49 => ?_)
      · skip
        refine a_iconst B d_Mo_crossed_66 ci_0 ?_
        refine a_istore (lv1 := [(0, _), (1, _), (2, _), (3, _), (4, _), (5, _), (6, _)]) B d_Mo_crossed_67 (by decide) rfl ?_
        refine a_iload_n B d_Mo_crossed_69 rfl rfl ?_
        refine a_iload B d_Mo_crossed_70 rfl ?_
        refine a_if_eq B 96 d_Mo_crossed_72 rfl (fun _ => ?_) (fun c9 => absurd nI_0 c9)
        refine a_iconst B d_Mo_crossed_96 ci_0 ?_
        first | refine b_iadd B d_Mo_crossed_97 ?_ | refine a_iadd B d_Mo_crossed_97 ?_
        refine a_istore_n (lv1 := [(0, _), (1, _), (2, _), (3, _), (4, _), (5, _), (6, _)]) B d_Mo_crossed_98 rfl (by decide) rfl ?_
        first | refine b_iinc (lv1 := [(0, _), (1, _), (2, _), (3, _), (4, _), (5, _), (6, _)]) B d_Mo_crossed_99 rfl ci_1 (by decide) rfl ?_ | refine a_iinc (lv1 := [(0, _), (1, _), (2, _), (3, _), (4, _), (5, _), (6, _)]) B d_Mo_crossed_99 rfl rfl (by decide) rfl ?_
        refine a_goto B 15 d_Mo_crossed_102 rfl ?_
        refine a_sub (lv1 := [(0, _), (1, _), (2, _), (3, _), (4, _), (5, _)]) rfl ?_
        rw [show sumTo (fun b => paG mB mA (σ.1 123) b a) (b + 1) = sumTo (fun b => paG mB mA (σ.1 123) b a) b + paG mB mA (σ.1 123) b a from rfl] at ihb
        first | (rw [paX_1 (tb_1 c_29) (tb_1 c_39) c_59 c_89, ← Nat.add_assoc] at ihb; exact ihb) | (rw [paX_0 (Or.inl (tb_0 c_29))] at ihb; exact ihb) | (rw [paX_0 (Or.inr (Or.inl (tb_0 c_39)))] at ihb; exact ihb) | (rw [paX_0 (Or.inr (Or.inr (Or.inl c_49)))] at ihb; exact ihb) | (rw [paX_0 (Or.inr (Or.inr (Or.inr (Or.inl c_59))))] at ihb; exact ihb) | (rw [paX_0 (Or.inr (Or.inr (Or.inr (Or.inr c_89))))] at ihb; exact ihb)
      refine a_aload_n B d_Mo_crossed_52 rfl rfl ?_
      refine gf_Mo_against B d_Mo_crossed_53 fl_Mo_59 ?_
      refine a_iload B d_Mo_crossed_56 rfl ?_
      refine a_iald B ly_123 _ rfl (by first | assumption | omega) d_Mo_crossed_58 ?_
      refine a_if_lt B 66 d_Mo_crossed_59 rfl (fun c_59 => ?_) (fun c_59 => ?_)
      · skip
        refine a_iconst B d_Mo_crossed_66 ci_0 ?_
        refine a_istore (lv1 := [(0, _), (1, _), (2, _), (3, _), (4, _), (5, _), (6, _)]) B d_Mo_crossed_67 (by decide) rfl ?_
        refine a_iload_n B d_Mo_crossed_69 rfl rfl ?_
        refine a_iload B d_Mo_crossed_70 rfl ?_
        refine a_if_eq B 96 d_Mo_crossed_72 rfl (fun _ => ?_) (fun c9 => absurd nI_0 c9)
        refine a_iconst B d_Mo_crossed_96 ci_0 ?_
        first | refine b_iadd B d_Mo_crossed_97 ?_ | refine a_iadd B d_Mo_crossed_97 ?_
        refine a_istore_n (lv1 := [(0, _), (1, _), (2, _), (3, _), (4, _), (5, _), (6, _)]) B d_Mo_crossed_98 rfl (by decide) rfl ?_
        first | refine b_iinc (lv1 := [(0, _), (1, _), (2, _), (3, _), (4, _), (5, _), (6, _)]) B d_Mo_crossed_99 rfl ci_1 (by decide) rfl ?_ | refine a_iinc (lv1 := [(0, _), (1, _), (2, _), (3, _), (4, _), (5, _), (6, _)]) B d_Mo_crossed_99 rfl rfl (by decide) rfl ?_
        refine a_goto B 15 d_Mo_crossed_102 rfl ?_
        refine a_sub (lv1 := [(0, _), (1, _), (2, _), (3, _), (4, _), (5, _)]) rfl ?_
        rw [show sumTo (fun b => paG mB mA (σ.1 123) b a) (b + 1) = sumTo (fun b => paG mB mA (σ.1 123) b a) b + paG mB mA (σ.1 123) b a from rfl] at ihb
        first | (rw [paX_1 (tb_1 c_29) (tb_1 c_39) c_59 c_89, ← Nat.add_assoc] at ihb; exact ihb) | (rw [paX_0 (Or.inl (tb_0 c_29))] at ihb; exact ihb) | (rw [paX_0 (Or.inr (Or.inl (tb_0 c_39)))] at ihb; exact ihb) | (rw [paX_0 (Or.inr (Or.inr (Or.inl c_49)))] at ihb; exact ihb) | (rw [paX_0 (Or.inr (Or.inr (Or.inr (Or.inl c_59))))] at ihb; exact ihb) | (rw [paX_0 (Or.inr (Or.inr (Or.inr (Or.inr c_89))))] at ihb; exact ihb)
      refine a_iconst B d_Mo_crossed_62 ci_1 ?_
      refine a_goto B 67 d_Mo_crossed_63 rfl ?_
      refine a_istore (lv1 := [(0, _), (1, _), (2, _), (3, _), (4, _), (5, _), (6, _)]) B d_Mo_crossed_67 (by decide) rfl ?_
      refine a_iload_n B d_Mo_crossed_69 rfl rfl ?_
      refine a_iload B d_Mo_crossed_70 rfl ?_
      refine a_if_eq B 96 d_Mo_crossed_72 rfl (fun c9 => absurd c9 (by decide)) (fun _ => ?_)
      refine a_aload_n B d_Mo_crossed_75 rfl rfl ?_
      refine gf_Mo_against B d_Mo_crossed_76 fl_Mo_59 ?_
      refine a_iload B d_Mo_crossed_79 rfl ?_
      refine a_iald B ly_123 _ rfl (by first | assumption | omega) d_Mo_crossed_81 ?_
      refine a_aload_n B d_Mo_crossed_82 rfl rfl ?_
      refine gf_Mo_against B d_Mo_crossed_83 fl_Mo_59 ?_
      refine a_iload B d_Mo_crossed_86 rfl ?_
      refine a_iald B ly_123 _ rfl (by first | assumption | omega) d_Mo_crossed_88 ?_
      first | refine b_icmp_ge B 96 d_Mo_crossed_89 rfl (by omega) (by omega) (fun c_89 => ?_) (fun c_89 => ?_) | refine a_icmp_ge B 96 d_Mo_crossed_89 rfl (fun c_89 => ?_) (fun c_89 => ?_)
      · skip
        refine a_iconst B d_Mo_crossed_96 ci_0 ?_
        first | refine b_iadd B d_Mo_crossed_97 ?_ | refine a_iadd B d_Mo_crossed_97 ?_
        refine a_istore_n (lv1 := [(0, _), (1, _), (2, _), (3, _), (4, _), (5, _), (6, _)]) B d_Mo_crossed_98 rfl (by decide) rfl ?_
        first | refine b_iinc (lv1 := [(0, _), (1, _), (2, _), (3, _), (4, _), (5, _), (6, _)]) B d_Mo_crossed_99 rfl ci_1 (by decide) rfl ?_ | refine a_iinc (lv1 := [(0, _), (1, _), (2, _), (3, _), (4, _), (5, _), (6, _)]) B d_Mo_crossed_99 rfl rfl (by decide) rfl ?_
        refine a_goto B 15 d_Mo_crossed_102 rfl ?_
        refine a_sub (lv1 := [(0, _), (1, _), (2, _), (3, _), (4, _), (5, _)]) rfl ?_
        rw [show sumTo (fun b => paG mB mA (σ.1 123) b a) (b + 1) = sumTo (fun b => paG mB mA (σ.1 123) b a) b + paG mB mA (σ.1 123) b a from rfl] at ihb
        first | (rw [paX_1 (tb_1 c_29) (tb_1 c_39) c_59 c_89, ← Nat.add_assoc] at ihb; exact ihb) | (rw [paX_0 (Or.inl (tb_0 c_29))] at ihb; exact ihb) | (rw [paX_0 (Or.inr (Or.inl (tb_0 c_39)))] at ihb; exact ihb) | (rw [paX_0 (Or.inr (Or.inr (Or.inl c_49)))] at ihb; exact ihb) | (rw [paX_0 (Or.inr (Or.inr (Or.inr (Or.inl c_59))))] at ihb; exact ihb) | (rw [paX_0 (Or.inr (Or.inr (Or.inr (Or.inr c_89))))] at ihb; exact ihb)
      refine a_iconst B d_Mo_crossed_92 ci_1 ?_
      refine a_goto B 97 d_Mo_crossed_93 rfl ?_
      first | refine b_iadd B d_Mo_crossed_97 ?_ | refine a_iadd B d_Mo_crossed_97 ?_
      refine a_istore_n (lv1 := [(0, _), (1, _), (2, _), (3, _), (4, _), (5, _), (6, _)]) B d_Mo_crossed_98 rfl (by decide) rfl ?_
      first | refine b_iinc (lv1 := [(0, _), (1, _), (2, _), (3, _), (4, _), (5, _), (6, _)]) B d_Mo_crossed_99 rfl ci_1 (by decide) rfl ?_ | refine a_iinc (lv1 := [(0, _), (1, _), (2, _), (3, _), (4, _), (5, _), (6, _)]) B d_Mo_crossed_99 rfl rfl (by decide) rfl ?_
      refine a_goto B 15 d_Mo_crossed_102 rfl ?_
      refine a_sub (lv1 := [(0, _), (1, _), (2, _), (3, _), (4, _), (5, _)]) rfl ?_
      rw [show sumTo (fun b => paG mB mA (σ.1 123) b a) (b + 1) = sumTo (fun b => paG mB mA (σ.1 123) b a) b + paG mB mA (σ.1 123) b a from rfl] at ihb
      first | (rw [paX_1 (tb_1 c_29) (tb_1 c_39) c_59 c_89, ← Nat.add_assoc] at ihb; exact ihb) | (rw [paX_0 (Or.inl (tb_0 c_29))] at ihb; exact ihb) | (rw [paX_0 (Or.inr (Or.inl (tb_0 c_39)))] at ihb; exact ihb) | (rw [paX_0 (Or.inr (Or.inr (Or.inl c_49)))] at ihb; exact ihb) | (rw [paX_0 (Or.inr (Or.inr (Or.inr (Or.inl c_59))))] at ihb; exact ihb) | (rw [paX_0 (Or.inr (Or.inr (Or.inr (Or.inr c_89))))] at ihb; exact ihb)
    · skip
      refine a_iload B d_Mo_crossed_15 rfl ?_
      refine a_bipush B d_Mo_crossed_17 cb_10 ?_
      first | refine b_icmp_ge B 105 d_Mo_crossed_19 rfl (by omega) (by omega) (fun c_19 => ?_) (fun c_19 => ?_) | refine a_icmp_ge B 105 d_Mo_crossed_19 rfl (fun c_19 => ?_) (fun c_19 => ?_)
      · skip
        first | refine b_iinc (lv1 := [(0, _), (1, _), (2, _), (3, _), (4, _), (5, _)]) B d_Mo_crossed_105 rfl ci_1 (by decide) rfl ?_ | refine a_iinc (lv1 := [(0, _), (1, _), (2, _), (3, _), (4, _), (5, _)]) B d_Mo_crossed_105 rfl rfl (by decide) rfl ?_
        refine a_goto B 5 d_Mo_crossed_108 rfl ?_
        refine a_sub (lv1 := [(0, _), (1, _), (2, _), (3, _), (4, _)]) rfl ?_
        exact iha
      exact absurd c_19 (by omega)
  · skip
    refine a_iload B d_Mo_crossed_5 rfl ?_
    refine a_bipush B d_Mo_crossed_7 cb_10 ?_
    first | refine b_icmp_ge B 111 d_Mo_crossed_9 rfl (by omega) (by omega) (fun c_9 => ?_) (fun c_9 => ?_) | refine a_icmp_ge B 111 d_Mo_crossed_9 rfl (fun c_9 => ?_) (fun c_9 => ?_)
    · skip
      refine a_iload_n B d_Mo_crossed_111 rfl rfl ?_
      exact Rt _ _ _ _ d_Mo_crossed_112 ⟨by rw [pa_swap], rfl⟩
    exact absurd c_9 (by omega)
theorem d_Mo_allCrossed_0 : decode prog_9_method_42_code 0 = .ok (.iconst 0, 1) := by decide +kernel
theorem d_Mo_allCrossed_1 : decode prog_9_method_42_code 1 = .ok (.istore_n 2, 1) := by decide +kernel
theorem d_Mo_allCrossed_2 : decode prog_9_method_42_code 2 = .ok (.aload_n 0, 1) := by decide +kernel
theorem d_Mo_allCrossed_3 : decode prog_9_method_42_code 3 = .ok (.getfield 23, 3) := by decide +kernel
theorem d_Mo_allCrossed_6 : decode prog_9_method_42_code 6 = .ok (.iload_n 1, 1) := by decide +kernel
theorem d_Mo_allCrossed_7 : decode prog_9_method_42_code 7 = .ok (.iaload, 1) := by decide +kernel
theorem d_Mo_allCrossed_8 : decode prog_9_method_42_code 8 = .ok (.istore_n 3, 1) := by decide +kernel
theorem d_Mo_allCrossed_9 : decode prog_9_method_42_code 9 = .ok (.iload_n 3, 1) := by decide +kernel
theorem d_Mo_allCrossed_10 : decode prog_9_method_42_code 10 = .ok (.aload_n 0, 1) := by decide +kernel
theorem d_Mo_allCrossed_11 : decode prog_9_method_42_code 11 = .ok (.iload_n 1, 1) := by decide +kernel
theorem d_Mo_allCrossed_12 : decode prog_9_method_42_code 12 = .ok (.invokevirtual 123, 3) := by decide +kernel
theorem d_Mo_allCrossed_15 : decode prog_9_method_42_code 15 = .ok (.if_icmp .ge 58, 3) := by decide +kernel
theorem d_Mo_allCrossed_18 : decode prog_9_method_42_code 18 = .ok (.iload_n 2, 1) := by decide +kernel
theorem d_Mo_allCrossed_19 : decode prog_9_method_42_code 19 = .ok (.aload_n 0, 1) := by decide +kernel
theorem d_Mo_allCrossed_20 : decode prog_9_method_42_code 20 = .ok (.aload_n 0, 1) := by decide +kernel
theorem d_Mo_allCrossed_21 : decode prog_9_method_42_code 21 = .ok (.getfield 44, 3) := by decide +kernel
theorem d_Mo_allCrossed_24 : decode prog_9_method_42_code 24 = .ok (.bipush 20, 2) := by decide +kernel
theorem d_Mo_allCrossed_26 : decode prog_9_method_42_code 26 = .ok (.iload_n 1, 1) := by decide +kernel
theorem d_Mo_allCrossed_27 : decode prog_9_method_42_code 27 = .ok (.imul, 1) := by decide +kernel
theorem d_Mo_allCrossed_28 : decode prog_9_method_42_code 28 = .ok (.aload_n 0, 1) := by decide +kernel
theorem d_Mo_allCrossed_29 : decode prog_9_method_42_code 29 = .ok (.getfield 26, 3) := by decide +kernel
theorem d_Mo_allCrossed_32 : decode prog_9_method_42_code 32 = .ok (.bipush 20, 2) := by decide +kernel
theorem d_Mo_allCrossed_34 : decode prog_9_method_42_code 34 = .ok (.iload_n 1, 1) := by decide +kernel
theorem d_Mo_allCrossed_35 : decode prog_9_method_42_code 35 = .ok (.imul, 1) := by decide +kernel
theorem d_Mo_allCrossed_36 : decode prog_9_method_42_code 36 = .ok (.iload_n 3, 1) := by decide +kernel
theorem d_Mo_allCrossed_37 : decode prog_9_method_42_code 37 = .ok (.iadd, 1) := by decide +kernel
theorem d_Mo_allCrossed_38 : decode prog_9_method_42_code 38 = .ok (.iaload, 1) := by decide +kernel
theorem d_Mo_allCrossed_39 : decode prog_9_method_42_code 39 = .ok (.iadd, 1) := by decide +kernel
theorem d_Mo_allCrossed_40 : decode prog_9_method_42_code 40 = .ok (.iaload, 1) := by decide +kernel
theorem d_Mo_allCrossed_41 : decode prog_9_method_42_code 41 = .ok (.aload_n 0, 1) := by decide +kernel
theorem d_Mo_allCrossed_42 : decode prog_9_method_42_code 42 = .ok (.getfield 44, 3) := by decide +kernel
theorem d_Mo_allCrossed_45 : decode prog_9_method_42_code 45 = .ok (.bipush 20, 2) := by decide +kernel
theorem d_Mo_allCrossed_47 : decode prog_9_method_42_code 47 = .ok (.iload_n 1, 1) := by decide +kernel
theorem d_Mo_allCrossed_48 : decode prog_9_method_42_code 48 = .ok (.imul, 1) := by decide +kernel
theorem d_Mo_allCrossed_49 : decode prog_9_method_42_code 49 = .ok (.aload_n 0, 1) := by decide +kernel
theorem d_Mo_allCrossed_50 : decode prog_9_method_42_code 50 = .ok (.getfield 29, 3) := by decide +kernel
theorem d_Mo_allCrossed_53 : decode prog_9_method_42_code 53 = .ok (.bipush 20, 2) := by decide +kernel
theorem d_Mo_allCrossed_55 : decode prog_9_method_42_code 55 = .ok (.iload_n 1, 1) := by decide +kernel
theorem d_Mo_allCrossed_56 : decode prog_9_method_42_code 56 = .ok (.imul, 1) := by decide +kernel
theorem d_Mo_allCrossed_57 : decode prog_9_method_42_code 57 = .ok (.iload_n 3, 1) := by decide +kernel
theorem d_Mo_allCrossed_58 : decode prog_9_method_42_code 58 = .ok (.iadd, 1) := by decide +kernel
theorem d_Mo_allCrossed_59 : decode prog_9_method_42_code 59 = .ok (.iaload, 1) := by decide +kernel
theorem d_Mo_allCrossed_60 : decode prog_9_method_42_code 60 = .ok (.iadd, 1) := by decide +kernel
theorem d_Mo_allCrossed_61 : decode prog_9_method_42_code 61 = .ok (.iaload, 1) := by decide +kernel
theorem d_Mo_allCrossed_62 : decode prog_9_method_42_code 62 = .ok (.invokevirtual 167, 3) := by decide +kernel
theorem d_Mo_allCrossed_65 : decode prog_9_method_42_code 65 = .ok (.iadd, 1) := by decide +kernel
theorem d_Mo_allCrossed_66 : decode prog_9_method_42_code 66 = .ok (.istore_n 2, 1) := by decide +kernel
theorem d_Mo_allCrossed_67 : decode prog_9_method_42_code 67 = .ok (.iinc 3 1, 3) := by decide +kernel
theorem d_Mo_allCrossed_70 : decode prog_9_method_42_code 70 = .ok (.goto (-61), 3) := by decide +kernel
theorem d_Mo_allCrossed_73 : decode prog_9_method_42_code 73 = .ok (.iload_n 2, 1) := by decide +kernel
theorem d_Mo_allCrossed_74 : decode prog_9_method_42_code 74 = .ok (.ireturn, 1) := by decide +kernel
set_option maxHeartbeats 4000000 in
set_option maxRecDepth 20000 in
theorem t_Mo_allCrossed {g : GG} (G : Gok g) {σ : AH} {t : Nat} {T : TT} (ht : t < 4) (tW : Wf T) (tA : TmA σ t T) (tB : TmB σ t T) : TerI g 1 m_Mo_allCrossed [rV 106, iV (nI t)] σ (fun r τ => r = nI (crossT T (σ.1 123)) ∧ τ = σ) := by
  refine TerI.mk G (by decide +kernel) rfl (Nat.le_of_ble_eq_true rfl) (fun K B Rt => ?_)
  have B : Cx g K prog_9_method_42_code 4 R_Mo 1 := B
  have Rt : RetI g K prog_9_method_42_code 4 (fun r τ => r = nI (crossT T (σ.1 123)) ∧ τ = σ) := Rt
  show AW g K 4 0 [(0, rV 106), (1, iV (nI t))] [] σ
  obtain ⟨a1, a2, a3, a4, a5, a6⟩ := id tA
  have w1 := tW.1
  have w10 := tW.2.1
  refine a_iconst B d_Mo_allCrossed_0 ci_0 ?_
  refine a_istore_n (lv1 := [(0, _), (1, _), (2, _)]) B d_Mo_allCrossed_1 rfl (by decide) rfl ?_
  refine a_aload_n B d_Mo_allCrossed_2 rfl rfl ?_
  refine gf_Mo_sizes B d_Mo_allCrossed_3 fl_Mo_23 ?_
  refine a_iload_n B d_Mo_allCrossed_6 rfl rfl ?_
  refine a_iald B ly_111 _ rfl (by first | assumption | omega) d_Mo_allCrossed_7 ?_
  rw [a1]
  refine a_istore_n (lv1 := [(0, _), (1, _), (2, _), (3, _)]) B d_Mo_allCrossed_8 rfl (by decide) rfl ?_
  refine a_for (lf := fun i => [(0, rV 106), (1, iV (nI t)), (2, iV (nI (sumTo (fun k => pa (tM T (tR T (tN T + k))) (tM T (tL T (tN T + k))) (σ.1 123)) i))), (3, iV (nI (tN T + i)))]) (τ := fun i => σ) (tN T - 1) (fun i hi ihi => ?_) ?_ 0 (Nat.zero_le _)
  · skip
    refine a_iload_n B d_Mo_allCrossed_9 rfl rfl ?_
    refine a_aload_n B d_Mo_allCrossed_10 rfl rfl ?_
    refine a_iload_n B d_Mo_allCrossed_11 rfl rfl ?_
    refine a_callVI (ci := 7) B (t_Mo_nodes G ht w1 w10 a1) d_Mo_allCrossed_12 ok_Mo_nodes ml_Mo_123 ly_106 rfl rfl (by decide) (by decide) rfl (Nat.le_of_ble_eq_true rfl) (fun r_12 τ_12 h_12 => ?_)
    obtain ⟨hr_12, hs_12⟩ := h_12
    subst hr_12
    replace hs_12 := hs_12.symm
    subst hs_12
    first | refine b_icmp_ge B 73 d_Mo_allCrossed_15 rfl (by omega) (by omega) (fun c_15 => ?_) (fun c_15 => ?_) | refine a_icmp_ge B 73 d_Mo_allCrossed_15 rfl (fun c_15 => ?_) (fun c_15 => ?_)
    · skip
      exact absurd c_15 (by omega)
    obtain ⟨q1, q2, -⟩ := tW.2.2.1 (tN T + i) (by omega) (by omega)
    obtain ⟨b1, b2⟩ := tB.2 (tN T + i) (by omega) (by omega)
    refine a_iload_n B d_Mo_allCrossed_18 rfl rfl ?_
    refine a_aload_n B d_Mo_allCrossed_19 rfl rfl ?_
    refine a_aload_n B d_Mo_allCrossed_20 rfl rfl ?_
    refine gf_Mo_below B d_Mo_allCrossed_21 fl_Mo_44 ?_
    refine a_bipush B d_Mo_allCrossed_24 cb_20 ?_
    refine a_iload_n B d_Mo_allCrossed_26 rfl rfl ?_
    first | refine b_imul B d_Mo_allCrossed_27 ?_ | refine a_imul B d_Mo_allCrossed_27 ?_
    refine a_aload_n B d_Mo_allCrossed_28 rfl rfl ?_
    refine gf_Mo_firsts B d_Mo_allCrossed_29 fl_Mo_26 ?_
    refine a_bipush B d_Mo_allCrossed_32 cb_20 ?_
    refine a_iload_n B d_Mo_allCrossed_34 rfl rfl ?_
    first | refine b_imul B d_Mo_allCrossed_35 ?_ | refine a_imul B d_Mo_allCrossed_35 ?_
    refine a_iload_n B d_Mo_allCrossed_36 rfl rfl ?_
    first | refine b_iadd B d_Mo_allCrossed_37 ?_ | refine a_iadd B d_Mo_allCrossed_37 ?_
    refine a_iald B ly_112 _ rfl (by first | assumption | omega) d_Mo_allCrossed_38 ?_
    rw [b1]
    first | refine b_iadd B d_Mo_allCrossed_39 ?_ | refine a_iadd B d_Mo_allCrossed_39 ?_
    refine a_iald B ly_118 _ rfl (by first | assumption | omega) d_Mo_allCrossed_40 ?_
    rw [a6 _ (by omega)]
    refine a_aload_n B d_Mo_allCrossed_41 rfl rfl ?_
    refine gf_Mo_below B d_Mo_allCrossed_42 fl_Mo_44 ?_
    refine a_bipush B d_Mo_allCrossed_45 cb_20 ?_
    refine a_iload_n B d_Mo_allCrossed_47 rfl rfl ?_
    first | refine b_imul B d_Mo_allCrossed_48 ?_ | refine a_imul B d_Mo_allCrossed_48 ?_
    refine a_aload_n B d_Mo_allCrossed_49 rfl rfl ?_
    refine gf_Mo_others B d_Mo_allCrossed_50 fl_Mo_29 ?_
    refine a_bipush B d_Mo_allCrossed_53 cb_20 ?_
    refine a_iload_n B d_Mo_allCrossed_55 rfl rfl ?_
    first | refine b_imul B d_Mo_allCrossed_56 ?_ | refine a_imul B d_Mo_allCrossed_56 ?_
    refine a_iload_n B d_Mo_allCrossed_57 rfl rfl ?_
    first | refine b_iadd B d_Mo_allCrossed_58 ?_ | refine a_iadd B d_Mo_allCrossed_58 ?_
    refine a_iald B ly_113 _ rfl (by first | assumption | omega) d_Mo_allCrossed_59 ?_
    rw [b2]
    first | refine b_iadd B d_Mo_allCrossed_60 ?_ | refine a_iadd B d_Mo_allCrossed_60 ?_
    refine a_iald B ly_118 _ rfl (by first | assumption | omega) d_Mo_allCrossed_61 ?_
    rw [a6 _ (by omega)]
    refine a_callVI (ci := 7) B (t_Mo_crossed G (tW.2.2.2.2.2.2.2.1 _ (by omega)) (tW.2.2.2.2.2.2.2.1 _ (by omega))) d_Mo_allCrossed_62 ok_Mo_crossed ml_Mo_167 ly_106 rfl rfl (by decide) (by decide) rfl (Nat.le_of_ble_eq_true rfl) (fun r_62 τ_62 h_62 => ?_)
    obtain ⟨hr_62, hs_62⟩ := h_62
    subst hr_62
    replace hs_62 := hs_62.symm
    subst hs_62
    first | refine b_iadd B d_Mo_allCrossed_65 ?_ | refine a_iadd B d_Mo_allCrossed_65 ?_
    refine a_istore_n (lv1 := [(0, _), (1, _), (2, _), (3, _)]) B d_Mo_allCrossed_66 rfl (by decide) rfl ?_
    first | refine b_iinc (lv1 := [(0, _), (1, _), (2, _), (3, _)]) B d_Mo_allCrossed_67 rfl ci_1 (by decide) rfl ?_ | refine a_iinc (lv1 := [(0, _), (1, _), (2, _), (3, _)]) B d_Mo_allCrossed_67 rfl rfl (by decide) rfl ?_
    refine a_goto B 9 d_Mo_allCrossed_70 rfl ?_
    exact ihi
  · skip
    refine a_iload_n B d_Mo_allCrossed_9 rfl rfl ?_
    refine a_aload_n B d_Mo_allCrossed_10 rfl rfl ?_
    refine a_iload_n B d_Mo_allCrossed_11 rfl rfl ?_
    refine a_callVI (ci := 7) B (t_Mo_nodes G ht w1 w10 a1) d_Mo_allCrossed_12 ok_Mo_nodes ml_Mo_123 ly_106 rfl rfl (by decide) (by decide) rfl (Nat.le_of_ble_eq_true rfl) (fun r_12 τ_12 h_12 => ?_)
    obtain ⟨hr_12, hs_12⟩ := h_12
    subst hr_12
    replace hs_12 := hs_12.symm
    subst hs_12
    first | refine b_icmp_ge B 73 d_Mo_allCrossed_15 rfl (by omega) (by omega) (fun c_15 => ?_) (fun c_15 => ?_) | refine a_icmp_ge B 73 d_Mo_allCrossed_15 rfl (fun c_15 => ?_) (fun c_15 => ?_)
    · skip
      refine a_iload_n B d_Mo_allCrossed_73 rfl rfl ?_
      exact Rt _ _ _ _ d_Mo_allCrossed_74 ⟨rfl, rfl⟩
    exact absurd c_15 (by omega)
def fcF (T : TT) (pl : Nat → Int32) (i v : Nat) : Bool := turnsAt T pl v && decide (v < tN T + i)
theorem fcF_0 {T : TT} {pl : Nat → Int32} : ∀ v, fcF T pl 0 v = false := fun v => by
  unfold fcF turnsAt
  by_cases h : tN T ≤ v
  · rw [decide_eq_false (p := v < tN T + 0) (by omega), Bool.and_false]
  · rw [decide_eq_false h, Bool.false_and, Bool.false_and]
theorem fcF_at {T : TT} {pl : Nat → Int32} {i : Nat} : fcF T pl i (tN T + i) = false := by
  unfold fcF
  rw [decide_eq_false (by omega), Bool.and_false]
theorem fcF_o {T : TT} {pl : Nat → Int32} {i v : Nat} (h : v ≠ tN T + i) : fcF T pl (i + 1) v = fcF T pl i v := by
  unfold fcF
  congr 1
  exact decide_eq_decide.mpr (by omega)
theorem fcF_s {T : TT} {pl : Nat → Int32} {i : Nat} : fcF T pl (i + 1) (tN T + i) = turnsAt T pl (tN T + i) := by
  unfold fcF
  rw [decide_eq_true (by omega), Bool.and_true]
theorem fcF_e {T : TT} {pl : Nat → Int32} (h1 : 1 ≤ tN T) : fcF T pl (tN T - 1) = turnsAt T pl := by
  funext v
  unfold fcF turnsAt
  by_cases h : v < 2 * tN T - 1
  · rw [decide_eq_true (p := v < tN T + (tN T - 1)) (by omega), Bool.and_true]
  · rw [decide_eq_false h, Bool.false_and, Bool.and_false, Bool.false_and]
theorem tat_1 {T : TT} {pl : Nat → Int32} {v : Nat} (h1 : tN T ≤ v) (h2 : v < 2 * tN T - 1) (hd : tD T v = false) (h : pa (tM T (tL T v)) (tM T (tR T v)) pl < pa (tM T (tR T v)) (tM T (tL T v)) pl) : turnsAt T pl v = true := by
  unfold turnsAt
  rw [decide_eq_true h1, decide_eq_true h2, hd, decide_eq_true h]
  rfl
theorem tat_0 {T : TT} {pl : Nat → Int32} {v : Nat} (h : tD T v = true ∨ pa (tM T (tR T v)) (tM T (tL T v)) pl ≤ pa (tM T (tL T v)) (tM T (tR T v)) pl) : turnsAt T pl v = false := by
  unfold turnsAt
  rcases h with h | h
  · rw [h]; simp
  · rw [decide_eq_false (p := pa (tM T (tL T v)) (tM T (tR T v)) pl < pa (tM T (tR T v)) (tM T (tL T v)) pl) (by omega)]; simp
theorem fcF_no {T : TT} {pl : Nat → Int32} {i : Nat} (h : turnsAt T pl (tN T + i) = false) : fcF T pl (i + 1) = fcF T pl i := by
  funext v
  by_cases e : v = tN T + i
  · rw [e, fcF_s, fcF_at, h]
  · exact fcF_o e
theorem d_Mo_faces_0 : decode prog_9_method_43_code 0 = .ok (.iconst 0, 1) := by decide +kernel
theorem d_Mo_faces_1 : decode prog_9_method_43_code 1 = .ok (.istore_n 2, 1) := by decide +kernel
theorem d_Mo_faces_2 : decode prog_9_method_43_code 2 = .ok (.aload_n 0, 1) := by decide +kernel
theorem d_Mo_faces_3 : decode prog_9_method_43_code 3 = .ok (.getfield 23, 3) := by decide +kernel
theorem d_Mo_faces_6 : decode prog_9_method_43_code 6 = .ok (.iload_n 1, 1) := by decide +kernel
theorem d_Mo_faces_7 : decode prog_9_method_43_code 7 = .ok (.iaload, 1) := by decide +kernel
theorem d_Mo_faces_8 : decode prog_9_method_43_code 8 = .ok (.istore_n 3, 1) := by decide +kernel
theorem d_Mo_faces_9 : decode prog_9_method_43_code 9 = .ok (.iload_n 3, 1) := by decide +kernel
theorem d_Mo_faces_10 : decode prog_9_method_43_code 10 = .ok (.aload_n 0, 1) := by decide +kernel
theorem d_Mo_faces_11 : decode prog_9_method_43_code 11 = .ok (.iload_n 1, 1) := by decide +kernel
theorem d_Mo_faces_12 : decode prog_9_method_43_code 12 = .ok (.invokevirtual 123, 3) := by decide +kernel
theorem d_Mo_faces_15 : decode prog_9_method_43_code 15 = .ok (.if_icmp .ge 112, 3) := by decide +kernel
theorem d_Mo_faces_18 : decode prog_9_method_43_code 18 = .ok (.aload_n 0, 1) := by decide +kernel
theorem d_Mo_faces_19 : decode prog_9_method_43_code 19 = .ok (.getfield 44, 3) := by decide +kernel
theorem d_Mo_faces_22 : decode prog_9_method_43_code 22 = .ok (.bipush 20, 2) := by decide +kernel
theorem d_Mo_faces_24 : decode prog_9_method_43_code 24 = .ok (.iload_n 1, 1) := by decide +kernel
theorem d_Mo_faces_25 : decode prog_9_method_43_code 25 = .ok (.imul, 1) := by decide +kernel
theorem d_Mo_faces_26 : decode prog_9_method_43_code 26 = .ok (.aload_n 0, 1) := by decide +kernel
theorem d_Mo_faces_27 : decode prog_9_method_43_code 27 = .ok (.getfield 26, 3) := by decide +kernel
theorem d_Mo_faces_30 : decode prog_9_method_43_code 30 = .ok (.bipush 20, 2) := by decide +kernel
theorem d_Mo_faces_32 : decode prog_9_method_43_code 32 = .ok (.iload_n 1, 1) := by decide +kernel
theorem d_Mo_faces_33 : decode prog_9_method_43_code 33 = .ok (.imul, 1) := by decide +kernel
theorem d_Mo_faces_34 : decode prog_9_method_43_code 34 = .ok (.iload_n 3, 1) := by decide +kernel
theorem d_Mo_faces_35 : decode prog_9_method_43_code 35 = .ok (.iadd, 1) := by decide +kernel
theorem d_Mo_faces_36 : decode prog_9_method_43_code 36 = .ok (.iaload, 1) := by decide +kernel
theorem d_Mo_faces_37 : decode prog_9_method_43_code 37 = .ok (.iadd, 1) := by decide +kernel
theorem d_Mo_faces_38 : decode prog_9_method_43_code 38 = .ok (.iaload, 1) := by decide +kernel
theorem d_Mo_faces_39 : decode prog_9_method_43_code 39 = .ok (.istore 4, 2) := by decide +kernel
theorem d_Mo_faces_41 : decode prog_9_method_43_code 41 = .ok (.aload_n 0, 1) := by decide +kernel
theorem d_Mo_faces_42 : decode prog_9_method_43_code 42 = .ok (.getfield 44, 3) := by decide +kernel
theorem d_Mo_faces_45 : decode prog_9_method_43_code 45 = .ok (.bipush 20, 2) := by decide +kernel
theorem d_Mo_faces_47 : decode prog_9_method_43_code 47 = .ok (.iload_n 1, 1) := by decide +kernel
theorem d_Mo_faces_48 : decode prog_9_method_43_code 48 = .ok (.imul, 1) := by decide +kernel
theorem d_Mo_faces_49 : decode prog_9_method_43_code 49 = .ok (.aload_n 0, 1) := by decide +kernel
theorem d_Mo_faces_50 : decode prog_9_method_43_code 50 = .ok (.getfield 29, 3) := by decide +kernel
theorem d_Mo_faces_53 : decode prog_9_method_43_code 53 = .ok (.bipush 20, 2) := by decide +kernel
theorem d_Mo_faces_55 : decode prog_9_method_43_code 55 = .ok (.iload_n 1, 1) := by decide +kernel
theorem d_Mo_faces_56 : decode prog_9_method_43_code 56 = .ok (.imul, 1) := by decide +kernel
theorem d_Mo_faces_57 : decode prog_9_method_43_code 57 = .ok (.iload_n 3, 1) := by decide +kernel
theorem d_Mo_faces_58 : decode prog_9_method_43_code 58 = .ok (.iadd, 1) := by decide +kernel
theorem d_Mo_faces_59 : decode prog_9_method_43_code 59 = .ok (.iaload, 1) := by decide +kernel
theorem d_Mo_faces_60 : decode prog_9_method_43_code 60 = .ok (.iadd, 1) := by decide +kernel
theorem d_Mo_faces_61 : decode prog_9_method_43_code 61 = .ok (.iaload, 1) := by decide +kernel
theorem d_Mo_faces_62 : decode prog_9_method_43_code 62 = .ok (.istore 5, 2) := by decide +kernel
theorem d_Mo_faces_64 : decode prog_9_method_43_code 64 = .ok (.aload_n 0, 1) := by decide +kernel
theorem d_Mo_faces_65 : decode prog_9_method_43_code 65 = .ok (.getfield 41, 3) := by decide +kernel
theorem d_Mo_faces_68 : decode prog_9_method_43_code 68 = .ok (.bipush 20, 2) := by decide +kernel
theorem d_Mo_faces_70 : decode prog_9_method_43_code 70 = .ok (.iload_n 1, 1) := by decide +kernel
theorem d_Mo_faces_71 : decode prog_9_method_43_code 71 = .ok (.imul, 1) := by decide +kernel
theorem d_Mo_faces_72 : decode prog_9_method_43_code 72 = .ok (.iload_n 3, 1) := by decide +kernel
theorem d_Mo_faces_73 : decode prog_9_method_43_code 73 = .ok (.iadd, 1) := by decide +kernel
theorem d_Mo_faces_74 : decode prog_9_method_43_code 74 = .ok (.baload, 1) := by decide +kernel
theorem d_Mo_faces_75 : decode prog_9_method_43_code 75 = .ok (.ifCond .ne 46, 3) := by decide +kernel
theorem d_Mo_faces_78 : decode prog_9_method_43_code 78 = .ok (.aload_n 0, 1) := by decide +kernel
theorem d_Mo_faces_79 : decode prog_9_method_43_code 79 = .ok (.iload 4, 2) := by decide +kernel
theorem d_Mo_faces_81 : decode prog_9_method_43_code 81 = .ok (.iload 5, 2) := by decide +kernel
theorem d_Mo_faces_83 : decode prog_9_method_43_code 83 = .ok (.invokevirtual 167, 3) := by decide +kernel
theorem d_Mo_faces_86 : decode prog_9_method_43_code 86 = .ok (.aload_n 0, 1) := by decide +kernel
theorem d_Mo_faces_87 : decode prog_9_method_43_code 87 = .ok (.iload 5, 2) := by decide +kernel
theorem d_Mo_faces_89 : decode prog_9_method_43_code 89 = .ok (.iload 4, 2) := by decide +kernel
theorem d_Mo_faces_91 : decode prog_9_method_43_code 91 = .ok (.invokevirtual 167, 3) := by decide +kernel
theorem d_Mo_faces_94 : decode prog_9_method_43_code 94 = .ok (.if_icmp .le 27, 3) := by decide +kernel
theorem d_Mo_faces_97 : decode prog_9_method_43_code 97 = .ok (.aload_n 0, 1) := by decide +kernel
theorem d_Mo_faces_98 : decode prog_9_method_43_code 98 = .ok (.iload_n 1, 1) := by decide +kernel
theorem d_Mo_faces_99 : decode prog_9_method_43_code 99 = .ok (.iload_n 3, 1) := by decide +kernel
theorem d_Mo_faces_100 : decode prog_9_method_43_code 100 = .ok (.invokevirtual 153, 3) := by decide +kernel
theorem d_Mo_faces_103 : decode prog_9_method_43_code 103 = .ok (.aload_n 0, 1) := by decide +kernel
theorem d_Mo_faces_104 : decode prog_9_method_43_code 104 = .ok (.getfield 38, 3) := by decide +kernel
theorem d_Mo_faces_107 : decode prog_9_method_43_code 107 = .ok (.bipush 20, 2) := by decide +kernel
theorem d_Mo_faces_109 : decode prog_9_method_43_code 109 = .ok (.iload_n 1, 1) := by decide +kernel
theorem d_Mo_faces_110 : decode prog_9_method_43_code 110 = .ok (.imul, 1) := by decide +kernel
theorem d_Mo_faces_111 : decode prog_9_method_43_code 111 = .ok (.iload_n 3, 1) := by decide +kernel
theorem d_Mo_faces_112 : decode prog_9_method_43_code 112 = .ok (.iadd, 1) := by decide +kernel
theorem d_Mo_faces_113 : decode prog_9_method_43_code 113 = .ok (.dup2, 1) := by decide +kernel
theorem d_Mo_faces_114 : decode prog_9_method_43_code 114 = .ok (.iaload, 1) := by decide +kernel
theorem d_Mo_faces_115 : decode prog_9_method_43_code 115 = .ok (.iconst 1, 1) := by decide +kernel
theorem d_Mo_faces_116 : decode prog_9_method_43_code 116 = .ok (.iadd, 1) := by decide +kernel
theorem d_Mo_faces_117 : decode prog_9_method_43_code 117 = .ok (.iastore, 1) := by decide +kernel
theorem d_Mo_faces_118 : decode prog_9_method_43_code 118 = .ok (.iinc 2 1, 3) := by decide +kernel
theorem d_Mo_faces_121 : decode prog_9_method_43_code 121 = .ok (.iinc 3 1, 3) := by decide +kernel
theorem d_Mo_faces_124 : decode prog_9_method_43_code 124 = .ok (.goto (-115), 3) := by decide +kernel
theorem d_Mo_faces_127 : decode prog_9_method_43_code 127 = .ok (.iload_n 2, 1) := by decide +kernel
theorem d_Mo_faces_128 : decode prog_9_method_43_code 128 = .ok (.ireturn, 1) := by decide +kernel
set_option maxHeartbeats 4000000 in
set_option maxRecDepth 20000 in
theorem t_Mo_faces {g : GG} (G : Gok g) {σ : AH} {t : Nat} {T : TT} (ht : t < 4) (tW : Wf T) (tA : TmA σ t T) (tB : TmB σ t T) (tX : TmC σ t T) : TerI g 1 m_Mo_faces [rV 106, iV (nI t)] σ (fun r τ => r = nI (looksN T (σ.1 123)) ∧ TmA τ t (lookT T (σ.1 123)) ∧ TmB τ t (lookT T (σ.1 123)) ∧ TmC τ t (lookT T (σ.1 123)) ∧ (∀ k, k ≠ 112 → k ≠ 113 → k ≠ 116 → τ.1 k = σ.1 k) ∧ tfM t σ τ) := by
  refine TerI.mk G (by decide +kernel) rfl (Nat.le_of_ble_eq_true rfl) (fun K B Rt => ?_)
  have B : Cx g K prog_9_method_43_code 6 R_Mo 1 := B
  have Rt : RetI g K prog_9_method_43_code 6 (fun r τ => r = nI (looksN T (σ.1 123)) ∧ TmA τ t (lookT T (σ.1 123)) ∧ TmB τ t (lookT T (σ.1 123)) ∧ TmC τ t (lookT T (σ.1 123)) ∧ (∀ k, k ≠ 112 → k ≠ 113 → k ≠ 116 → τ.1 k = σ.1 k) ∧ tfM t σ τ) := Rt
  show AW g K 6 0 [(0, rV 106), (1, iV (nI t))] [] σ
  obtain ⟨a1, a2, a3, a4, a5, a6⟩ := id tA
  have w1 := tW.1
  have w10 := tW.2.1
  refine a_iconst B d_Mo_faces_0 ci_0 ?_
  refine a_istore_n (lv1 := [(0, _), (1, _), (2, _)]) B d_Mo_faces_1 rfl (by decide) rfl ?_
  refine a_aload_n B d_Mo_faces_2 rfl rfl ?_
  refine gf_Mo_sizes B d_Mo_faces_3 fl_Mo_23 ?_
  refine a_iload_n B d_Mo_faces_6 rfl rfl ?_
  refine a_iald B ly_111 _ rfl (by first | assumption | omega) d_Mo_faces_7 ?_
  rw [a1]
  refine a_istore_n (lv1 := [(0, _), (1, _), (2, _), (3, _)]) B d_Mo_faces_8 rfl (by decide) rfl ?_
  refine a_forR (tN T - 1) (fun i lv τ => lv = [(0, rV 106), (1, iV (nI t)), (2, iV (nI (cntB (fun i => turnsAt T (σ.1 123) (tN T + i)) i))), (3, iV (nI (tN T + i)))] ∧ TmB τ t (flipsBy T (fcF T (σ.1 123) i)) ∧ TmC τ t (flipsBy T (fcF T (σ.1 123) i)) ∧ (∀ k, k ≠ 112 → k ≠ 113 → k ≠ 116 → τ.1 k = σ.1 k) ∧ tfM t σ τ) (fun i lv τ hi hI ihi => ?_) (fun lv τ hI => ?_) 0 (Nat.zero_le _) _ _ ⟨rfl, by rw [flipsBy_no fcF_0]; exact tB, by rw [flipsBy_no fcF_0]; exact tX, fun _ _ _ _ => rfl, tfM_rfl⟩
  · skip
    obtain ⟨rfl, zB, zC, hF, hT⟩ := hI
    have zA : TmA τ t T := tA.fl (fun k q2 q3 q6 _ _ => hF k q2 q3 q6)
    obtain ⟨z1, z2, z3, z4, z5, z6⟩ := id zA
    refine a_iload_n B d_Mo_faces_9 rfl rfl ?_
    refine a_aload_n B d_Mo_faces_10 rfl rfl ?_
    refine a_iload_n B d_Mo_faces_11 rfl rfl ?_
    refine a_callVI (ci := 7) B (t_Mo_nodes G ht w1 w10 z1) d_Mo_faces_12 ok_Mo_nodes ml_Mo_123 ly_106 rfl rfl (by decide) (by decide) rfl (Nat.le_of_ble_eq_true rfl) (fun r_12 τ_12 h_12 => ?_)
    obtain ⟨hr_12, hs_12⟩ := h_12
    subst hr_12
    replace hs_12 := hs_12.symm
    subst hs_12
    first | refine b_icmp_ge B 127 d_Mo_faces_15 rfl (by omega) (by omega) (fun c_15 => ?_) (fun c_15 => ?_) | refine a_icmp_ge B 127 d_Mo_faces_15 rfl (fun c_15 => ?_) (fun c_15 => ?_)
    · skip
      exact absurd c_15 (by omega)
    obtain ⟨q1, q2, -⟩ := tW.2.2.1 (tN T + i) (by omega) (by omega)
    obtain ⟨b1, b2⟩ := zB.2 (tN T + i) (by show tN T ≤ _; omega) (by show _ < 2 * tN T - 1; omega)
    rw [show tL (flipsBy T (fcF T (σ.1 123) i)) (tN T + i) = tL T (tN T + i) from if_neg (by rw [fcF_at]; decide)] at b1
    rw [show tR (flipsBy T (fcF T (σ.1 123) i)) (tN T + i) = tR T (tN T + i) from if_neg (by rw [fcF_at]; decide)] at b2
    have l1 := pa_le (tM T (tR T (tN T + i))) (tM T (tL T (tN T + i))) (σ.1 123)
    have l2 := pa_le (tM T (tL T (tN T + i))) (tM T (tR T (tN T + i))) (σ.1 123)
    refine a_aload_n B d_Mo_faces_18 rfl rfl ?_
    refine gf_Mo_below B d_Mo_faces_19 fl_Mo_44 ?_
    refine a_bipush B d_Mo_faces_22 cb_20 ?_
    refine a_iload_n B d_Mo_faces_24 rfl rfl ?_
    first | refine b_imul B d_Mo_faces_25 ?_ | refine a_imul B d_Mo_faces_25 ?_
    refine a_aload_n B d_Mo_faces_26 rfl rfl ?_
    refine gf_Mo_firsts B d_Mo_faces_27 fl_Mo_26 ?_
    refine a_bipush B d_Mo_faces_30 cb_20 ?_
    refine a_iload_n B d_Mo_faces_32 rfl rfl ?_
    first | refine b_imul B d_Mo_faces_33 ?_ | refine a_imul B d_Mo_faces_33 ?_
    refine a_iload_n B d_Mo_faces_34 rfl rfl ?_
    first | refine b_iadd B d_Mo_faces_35 ?_ | refine a_iadd B d_Mo_faces_35 ?_
    refine a_iald B ly_112 _ rfl (by first | assumption | omega) d_Mo_faces_36 ?_
    rw [b1]
    first | refine b_iadd B d_Mo_faces_37 ?_ | refine a_iadd B d_Mo_faces_37 ?_
    refine a_iald B ly_118 _ rfl (by first | assumption | omega) d_Mo_faces_38 ?_
    rw [z6 _ (by omega)]
    refine a_istore (lv1 := [(0, _), (1, _), (2, _), (3, _), (4, _)]) B d_Mo_faces_39 (by decide) rfl ?_
    refine a_aload_n B d_Mo_faces_41 rfl rfl ?_
    refine gf_Mo_below B d_Mo_faces_42 fl_Mo_44 ?_
    refine a_bipush B d_Mo_faces_45 cb_20 ?_
    refine a_iload_n B d_Mo_faces_47 rfl rfl ?_
    first | refine b_imul B d_Mo_faces_48 ?_ | refine a_imul B d_Mo_faces_48 ?_
    refine a_aload_n B d_Mo_faces_49 rfl rfl ?_
    refine gf_Mo_others B d_Mo_faces_50 fl_Mo_29 ?_
    refine a_bipush B d_Mo_faces_53 cb_20 ?_
    refine a_iload_n B d_Mo_faces_55 rfl rfl ?_
    first | refine b_imul B d_Mo_faces_56 ?_ | refine a_imul B d_Mo_faces_56 ?_
    refine a_iload_n B d_Mo_faces_57 rfl rfl ?_
    first | refine b_iadd B d_Mo_faces_58 ?_ | refine a_iadd B d_Mo_faces_58 ?_
    refine a_iald B ly_113 _ rfl (by first | assumption | omega) d_Mo_faces_59 ?_
    rw [b2]
    first | refine b_iadd B d_Mo_faces_60 ?_ | refine a_iadd B d_Mo_faces_60 ?_
    refine a_iald B ly_118 _ rfl (by first | assumption | omega) d_Mo_faces_61 ?_
    rw [z6 _ (by omega)]
    refine a_istore (lv1 := [(0, _), (1, _), (2, _), (3, _), (4, _), (5, _)]) B d_Mo_faces_62 (by decide) rfl ?_
    refine a_aload_n B d_Mo_faces_64 rfl rfl ?_
    refine gf_Mo_isHeld B d_Mo_faces_65 fl_Mo_41 ?_
    refine a_bipush B d_Mo_faces_68 cb_20 ?_
    refine a_iload_n B d_Mo_faces_70 rfl rfl ?_
    first | refine b_imul B d_Mo_faces_71 ?_ | refine a_imul B d_Mo_faces_71 ?_
    refine a_iload_n B d_Mo_faces_72 rfl rfl ?_
    first | refine b_iadd B d_Mo_faces_73 ?_ | refine a_iadd B d_Mo_faces_73 ?_
    refine a_zald B ly_117 _ rfl (by first | assumption | omega) d_Mo_faces_74 ?_
    rw [z5 _ (by omega)]
    first | refine b_if_ne_b B 121 d_Mo_faces_75 rfl (fun c_75 => ?_) (fun c_75 => ?_) | refine a_if_ne B 121 d_Mo_faces_75 rfl (fun c_75 => ?_) (fun c_75 => ?_)
    · skip
      have hta : turnsAt T (σ.1 123) (tN T + i) = false := tat_0 (Or.inl c_75)
      first | refine b_iinc (lv1 := [(0, _), (1, _), (2, _), (3, _), (4, _), (5, _)]) B d_Mo_faces_121 rfl ci_1 (by decide) rfl ?_ | refine a_iinc (lv1 := [(0, _), (1, _), (2, _), (3, _), (4, _), (5, _)]) B d_Mo_faces_121 rfl rfl (by decide) rfl ?_
      refine a_goto B 9 d_Mo_faces_124 rfl ?_
      refine a_sub (lv1 := [(0, _), (1, _), (2, _), (3, _)]) rfl ?_
      first | exact ihi _ _ ⟨by rw [cntB_f (p := fun i => turnsAt T (σ.1 123) (tN T + i)) (i := i) hta] <;> rfl, by rw [fcF_no hta]; exact zB, by rw [fcF_no hta]; exact zC, hF, hT⟩ | exact ihi _ _ ⟨by rw [cntB_t (p := fun i => turnsAt T (σ.1 123) (tN T + i)) (i := i) hta] <;> rfl, hBC.1, hBC.2, fun k q2 q3 q6 => (turnM_o q2 q3 q6).trans (hF k q2 q3 q6), tfM_tr hT (tfM_turn (by omega))⟩
    refine a_aload_n B d_Mo_faces_78 rfl rfl ?_
    refine a_iload B d_Mo_faces_79 rfl ?_
    refine a_iload B d_Mo_faces_81 rfl ?_
    refine a_callVI (ci := 7) B (t_Mo_crossed G (tW.2.2.2.2.2.2.2.1 _ (by omega)) (tW.2.2.2.2.2.2.2.1 _ (by omega))) d_Mo_faces_83 ok_Mo_crossed ml_Mo_167 ly_106 rfl rfl (by decide) (by decide) rfl (Nat.le_of_ble_eq_true rfl) (fun r_83 τ_83 h_83 => ?_)
    obtain ⟨hr_83, hs_83⟩ := h_83
    subst hr_83
    replace hs_83 := hs_83.symm
    subst hs_83
    rw [hF 123 (by decide) (by decide) (by decide)]
    refine a_aload_n B d_Mo_faces_86 rfl rfl ?_
    refine a_iload B d_Mo_faces_87 rfl ?_
    refine a_iload B d_Mo_faces_89 rfl ?_
    refine a_callVI (ci := 7) B (t_Mo_crossed G (tW.2.2.2.2.2.2.2.1 _ (by omega)) (tW.2.2.2.2.2.2.2.1 _ (by omega))) d_Mo_faces_91 ok_Mo_crossed ml_Mo_167 ly_106 rfl rfl (by decide) (by decide) rfl (Nat.le_of_ble_eq_true rfl) (fun r_91 τ_91 h_91 => ?_)
    obtain ⟨hr_91, hs_91⟩ := h_91
    subst hr_91
    replace hs_91 := hs_91.symm
    subst hs_91
    rw [hF 123 (by decide) (by decide) (by decide)]
    first | refine b_icmp_le B 121 d_Mo_faces_94 rfl (by omega) (by omega) (fun c_94 => ?_) (fun c_94 => ?_) | refine a_icmp_le B 121 d_Mo_faces_94 rfl (fun c_94 => ?_) (fun c_94 => ?_)
    · skip
      have hta : turnsAt T (σ.1 123) (tN T + i) = false := tat_0 (Or.inr c_94)
      first | refine b_iinc (lv1 := [(0, _), (1, _), (2, _), (3, _), (4, _), (5, _)]) B d_Mo_faces_121 rfl ci_1 (by decide) rfl ?_ | refine a_iinc (lv1 := [(0, _), (1, _), (2, _), (3, _), (4, _), (5, _)]) B d_Mo_faces_121 rfl rfl (by decide) rfl ?_
      refine a_goto B 9 d_Mo_faces_124 rfl ?_
      refine a_sub (lv1 := [(0, _), (1, _), (2, _), (3, _)]) rfl ?_
      first | exact ihi _ _ ⟨by rw [cntB_f (p := fun i => turnsAt T (σ.1 123) (tN T + i)) (i := i) hta] <;> rfl, by rw [fcF_no hta]; exact zB, by rw [fcF_no hta]; exact zC, hF, hT⟩ | exact ihi _ _ ⟨by rw [cntB_t (p := fun i => turnsAt T (σ.1 123) (tN T + i)) (i := i) hta] <;> rfl, hBC.1, hBC.2, fun k q2 q3 q6 => (turnM_o q2 q3 q6).trans (hF k q2 q3 q6), tfM_tr hT (tfM_turn (by omega))⟩
    have hta : turnsAt T (σ.1 123) (tN T + i) = true := tat_1 (by omega) (by omega) c_75 c_94
    refine a_aload_n B d_Mo_faces_97 rfl rfl ?_
    refine a_iload_n B d_Mo_faces_98 rfl rfl ?_
    refine a_iload_n B d_Mo_faces_99 rfl rfl ?_
    refine a_callVV (ci := 7) B (t_Mo_flip G ht (j := tN T + i) (by omega)) d_Mo_faces_100 ok_Mo_flip ml_Mo_153 ly_106 rfl rfl (by decide) (by decide) rfl (Nat.le_of_ble_eq_true rfl) (fun τ_100 h_100 => ?_)
    subst h_100
    refine a_aload_n B d_Mo_faces_103 rfl rfl ?_
    refine gf_Mo_turned B d_Mo_faces_104 fl_Mo_38 ?_
    refine a_bipush B d_Mo_faces_107 cb_20 ?_
    refine a_iload_n B d_Mo_faces_109 rfl rfl ?_
    first | refine b_imul B d_Mo_faces_110 ?_ | refine a_imul B d_Mo_faces_110 ?_
    refine a_iload_n B d_Mo_faces_111 rfl rfl ?_
    first | refine b_iadd B d_Mo_faces_112 ?_ | refine a_iadd B d_Mo_faces_112 ?_
    refine a_dup2 B d_Mo_faces_113 rfl rfl ?_
    refine a_iald B ly_116 _ rfl (by first | assumption | omega) d_Mo_faces_114 ?_
    rw [flipM_o (by decide) (by decide)]
    refine a_iconst B d_Mo_faces_115 ci_1 ?_
    first | refine b_iadd B d_Mo_faces_116 ?_ | refine a_iadd B d_Mo_faces_116 ?_
    refine a_iast B ly_116 _ rfl (by first | assumption | omega) d_Mo_faces_117 ?_
    rw [flipM_o (k := 116) (by decide) (by decide)]
    rw [show up1 (flipM τ t (tN T + i)) 116 (upd (τ.1 116) (20 * t + (tN T + i)) (τ.1 116 (20 * t + (tN T + i)) + nI 1)) = turnM τ t (tN T + i) from rfl]
    have hBC := TmB_turn (f := (fcF T (σ.1 123) i)) (f' := fcF T (σ.1 123) (i + 1)) zB zC (by omega) (by omega) w10 fcF_at (by rw [fcF_s]; exact hta) (fun v hv => fcF_o hv)
    first | refine b_iinc (lv1 := [(0, _), (1, _), (2, _), (3, _), (4, _), (5, _)]) B d_Mo_faces_118 rfl ci_1 (by decide) rfl ?_ | refine a_iinc (lv1 := [(0, _), (1, _), (2, _), (3, _), (4, _), (5, _)]) B d_Mo_faces_118 rfl rfl (by decide) rfl ?_
    first | refine b_iinc (lv1 := [(0, _), (1, _), (2, _), (3, _), (4, _), (5, _)]) B d_Mo_faces_121 rfl ci_1 (by decide) rfl ?_ | refine a_iinc (lv1 := [(0, _), (1, _), (2, _), (3, _), (4, _), (5, _)]) B d_Mo_faces_121 rfl rfl (by decide) rfl ?_
    refine a_goto B 9 d_Mo_faces_124 rfl ?_
    refine a_sub (lv1 := [(0, _), (1, _), (2, _), (3, _)]) rfl ?_
    first | exact ihi _ _ ⟨by rw [cntB_f (p := fun i => turnsAt T (σ.1 123) (tN T + i)) (i := i) hta] <;> rfl, by rw [fcF_no hta]; exact zB, by rw [fcF_no hta]; exact zC, hF, hT⟩ | exact ihi _ _ ⟨by rw [cntB_t (p := fun i => turnsAt T (σ.1 123) (tN T + i)) (i := i) hta] <;> rfl, hBC.1, hBC.2, fun k q2 q3 q6 => (turnM_o q2 q3 q6).trans (hF k q2 q3 q6), tfM_tr hT (tfM_turn (by omega))⟩
  · skip
    obtain ⟨rfl, zB, zC, hF, hT⟩ := hI
    have zA : TmA τ t T := tA.fl (fun k q2 q3 q6 _ _ => hF k q2 q3 q6)
    obtain ⟨z1, z2, z3, z4, z5, z6⟩ := id zA
    refine a_iload_n B d_Mo_faces_9 rfl rfl ?_
    refine a_aload_n B d_Mo_faces_10 rfl rfl ?_
    refine a_iload_n B d_Mo_faces_11 rfl rfl ?_
    refine a_callVI (ci := 7) B (t_Mo_nodes G ht w1 w10 z1) d_Mo_faces_12 ok_Mo_nodes ml_Mo_123 ly_106 rfl rfl (by decide) (by decide) rfl (Nat.le_of_ble_eq_true rfl) (fun r_12 τ_12 h_12 => ?_)
    obtain ⟨hr_12, hs_12⟩ := h_12
    subst hr_12
    replace hs_12 := hs_12.symm
    subst hs_12
    first | refine b_icmp_ge B 127 d_Mo_faces_15 rfl (by omega) (by omega) (fun c_15 => ?_) (fun c_15 => ?_) | refine a_icmp_ge B 127 d_Mo_faces_15 rfl (fun c_15 => ?_) (fun c_15 => ?_)
    · skip
      refine a_iload_n B d_Mo_faces_127 rfl rfl ?_
      exact Rt _ _ _ _ d_Mo_faces_128 ⟨rfl, zA, by rw [fcF_e w1] at zB; exact zB, by rw [fcF_e w1] at zC; exact zC, hF, hT⟩
    exact absurd c_15 (by omega)
theorem d_Mo_crossings_0 : decode prog_9_method_45_code 0 = .ok (.aload_n 0, 1) := by decide +kernel
theorem d_Mo_crossings_1 : decode prog_9_method_45_code 1 = .ok (.iload_n 1, 1) := by decide +kernel
theorem d_Mo_crossings_2 : decode prog_9_method_45_code 2 = .ok (.iload_n 2, 1) := by decide +kernel
theorem d_Mo_crossings_3 : decode prog_9_method_45_code 3 = .ok (.invokevirtual 170, 3) := by decide +kernel
theorem d_Mo_crossings_6 : decode prog_9_method_45_code 6 = .ok (.istore_n 3, 1) := by decide +kernel
theorem d_Mo_crossings_7 : decode prog_9_method_45_code 7 = .ok (.iload_n 3, 1) := by decide +kernel
theorem d_Mo_crossings_8 : decode prog_9_method_45_code 8 = .ok (.ifCond .ge 5, 3) := by decide +kernel
theorem d_Mo_crossings_11 : decode prog_9_method_45_code 11 = .ok (.iload_n 3, 1) := by decide +kernel
theorem d_Mo_crossings_12 : decode prog_9_method_45_code 12 = .ok (.ireturn, 1) := by decide +kernel
theorem d_Mo_crossings_13 : decode prog_9_method_45_code 13 = .ok (.aload_n 0, 1) := by decide +kernel
theorem d_Mo_crossings_14 : decode prog_9_method_45_code 14 = .ok (.iload_n 2, 1) := by decide +kernel
theorem d_Mo_crossings_15 : decode prog_9_method_45_code 15 = .ok (.invokevirtual 173, 3) := by decide +kernel
theorem d_Mo_crossings_18 : decode prog_9_method_45_code 18 = .ok (.aload_n 0, 1) := by decide +kernel
theorem d_Mo_crossings_19 : decode prog_9_method_45_code 19 = .ok (.iload_n 1, 1) := by decide +kernel
theorem d_Mo_crossings_20 : decode prog_9_method_45_code 20 = .ok (.invokevirtual 176, 3) := by decide +kernel
theorem d_Mo_crossings_23 : decode prog_9_method_45_code 23 = .ok (.ireturn, 1) := by decide +kernel
set_option maxHeartbeats 4000000 in
set_option maxRecDepth 20000 in
theorem tM_crossings {g : GG} (G : Gok g) {σ : AH} {S : Sp} (hS : RelM S σ) (x y : Int32) : TerI g 3 m_Mo_crossings [rV 106, iV x, iV y] σ (fun r τ => r = (sp_crossings S x y).1 ∧ RelM (sp_crossings S x y).2 τ ∧ frM σ τ) := by
  refine TerI.mk G (by decide +kernel) rfl (Nat.le_of_ble_eq_true rfl) (fun K B Rt => ?_)
  have B : Cx g K prog_9_method_45_code 4 R_Mo 3 := B
  have Rt : RetI g K prog_9_method_45_code 4 (fun r τ => r = (sp_crossings S x y).1 ∧ RelM (sp_crossings S x y).2 τ ∧ frM σ τ) := Rt
  show AW g K 4 0 [(0, rV 106), (1, iV x), (2, iV y)] [] σ
  refine a_aload_n B d_Mo_crossings_0 rfl rfl ?_
  refine a_iload_n B d_Mo_crossings_1 rfl rfl ?_
  refine a_iload_n B d_Mo_crossings_2 rfl rfl ?_
  refine a_callVI (ci := 7) B (t_Mo_askedTwo G hS x y) d_Mo_crossings_3 ok_Mo_askedTwo ml_Mo_170 ly_106 rfl rfl (by decide) (by decide) rfl (Nat.le_of_ble_eq_true rfl) (fun r_3 τ_3 h_3 => ?_)
  rcases h_3 with ⟨q, hq, hr9, hR9, hF9⟩ | ⟨q9, hq, hr9, hs9⟩
  · skip
    subst hr9
    refine a_istore_n (lv1 := [(0, _), (1, _), (2, _), (3, _)]) B d_Mo_crossings_6 rfl (by decide) rfl ?_
    refine a_iload_n B d_Mo_crossings_7 rfl rfl ?_
    refine a_if_ge B 13 d_Mo_crossings_8 rfl (fun c9 => absurd (neg_nz (prQ_neg hq)).2 (Int32.not_lt.mpr c9)) (fun _ => ?_)
    refine a_iload_n B d_Mo_crossings_11 rfl rfl ?_
    exact Rt _ _ _ _ d_Mo_crossings_12 (by have e : sp_crossings S x y = q := (by rw [sp_crossings, hq]); rw [e]; exact ⟨rfl, hR9, hF9⟩)
  · skip
    subst hr9
    replace hs9 := hs9.symm
    subst hs9
    obtain ⟨t, u⟩ := q9
    obtain ⟨ht, hx9, hu, hy9, hnt, hnu, he9⟩ := prQ_ok hq
    dsimp only at ht hx9 hu hy9 hnt hnu he9
    subst hx9
    subst hy9
    obtain ⟨tW, tA, tB, tX⟩ := (hS.2.1 t ht).2 hnt
    obtain ⟨uW, uA, uB, uC⟩ := (hS.2.1 u hu).2 hnu
    obtain ⟨a1, a2, a3, a4, a5, a6⟩ := id tA
    have w1 := tW.1
    have w10 := tW.2.1
    refine a_istore_n (lv1 := [(0, _), (1, _), (2, _), (3, _)]) B d_Mo_crossings_6 rfl (by decide) rfl ?_
    refine a_iload_n B d_Mo_crossings_7 rfl rfl ?_
    refine b_if_ge B 13 d_Mo_crossings_8 rfl (by first | assumption | omega) ?_
    refine a_aload_n B d_Mo_crossings_13 rfl rfl ?_
    refine a_iload_n B d_Mo_crossings_14 rfl rfl ?_
    refine a_callVV (ci := 7) B (t_Mo_setAgainst G hu uW uA uB) d_Mo_crossings_15 ok_Mo_setAgainst ml_Mo_173 ly_106 rfl rfl (by decide) (by decide) rfl (Nat.le_of_ble_eq_true rfl) (fun τ_15 h_15 => ?_)
    refine a_aload_n B d_Mo_crossings_18 rfl rfl ?_
    refine a_iload_n B d_Mo_crossings_19 rfl rfl ?_
    refine a_callVI (ci := 7) B (t_Mo_allCrossed G ht tW (wkA tA h_15.wk) (wkB tB h_15.wk)) d_Mo_crossings_20 ok_Mo_allCrossed ml_Mo_176 ly_106 rfl rfl (by decide) (by decide) rfl (Nat.le_of_ble_eq_true rfl) (fun r_20 τ_20 h_20 => ?_)
    obtain ⟨hr_20, hs_20⟩ := h_20
    subst hr_20
    replace hs_20 := hs_20.symm
    subst hs_20
    exact Rt _ _ _ _ d_Mo_crossings_23 (by have e : sp_crossings S (nI t) (nI u) = (nI (crossT (sT S t) (plT (sT S u))), S) := (by rw [sp_crossings, hq]); rw [e]; exact ⟨by rw [cross_cg tW (h_15.cr w10)], RelM_wk hS h_15.wk, wkM_fr h_15.wk⟩)
theorem fcQ_eq {S : Sp} {x y : Int32} (h : x = y) : fcQ S x y = .inl (RB S) := if_pos h
theorem fcQ_ne {S : Sp} {x y : Int32} (h : ¬ x = y) : fcQ S x y = prQ S x y := if_neg h
theorem ne_of_nI {t u : Nat} (h : ¬ nI t = nI u) : t ≠ u := fun q => h (by rw [q])
theorem RelM_look {S : Sp} {σ τ : AH} {t : Nat} {T : TT} (h : RelM S σ) (hW : Wf T) (hA : TmA τ t T) (hB : TmB τ t T) (hC : TmC τ t T) (hF : tfM t σ τ) : RelM (pT S t T) τ := RelM_tree h ⟨hA.1, fun _ => ⟨hW, hA, hB, hC⟩⟩ hF
theorem d_Mo_face_0 : decode prog_9_method_46_code 0 = .ok (.iload_n 1, 1) := by decide +kernel
theorem d_Mo_face_1 : decode prog_9_method_46_code 1 = .ok (.iload_n 2, 1) := by decide +kernel
theorem d_Mo_face_2 : decode prog_9_method_46_code 2 = .ok (.if_icmp .ne 7, 3) := by decide +kernel
theorem d_Mo_face_5 : decode prog_9_method_46_code 5 = .ok (.iconst (-1), 1) := by decide +kernel
theorem d_Mo_face_6 : decode prog_9_method_46_code 6 = .ok (.goto 9, 3) := by decide +kernel
theorem d_Mo_face_9 : decode prog_9_method_46_code 9 = .ok (.aload_n 0, 1) := by decide +kernel
theorem d_Mo_face_10 : decode prog_9_method_46_code 10 = .ok (.iload_n 1, 1) := by decide +kernel
theorem d_Mo_face_11 : decode prog_9_method_46_code 11 = .ok (.iload_n 2, 1) := by decide +kernel
theorem d_Mo_face_12 : decode prog_9_method_46_code 12 = .ok (.invokevirtual 170, 3) := by decide +kernel
theorem d_Mo_face_15 : decode prog_9_method_46_code 15 = .ok (.istore_n 3, 1) := by decide +kernel
theorem d_Mo_face_16 : decode prog_9_method_46_code 16 = .ok (.iload_n 3, 1) := by decide +kernel
theorem d_Mo_face_17 : decode prog_9_method_46_code 17 = .ok (.ifCond .ge 5, 3) := by decide +kernel
theorem d_Mo_face_20 : decode prog_9_method_46_code 20 = .ok (.iload_n 3, 1) := by decide +kernel
theorem d_Mo_face_21 : decode prog_9_method_46_code 21 = .ok (.ireturn, 1) := by decide +kernel
theorem d_Mo_face_22 : decode prog_9_method_46_code 22 = .ok (.aload_n 0, 1) := by decide +kernel
theorem d_Mo_face_23 : decode prog_9_method_46_code 23 = .ok (.iload_n 2, 1) := by decide +kernel
theorem d_Mo_face_24 : decode prog_9_method_46_code 24 = .ok (.invokevirtual 173, 3) := by decide +kernel
theorem d_Mo_face_27 : decode prog_9_method_46_code 27 = .ok (.aload_n 0, 1) := by decide +kernel
theorem d_Mo_face_28 : decode prog_9_method_46_code 28 = .ok (.iload_n 1, 1) := by decide +kernel
theorem d_Mo_face_29 : decode prog_9_method_46_code 29 = .ok (.invokevirtual 179, 3) := by decide +kernel
theorem d_Mo_face_32 : decode prog_9_method_46_code 32 = .ok (.ireturn, 1) := by decide +kernel
set_option maxHeartbeats 4000000 in
set_option maxRecDepth 20000 in
theorem tM_face {g : GG} (G : Gok g) {σ : AH} {S : Sp} (hS : RelM S σ) (x y : Int32) : TerI g 3 m_Mo_face [rV 106, iV x, iV y] σ (fun r τ => r = (sp_face S x y).1 ∧ RelM (sp_face S x y).2 τ ∧ frM σ τ) := by
  refine TerI.mk G (by decide +kernel) rfl (Nat.le_of_ble_eq_true rfl) (fun K B Rt => ?_)
  have B : Cx g K prog_9_method_46_code 4 R_Mo 3 := B
  have Rt : RetI g K prog_9_method_46_code 4 (fun r τ => r = (sp_face S x y).1 ∧ RelM (sp_face S x y).2 τ ∧ frM σ τ) := Rt
  show AW g K 4 0 [(0, rV 106), (1, iV x), (2, iV y)] [] σ
  refine a_iload_n B d_Mo_face_0 rfl rfl ?_
  refine a_iload_n B d_Mo_face_1 rfl rfl ?_
  first | refine b_icmp_ne B 9 d_Mo_face_2 rfl (by omega) (by omega) (fun c_2 => ?_) (fun c_2 => ?_) | refine a_icmp_ne B 9 d_Mo_face_2 rfl (fun c_2 => ?_) (fun c_2 => ?_)
  · skip
    refine a_aload_n B d_Mo_face_9 rfl rfl ?_
    refine a_iload_n B d_Mo_face_10 rfl rfl ?_
    refine a_iload_n B d_Mo_face_11 rfl rfl ?_
    refine a_callVI (ci := 7) B (t_Mo_askedTwo G hS x y) d_Mo_face_12 ok_Mo_askedTwo ml_Mo_170 ly_106 rfl rfl (by decide) (by decide) rfl (Nat.le_of_ble_eq_true rfl) (fun r_12 τ_12 h_12 => ?_)
    rcases h_12 with ⟨q, hq, hr9, hR9, hF9⟩ | ⟨q9, hq, hr9, hs9⟩
    · skip
      subst hr9
      refine a_istore_n (lv1 := [(0, _), (1, _), (2, _), (3, _)]) B d_Mo_face_15 rfl (by decide) rfl ?_
      refine a_iload_n B d_Mo_face_16 rfl rfl ?_
      refine a_if_ge B 22 d_Mo_face_17 rfl (fun c9 => absurd (neg_nz (prQ_neg hq)).2 (Int32.not_lt.mpr c9)) (fun _ => ?_)
      refine a_iload_n B d_Mo_face_20 rfl rfl ?_
      exact Rt _ _ _ _ d_Mo_face_21 (by first | (have e : sp_face S x y = RB S := (by rw [sp_face, fcQ_eq c_2]); rw [e]; exact ⟨rfl, hS, fun _ _ => rfl⟩) | (have e : sp_face S x y = q := (by rw [sp_face, fcQ_ne c_2, hq]); rw [e]; exact ⟨rfl, hR9, hF9⟩))
    · skip
      subst hr9
      replace hs9 := hs9.symm
      subst hs9
      obtain ⟨t, u⟩ := q9
      obtain ⟨ht, hx9, hu, hy9, hnt, hnu, he9⟩ := prQ_ok hq
      dsimp only at ht hx9 hu hy9 hnt hnu he9
      subst hx9
      subst hy9
      obtain ⟨tW, tA, tB, tX⟩ := (hS.2.1 t ht).2 hnt
      obtain ⟨uW, uA, uB, uC⟩ := (hS.2.1 u hu).2 hnu
      obtain ⟨a1, a2, a3, a4, a5, a6⟩ := id tA
      have w1 := tW.1
      have w10 := tW.2.1
      have htu := ne_of_nI c_2
      refine a_istore_n (lv1 := [(0, _), (1, _), (2, _), (3, _)]) B d_Mo_face_15 rfl (by decide) rfl ?_
      refine a_iload_n B d_Mo_face_16 rfl rfl ?_
      refine b_if_ge B 22 d_Mo_face_17 rfl (by first | assumption | omega) ?_
      refine a_aload_n B d_Mo_face_22 rfl rfl ?_
      refine a_iload_n B d_Mo_face_23 rfl rfl ?_
      refine a_callVV (ci := 7) B (t_Mo_setAgainst G hu uW uA uB) d_Mo_face_24 ok_Mo_setAgainst ml_Mo_173 ly_106 rfl rfl (by decide) (by decide) rfl (Nat.le_of_ble_eq_true rfl) (fun τ_24 h_24 => ?_)
      refine a_aload_n B d_Mo_face_27 rfl rfl ?_
      refine a_iload_n B d_Mo_face_28 rfl rfl ?_
      refine a_callVI (ci := 7) B (t_Mo_faces G ht tW (wkA tA h_24.wk) (wkB tB h_24.wk) (wkC tX h_24.wk)) d_Mo_face_29 ok_Mo_faces ml_Mo_179 ly_106 rfl rfl (by decide) (by decide) rfl (Nat.le_of_ble_eq_true rfl) (fun r_29 τ_29 h_29 => ?_)
      obtain ⟨hr_29, cA, cB, cC, cF, cT⟩ := h_29
      subst hr_29
      rw [look_cg tW (h_24.cr w10)] at cA cB cC
      rw [looks_cg tW (h_24.cr w10)]
      have hT := tfM_tr (tfM_wk (t := t) h_24.wk) cT
      exact Rt _ _ _ _ d_Mo_face_32 (by have e : sp_face S (nI t) (nI u) = (nI (looksN (sT S t) (plT (sT S u))), pT S t (lookT (sT S t) (plT (sT S u)))) := (by rw [sp_face, fcQ_ne c_2, hq]); rw [e]; exact ⟨rfl, RelM_look hS (Wf_flips tW) cA cB cC hT, tfM_fr hT⟩)
  refine a_iconst B d_Mo_face_5 ci_m1 ?_
  refine a_goto B 15 d_Mo_face_6 rfl ?_
  refine a_istore_n (lv1 := [(0, _), (1, _), (2, _), (3, _)]) B d_Mo_face_15 rfl (by decide) rfl ?_
  refine a_iload_n B d_Mo_face_16 rfl rfl ?_
  refine a_if_ge B 22 d_Mo_face_17 rfl (fun c9 => absurd c9 (by decide)) (fun _ => ?_)
  refine a_iload_n B d_Mo_face_20 rfl rfl ?_
  exact Rt _ _ _ _ d_Mo_face_21 (by first | (have e : sp_face S x y = RB S := (by rw [sp_face, fcQ_eq c_2]); rw [e]; exact ⟨rfl, hS, fun _ _ => rfl⟩) | (have e : sp_face S x y = q := (by rw [sp_face, fcQ_ne c_2, hq]); rw [e]; exact ⟨rfl, hR9, hF9⟩))
theorem RelM_keep {S : Sp} {σ τ : AH} {n : Nat} {p : Nat → Int32} (h : RelM S σ) (hn : n ≤ 10) (e22 : τ.1 106 22 = nI n) (e124 : ∀ l, l < 10 → τ.1 124 l = p l) (e : ∀ k, k ≠ 106 → k ≠ 124 → (k < 119 ∨ 123 < k) → τ.1 k = σ.1 k) (f : ∀ j, j ≠ 22 → τ.1 106 j = σ.1 106 j) : RelM (pK S n p) τ := by
  obtain ⟨h1, h2, h3, h4⟩ := h
  refine ⟨h1.of (f _ (by decide)) (e _ (by decide) (by decide) (by decide)) (e _ (by decide) (by decide) (by decide)), fun t ht => (h2 t ht).of (fun k q1 q2 => e k (by omega) (by omega) (by omega)), ?_, h4.of (f _ (by decide)) (e _ (by decide) (by decide) (by decide))⟩
  obtain ⟨m1, m2, m3, m4, m5, m6, m7, m8, m9, m10⟩ := h3
  exact ⟨by rw [f _ (by decide)]; exact m1, by rw [e _ (by decide) (by decide) (by decide)]; exact m2, by rw [f _ (by decide)]; exact m3, e22, hn, fun _ => e124, by rw [f _ (by decide), e _ (by decide) (by decide) (by decide)]; exact m7, by rw [f _ (by decide)]; exact m8, m9, by rw [e _ (by decide) (by decide) (by decide)]; exact m10⟩
theorem d_Mo_keep_0 : decode prog_9_method_49_code 0 = .ok (.aload_n 0, 1) := by decide +kernel
theorem d_Mo_keep_1 : decode prog_9_method_49_code 1 = .ok (.iload_n 1, 1) := by decide +kernel
theorem d_Mo_keep_2 : decode prog_9_method_49_code 2 = .ok (.invokevirtual 133, 3) := by decide +kernel
theorem d_Mo_keep_5 : decode prog_9_method_49_code 5 = .ok (.istore_n 2, 1) := by decide +kernel
theorem d_Mo_keep_6 : decode prog_9_method_49_code 6 = .ok (.iload_n 2, 1) := by decide +kernel
theorem d_Mo_keep_7 : decode prog_9_method_49_code 7 = .ok (.ifCond .ge 5, 3) := by decide +kernel
theorem d_Mo_keep_10 : decode prog_9_method_49_code 10 = .ok (.iload_n 2, 1) := by decide +kernel
theorem d_Mo_keep_11 : decode prog_9_method_49_code 11 = .ok (.ireturn, 1) := by decide +kernel
theorem d_Mo_keep_12 : decode prog_9_method_49_code 12 = .ok (.aload_n 0, 1) := by decide +kernel
theorem d_Mo_keep_13 : decode prog_9_method_49_code 13 = .ok (.iload_n 1, 1) := by decide +kernel
theorem d_Mo_keep_14 : decode prog_9_method_49_code 14 = .ok (.invokevirtual 173, 3) := by decide +kernel
theorem d_Mo_keep_17 : decode prog_9_method_49_code 17 = .ok (.aload_n 0, 1) := by decide +kernel
theorem d_Mo_keep_18 : decode prog_9_method_49_code 18 = .ok (.aload_n 0, 1) := by decide +kernel
theorem d_Mo_keep_19 : decode prog_9_method_49_code 19 = .ok (.getfield 23, 3) := by decide +kernel
theorem d_Mo_keep_22 : decode prog_9_method_49_code 22 = .ok (.iload_n 1, 1) := by decide +kernel
theorem d_Mo_keep_23 : decode prog_9_method_49_code 23 = .ok (.iaload, 1) := by decide +kernel
theorem d_Mo_keep_24 : decode prog_9_method_49_code 24 = .ok (.putfield 182, 3) := by decide +kernel
theorem d_Mo_keep_27 : decode prog_9_method_49_code 27 = .ok (.iconst 0, 1) := by decide +kernel
theorem d_Mo_keep_28 : decode prog_9_method_49_code 28 = .ok (.istore_n 3, 1) := by decide +kernel
theorem d_Mo_keep_29 : decode prog_9_method_49_code 29 = .ok (.iload_n 3, 1) := by decide +kernel
theorem d_Mo_keep_30 : decode prog_9_method_49_code 30 = .ok (.bipush 10, 2) := by decide +kernel
theorem d_Mo_keep_32 : decode prog_9_method_49_code 32 = .ok (.if_icmp .ge 21, 3) := by decide +kernel
theorem d_Mo_keep_35 : decode prog_9_method_49_code 35 = .ok (.aload_n 0, 1) := by decide +kernel
theorem d_Mo_keep_36 : decode prog_9_method_49_code 36 = .ok (.getfield 62, 3) := by decide +kernel
theorem d_Mo_keep_39 : decode prog_9_method_49_code 39 = .ok (.iload_n 3, 1) := by decide +kernel
theorem d_Mo_keep_40 : decode prog_9_method_49_code 40 = .ok (.aload_n 0, 1) := by decide +kernel
theorem d_Mo_keep_41 : decode prog_9_method_49_code 41 = .ok (.getfield 59, 3) := by decide +kernel
theorem d_Mo_keep_44 : decode prog_9_method_49_code 44 = .ok (.iload_n 3, 1) := by decide +kernel
theorem d_Mo_keep_45 : decode prog_9_method_49_code 45 = .ok (.iaload, 1) := by decide +kernel
theorem d_Mo_keep_46 : decode prog_9_method_49_code 46 = .ok (.iastore, 1) := by decide +kernel
theorem d_Mo_keep_47 : decode prog_9_method_49_code 47 = .ok (.iinc 3 1, 3) := by decide +kernel
theorem d_Mo_keep_50 : decode prog_9_method_49_code 50 = .ok (.goto (-21), 3) := by decide +kernel
theorem d_Mo_keep_53 : decode prog_9_method_49_code 53 = .ok (.aload_n 0, 1) := by decide +kernel
theorem d_Mo_keep_54 : decode prog_9_method_49_code 54 = .ok (.getfield 182, 3) := by decide +kernel
theorem d_Mo_keep_57 : decode prog_9_method_49_code 57 = .ok (.ireturn, 1) := by decide +kernel
set_option maxHeartbeats 4000000 in
set_option maxRecDepth 20000 in
theorem tM_keep {g : GG} (G : Gok g) {σ : AH} {S : Sp} (hS : RelM S σ) (x : Int32) : TerI g 3 m_Mo_keep [rV 106, iV x] σ (fun r τ => r = (sp_keep S x).1 ∧ RelM (sp_keep S x).2 τ ∧ frM σ τ) := by
  refine TerI.mk G (by decide +kernel) rfl (Nat.le_of_ble_eq_true rfl) (fun K B Rt => ?_)
  have B : Cx g K prog_9_method_49_code 4 R_Mo 3 := B
  have Rt : RetI g K prog_9_method_49_code 4 (fun r τ => r = (sp_keep S x).1 ∧ RelM (sp_keep S x).2 τ ∧ frM σ τ) := Rt
  show AW g K 4 0 [(0, rV 106), (1, iV x)] [] σ
  refine a_aload_n B d_Mo_keep_0 rfl rfl ?_
  refine a_iload_n B d_Mo_keep_1 rfl rfl ?_
  refine a_callVI (ci := 7) B (t_Mo_askedFor G hS x) d_Mo_keep_2 ok_Mo_askedFor ml_Mo_133 ly_106 rfl rfl (by decide) (by decide) rfl (Nat.le_of_ble_eq_true rfl) (fun r_2 τ_2 h_2 => ?_)
  rcases h_2 with ⟨q, hq, hr9, hR9, hF9⟩ | ⟨t, hq, hr9, hs9⟩
  · skip
    subst hr9
    refine a_istore_n (lv1 := [(0, _), (1, _), (2, _)]) B d_Mo_keep_5 rfl (by decide) rfl ?_
    refine a_iload_n B d_Mo_keep_6 rfl rfl ?_
    refine a_if_ge B 12 d_Mo_keep_7 rfl (fun c9 => absurd (neg_nz (trQ_neg hq)).2 (Int32.not_lt.mpr c9)) (fun _ => ?_)
    refine a_iload_n B d_Mo_keep_10 rfl rfl ?_
    exact Rt _ _ _ _ d_Mo_keep_11 (by have e : sp_keep S x = q := (by rw [sp_keep, hq]); rw [e]; exact ⟨rfl, hR9, hF9⟩)
  · skip
    subst hr9
    replace hs9 := hs9.symm
    subst hs9
    obtain ⟨ht, rfl, hn⟩ := trQ_ok hq
    obtain ⟨tW, tA, tB, tX⟩ := (hS.2.1 t ht).2 hn
    obtain ⟨a1, a2, a3, a4, a5, a6⟩ := id tA
    have w1 := tW.1
    have w10 := tW.2.1
    refine a_istore_n (lv1 := [(0, _), (1, _), (2, _)]) B d_Mo_keep_5 rfl (by decide) rfl ?_
    refine a_iload_n B d_Mo_keep_6 rfl rfl ?_
    refine b_if_ge B 12 d_Mo_keep_7 rfl (by first | assumption | omega) ?_
    refine a_aload_n B d_Mo_keep_12 rfl rfl ?_
    refine a_iload_n B d_Mo_keep_13 rfl rfl ?_
    refine a_callVV (ci := 7) B (t_Mo_setAgainst G ht tW tA tB) d_Mo_keep_14 ok_Mo_setAgainst ml_Mo_173 ly_106 rfl rfl (by decide) (by decide) rfl (Nat.le_of_ble_eq_true rfl) (fun τ_14 h_14 => ?_)
    refine a_aload_n B d_Mo_keep_17 rfl rfl ?_
    refine a_aload_n B d_Mo_keep_18 rfl rfl ?_
    refine gf_Mo_sizes B d_Mo_keep_19 fl_Mo_23 ?_
    refine a_iload_n B d_Mo_keep_22 rfl rfl ?_
    refine a_iald B ly_111 _ rfl (by first | assumption | omega) d_Mo_keep_23 ?_
    rw [h_14.1 111 (by decide) (by decide) (by decide), a1]
    refine pf_Mo_keptMany B d_Mo_keep_24 fl_Mo_182 ?_
    refine a_iconst B d_Mo_keep_27 ci_0 ?_
    refine a_istore_n (lv1 := [(0, _), (1, _), (2, _), (3, _)]) B d_Mo_keep_28 rfl (by decide) rfl ?_
    refine a_forR 10 (fun i lv τ => lv = [(0, rV 106), (1, iV (nI t)), (2, iV (nI 0)), (3, iV (nI i))] ∧ (∀ k, k ≠ 124 → τ.1 k = (up1 τ_14 106 (upd (τ_14.1 106) 22 (nI (tN (sT S t))))).1 k) ∧ (∀ x, x < i → τ.1 124 x = plT (sT S t) x)) (fun i lv τ hi hI ihi => ?_) (fun lv τ hI => ?_) 0 (Nat.zero_le _) _ _ ⟨rfl, fun _ _ => rfl, fun _ h => absurd h (Nat.not_lt_zero _)⟩
    · skip
      obtain ⟨rfl, hF, hQ⟩ := hI
      refine a_iload_n B d_Mo_keep_29 rfl rfl ?_
      refine a_bipush B d_Mo_keep_30 cb_10 ?_
      first | refine b_icmp_ge B 53 d_Mo_keep_32 rfl (by omega) (by omega) (fun c_32 => ?_) (fun c_32 => ?_) | refine a_icmp_ge B 53 d_Mo_keep_32 rfl (fun c_32 => ?_) (fun c_32 => ?_)
      · skip
        exact absurd c_32 (by omega)
      refine a_aload_n B d_Mo_keep_35 rfl rfl ?_
      refine gf_Mo_kept B d_Mo_keep_36 fl_Mo_62 ?_
      refine a_iload_n B d_Mo_keep_39 rfl rfl ?_
      refine a_aload_n B d_Mo_keep_40 rfl rfl ?_
      refine gf_Mo_against B d_Mo_keep_41 fl_Mo_59 ?_
      refine a_iload_n B d_Mo_keep_44 rfl rfl ?_
      refine a_iald B ly_123 _ rfl (by first | assumption | omega) d_Mo_keep_45 ?_
      rw [hF 123 (by decide), up1_o (by decide), h_14.2 i (by omega)]
      refine a_iast B ly_124 _ rfl (by first | assumption | omega) d_Mo_keep_46 ?_
      first | refine b_iinc (lv1 := [(0, _), (1, _), (2, _), (3, _)]) B d_Mo_keep_47 rfl ci_1 (by decide) rfl ?_ | refine a_iinc (lv1 := [(0, _), (1, _), (2, _), (3, _)]) B d_Mo_keep_47 rfl rfl (by decide) rfl ?_
      refine a_goto B 29 d_Mo_keep_50 rfl ?_
      refine ihi _ _ ⟨rfl, fun k q => by rw [up1_o q]; exact hF k q, fun x hx => ?_⟩
      rw [up1_s]
      by_cases e : x = i
      · rw [e, upd_s]
      · rw [upd_o e]; exact hQ x (by omega)
    · skip
      obtain ⟨rfl, hF, hQ⟩ := hI
      refine a_iload_n B d_Mo_keep_29 rfl rfl ?_
      refine a_bipush B d_Mo_keep_30 cb_10 ?_
      first | refine b_icmp_ge B 53 d_Mo_keep_32 rfl (by omega) (by omega) (fun c_32 => ?_) (fun c_32 => ?_) | refine a_icmp_ge B 53 d_Mo_keep_32 rfl (fun c_32 => ?_) (fun c_32 => ?_)
      · skip
        refine a_aload_n B d_Mo_keep_53 rfl rfl ?_
        refine gf_Mo_keptMany B d_Mo_keep_54 fl_Mo_182 ?_
        rw [hF 106 (by decide), up1_s, upd_s]
        exact Rt _ _ _ _ d_Mo_keep_57 (by have e : sp_keep S (nI t) = (nI (tN (sT S t)), pK S (tN (sT S t)) (plT (sT S t))) := (by rw [sp_keep, hq]); rw [e]; exact ⟨rfl, RelM_keep hS w10 (by rw [hF 106 (by decide), up1_s, upd_s]) hQ (fun k q1 q2 q3 => by rw [hF k q2, up1_o q1]; exact h_14.1 k (by omega) (by omega) (by omega)) (fun j hj => by rw [hF 106 (by decide), up1_s, upd_o hj, h_14.1 106 (by decide) (by decide) (by decide)]), fun k hk => by rw [hF k (by omega), up1_o (by omega)]; exact h_14.1 k (by omega) (by omega) (by omega)⟩)
      exact absurd c_32 (by omega)
theorem d_Mo_near_0 : decode prog_9_method_50_code 0 = .ok (.aload_n 0, 1) := by decide +kernel
theorem d_Mo_near_1 : decode prog_9_method_50_code 1 = .ok (.iload_n 1, 1) := by decide +kernel
theorem d_Mo_near_2 : decode prog_9_method_50_code 2 = .ok (.invokevirtual 133, 3) := by decide +kernel
theorem d_Mo_near_5 : decode prog_9_method_50_code 5 = .ok (.istore_n 2, 1) := by decide +kernel
theorem d_Mo_near_6 : decode prog_9_method_50_code 6 = .ok (.iload_n 2, 1) := by decide +kernel
theorem d_Mo_near_7 : decode prog_9_method_50_code 7 = .ok (.ifCond .ge 5, 3) := by decide +kernel
theorem d_Mo_near_10 : decode prog_9_method_50_code 10 = .ok (.iload_n 2, 1) := by decide +kernel
theorem d_Mo_near_11 : decode prog_9_method_50_code 11 = .ok (.ireturn, 1) := by decide +kernel
theorem d_Mo_near_12 : decode prog_9_method_50_code 12 = .ok (.aload_n 0, 1) := by decide +kernel
theorem d_Mo_near_13 : decode prog_9_method_50_code 13 = .ok (.getfield 182, 3) := by decide +kernel
theorem d_Mo_near_16 : decode prog_9_method_50_code 16 = .ok (.ifCond .ne 6, 3) := by decide +kernel
theorem d_Mo_near_19 : decode prog_9_method_50_code 19 = .ok (.bipush (-4), 2) := by decide +kernel
theorem d_Mo_near_21 : decode prog_9_method_50_code 21 = .ok (.ireturn, 1) := by decide +kernel
theorem d_Mo_near_22 : decode prog_9_method_50_code 22 = .ok (.iconst 0, 1) := by decide +kernel
theorem d_Mo_near_23 : decode prog_9_method_50_code 23 = .ok (.istore_n 3, 1) := by decide +kernel
theorem d_Mo_near_24 : decode prog_9_method_50_code 24 = .ok (.iload_n 3, 1) := by decide +kernel
theorem d_Mo_near_25 : decode prog_9_method_50_code 25 = .ok (.bipush 10, 2) := by decide +kernel
theorem d_Mo_near_27 : decode prog_9_method_50_code 27 = .ok (.if_icmp .ge 21, 3) := by decide +kernel
theorem d_Mo_near_30 : decode prog_9_method_50_code 30 = .ok (.aload_n 0, 1) := by decide +kernel
theorem d_Mo_near_31 : decode prog_9_method_50_code 31 = .ok (.getfield 59, 3) := by decide +kernel
theorem d_Mo_near_34 : decode prog_9_method_50_code 34 = .ok (.iload_n 3, 1) := by decide +kernel
theorem d_Mo_near_35 : decode prog_9_method_50_code 35 = .ok (.aload_n 0, 1) := by decide +kernel
theorem d_Mo_near_36 : decode prog_9_method_50_code 36 = .ok (.getfield 62, 3) := by decide +kernel
theorem d_Mo_near_39 : decode prog_9_method_50_code 39 = .ok (.iload_n 3, 1) := by decide +kernel
theorem d_Mo_near_40 : decode prog_9_method_50_code 40 = .ok (.iaload, 1) := by decide +kernel
theorem d_Mo_near_41 : decode prog_9_method_50_code 41 = .ok (.iastore, 1) := by decide +kernel
theorem d_Mo_near_42 : decode prog_9_method_50_code 42 = .ok (.iinc 3 1, 3) := by decide +kernel
theorem d_Mo_near_45 : decode prog_9_method_50_code 45 = .ok (.goto (-21), 3) := by decide +kernel
theorem d_Mo_near_48 : decode prog_9_method_50_code 48 = .ok (.aload_n 0, 1) := by decide +kernel
theorem d_Mo_near_49 : decode prog_9_method_50_code 49 = .ok (.iload_n 1, 1) := by decide +kernel
theorem d_Mo_near_50 : decode prog_9_method_50_code 50 = .ok (.invokevirtual 179, 3) := by decide +kernel
theorem d_Mo_near_53 : decode prog_9_method_50_code 53 = .ok (.istore_n 3, 1) := by decide +kernel
theorem d_Mo_near_54 : decode prog_9_method_50_code 54 = .ok (.aload_n 0, 1) := by decide +kernel
theorem d_Mo_near_55 : decode prog_9_method_50_code 55 = .ok (.iload_n 1, 1) := by decide +kernel
theorem d_Mo_near_56 : decode prog_9_method_50_code 56 = .ok (.invokevirtual 176, 3) := by decide +kernel
theorem d_Mo_near_59 : decode prog_9_method_50_code 59 = .ok (.ireturn, 1) := by decide +kernel
set_option maxHeartbeats 4000000 in
set_option maxRecDepth 20000 in
theorem tM_near {g : GG} (G : Gok g) {σ : AH} {S : Sp} (hS : RelM S σ) (x : Int32) : TerI g 3 m_Mo_near [rV 106, iV x] σ (fun r τ => r = (sp_near S x).1 ∧ RelM (sp_near S x).2 τ ∧ frM σ τ) := by
  refine TerI.mk G (by decide +kernel) rfl (Nat.le_of_ble_eq_true rfl) (fun K B Rt => ?_)
  have B : Cx g K prog_9_method_50_code 4 R_Mo 3 := B
  have Rt : RetI g K prog_9_method_50_code 4 (fun r τ => r = (sp_near S x).1 ∧ RelM (sp_near S x).2 τ ∧ frM σ τ) := Rt
  show AW g K 4 0 [(0, rV 106), (1, iV x)] [] σ
  obtain ⟨m1, m2, m3, m4, m5, m6, m7, m8, m9, m10⟩ := id hS.2.2.1
  refine a_aload_n B d_Mo_near_0 rfl rfl ?_
  refine a_iload_n B d_Mo_near_1 rfl rfl ?_
  refine a_callVI (ci := 7) B (t_Mo_askedFor G hS x) d_Mo_near_2 ok_Mo_askedFor ml_Mo_133 ly_106 rfl rfl (by decide) (by decide) rfl (Nat.le_of_ble_eq_true rfl) (fun r_2 τ_2 h_2 => ?_)
  rcases h_2 with ⟨q, hq, hr9, hR9, hF9⟩ | ⟨t, hq, hr9, hs9⟩
  · skip
    subst hr9
    refine a_istore_n (lv1 := [(0, _), (1, _), (2, _)]) B d_Mo_near_5 rfl (by decide) rfl ?_
    refine a_iload_n B d_Mo_near_6 rfl rfl ?_
    refine a_if_ge B 12 d_Mo_near_7 rfl (fun c9 => absurd (neg_nz (trQ_neg hq)).2 (Int32.not_lt.mpr c9)) (fun _ => ?_)
    refine a_iload_n B d_Mo_near_10 rfl rfl ?_
    exact Rt _ _ _ _ d_Mo_near_11 (by have e : sp_near S x = q := (by rw [sp_near, hq]); rw [e]; exact ⟨rfl, hR9, hF9⟩)
  · skip
    subst hr9
    replace hs9 := hs9.symm
    subst hs9
    obtain ⟨ht, rfl, hn⟩ := trQ_ok hq
    obtain ⟨tW, tA, tB, tX⟩ := (hS.2.1 t ht).2 hn
    obtain ⟨a1, a2, a3, a4, a5, a6⟩ := id tA
    have w1 := tW.1
    have w10 := tW.2.1
    refine a_istore_n (lv1 := [(0, _), (1, _), (2, _)]) B d_Mo_near_5 rfl (by decide) rfl ?_
    refine a_iload_n B d_Mo_near_6 rfl rfl ?_
    refine b_if_ge B 12 d_Mo_near_7 rfl (by first | assumption | omega) ?_
    refine a_aload_n B d_Mo_near_12 rfl rfl ?_
    refine gf_Mo_keptMany B d_Mo_near_13 fl_Mo_182 ?_
    rw [m4]
    first | refine b_if_ne_b B 22 d_Mo_near_16 rfl (fun c_16 => ?_) (fun c_16 => ?_) | refine a_if_ne B 22 d_Mo_near_16 rfl (fun c_16 => ?_) (fun c_16 => ?_)
    · skip
      have hk0 : sKn S ≠ 0 := fun q => c_16 (by rw [q]; rfl)
      refine a_iconst B d_Mo_near_22 ci_0 ?_
      refine a_istore_n (lv1 := [(0, _), (1, _), (2, _), (3, _)]) B d_Mo_near_23 rfl (by decide) rfl ?_
      refine a_forR 10 (fun i lv τ => lv = [(0, rV 106), (1, iV (nI t)), (2, iV (nI 0)), (3, iV (nI i))] ∧ (∀ k, k ≠ 123 → τ.1 k = σ.1 k) ∧ (∀ x, x < i → τ.1 123 x = sKp S x)) (fun i lv τ hi hI ihi => ?_) (fun lv τ hI => ?_) 0 (Nat.zero_le _) _ _ ⟨rfl, fun _ _ => rfl, fun _ h => absurd h (Nat.not_lt_zero _)⟩
      · skip
        obtain ⟨rfl, hF, hQ⟩ := hI
        refine a_iload_n B d_Mo_near_24 rfl rfl ?_
        refine a_bipush B d_Mo_near_25 cb_10 ?_
        first | refine b_icmp_ge B 48 d_Mo_near_27 rfl (by omega) (by omega) (fun c_27 => ?_) (fun c_27 => ?_) | refine a_icmp_ge B 48 d_Mo_near_27 rfl (fun c_27 => ?_) (fun c_27 => ?_)
        · skip
          exact absurd c_27 (by omega)
        refine a_aload_n B d_Mo_near_30 rfl rfl ?_
        refine gf_Mo_against B d_Mo_near_31 fl_Mo_59 ?_
        refine a_iload_n B d_Mo_near_34 rfl rfl ?_
        refine a_aload_n B d_Mo_near_35 rfl rfl ?_
        refine gf_Mo_kept B d_Mo_near_36 fl_Mo_62 ?_
        refine a_iload_n B d_Mo_near_39 rfl rfl ?_
        refine a_iald B ly_124 _ rfl (by first | assumption | omega) d_Mo_near_40 ?_
        rw [hF 124 (by decide), m6 hk0 i (by omega)]
        refine a_iast B ly_123 _ rfl (by first | assumption | omega) d_Mo_near_41 ?_
        first | refine b_iinc (lv1 := [(0, _), (1, _), (2, _), (3, _)]) B d_Mo_near_42 rfl ci_1 (by decide) rfl ?_ | refine a_iinc (lv1 := [(0, _), (1, _), (2, _), (3, _)]) B d_Mo_near_42 rfl rfl (by decide) rfl ?_
        refine a_goto B 24 d_Mo_near_45 rfl ?_
        refine ihi _ _ ⟨rfl, fun k q => by rw [up1_o q]; exact hF k q, fun x hx => ?_⟩
        rw [up1_s]
        by_cases e : x = i
        · rw [e, upd_s]
        · rw [upd_o e]; exact hQ x (by omega)
      · skip
        obtain ⟨rfl, hF, hQ⟩ := hI
        have hW : wkM σ τ := ⟨fun k a b c d => hF k (by omega), fun j _ _ => by rw [hF 106 (by decide)]⟩
        refine a_iload_n B d_Mo_near_24 rfl rfl ?_
        refine a_bipush B d_Mo_near_25 cb_10 ?_
        first | refine b_icmp_ge B 48 d_Mo_near_27 rfl (by omega) (by omega) (fun c_27 => ?_) (fun c_27 => ?_) | refine a_icmp_ge B 48 d_Mo_near_27 rfl (fun c_27 => ?_) (fun c_27 => ?_)
        · skip
          refine a_aload_n B d_Mo_near_48 rfl rfl ?_
          refine a_iload_n B d_Mo_near_49 rfl rfl ?_
          refine a_callVI (ci := 7) B (t_Mo_faces G ht tW (wkA tA hW) (wkB tB hW) (wkC tX hW)) d_Mo_near_50 ok_Mo_faces ml_Mo_179 ly_106 rfl rfl (by decide) (by decide) rfl (Nat.le_of_ble_eq_true rfl) (fun r_50 τ_50 h_50 => ?_)
          obtain ⟨hr_50, cA, cB, cC, cF, cT⟩ := h_50
          have hQ2 : ∀ x, x < tN (sT S t) → τ.1 123 x = sKp S x := fun x hx => hQ x (by omega)
          rw [look_cg tW hQ2] at cA cB cC
          have hT := tfM_tr (tfM_wk (t := t) hW) cT
          refine a_istore_n (lv1 := [(0, _), (1, _), (2, _), (3, _)]) B d_Mo_near_53 rfl (by decide) rfl ?_
          refine a_aload_n B d_Mo_near_54 rfl rfl ?_
          refine a_iload_n B d_Mo_near_55 rfl rfl ?_
          refine a_callVI (ci := 7) B (t_Mo_allCrossed G ht (Wf_flips tW) cA cB) d_Mo_near_56 ok_Mo_allCrossed ml_Mo_176 ly_106 rfl rfl (by decide) (by decide) rfl (Nat.le_of_ble_eq_true rfl) (fun r_56 τ_56 h_56 => ?_)
          obtain ⟨hr_56, hs_56⟩ := h_56
          subst hr_56
          subst hs_56
          rw [cF 123 (by decide) (by decide) (by decide), cross_cg (Wf_flips tW) hQ2]
          exact Rt _ _ _ _ d_Mo_near_59 (by have e : sp_near S (nI t) = (nI (crossT (lookT (sT S t) (sKp S)) (sKp S)), pT S t (lookT (sT S t) (sKp S))) := (by rw [sp_near, hq]; exact if_neg hk0); rw [e]; exact ⟨rfl, RelM_look hS (Wf_flips tW) cA cB cC hT, tfM_fr hT⟩)
        exact absurd c_27 (by omega)
    refine a_bipush B d_Mo_near_19 cb_m4 ?_
    exact Rt _ _ _ _ d_Mo_near_21 (by have e : sp_near S (nI t) = RS S := (by rw [sp_near, hq]; exact if_pos (nI_z (by omega) c_16)); rw [e]; exact ⟨rfl, hS, (fun _ _ => rfl)⟩)
def mayK (T : TT) (s : Nat) : Nat → Bool
  | 0 => true
  | i + 1 => mayK T s i && !(s.testBit i && tD T (tN T + i))
theorem mayK_iff {T : TT} {s : Nat} : ∀ i, mayK T s i = true ↔ ∀ k, k < i → ¬ (tD T (tN T + k) = true ∧ s.testBit k = true)
  | 0 => ⟨fun _ k hk => absurd hk (Nat.not_lt_zero k), fun _ => rfl⟩
  | i + 1 => by
    show (mayK T s i && !(s.testBit i && tD T (tN T + i))) = true ↔ _
    rw [Bool.and_eq_true, mayK_iff i]
    constructor
    · rintro ⟨h1, h2⟩ k hk
      by_cases e : k = i
      · subst e
        rintro ⟨q1, q2⟩
        rw [q1, q2] at h2
        cases h2
      · exact h1 k (by omega)
    · intro h
      refine ⟨fun k hk => h k (by omega), ?_⟩
      have := h i (by omega)
      cases q1 : s.testBit i <;> cases q2 : tD T (tN T + i) <;> first | rfl | exact absurd ⟨q2, q1⟩ this
theorem mayK_e {T : TT} {s : Nat} : mayK T s (tN T - 1) = mayT T s := by
  unfold mayT
  cases h : mayK T s (tN T - 1) with
  | true => exact (decide_eq_true ((mayK_iff _).mp h)).symm
  | false => exact (decide_eq_false (fun q => by rw [(mayK_iff _).mpr q] at h; cases h)).symm
def flF (T : TT) (s i v : Nat) : Bool := s.testBit (v - tN T) && decide (v < tN T + i)
theorem TmB_cg {σ : AH} {t : Nat} {T : TT} {f f' : Nat → Bool} (h : TmB σ t (turnBy T f)) (e : ∀ v, tN T ≤ v → v < 2 * tN T - 1 → f v = f' v) : TmB σ t (turnBy T f') := by
  refine ⟨h.1, fun v h1 h2 => ?_⟩
  obtain ⟨q1, q2⟩ := h.2 v h1 h2
  have e9 := e v h1 h2
  refine ⟨q1.trans ?_, q2.trans ?_⟩
  · show nI (if f v then tR T v else tL T v) = nI (if f' v then tR T v else tL T v)
    rw [e9]
  · show nI (if f v then tL T v else tR T v) = nI (if f' v then tL T v else tR T v)
    rw [e9]
def flM (t : Nat) (σ τ : AH) : Prop := (∀ k, k ≠ 112 → k ≠ 113 → τ.1 k = σ.1 k) ∧ tfM t σ τ
theorem d_Mo_flips_0 : decode prog_9_method_37_code 0 = .ok (.iconst 1, 1) := by decide +kernel
theorem d_Mo_flips_1 : decode prog_9_method_37_code 1 = .ok (.istore_n 3, 1) := by decide +kernel
theorem d_Mo_flips_2 : decode prog_9_method_37_code 2 = .ok (.aload_n 0, 1) := by decide +kernel
theorem d_Mo_flips_3 : decode prog_9_method_37_code 3 = .ok (.getfield 23, 3) := by decide +kernel
theorem d_Mo_flips_6 : decode prog_9_method_37_code 6 = .ok (.iload_n 1, 1) := by decide +kernel
theorem d_Mo_flips_7 : decode prog_9_method_37_code 7 = .ok (.iaload, 1) := by decide +kernel
theorem d_Mo_flips_8 : decode prog_9_method_37_code 8 = .ok (.istore 4, 2) := by decide +kernel
theorem d_Mo_flips_10 : decode prog_9_method_37_code 10 = .ok (.iload 4, 2) := by decide +kernel
theorem d_Mo_flips_12 : decode prog_9_method_37_code 12 = .ok (.aload_n 0, 1) := by decide +kernel
theorem d_Mo_flips_13 : decode prog_9_method_37_code 13 = .ok (.iload_n 1, 1) := by decide +kernel
theorem d_Mo_flips_14 : decode prog_9_method_37_code 14 = .ok (.invokevirtual 123, 3) := by decide +kernel
theorem d_Mo_flips_17 : decode prog_9_method_37_code 17 = .ok (.if_icmp .ge 51, 3) := by decide +kernel
theorem d_Mo_flips_20 : decode prog_9_method_37_code 20 = .ok (.iload_n 3, 1) := by decide +kernel
theorem d_Mo_flips_21 : decode prog_9_method_37_code 21 = .ok (.ifCond .eq 39, 3) := by decide +kernel
theorem d_Mo_flips_24 : decode prog_9_method_37_code 24 = .ok (.iload_n 2, 1) := by decide +kernel
theorem d_Mo_flips_25 : decode prog_9_method_37_code 25 = .ok (.iload 4, 2) := by decide +kernel
theorem d_Mo_flips_27 : decode prog_9_method_37_code 27 = .ok (.aload_n 0, 1) := by decide +kernel
theorem d_Mo_flips_28 : decode prog_9_method_37_code 28 = .ok (.getfield 23, 3) := by decide +kernel
theorem d_Mo_flips_31 : decode prog_9_method_37_code 31 = .ok (.iload_n 1, 1) := by decide +kernel
theorem d_Mo_flips_32 : decode prog_9_method_37_code 32 = .ok (.iaload, 1) := by decide +kernel
theorem d_Mo_flips_33 : decode prog_9_method_37_code 33 = .ok (.isub, 1) := by decide +kernel
theorem d_Mo_flips_34 : decode prog_9_method_37_code 34 = .ok (.ishr, 1) := by decide +kernel
theorem d_Mo_flips_35 : decode prog_9_method_37_code 35 = .ok (.iconst 1, 1) := by decide +kernel
theorem d_Mo_flips_36 : decode prog_9_method_37_code 36 = .ok (.iand, 1) := by decide +kernel
theorem d_Mo_flips_37 : decode prog_9_method_37_code 37 = .ok (.iconst 1, 1) := by decide +kernel
theorem d_Mo_flips_38 : decode prog_9_method_37_code 38 = .ok (.if_icmp .ne 18, 3) := by decide +kernel
theorem d_Mo_flips_41 : decode prog_9_method_37_code 41 = .ok (.aload_n 0, 1) := by decide +kernel
theorem d_Mo_flips_42 : decode prog_9_method_37_code 42 = .ok (.getfield 41, 3) := by decide +kernel
theorem d_Mo_flips_45 : decode prog_9_method_37_code 45 = .ok (.bipush 20, 2) := by decide +kernel
theorem d_Mo_flips_47 : decode prog_9_method_37_code 47 = .ok (.iload_n 1, 1) := by decide +kernel
theorem d_Mo_flips_48 : decode prog_9_method_37_code 48 = .ok (.imul, 1) := by decide +kernel
theorem d_Mo_flips_49 : decode prog_9_method_37_code 49 = .ok (.iload 4, 2) := by decide +kernel
theorem d_Mo_flips_51 : decode prog_9_method_37_code 51 = .ok (.iadd, 1) := by decide +kernel
theorem d_Mo_flips_52 : decode prog_9_method_37_code 52 = .ok (.baload, 1) := by decide +kernel
theorem d_Mo_flips_53 : decode prog_9_method_37_code 53 = .ok (.ifCond .ne 7, 3) := by decide +kernel
theorem d_Mo_flips_56 : decode prog_9_method_37_code 56 = .ok (.iconst 1, 1) := by decide +kernel
theorem d_Mo_flips_57 : decode prog_9_method_37_code 57 = .ok (.goto 4, 3) := by decide +kernel
theorem d_Mo_flips_60 : decode prog_9_method_37_code 60 = .ok (.iconst 0, 1) := by decide +kernel
theorem d_Mo_flips_61 : decode prog_9_method_37_code 61 = .ok (.istore_n 3, 1) := by decide +kernel
theorem d_Mo_flips_62 : decode prog_9_method_37_code 62 = .ok (.iinc 4 1, 3) := by decide +kernel
theorem d_Mo_flips_65 : decode prog_9_method_37_code 65 = .ok (.goto (-55), 3) := by decide +kernel
theorem d_Mo_flips_68 : decode prog_9_method_37_code 68 = .ok (.aload_n 0, 1) := by decide +kernel
theorem d_Mo_flips_69 : decode prog_9_method_37_code 69 = .ok (.getfield 23, 3) := by decide +kernel
theorem d_Mo_flips_72 : decode prog_9_method_37_code 72 = .ok (.iload_n 1, 1) := by decide +kernel
theorem d_Mo_flips_73 : decode prog_9_method_37_code 73 = .ok (.iaload, 1) := by decide +kernel
theorem d_Mo_flips_74 : decode prog_9_method_37_code 74 = .ok (.istore 4, 2) := by decide +kernel
theorem d_Mo_flips_76 : decode prog_9_method_37_code 76 = .ok (.iload 4, 2) := by decide +kernel
theorem d_Mo_flips_78 : decode prog_9_method_37_code 78 = .ok (.aload_n 0, 1) := by decide +kernel
theorem d_Mo_flips_79 : decode prog_9_method_37_code 79 = .ok (.iload_n 1, 1) := by decide +kernel
theorem d_Mo_flips_80 : decode prog_9_method_37_code 80 = .ok (.invokevirtual 123, 3) := by decide +kernel
theorem d_Mo_flips_83 : decode prog_9_method_37_code 83 = .ok (.if_icmp .ge 37, 3) := by decide +kernel
theorem d_Mo_flips_86 : decode prog_9_method_37_code 86 = .ok (.iload_n 3, 1) := by decide +kernel
theorem d_Mo_flips_87 : decode prog_9_method_37_code 87 = .ok (.ifCond .eq 33, 3) := by decide +kernel
theorem d_Mo_flips_90 : decode prog_9_method_37_code 90 = .ok (.iload_n 2, 1) := by decide +kernel
theorem d_Mo_flips_91 : decode prog_9_method_37_code 91 = .ok (.iload 4, 2) := by decide +kernel
theorem d_Mo_flips_93 : decode prog_9_method_37_code 93 = .ok (.aload_n 0, 1) := by decide +kernel
theorem d_Mo_flips_94 : decode prog_9_method_37_code 94 = .ok (.getfield 23, 3) := by decide +kernel
theorem d_Mo_flips_97 : decode prog_9_method_37_code 97 = .ok (.iload_n 1, 1) := by decide +kernel
theorem d_Mo_flips_98 : decode prog_9_method_37_code 98 = .ok (.iaload, 1) := by decide +kernel
theorem d_Mo_flips_99 : decode prog_9_method_37_code 99 = .ok (.isub, 1) := by decide +kernel
theorem d_Mo_flips_100 : decode prog_9_method_37_code 100 = .ok (.ishr, 1) := by decide +kernel
theorem d_Mo_flips_101 : decode prog_9_method_37_code 101 = .ok (.iconst 1, 1) := by decide +kernel
theorem d_Mo_flips_102 : decode prog_9_method_37_code 102 = .ok (.iand, 1) := by decide +kernel
theorem d_Mo_flips_103 : decode prog_9_method_37_code 103 = .ok (.iconst 1, 1) := by decide +kernel
theorem d_Mo_flips_104 : decode prog_9_method_37_code 104 = .ok (.if_icmp .ne 10, 3) := by decide +kernel
theorem d_Mo_flips_107 : decode prog_9_method_37_code 107 = .ok (.aload_n 0, 1) := by decide +kernel
theorem d_Mo_flips_108 : decode prog_9_method_37_code 108 = .ok (.iload_n 1, 1) := by decide +kernel
theorem d_Mo_flips_109 : decode prog_9_method_37_code 109 = .ok (.iload 4, 2) := by decide +kernel
theorem d_Mo_flips_111 : decode prog_9_method_37_code 111 = .ok (.invokevirtual 153, 3) := by decide +kernel
theorem d_Mo_flips_114 : decode prog_9_method_37_code 114 = .ok (.iinc 4 1, 3) := by decide +kernel
theorem d_Mo_flips_117 : decode prog_9_method_37_code 117 = .ok (.goto (-41), 3) := by decide +kernel
theorem d_Mo_flips_120 : decode prog_9_method_37_code 120 = .ok (.iload_n 3, 1) := by decide +kernel
theorem d_Mo_flips_121 : decode prog_9_method_37_code 121 = .ok (.ireturn, 1) := by decide +kernel
set_option maxHeartbeats 4000000 in
set_option maxRecDepth 20000 in
theorem t_Mo_flips {g : GG} (G : Gok g) {σ : AH} {t : Nat} {T : TT} (ht : t < 4) (tW : Wf T) (tA : TmA σ t T) (tB : TmB σ t T) {s : Nat} (hs : s < 1024) : TerI g 1 m_Mo_flips [rV 106, iV (nI t), iV (nI s)] σ (fun r τ => r = bI (mayT T s) ∧ (mayT T s = true → TmB τ t (setT T s)) ∧ (mayT T s = false → τ = σ) ∧ flM t σ τ) := by
  refine TerI.mkZ G (by decide +kernel) rfl (Nat.le_of_ble_eq_true rfl) (fun K B Rt => ?_)
  have B : Cx g K prog_9_method_37_code 5 R_Mo 1 := B
  have Rt : RetZ g K prog_9_method_37_code 5 (fun r τ => r = bI (mayT T s) ∧ (mayT T s = true → TmB τ t (setT T s)) ∧ (mayT T s = false → τ = σ) ∧ flM t σ τ) := Rt
  show AW g K 5 0 [(0, rV 106), (1, iV (nI t)), (2, iV (nI s))] [] σ
  obtain ⟨a1, a2, a3, a4, a5, a6⟩ := id tA
  have w1 := tW.1
  have w10 := tW.2.1
  refine a_iconst B d_Mo_flips_0 ci_1 ?_
  refine a_istore_n (lv1 := [(0, _), (1, _), (2, _), (3, _)]) B d_Mo_flips_1 rfl (by decide) rfl ?_
  refine a_aload_n B d_Mo_flips_2 rfl rfl ?_
  refine gf_Mo_sizes B d_Mo_flips_3 fl_Mo_23 ?_
  refine a_iload_n B d_Mo_flips_6 rfl rfl ?_
  refine a_iald B ly_111 _ rfl (by first | assumption | omega) d_Mo_flips_7 ?_
  rw [a1]
  refine a_istore (lv1 := [(0, _), (1, _), (2, _), (3, _), (4, _)]) B d_Mo_flips_8 (by decide) rfl ?_
  refine a_for (lf := fun i => [(0, rV 106), (1, iV (nI t)), (2, iV (nI s)), (3, iV (bI (mayK T s i))), (4, iV (nI (tN T + i)))]) (τ := fun i => σ) (tN T - 1) (fun i hi ihi => ?_) ?_ 0 (Nat.zero_le _)
  · skip
    refine a_iload B d_Mo_flips_10 rfl ?_
    refine a_aload_n B d_Mo_flips_12 rfl rfl ?_
    refine a_iload_n B d_Mo_flips_13 rfl rfl ?_
    refine a_callVI (ci := 7) B (t_Mo_nodes G ht w1 w10 a1) d_Mo_flips_14 ok_Mo_nodes ml_Mo_123 ly_106 rfl rfl (by decide) (by decide) rfl (Nat.le_of_ble_eq_true rfl) (fun r_14 τ_14 h_14 => ?_)
    obtain ⟨hr_14, hs_14⟩ := h_14
    subst hr_14
    replace hs_14 := hs_14.symm
    subst hs_14
    first | refine b_icmp_ge B 68 d_Mo_flips_17 rfl (by omega) (by omega) (fun c_17 => ?_) (fun c_17 => ?_) | refine a_icmp_ge B 68 d_Mo_flips_17 rfl (fun c_17 => ?_) (fun c_17 => ?_)
    · skip
      exact absurd c_17 (by omega)
    refine a_iload_n B d_Mo_flips_20 rfl rfl ?_
    first | refine b_if_eq_b B 60 d_Mo_flips_21 rfl (fun c_21 => ?_) (fun c_21 => ?_) | refine a_if_eq B 60 d_Mo_flips_21 rfl (fun c_21 => ?_) (fun c_21 => ?_)
    · skip
      refine a_iconst B d_Mo_flips_60 ci_0 ?_
      refine a_istore_n (lv1 := [(0, _), (1, _), (2, _), (3, _), (4, _)]) B d_Mo_flips_61 rfl (by decide) rfl ?_
      first | refine b_iinc (lv1 := [(0, _), (1, _), (2, _), (3, _), (4, _)]) B d_Mo_flips_62 rfl ci_1 (by decide) rfl ?_ | refine a_iinc (lv1 := [(0, _), (1, _), (2, _), (3, _), (4, _)]) B d_Mo_flips_62 rfl rfl (by decide) rfl ?_
      refine a_goto B 10 d_Mo_flips_65 rfl ?_
      first | (have e9 : mayK T s (i + 1) = true := (by show (mayK T s i && !(s.testBit i && tD T (tN T + i))) = true; rw [c_21]; first | rw [tb_0 c_38]; rfl | (rw [c_53, Bool.and_false]; rfl)); rw [e9] at ihi; exact ihi) | (have e9 : mayK T s (i + 1) = false := (by show (mayK T s i && !(s.testBit i && tD T (tN T + i))) = false; first | (rw [c_21]; done) | (rw [c_21, tb_1 c_38, c_53]; rfl) | (rw [c_21]; rfl)); rw [e9] at ihi; exact ihi)
    refine a_iload_n B d_Mo_flips_24 rfl rfl ?_
    refine a_iload B d_Mo_flips_25 rfl ?_
    refine a_aload_n B d_Mo_flips_27 rfl rfl ?_
    refine gf_Mo_sizes B d_Mo_flips_28 fl_Mo_23 ?_
    refine a_iload_n B d_Mo_flips_31 rfl rfl ?_
    refine a_iald B ly_111 _ rfl (by first | assumption | omega) d_Mo_flips_32 ?_
    rw [a1]
    first | refine b_isub B (by omega) d_Mo_flips_33 ?_ | refine a_isub B d_Mo_flips_33 ?_
    rw [show tN T + i - tN T = i by omega]
    refine a_ishr B d_Mo_flips_34 ?_
    refine a_iconst B d_Mo_flips_35 ci_1 ?_
    refine a_iand B d_Mo_flips_36 ?_
    rw [bit_atN hs (by omega)]
    refine a_iconst B d_Mo_flips_37 ci_1 ?_
    first | refine b_icmp_ne B 56 d_Mo_flips_38 rfl (by omega) (by omega) (fun c_38 => ?_) (fun c_38 => ?_) | refine a_icmp_ne B 56 d_Mo_flips_38 rfl (fun c_38 => ?_) (fun c_38 => ?_)
    · skip
      refine a_iconst B d_Mo_flips_56 ci_1 ?_
      refine a_goto B 61 d_Mo_flips_57 rfl ?_
      refine a_istore_n (lv1 := [(0, _), (1, _), (2, _), (3, _), (4, _)]) B d_Mo_flips_61 rfl (by decide) rfl ?_
      first | refine b_iinc (lv1 := [(0, _), (1, _), (2, _), (3, _), (4, _)]) B d_Mo_flips_62 rfl ci_1 (by decide) rfl ?_ | refine a_iinc (lv1 := [(0, _), (1, _), (2, _), (3, _), (4, _)]) B d_Mo_flips_62 rfl rfl (by decide) rfl ?_
      refine a_goto B 10 d_Mo_flips_65 rfl ?_
      first | (have e9 : mayK T s (i + 1) = true := (by show (mayK T s i && !(s.testBit i && tD T (tN T + i))) = true; rw [c_21]; first | rw [tb_0 c_38]; rfl | (rw [c_53, Bool.and_false]; rfl)); rw [e9] at ihi; exact ihi) | (have e9 : mayK T s (i + 1) = false := (by show (mayK T s i && !(s.testBit i && tD T (tN T + i))) = false; first | (rw [c_21]; done) | (rw [c_21, tb_1 c_38, c_53]; rfl) | (rw [c_21]; rfl)); rw [e9] at ihi; exact ihi)
    refine a_aload_n B d_Mo_flips_41 rfl rfl ?_
    refine gf_Mo_isHeld B d_Mo_flips_42 fl_Mo_41 ?_
    refine a_bipush B d_Mo_flips_45 cb_20 ?_
    refine a_iload_n B d_Mo_flips_47 rfl rfl ?_
    first | refine b_imul B d_Mo_flips_48 ?_ | refine a_imul B d_Mo_flips_48 ?_
    refine a_iload B d_Mo_flips_49 rfl ?_
    first | refine b_iadd B d_Mo_flips_51 ?_ | refine a_iadd B d_Mo_flips_51 ?_
    refine a_zald B ly_117 _ rfl (by first | assumption | omega) d_Mo_flips_52 ?_
    rw [a5 _ (by omega)]
    first | refine b_if_ne_b B 60 d_Mo_flips_53 rfl (fun c_53 => ?_) (fun c_53 => ?_) | refine a_if_ne B 60 d_Mo_flips_53 rfl (fun c_53 => ?_) (fun c_53 => ?_)
    · skip
      refine a_iconst B d_Mo_flips_60 ci_0 ?_
      refine a_istore_n (lv1 := [(0, _), (1, _), (2, _), (3, _), (4, _)]) B d_Mo_flips_61 rfl (by decide) rfl ?_
      first | refine b_iinc (lv1 := [(0, _), (1, _), (2, _), (3, _), (4, _)]) B d_Mo_flips_62 rfl ci_1 (by decide) rfl ?_ | refine a_iinc (lv1 := [(0, _), (1, _), (2, _), (3, _), (4, _)]) B d_Mo_flips_62 rfl rfl (by decide) rfl ?_
      refine a_goto B 10 d_Mo_flips_65 rfl ?_
      first | (have e9 : mayK T s (i + 1) = true := (by show (mayK T s i && !(s.testBit i && tD T (tN T + i))) = true; rw [c_21]; first | rw [tb_0 c_38]; rfl | (rw [c_53, Bool.and_false]; rfl)); rw [e9] at ihi; exact ihi) | (have e9 : mayK T s (i + 1) = false := (by show (mayK T s i && !(s.testBit i && tD T (tN T + i))) = false; first | (rw [c_21]; done) | (rw [c_21, tb_1 c_38, c_53]; rfl) | (rw [c_21]; rfl)); rw [e9] at ihi; exact ihi)
    refine a_iconst B d_Mo_flips_56 ci_1 ?_
    refine a_goto B 61 d_Mo_flips_57 rfl ?_
    refine a_istore_n (lv1 := [(0, _), (1, _), (2, _), (3, _), (4, _)]) B d_Mo_flips_61 rfl (by decide) rfl ?_
    first | refine b_iinc (lv1 := [(0, _), (1, _), (2, _), (3, _), (4, _)]) B d_Mo_flips_62 rfl ci_1 (by decide) rfl ?_ | refine a_iinc (lv1 := [(0, _), (1, _), (2, _), (3, _), (4, _)]) B d_Mo_flips_62 rfl rfl (by decide) rfl ?_
    refine a_goto B 10 d_Mo_flips_65 rfl ?_
    first | (have e9 : mayK T s (i + 1) = true := (by show (mayK T s i && !(s.testBit i && tD T (tN T + i))) = true; rw [c_21]; first | rw [tb_0 c_38]; rfl | (rw [c_53, Bool.and_false]; rfl)); rw [e9] at ihi; exact ihi) | (have e9 : mayK T s (i + 1) = false := (by show (mayK T s i && !(s.testBit i && tD T (tN T + i))) = false; first | (rw [c_21]; done) | (rw [c_21, tb_1 c_38, c_53]; rfl) | (rw [c_21]; rfl)); rw [e9] at ihi; exact ihi)
  · skip
    refine a_iload B d_Mo_flips_10 rfl ?_
    refine a_aload_n B d_Mo_flips_12 rfl rfl ?_
    refine a_iload_n B d_Mo_flips_13 rfl rfl ?_
    refine a_callVI (ci := 7) B (t_Mo_nodes G ht w1 w10 a1) d_Mo_flips_14 ok_Mo_nodes ml_Mo_123 ly_106 rfl rfl (by decide) (by decide) rfl (Nat.le_of_ble_eq_true rfl) (fun r_14 τ_14 h_14 => ?_)
    obtain ⟨hr_14, hs_14⟩ := h_14
    subst hr_14
    replace hs_14 := hs_14.symm
    subst hs_14
    first | refine b_icmp_ge B 68 d_Mo_flips_17 rfl (by omega) (by omega) (fun c_17 => ?_) (fun c_17 => ?_) | refine a_icmp_ge B 68 d_Mo_flips_17 rfl (fun c_17 => ?_) (fun c_17 => ?_)
    · skip
      refine a_aload_n B d_Mo_flips_68 rfl rfl ?_
      refine gf_Mo_sizes B d_Mo_flips_69 fl_Mo_23 ?_
      refine a_iload_n B d_Mo_flips_72 rfl rfl ?_
      refine a_iald B ly_111 _ rfl (by first | assumption | omega) d_Mo_flips_73 ?_
      rw [a1]
      refine a_istore (lv1 := [(0, _), (1, _), (2, _), (3, _), (4, _)]) B d_Mo_flips_74 (by decide) rfl ?_
      cases hmk : mayK T s (tN T - 1) with
      | true =>
        refine a_forR (tN T - 1) (fun i lv τ => lv = [(0, rV 106), (1, iV (nI t)), (2, iV (nI s)), (3, iV (bI true)), (4, iV (nI (tN T + i)))] ∧ TmB τ t (turnBy T (flF T s i)) ∧ flM t σ τ) (fun i lv τ hi hI ihi => ?_) (fun lv τ hI => ?_) 0 (Nat.zero_le _) _ _ ⟨rfl, TmB_cg (f := fun _ => false) (by rw [turnBy_no (fun _ => rfl)]; exact tB) (fun v h1 h2 => by unfold flF; rw [decide_eq_false (by omega), Bool.and_false]), fun _ _ _ => rfl, tfM_rfl⟩
        · skip
          obtain ⟨rfl, zB, hF, hT⟩ := hI
          have z1 : τ.1 111 t = nI (tN T) := (by rw [hF 111 (by decide) (by decide)]; exact a1)
          refine a_iload B d_Mo_flips_76 rfl ?_
          refine a_aload_n B d_Mo_flips_78 rfl rfl ?_
          refine a_iload_n B d_Mo_flips_79 rfl rfl ?_
          refine a_callVI (ci := 7) B (t_Mo_nodes G ht w1 w10 z1) d_Mo_flips_80 ok_Mo_nodes ml_Mo_123 ly_106 rfl rfl (by decide) (by decide) rfl (Nat.le_of_ble_eq_true rfl) (fun r_80 τ_80 h_80 => ?_)
          obtain ⟨hr_80, hs_80⟩ := h_80
          subst hr_80
          replace hs_80 := hs_80.symm
          subst hs_80
          first | refine b_icmp_ge B 120 d_Mo_flips_83 rfl (by omega) (by omega) (fun c_83 => ?_) (fun c_83 => ?_) | refine a_icmp_ge B 120 d_Mo_flips_83 rfl (fun c_83 => ?_) (fun c_83 => ?_)
          · skip
            first | exact absurd c_83 (by omega) | exact absurd c_87 (by decide)
          refine a_iload_n B d_Mo_flips_86 rfl rfl ?_
          first | refine b_if_eq_b B 120 d_Mo_flips_87 rfl (fun c_87 => ?_) (fun c_87 => ?_) | refine a_if_eq B 120 d_Mo_flips_87 rfl (fun c_87 => ?_) (fun c_87 => ?_)
          · skip
            first | exact absurd c_83 (by omega) | exact absurd c_87 (by decide)
          refine a_iload_n B d_Mo_flips_90 rfl rfl ?_
          refine a_iload B d_Mo_flips_91 rfl ?_
          refine a_aload_n B d_Mo_flips_93 rfl rfl ?_
          refine gf_Mo_sizes B d_Mo_flips_94 fl_Mo_23 ?_
          refine a_iload_n B d_Mo_flips_97 rfl rfl ?_
          refine a_iald B ly_111 _ rfl (by first | assumption | omega) d_Mo_flips_98 ?_
          rw [z1]
          first | refine b_isub B (by omega) d_Mo_flips_99 ?_ | refine a_isub B d_Mo_flips_99 ?_
          rw [show tN T + i - tN T = i by omega]
          refine a_ishr B d_Mo_flips_100 ?_
          refine a_iconst B d_Mo_flips_101 ci_1 ?_
          refine a_iand B d_Mo_flips_102 ?_
          rw [bit_atN hs (by omega)]
          refine a_iconst B d_Mo_flips_103 ci_1 ?_
          first | refine b_icmp_ne B 114 d_Mo_flips_104 rfl (by omega) (by omega) (fun c_104 => ?_) (fun c_104 => ?_) | refine a_icmp_ne B 114 d_Mo_flips_104 rfl (fun c_104 => ?_) (fun c_104 => ?_)
          · skip
            first | refine b_iinc (lv1 := [(0, _), (1, _), (2, _), (3, _), (4, _)]) B d_Mo_flips_114 rfl ci_1 (by decide) rfl ?_ | refine a_iinc (lv1 := [(0, _), (1, _), (2, _), (3, _), (4, _)]) B d_Mo_flips_114 rfl rfl (by decide) rfl ?_
            refine a_goto B 76 d_Mo_flips_117 rfl ?_
            first | exact ihi _ _ ⟨rfl, TmB_flip (f := flF T s i) zB (by omega) (by omega) (by unfold flF; rw [show tN T + i - tN T = i by omega, tb_1 c_104, decide_eq_true (show tN T + i < tN T + (i + 1) by omega), decide_eq_false (show ¬ tN T + i < tN T + i by omega)]; rfl) (fun v hv => by unfold flF; rw [show decide (v < tN T + (i + 1)) = decide (v < tN T + i) from decide_eq_decide.mpr (by omega)]), fun k q2 q3 => (flipM_o q2 q3).trans (hF k q2 q3), tfM_tr hT (tfM_flip (by omega))⟩ | exact ihi _ _ ⟨rfl, TmB_cg zB (fun v h1 h2 => by unfold flF; by_cases e9 : v = tN T + i; (rw [e9, show tN T + i - tN T = i by omega, tb_0 c_104]; rfl); rw [show decide (v < tN T + (i + 1)) = decide (v < tN T + i) from decide_eq_decide.mpr (by omega)]), hF, hT⟩
          refine a_aload_n B d_Mo_flips_107 rfl rfl ?_
          refine a_iload_n B d_Mo_flips_108 rfl rfl ?_
          refine a_iload B d_Mo_flips_109 rfl ?_
          refine a_callVV (ci := 7) B (t_Mo_flip G ht (j := tN T + i) (by omega)) d_Mo_flips_111 ok_Mo_flip ml_Mo_153 ly_106 rfl rfl (by decide) (by decide) rfl (Nat.le_of_ble_eq_true rfl) (fun τ_111 h_111 => ?_)
          subst h_111
          first | refine b_iinc (lv1 := [(0, _), (1, _), (2, _), (3, _), (4, _)]) B d_Mo_flips_114 rfl ci_1 (by decide) rfl ?_ | refine a_iinc (lv1 := [(0, _), (1, _), (2, _), (3, _), (4, _)]) B d_Mo_flips_114 rfl rfl (by decide) rfl ?_
          refine a_goto B 76 d_Mo_flips_117 rfl ?_
          first | exact ihi _ _ ⟨rfl, TmB_flip (f := flF T s i) zB (by omega) (by omega) (by unfold flF; rw [show tN T + i - tN T = i by omega, tb_1 c_104, decide_eq_true (show tN T + i < tN T + (i + 1) by omega), decide_eq_false (show ¬ tN T + i < tN T + i by omega)]; rfl) (fun v hv => by unfold flF; rw [show decide (v < tN T + (i + 1)) = decide (v < tN T + i) from decide_eq_decide.mpr (by omega)]), fun k q2 q3 => (flipM_o q2 q3).trans (hF k q2 q3), tfM_tr hT (tfM_flip (by omega))⟩ | exact ihi _ _ ⟨rfl, TmB_cg zB (fun v h1 h2 => by unfold flF; by_cases e9 : v = tN T + i; (rw [e9, show tN T + i - tN T = i by omega, tb_0 c_104]; rfl); rw [show decide (v < tN T + (i + 1)) = decide (v < tN T + i) from decide_eq_decide.mpr (by omega)]), hF, hT⟩
        · skip
          obtain ⟨rfl, zB, hF, hT⟩ := hI
          have z1 : τ.1 111 t = nI (tN T) := (by rw [hF 111 (by decide) (by decide)]; exact a1)
          refine a_iload B d_Mo_flips_76 rfl ?_
          refine a_aload_n B d_Mo_flips_78 rfl rfl ?_
          refine a_iload_n B d_Mo_flips_79 rfl rfl ?_
          refine a_callVI (ci := 7) B (t_Mo_nodes G ht w1 w10 z1) d_Mo_flips_80 ok_Mo_nodes ml_Mo_123 ly_106 rfl rfl (by decide) (by decide) rfl (Nat.le_of_ble_eq_true rfl) (fun r_80 τ_80 h_80 => ?_)
          obtain ⟨hr_80, hs_80⟩ := h_80
          subst hr_80
          replace hs_80 := hs_80.symm
          subst hs_80
          first | refine b_icmp_ge B 120 d_Mo_flips_83 rfl (by omega) (by omega) (fun c_83 => ?_) (fun c_83 => ?_) | refine a_icmp_ge B 120 d_Mo_flips_83 rfl (fun c_83 => ?_) (fun c_83 => ?_)
          · skip
            refine a_iload_n B d_Mo_flips_120 rfl rfl ?_
            exact Rt _ _ _ _ d_Mo_flips_121 (bI_01 _) ⟨by rw [← mayK_e, hmk], fun _ => TmB_cg zB (fun v h1 h2 => by unfold flF; rw [decide_eq_true (by omega), Bool.and_true]), (fun h => by rw [← mayK_e, hmk] at h; cases h), hF, hT⟩
          exact absurd c_83 (by omega)
      | false =>
        rw [← hmk]
        refine a_iload B d_Mo_flips_76 rfl ?_
        refine a_aload_n B d_Mo_flips_78 rfl rfl ?_
        refine a_iload_n B d_Mo_flips_79 rfl rfl ?_
        refine a_callVI (ci := 7) B (t_Mo_nodes G ht w1 w10 a1) d_Mo_flips_80 ok_Mo_nodes ml_Mo_123 ly_106 rfl rfl (by decide) (by decide) rfl (Nat.le_of_ble_eq_true rfl) (fun r_80 τ_80 h_80 => ?_)
        obtain ⟨hr_80, hs_80⟩ := h_80
        subst hr_80
        replace hs_80 := hs_80.symm
        subst hs_80
        first | refine b_icmp_ge B 120 d_Mo_flips_83 rfl (by omega) (by omega) (fun c_83 => ?_) (fun c_83 => ?_) | refine a_icmp_ge B 120 d_Mo_flips_83 rfl (fun c_83 => ?_) (fun c_83 => ?_)
        · skip
          refine a_iload_n B d_Mo_flips_120 rfl rfl ?_
          exact Rt _ _ _ _ d_Mo_flips_121 (bI_01 _) ⟨by rw [mayK_e], (fun h => by rw [← mayK_e, hmk] at h; cases h), fun _ => rfl, fun _ _ _ => rfl, tfM_rfl⟩
        refine a_iload_n B d_Mo_flips_86 rfl rfl ?_
        first | refine b_if_eq_b B 120 d_Mo_flips_87 rfl (fun c_87 => ?_) (fun c_87 => ?_) | refine a_if_eq B 120 d_Mo_flips_87 rfl (fun c_87 => ?_) (fun c_87 => ?_)
        · skip
          refine a_iload_n B d_Mo_flips_120 rfl rfl ?_
          exact Rt _ _ _ _ d_Mo_flips_121 (bI_01 _) ⟨by rw [mayK_e], (fun h => by rw [← mayK_e, hmk] at h; cases h), fun _ => rfl, fun _ _ _ => rfl, tfM_rfl⟩
        · exact absurd (hmk.symm.trans c_87) (by decide)
    exact absurd c_17 (by omega)
