/-! the reference: orders -/
def upI (T : TT) (v : Nat) : Int32 := if v < 2 * tN T - 2 then nI (tU T v) else -9
theorem up_at {σ : AH} {t : Nat} {T : TT} (h : TmA σ t T) {v : Nat} (hv : v < 2 * tN T - 1) : σ.1 114 (20 * t + v) = upI T v := by
  unfold upI
  by_cases q : v < 2 * tN T - 2
  · rw [if_pos q]; exact h.2.1 v q
  · rw [if_neg q, show v = 2 * tN T - 2 by omega]; exact h.2.2.1
theorem TmB.of {σ τ : AH} {t : Nat} {T : TT} (h : TmB σ t T) (e2 : τ.1 112 = σ.1 112) (e3 : τ.1 113 = σ.1 113) : TmB τ t T := by
  unfold TmB at h ⊢
  rw [e2, e3]
  exact h
theorem TmC.of {σ τ : AH} {t : Nat} {T : TT} (h : TmC σ t T) (e : τ.1 116 = σ.1 116) : TmC τ t T := by
  unfold TmC at h ⊢
  rw [e]
  exact h
/-- the order is written down -/
def OrM (σ τ : AH) (T : TT) : Prop := (∀ k, k ≠ 120 → k ≠ 121 → τ.1 k = σ.1 k) ∧ (∀ x, x < tN T → τ.1 121 x = nI (posT T x)) ∧ (∀ x, x < tN T → τ.1 120 (posT T x) = nI x)
theorem OrM.wk {σ τ : AH} {T : TT} (h : OrM σ τ T) : wkM σ τ := ⟨fun k a b c d => h.1 k (by omega) (by omega), fun j _ _ => by rw [h.1 106 (by decide) (by decide)]⟩
theorem OrM.ord {σ τ : AH} {T : TT} (h : OrM σ τ T) (hW : Wf T) {i : Nat} (hi : i < tN T) : τ.1 120 i = nI (ordT T i) := by
  obtain ⟨q1, q2⟩ := pos_ord hW hi
  have := h.2.2 _ q1
  rw [q2] at this
  exact this
theorem d_Mo_setOrder_0 : decode prog_9_method_28_code 0 = .ok (.iconst 0, 1) := by decide +kernel
theorem d_Mo_setOrder_1 : decode prog_9_method_28_code 1 = .ok (.istore_n 2, 1) := by decide +kernel
theorem d_Mo_setOrder_2 : decode prog_9_method_28_code 2 = .ok (.iload_n 2, 1) := by decide +kernel
theorem d_Mo_setOrder_3 : decode prog_9_method_28_code 3 = .ok (.aload_n 0, 1) := by decide +kernel
theorem d_Mo_setOrder_4 : decode prog_9_method_28_code 4 = .ok (.getfield 23, 3) := by decide +kernel
theorem d_Mo_setOrder_7 : decode prog_9_method_28_code 7 = .ok (.iload_n 1, 1) := by decide +kernel
theorem d_Mo_setOrder_8 : decode prog_9_method_28_code 8 = .ok (.iaload, 1) := by decide +kernel
theorem d_Mo_setOrder_9 : decode prog_9_method_28_code 9 = .ok (.if_icmp .ge 116, 3) := by decide +kernel
theorem d_Mo_setOrder_12 : decode prog_9_method_28_code 12 = .ok (.iconst 0, 1) := by decide +kernel
theorem d_Mo_setOrder_13 : decode prog_9_method_28_code 13 = .ok (.istore_n 3, 1) := by decide +kernel
theorem d_Mo_setOrder_14 : decode prog_9_method_28_code 14 = .ok (.iload_n 2, 1) := by decide +kernel
theorem d_Mo_setOrder_15 : decode prog_9_method_28_code 15 = .ok (.istore 4, 2) := by decide +kernel
theorem d_Mo_setOrder_17 : decode prog_9_method_28_code 17 = .ok (.aload_n 0, 1) := by decide +kernel
theorem d_Mo_setOrder_18 : decode prog_9_method_28_code 18 = .ok (.getfield 32, 3) := by decide +kernel
theorem d_Mo_setOrder_21 : decode prog_9_method_28_code 21 = .ok (.bipush 20, 2) := by decide +kernel
theorem d_Mo_setOrder_23 : decode prog_9_method_28_code 23 = .ok (.iload_n 1, 1) := by decide +kernel
theorem d_Mo_setOrder_24 : decode prog_9_method_28_code 24 = .ok (.imul, 1) := by decide +kernel
theorem d_Mo_setOrder_25 : decode prog_9_method_28_code 25 = .ok (.iload_n 2, 1) := by decide +kernel
theorem d_Mo_setOrder_26 : decode prog_9_method_28_code 26 = .ok (.iadd, 1) := by decide +kernel
theorem d_Mo_setOrder_27 : decode prog_9_method_28_code 27 = .ok (.iaload, 1) := by decide +kernel
theorem d_Mo_setOrder_28 : decode prog_9_method_28_code 28 = .ok (.istore 5, 2) := by decide +kernel
theorem d_Mo_setOrder_30 : decode prog_9_method_28_code 30 = .ok (.iload 5, 2) := by decide +kernel
theorem d_Mo_setOrder_32 : decode prog_9_method_28_code 32 = .ok (.ifCond .lt 73, 3) := by decide +kernel
theorem d_Mo_setOrder_35 : decode prog_9_method_28_code 35 = .ok (.iload_n 3, 1) := by decide +kernel
theorem d_Mo_setOrder_36 : decode prog_9_method_28_code 36 = .ok (.aload_n 0, 1) := by decide +kernel
theorem d_Mo_setOrder_37 : decode prog_9_method_28_code 37 = .ok (.getfield 29, 3) := by decide +kernel
theorem d_Mo_setOrder_40 : decode prog_9_method_28_code 40 = .ok (.bipush 20, 2) := by decide +kernel
theorem d_Mo_setOrder_42 : decode prog_9_method_28_code 42 = .ok (.iload_n 1, 1) := by decide +kernel
theorem d_Mo_setOrder_43 : decode prog_9_method_28_code 43 = .ok (.imul, 1) := by decide +kernel
theorem d_Mo_setOrder_44 : decode prog_9_method_28_code 44 = .ok (.iload 5, 2) := by decide +kernel
theorem d_Mo_setOrder_46 : decode prog_9_method_28_code 46 = .ok (.iadd, 1) := by decide +kernel
theorem d_Mo_setOrder_47 : decode prog_9_method_28_code 47 = .ok (.iaload, 1) := by decide +kernel
theorem d_Mo_setOrder_48 : decode prog_9_method_28_code 48 = .ok (.iload 4, 2) := by decide +kernel
theorem d_Mo_setOrder_50 : decode prog_9_method_28_code 50 = .ok (.if_icmp .ne 31, 3) := by decide +kernel
theorem d_Mo_setOrder_53 : decode prog_9_method_28_code 53 = .ok (.aload_n 0, 1) := by decide +kernel
theorem d_Mo_setOrder_54 : decode prog_9_method_28_code 54 = .ok (.getfield 44, 3) := by decide +kernel
theorem d_Mo_setOrder_57 : decode prog_9_method_28_code 57 = .ok (.bipush 20, 2) := by decide +kernel
theorem d_Mo_setOrder_59 : decode prog_9_method_28_code 59 = .ok (.iload_n 1, 1) := by decide +kernel
theorem d_Mo_setOrder_60 : decode prog_9_method_28_code 60 = .ok (.imul, 1) := by decide +kernel
theorem d_Mo_setOrder_61 : decode prog_9_method_28_code 61 = .ok (.aload_n 0, 1) := by decide +kernel
theorem d_Mo_setOrder_62 : decode prog_9_method_28_code 62 = .ok (.getfield 26, 3) := by decide +kernel
theorem d_Mo_setOrder_65 : decode prog_9_method_28_code 65 = .ok (.bipush 20, 2) := by decide +kernel
theorem d_Mo_setOrder_67 : decode prog_9_method_28_code 67 = .ok (.iload_n 1, 1) := by decide +kernel
theorem d_Mo_setOrder_68 : decode prog_9_method_28_code 68 = .ok (.imul, 1) := by decide +kernel
theorem d_Mo_setOrder_69 : decode prog_9_method_28_code 69 = .ok (.iload 5, 2) := by decide +kernel
theorem d_Mo_setOrder_71 : decode prog_9_method_28_code 71 = .ok (.iadd, 1) := by decide +kernel
theorem d_Mo_setOrder_72 : decode prog_9_method_28_code 72 = .ok (.iaload, 1) := by decide +kernel
theorem d_Mo_setOrder_73 : decode prog_9_method_28_code 73 = .ok (.iadd, 1) := by decide +kernel
theorem d_Mo_setOrder_74 : decode prog_9_method_28_code 74 = .ok (.iaload, 1) := by decide +kernel
theorem d_Mo_setOrder_75 : decode prog_9_method_28_code 75 = .ok (.invokestatic 117, 3) := by decide +kernel
theorem d_Mo_setOrder_78 : decode prog_9_method_28_code 78 = .ok (.goto 4, 3) := by decide +kernel
theorem d_Mo_setOrder_81 : decode prog_9_method_28_code 81 = .ok (.iconst 0, 1) := by decide +kernel
theorem d_Mo_setOrder_82 : decode prog_9_method_28_code 82 = .ok (.iadd, 1) := by decide +kernel
theorem d_Mo_setOrder_83 : decode prog_9_method_28_code 83 = .ok (.istore_n 3, 1) := by decide +kernel
theorem d_Mo_setOrder_84 : decode prog_9_method_28_code 84 = .ok (.iload 5, 2) := by decide +kernel
theorem d_Mo_setOrder_86 : decode prog_9_method_28_code 86 = .ok (.istore 4, 2) := by decide +kernel
theorem d_Mo_setOrder_88 : decode prog_9_method_28_code 88 = .ok (.aload_n 0, 1) := by decide +kernel
theorem d_Mo_setOrder_89 : decode prog_9_method_28_code 89 = .ok (.getfield 32, 3) := by decide +kernel
theorem d_Mo_setOrder_92 : decode prog_9_method_28_code 92 = .ok (.bipush 20, 2) := by decide +kernel
theorem d_Mo_setOrder_94 : decode prog_9_method_28_code 94 = .ok (.iload_n 1, 1) := by decide +kernel
theorem d_Mo_setOrder_95 : decode prog_9_method_28_code 95 = .ok (.imul, 1) := by decide +kernel
theorem d_Mo_setOrder_96 : decode prog_9_method_28_code 96 = .ok (.iload 5, 2) := by decide +kernel
theorem d_Mo_setOrder_98 : decode prog_9_method_28_code 98 = .ok (.iadd, 1) := by decide +kernel
theorem d_Mo_setOrder_99 : decode prog_9_method_28_code 99 = .ok (.iaload, 1) := by decide +kernel
theorem d_Mo_setOrder_100 : decode prog_9_method_28_code 100 = .ok (.istore 5, 2) := by decide +kernel
theorem d_Mo_setOrder_102 : decode prog_9_method_28_code 102 = .ok (.goto (-72), 3) := by decide +kernel
theorem d_Mo_setOrder_105 : decode prog_9_method_28_code 105 = .ok (.aload_n 0, 1) := by decide +kernel
theorem d_Mo_setOrder_106 : decode prog_9_method_28_code 106 = .ok (.getfield 53, 3) := by decide +kernel
theorem d_Mo_setOrder_109 : decode prog_9_method_28_code 109 = .ok (.iload_n 2, 1) := by decide +kernel
theorem d_Mo_setOrder_110 : decode prog_9_method_28_code 110 = .ok (.iload_n 3, 1) := by decide +kernel
theorem d_Mo_setOrder_111 : decode prog_9_method_28_code 111 = .ok (.iastore, 1) := by decide +kernel
theorem d_Mo_setOrder_112 : decode prog_9_method_28_code 112 = .ok (.aload_n 0, 1) := by decide +kernel
theorem d_Mo_setOrder_113 : decode prog_9_method_28_code 113 = .ok (.getfield 50, 3) := by decide +kernel
theorem d_Mo_setOrder_116 : decode prog_9_method_28_code 116 = .ok (.iload_n 3, 1) := by decide +kernel
theorem d_Mo_setOrder_117 : decode prog_9_method_28_code 117 = .ok (.iload_n 2, 1) := by decide +kernel
theorem d_Mo_setOrder_118 : decode prog_9_method_28_code 118 = .ok (.iastore, 1) := by decide +kernel
theorem d_Mo_setOrder_119 : decode prog_9_method_28_code 119 = .ok (.iinc 2 1, 3) := by decide +kernel
theorem d_Mo_setOrder_122 : decode prog_9_method_28_code 122 = .ok (.goto (-120), 3) := by decide +kernel
theorem d_Mo_setOrder_125 : decode prog_9_method_28_code 125 = .ok (.return_, 1) := by decide +kernel
set_option maxHeartbeats 4000000 in
set_option maxRecDepth 20000 in
theorem t_Mo_setOrder {g : GG} (G : Gok g) {σ : AH} {t : Nat} {T : TT} (ht : t < 4) (tW : Wf T) (tA : TmA σ t T) (tB : TmB σ t T) : TerV g 1 m_Mo_setOrder [rV 106, iV (nI t)] σ (fun τ => OrM σ τ T) := by
  refine TerV.mk G (by decide +kernel) rfl (Nat.le_of_ble_eq_true rfl) (fun K B Rt => ?_)
  have B : Cx g K prog_9_method_28_code 6 R_Mo 1 := B
  have Rt : RetV g K prog_9_method_28_code 6 (fun τ => OrM σ τ T) := Rt
  show AW g K 6 0 [(0, rV 106), (1, iV (nI t))] [] σ
  obtain ⟨a1, a2, a3, a4, a5, a6⟩ := id tA
  have w1 := tW.1
  have w10 := tW.2.1
  refine a_iconst B d_Mo_setOrder_0 ci_0 ?_
  refine a_istore_n (lv1 := [(0, _), (1, _), (2, _)]) B d_Mo_setOrder_1 rfl (by decide) rfl ?_
  refine a_forR (tN T) (fun l lv τ => lv = [(0, rV 106), (1, iV (nI t)), (2, iV (nI l))] ∧ (∀ k, k ≠ 120 → k ≠ 121 → τ.1 k = σ.1 k) ∧ (∀ x, x < l → τ.1 121 x = nI (posT T x)) ∧ (∀ x, x < l → τ.1 120 (posT T x) = nI x)) (fun l lv τ hl hI ihl => ?_) (fun lv τ hI => ?_) 0 (Nat.zero_le _) _ _ ⟨rfl, fun _ _ _ => rfl, fun _ h => absurd h (Nat.not_lt_zero _), fun _ h => absurd h (Nat.not_lt_zero _)⟩
  · skip
    obtain ⟨rfl, hF, hP, hO⟩ := hI
    have zA : TmA τ t T := tA.fl (fun k q2 q3 q6 q1 q8 => hF k (by omega) (by omega))
    have zB : TmB τ t T := tB.of (hF _ (by decide) (by decide)) (hF _ (by decide) (by decide))
    refine a_iload_n B d_Mo_setOrder_2 rfl rfl ?_
    refine a_aload_n B d_Mo_setOrder_3 rfl rfl ?_
    refine gf_Mo_sizes B d_Mo_setOrder_4 fl_Mo_23 ?_
    refine a_iload_n B d_Mo_setOrder_7 rfl rfl ?_
    refine a_iald B ly_111 _ rfl (by first | assumption | omega) d_Mo_setOrder_8 ?_
    rw [zA.1]
    first | refine b_icmp_ge B 125 d_Mo_setOrder_9 rfl (by omega) (by omega) (fun c_9 => ?_) (fun c_9 => ?_) | refine a_icmp_ge B 125 d_Mo_setOrder_9 rfl (fun c_9 => ?_) (fun c_9 => ?_)
    · skip
      exact absurd c_9 (by omega)
    refine a_iconst B d_Mo_setOrder_12 ci_0 ?_
    refine a_istore_n (lv1 := [(0, _), (1, _), (2, _), (3, _)]) B d_Mo_setOrder_13 rfl (by decide) rfl ?_
    refine a_iload_n B d_Mo_setOrder_14 rfl rfl ?_
    refine a_istore (lv1 := [(0, _), (1, _), (2, _), (3, _), (4, _)]) B d_Mo_setOrder_15 (by decide) rfl ?_
    refine a_aload_n B d_Mo_setOrder_17 rfl rfl ?_
    refine gf_Mo_ups B d_Mo_setOrder_18 fl_Mo_32 ?_
    refine a_bipush B d_Mo_setOrder_21 cb_20 ?_
    refine a_iload_n B d_Mo_setOrder_23 rfl rfl ?_
    first | refine b_imul B d_Mo_setOrder_24 ?_ | refine a_imul B d_Mo_setOrder_24 ?_
    refine a_iload_n B d_Mo_setOrder_25 rfl rfl ?_
    first | refine b_iadd B d_Mo_setOrder_26 ?_ | refine a_iadd B d_Mo_setOrder_26 ?_
    refine a_iald B ly_114 _ rfl (by first | assumption | omega) d_Mo_setOrder_27 ?_
    rw [up_at zA (v := l) (by omega)]
    refine a_istore (lv1 := [(0, _), (1, _), (2, _), (3, _), (4, _), (5, _)]) B d_Mo_setOrder_28 (by decide) rfl ?_
    refine a_loop (fun m lv τ9 => ∃ v p, m = 2 * tN T - 1 - v ∧ v < 2 * tN T - 1 ∧ p + posT T v = posT T l ∧ lv = [(0, rV 106), (1, iV (nI t)), (2, iV (nI l)), (3, iV (nI p)), (4, iV (nI v)), (5, iV (upI T v))] ∧ τ9 = τ) (fun m lv τ9 hm ihm => ?_) (2 * tN T - 1 - l) _ _ ⟨l, 0, rfl, by omega, by omega, rfl, rfl⟩
    obtain ⟨v, p, rfl, hv, hp, rfl, rfl⟩ := hm
    · skip
      refine a_iload B d_Mo_setOrder_30 rfl ?_
      by_cases hvt : v < 2 * tN T - 2
      · skip
        rw [show upI T v = nI (tU T v) from if_pos hvt]
        obtain ⟨u1, u2, u3, u4⟩ := tW.2.2.2.1 v hvt
        obtain ⟨c1, c2, c3, c4, c5⟩ := tW.2.2.1 _ u1 u3
        have hpe := posT_eq tW hvt
        refine b_if_lt B 105 d_Mo_setOrder_32 rfl (by first | assumption | omega) ?_
        refine a_iload_n B d_Mo_setOrder_35 rfl rfl ?_
        refine a_aload_n B d_Mo_setOrder_36 rfl rfl ?_
        refine gf_Mo_others B d_Mo_setOrder_37 fl_Mo_29 ?_
        refine a_bipush B d_Mo_setOrder_40 cb_20 ?_
        refine a_iload_n B d_Mo_setOrder_42 rfl rfl ?_
        first | refine b_imul B d_Mo_setOrder_43 ?_ | refine a_imul B d_Mo_setOrder_43 ?_
        refine a_iload B d_Mo_setOrder_44 rfl ?_
        first | refine b_iadd B d_Mo_setOrder_46 ?_ | refine a_iadd B d_Mo_setOrder_46 ?_
        refine a_iald B ly_113 _ rfl (by first | assumption | omega) d_Mo_setOrder_47 ?_
        rw [(zB.2 _ u1 u3).2]
        refine a_iload B d_Mo_setOrder_48 rfl ?_
        first | refine b_icmp_ne B 81 d_Mo_setOrder_50 rfl (by omega) (by omega) (fun c_50 => ?_) (fun c_50 => ?_) | refine a_icmp_ne B 81 d_Mo_setOrder_50 rfl (fun c_50 => ?_) (fun c_50 => ?_)
        · skip
          refine a_iconst B d_Mo_setOrder_81 ci_0 ?_
          first | refine b_iadd B d_Mo_setOrder_82 ?_ | refine a_iadd B d_Mo_setOrder_82 ?_
          refine a_istore_n (lv1 := [(0, _), (1, _), (2, _), (3, _), (4, _), (5, _)]) B d_Mo_setOrder_83 rfl (by decide) rfl ?_
          refine a_iload B d_Mo_setOrder_84 rfl ?_
          refine a_istore (lv1 := [(0, _), (1, _), (2, _), (3, _), (4, _), (5, _)]) B d_Mo_setOrder_86 (by decide) rfl ?_
          refine a_aload_n B d_Mo_setOrder_88 rfl rfl ?_
          refine gf_Mo_ups B d_Mo_setOrder_89 fl_Mo_32 ?_
          refine a_bipush B d_Mo_setOrder_92 cb_20 ?_
          refine a_iload_n B d_Mo_setOrder_94 rfl rfl ?_
          first | refine b_imul B d_Mo_setOrder_95 ?_ | refine a_imul B d_Mo_setOrder_95 ?_
          refine a_iload B d_Mo_setOrder_96 rfl ?_
          first | refine b_iadd B d_Mo_setOrder_98 ?_ | refine a_iadd B d_Mo_setOrder_98 ?_
          refine a_iald B ly_114 _ rfl (by first | assumption | omega) d_Mo_setOrder_99 ?_
          rw [up_at zA u3]
          refine a_istore (lv1 := [(0, _), (1, _), (2, _), (3, _), (4, _), (5, _)]) B d_Mo_setOrder_100 (by decide) rfl ?_
          refine a_goto B 30 d_Mo_setOrder_102 rfl ?_
          first | rw [if_pos c_50] at hpe | rw [if_neg c_50] at hpe
          exact ihm (2 * tN T - 1 - tU T v) _ _ (by omega) ⟨tU T v, _, rfl, u3, by omega, rfl, rfl⟩
        refine a_aload_n B d_Mo_setOrder_53 rfl rfl ?_
        refine gf_Mo_below B d_Mo_setOrder_54 fl_Mo_44 ?_
        refine a_bipush B d_Mo_setOrder_57 cb_20 ?_
        refine a_iload_n B d_Mo_setOrder_59 rfl rfl ?_
        first | refine b_imul B d_Mo_setOrder_60 ?_ | refine a_imul B d_Mo_setOrder_60 ?_
        refine a_aload_n B d_Mo_setOrder_61 rfl rfl ?_
        refine gf_Mo_firsts B d_Mo_setOrder_62 fl_Mo_26 ?_
        refine a_bipush B d_Mo_setOrder_65 cb_20 ?_
        refine a_iload_n B d_Mo_setOrder_67 rfl rfl ?_
        first | refine b_imul B d_Mo_setOrder_68 ?_ | refine a_imul B d_Mo_setOrder_68 ?_
        refine a_iload B d_Mo_setOrder_69 rfl ?_
        first | refine b_iadd B d_Mo_setOrder_71 ?_ | refine a_iadd B d_Mo_setOrder_71 ?_
        refine a_iald B ly_112 _ rfl (by first | assumption | omega) d_Mo_setOrder_72 ?_
        rw [(zB.2 _ u1 u3).1]
        first | refine b_iadd B d_Mo_setOrder_73 ?_ | refine a_iadd B d_Mo_setOrder_73 ?_
        refine a_iald B ly_118 _ rfl (by first | assumption | omega) d_Mo_setOrder_74 ?_
        rw [zA.2.2.2.2.2 _ (by omega)]
        refine a_callSI B (t_Mo_bits G (tW.2.2.2.2.2.2.2.1 _ (by omega))) d_Mo_setOrder_75 ok_Mo_bits ml_Mo_117 rfl (by decide) (by decide) rfl (Nat.le_of_ble_eq_true rfl) (fun r_75 τ_75 h_75 => ?_)
        obtain ⟨hr_75, hs_75⟩ := h_75
        subst hr_75
        replace hs_75 := hs_75.symm
        subst hs_75
        refine a_goto B 82 d_Mo_setOrder_78 rfl ?_
        first | refine b_iadd B d_Mo_setOrder_82 ?_ | refine a_iadd B d_Mo_setOrder_82 ?_
        refine a_istore_n (lv1 := [(0, _), (1, _), (2, _), (3, _), (4, _), (5, _)]) B d_Mo_setOrder_83 rfl (by decide) rfl ?_
        refine a_iload B d_Mo_setOrder_84 rfl ?_
        refine a_istore (lv1 := [(0, _), (1, _), (2, _), (3, _), (4, _), (5, _)]) B d_Mo_setOrder_86 (by decide) rfl ?_
        refine a_aload_n B d_Mo_setOrder_88 rfl rfl ?_
        refine gf_Mo_ups B d_Mo_setOrder_89 fl_Mo_32 ?_
        refine a_bipush B d_Mo_setOrder_92 cb_20 ?_
        refine a_iload_n B d_Mo_setOrder_94 rfl rfl ?_
        first | refine b_imul B d_Mo_setOrder_95 ?_ | refine a_imul B d_Mo_setOrder_95 ?_
        refine a_iload B d_Mo_setOrder_96 rfl ?_
        first | refine b_iadd B d_Mo_setOrder_98 ?_ | refine a_iadd B d_Mo_setOrder_98 ?_
        refine a_iald B ly_114 _ rfl (by first | assumption | omega) d_Mo_setOrder_99 ?_
        rw [up_at zA u3]
        refine a_istore (lv1 := [(0, _), (1, _), (2, _), (3, _), (4, _), (5, _)]) B d_Mo_setOrder_100 (by decide) rfl ?_
        refine a_goto B 30 d_Mo_setOrder_102 rfl ?_
        first | rw [if_pos c_50] at hpe | rw [if_neg c_50] at hpe
        exact ihm (2 * tN T - 1 - tU T v) _ _ (by omega) ⟨tU T v, _, rfl, u3, by omega, rfl, rfl⟩
      · skip
        rw [show upI T v = -9 from if_neg hvt]
        refine a_if_lt B 105 d_Mo_setOrder_32 rfl (fun _ => ?_) (fun c9 => absurd (by decide) c9)
        have hvv : v = 2 * tN T - 2 := by omega
        rw [hvv, posT_top] at hp
        have hp : p = posT T l := hp
        subst hp
        have hpl := pos_lt tW (x := l) (by omega)
        refine a_sub (lv1 := [(0, _), (1, _), (2, _), (3, _)]) rfl ?_
        refine a_aload_n B d_Mo_setOrder_105 rfl rfl ?_
        refine gf_Mo_places B d_Mo_setOrder_106 fl_Mo_53 ?_
        refine a_iload_n B d_Mo_setOrder_109 rfl rfl ?_
        refine a_iload_n B d_Mo_setOrder_110 rfl rfl ?_
        refine a_iast B ly_121 _ rfl (by first | assumption | omega) d_Mo_setOrder_111 ?_
        refine a_aload_n B d_Mo_setOrder_112 rfl rfl ?_
        refine gf_Mo_order B d_Mo_setOrder_113 fl_Mo_50 ?_
        refine a_iload_n B d_Mo_setOrder_116 rfl rfl ?_
        refine a_iload_n B d_Mo_setOrder_117 rfl rfl ?_
        refine a_iast B ly_120 _ rfl (by first | assumption | omega) d_Mo_setOrder_118 ?_
        first | refine b_iinc (lv1 := [(0, _), (1, _), (2, _), (3, _)]) B d_Mo_setOrder_119 rfl ci_1 (by decide) rfl ?_ | refine a_iinc (lv1 := [(0, _), (1, _), (2, _), (3, _)]) B d_Mo_setOrder_119 rfl rfl (by decide) rfl ?_
        refine a_goto B 2 d_Mo_setOrder_122 rfl ?_
        refine a_sub (lv1 := [(0, _), (1, _), (2, _)]) rfl ?_
        refine ihl _ _ ⟨rfl, fun k q0 q1 => by rw [up1_o q0, up1_o q1]; exact hF k q0 q1, fun x hx => ?_, fun x hx => ?_⟩
        · rw [up1_o (by decide), up1_s]
          by_cases e : x = l
          · rw [e, upd_s]
          · rw [upd_o e]; exact hP x (by omega)
        · rw [up1_s]
          by_cases e : x = l
          · rw [e, upd_s]
          · rw [upd_o (fun q => e (pos_inj tW (by omega) (by omega) q)), up1_o (by decide)]; exact hO x (by omega)
  · skip
    obtain ⟨rfl, hF, hP, hO⟩ := hI
    have zA : TmA τ t T := tA.fl (fun k q2 q3 q6 q1 q8 => hF k (by omega) (by omega))
    have zB : TmB τ t T := tB.of (hF _ (by decide) (by decide)) (hF _ (by decide) (by decide))
    refine a_iload_n B d_Mo_setOrder_2 rfl rfl ?_
    refine a_aload_n B d_Mo_setOrder_3 rfl rfl ?_
    refine gf_Mo_sizes B d_Mo_setOrder_4 fl_Mo_23 ?_
    refine a_iload_n B d_Mo_setOrder_7 rfl rfl ?_
    refine a_iald B ly_111 _ rfl (by first | assumption | omega) d_Mo_setOrder_8 ?_
    rw [zA.1]
    first | refine b_icmp_ge B 125 d_Mo_setOrder_9 rfl (by omega) (by omega) (fun c_9 => ?_) (fun c_9 => ?_) | refine a_icmp_ge B 125 d_Mo_setOrder_9 rfl (fun c_9 => ?_) (fun c_9 => ?_)
    · skip
      exact Rt _ _ _ d_Mo_setOrder_125 ⟨hF, hP, hO⟩
    exact absurd c_9 (by omega)
theorem d_Mo_order_0 : decode prog_9_method_34_code 0 = .ok (.aload_n 0, 1) := by decide +kernel
theorem d_Mo_order_1 : decode prog_9_method_34_code 1 = .ok (.iload_n 1, 1) := by decide +kernel
theorem d_Mo_order_2 : decode prog_9_method_34_code 2 = .ok (.invokevirtual 133, 3) := by decide +kernel
theorem d_Mo_order_5 : decode prog_9_method_34_code 5 = .ok (.istore_n 3, 1) := by decide +kernel
theorem d_Mo_order_6 : decode prog_9_method_34_code 6 = .ok (.iload_n 3, 1) := by decide +kernel
theorem d_Mo_order_7 : decode prog_9_method_34_code 7 = .ok (.ifCond .ge 5, 3) := by decide +kernel
theorem d_Mo_order_10 : decode prog_9_method_34_code 10 = .ok (.iload_n 3, 1) := by decide +kernel
theorem d_Mo_order_11 : decode prog_9_method_34_code 11 = .ok (.ireturn, 1) := by decide +kernel
theorem d_Mo_order_12 : decode prog_9_method_34_code 12 = .ok (.aload_n 0, 1) := by decide +kernel
theorem d_Mo_order_13 : decode prog_9_method_34_code 13 = .ok (.iload_n 1, 1) := by decide +kernel
theorem d_Mo_order_14 : decode prog_9_method_34_code 14 = .ok (.invokevirtual 146, 3) := by decide +kernel
theorem d_Mo_order_17 : decode prog_9_method_34_code 17 = .ok (.iload_n 2, 1) := by decide +kernel
theorem d_Mo_order_18 : decode prog_9_method_34_code 18 = .ok (.iconst 0, 1) := by decide +kernel
theorem d_Mo_order_19 : decode prog_9_method_34_code 19 = .ok (.aload_n 0, 1) := by decide +kernel
theorem d_Mo_order_20 : decode prog_9_method_34_code 20 = .ok (.getfield 23, 3) := by decide +kernel
theorem d_Mo_order_23 : decode prog_9_method_34_code 23 = .ok (.iload_n 1, 1) := by decide +kernel
theorem d_Mo_order_24 : decode prog_9_method_34_code 24 = .ok (.iaload, 1) := by decide +kernel
theorem d_Mo_order_25 : decode prog_9_method_34_code 25 = .ok (.iconst 1, 1) := by decide +kernel
theorem d_Mo_order_26 : decode prog_9_method_34_code 26 = .ok (.isub, 1) := by decide +kernel
theorem d_Mo_order_27 : decode prog_9_method_34_code 27 = .ok (.invokestatic 87, 3) := by decide +kernel
theorem d_Mo_order_30 : decode prog_9_method_34_code 30 = .ok (.ifCond .eq 12, 3) := by decide +kernel
theorem d_Mo_order_33 : decode prog_9_method_34_code 33 = .ok (.aload_n 0, 1) := by decide +kernel
theorem d_Mo_order_34 : decode prog_9_method_34_code 34 = .ok (.getfield 50, 3) := by decide +kernel
theorem d_Mo_order_37 : decode prog_9_method_34_code 37 = .ok (.iload_n 2, 1) := by decide +kernel
theorem d_Mo_order_38 : decode prog_9_method_34_code 38 = .ok (.iaload, 1) := by decide +kernel
theorem d_Mo_order_39 : decode prog_9_method_34_code 39 = .ok (.goto 5, 3) := by decide +kernel
theorem d_Mo_order_42 : decode prog_9_method_34_code 42 = .ok (.bipush (-9), 2) := by decide +kernel
theorem d_Mo_order_44 : decode prog_9_method_34_code 44 = .ok (.ireturn, 1) := by decide +kernel
set_option maxHeartbeats 4000000 in
set_option maxRecDepth 20000 in
theorem tM_order {g : GG} (G : Gok g) {σ : AH} {S : Sp} (hS : RelM S σ) (x y : Int32) : TerI g 3 m_Mo_order [rV 106, iV x, iV y] σ (fun r τ => r = (sp_order S x y).1 ∧ RelM (sp_order S x y).2 τ ∧ frM σ τ) := by
  refine TerI.mk G (by decide +kernel) rfl (Nat.le_of_ble_eq_true rfl) (fun K B Rt => ?_)
  have B : Cx g K prog_9_method_34_code 4 R_Mo 3 := B
  have Rt : RetI g K prog_9_method_34_code 4 (fun r τ => r = (sp_order S x y).1 ∧ RelM (sp_order S x y).2 τ ∧ frM σ τ) := Rt
  show AW g K 4 0 [(0, rV 106), (1, iV x), (2, iV y)] [] σ
  refine a_aload_n B d_Mo_order_0 rfl rfl ?_
  refine a_iload_n B d_Mo_order_1 rfl rfl ?_
  refine a_callVI (ci := 7) B (t_Mo_askedFor G hS x) d_Mo_order_2 ok_Mo_askedFor ml_Mo_133 ly_106 rfl rfl (by decide) (by decide) rfl (Nat.le_of_ble_eq_true rfl) (fun r_2 τ_2 h_2 => ?_)
  rcases h_2 with ⟨q, hq, hr9, hR9, hF9⟩ | ⟨t, hq, hr9, hs9⟩
  · skip
    subst hr9
    refine a_istore_n (lv1 := [(0, _), (1, _), (2, _), (3, _)]) B d_Mo_order_5 rfl (by decide) rfl ?_
    refine a_iload_n B d_Mo_order_6 rfl rfl ?_
    refine a_if_ge B 12 d_Mo_order_7 rfl (fun c9 => absurd (neg_nz (trQ_neg hq)).2 (Int32.not_lt.mpr c9)) (fun _ => ?_)
    refine a_iload_n B d_Mo_order_10 rfl rfl ?_
    exact Rt _ _ _ _ d_Mo_order_11 (by have e : sp_order S x y = q := (by rw [sp_order, hq]); rw [e]; exact ⟨rfl, hR9, hF9⟩)
  · skip
    subst hr9
    replace hs9 := hs9.symm
    subst hs9
    obtain ⟨ht, rfl, hn⟩ := trQ_ok hq
    obtain ⟨tW, tA, tB, tX⟩ := (hS.2.1 t ht).2 hn
    obtain ⟨a1, a2, a3, a4, a5, a6⟩ := id tA
    have w1 := tW.1
    have w10 := tW.2.1
    refine a_istore_n (lv1 := [(0, _), (1, _), (2, _), (3, _)]) B d_Mo_order_5 rfl (by decide) rfl ?_
    refine a_iload_n B d_Mo_order_6 rfl rfl ?_
    refine b_if_ge B 12 d_Mo_order_7 rfl (by first | assumption | omega) ?_
    refine a_aload_n B d_Mo_order_12 rfl rfl ?_
    refine a_iload_n B d_Mo_order_13 rfl rfl ?_
    refine a_callVV (ci := 7) B (t_Mo_setOrder G ht tW tA tB) d_Mo_order_14 ok_Mo_setOrder ml_Mo_146 ly_106 rfl rfl (by decide) (by decide) rfl (Nat.le_of_ble_eq_true rfl) (fun τ_14 h_14 => ?_)
    have hW := h_14.wk
    refine a_iload_n B d_Mo_order_17 rfl rfl ?_
    refine a_iconst B d_Mo_order_18 ci_0 ?_
    refine a_aload_n B d_Mo_order_19 rfl rfl ?_
    refine gf_Mo_sizes B d_Mo_order_20 fl_Mo_23 ?_
    refine a_iload_n B d_Mo_order_23 rfl rfl ?_
    refine a_iald B ly_111 _ rfl (by first | assumption | omega) d_Mo_order_24 ?_
    rw [h_14.1 111 (by decide) (by decide), a1]
    refine a_iconst B d_Mo_order_25 ci_1 ?_
    first | refine b_isub B (by omega) d_Mo_order_26 ?_ | refine a_isub B d_Mo_order_26 ?_
    refine a_callSI B (t_Mo_in G y (nI 0) (nI (tN (sT S t) - 1))) d_Mo_order_27 ok_Mo_in ml_Mo_87 rfl (by decide) (by decide) rfl (Nat.le_of_ble_eq_true rfl) (fun r_27 τ_27 h_27 => ?_)
    obtain ⟨hr_27, hs_27⟩ := h_27
    subst hr_27
    replace hs_27 := hs_27.symm
    subst hs_27
    first | refine b_if_eq_b B 42 d_Mo_order_30 rfl (fun c_30 => ?_) (fun c_30 => ?_) | refine a_if_eq B 42 d_Mo_order_30 rfl (fun c_30 => ?_) (fun c_30 => ?_)
    · skip
      have hqi := isS_f ((in_rngP w1 (by omega)).symm.trans c_30)
      refine a_bipush B d_Mo_order_42 cb_m9 ?_
      exact Rt _ _ _ _ d_Mo_order_44 (by first | exact (by have e : sp_order S (nI t) (nI i) = (nI (ordT (sT S t) i), S) := (by rw [sp_order, hq]; show (match rngQ (tN (sT S t)) (nI i) with | none => (-9 : Int32) | some i => nI (ordT (sT S t) i), S) = _; rw [hqi]); rw [e]; exact ⟨rfl, RelM_wk hS hW, wkM_fr hW⟩) | exact (by have e : sp_order S (nI t) y = (-9, S) := (by rw [sp_order, hq]; show (match rngQ (tN (sT S t)) y with | none => (-9 : Int32) | some i => nI (ordT (sT S t) i), S) = _; rw [hqi]); rw [e]; exact ⟨rfl, RelM_wk hS hW, wkM_fr hW⟩))
    obtain ⟨i, hqi⟩ := isS_t ((in_rngP w1 (by omega)).symm.trans c_30)
    obtain ⟨hi, rfl⟩ := rngQ_some (by omega) hqi
    refine a_aload_n B d_Mo_order_33 rfl rfl ?_
    refine gf_Mo_order B d_Mo_order_34 fl_Mo_50 ?_
    refine a_iload_n B d_Mo_order_37 rfl rfl ?_
    refine a_iald B ly_120 _ rfl (by first | assumption | omega) d_Mo_order_38 ?_
    rw [h_14.ord tW hi]
    refine a_goto B 44 d_Mo_order_39 rfl ?_
    exact Rt _ _ _ _ d_Mo_order_44 (by first | exact (by have e : sp_order S (nI t) (nI i) = (nI (ordT (sT S t) i), S) := (by rw [sp_order, hq]; show (match rngQ (tN (sT S t)) (nI i) with | none => (-9 : Int32) | some i => nI (ordT (sT S t) i), S) = _; rw [hqi]); rw [e]; exact ⟨rfl, RelM_wk hS hW, wkM_fr hW⟩) | exact (by have e : sp_order S (nI t) y = (-9, S) := (by rw [sp_order, hq]; show (match rngQ (tN (sT S t)) y with | none => (-9 : Int32) | some i => nI (ordT (sT S t) i), S) = _; rw [hqi]); rw [e]; exact ⟨rfl, RelM_wk hS hW, wkM_fr hW⟩))
theorem d_Mo_priceOf_0 : decode prog_9_method_35_code 0 = .ok (.aload_n 0, 1) := by decide +kernel
theorem d_Mo_priceOf_1 : decode prog_9_method_35_code 1 = .ok (.iload_n 1, 1) := by decide +kernel
theorem d_Mo_priceOf_2 : decode prog_9_method_35_code 2 = .ok (.invokevirtual 146, 3) := by decide +kernel
theorem d_Mo_priceOf_5 : decode prog_9_method_35_code 5 = .ok (.iconst 0, 1) := by decide +kernel
theorem d_Mo_priceOf_6 : decode prog_9_method_35_code 6 = .ok (.istore_n 2, 1) := by decide +kernel
theorem d_Mo_priceOf_7 : decode prog_9_method_35_code 7 = .ok (.iconst 1, 1) := by decide +kernel
theorem d_Mo_priceOf_8 : decode prog_9_method_35_code 8 = .ok (.istore_n 3, 1) := by decide +kernel
theorem d_Mo_priceOf_9 : decode prog_9_method_35_code 9 = .ok (.iload_n 3, 1) := by decide +kernel
theorem d_Mo_priceOf_10 : decode prog_9_method_35_code 10 = .ok (.aload_n 0, 1) := by decide +kernel
theorem d_Mo_priceOf_11 : decode prog_9_method_35_code 11 = .ok (.getfield 23, 3) := by decide +kernel
theorem d_Mo_priceOf_14 : decode prog_9_method_35_code 14 = .ok (.iload_n 1, 1) := by decide +kernel
theorem d_Mo_priceOf_15 : decode prog_9_method_35_code 15 = .ok (.iaload, 1) := by decide +kernel
theorem d_Mo_priceOf_16 : decode prog_9_method_35_code 16 = .ok (.if_icmp .ge 30, 3) := by decide +kernel
theorem d_Mo_priceOf_19 : decode prog_9_method_35_code 19 = .ok (.iload_n 2, 1) := by decide +kernel
theorem d_Mo_priceOf_20 : decode prog_9_method_35_code 20 = .ok (.aload_n 0, 1) := by decide +kernel
theorem d_Mo_priceOf_21 : decode prog_9_method_35_code 21 = .ok (.aload_n 0, 1) := by decide +kernel
theorem d_Mo_priceOf_22 : decode prog_9_method_35_code 22 = .ok (.getfield 50, 3) := by decide +kernel
theorem d_Mo_priceOf_25 : decode prog_9_method_35_code 25 = .ok (.iload_n 3, 1) := by decide +kernel
theorem d_Mo_priceOf_26 : decode prog_9_method_35_code 26 = .ok (.iconst 1, 1) := by decide +kernel
theorem d_Mo_priceOf_27 : decode prog_9_method_35_code 27 = .ok (.isub, 1) := by decide +kernel
theorem d_Mo_priceOf_28 : decode prog_9_method_35_code 28 = .ok (.iaload, 1) := by decide +kernel
theorem d_Mo_priceOf_29 : decode prog_9_method_35_code 29 = .ok (.aload_n 0, 1) := by decide +kernel
theorem d_Mo_priceOf_30 : decode prog_9_method_35_code 30 = .ok (.getfield 50, 3) := by decide +kernel
theorem d_Mo_priceOf_33 : decode prog_9_method_35_code 33 = .ok (.iload_n 3, 1) := by decide +kernel
theorem d_Mo_priceOf_34 : decode prog_9_method_35_code 34 = .ok (.iaload, 1) := by decide +kernel
theorem d_Mo_priceOf_35 : decode prog_9_method_35_code 35 = .ok (.invokevirtual 104, 3) := by decide +kernel
theorem d_Mo_priceOf_38 : decode prog_9_method_35_code 38 = .ok (.iadd, 1) := by decide +kernel
theorem d_Mo_priceOf_39 : decode prog_9_method_35_code 39 = .ok (.istore_n 2, 1) := by decide +kernel
theorem d_Mo_priceOf_40 : decode prog_9_method_35_code 40 = .ok (.iinc 3 1, 3) := by decide +kernel
theorem d_Mo_priceOf_43 : decode prog_9_method_35_code 43 = .ok (.goto (-34), 3) := by decide +kernel
theorem d_Mo_priceOf_46 : decode prog_9_method_35_code 46 = .ok (.iload_n 2, 1) := by decide +kernel
theorem d_Mo_priceOf_47 : decode prog_9_method_35_code 47 = .ok (.ireturn, 1) := by decide +kernel
set_option maxHeartbeats 4000000 in
set_option maxRecDepth 20000 in
theorem t_Mo_priceOf {g : GG} (G : Gok g) {σ : AH} {t : Nat} {T : TT} (ht : t < 4) (tW : Wf T) (tA : TmA σ t T) (tB : TmB σ t T) {n0 : Nat} {th : Nat → Bool} {pl : Nat → Nat → Nat} (hR : RoM σ n0 th pl) : TerI g 2 m_Mo_priceOf [rV 106, iV (nI t)] σ (fun r τ => r = nI (priceT (unl n0 th pl) T) ∧ OrM σ τ T) := by
  refine TerI.mk G (by decide +kernel) rfl (Nat.le_of_ble_eq_true rfl) (fun K B Rt => ?_)
  have B : Cx g K prog_9_method_35_code 4 R_Mo 2 := B
  have Rt : RetI g K prog_9_method_35_code 4 (fun r τ => r = nI (priceT (unl n0 th pl) T) ∧ OrM σ τ T) := Rt
  show AW g K 4 0 [(0, rV 106), (1, iV (nI t))] [] σ
  obtain ⟨a1, a2, a3, a4, a5, a6⟩ := id tA
  have w1 := tW.1
  have w10 := tW.2.1
  refine a_aload_n B d_Mo_priceOf_0 rfl rfl ?_
  refine a_iload_n B d_Mo_priceOf_1 rfl rfl ?_
  refine a_callVV (ci := 7) B (t_Mo_setOrder G ht tW tA tB) d_Mo_priceOf_2 ok_Mo_setOrder ml_Mo_146 ly_106 rfl rfl (by decide) (by decide) rfl (Nat.le_of_ble_eq_true rfl) (fun τ_2 h_2 => ?_)
  have zR : RoM τ_2 n0 th pl := hR.of (by rw [h_2.1 106 (by decide) (by decide)]) (h_2.1 _ (by decide) (by decide)) (h_2.1 _ (by decide) (by decide))
  refine a_iconst B d_Mo_priceOf_5 ci_0 ?_
  refine a_istore_n (lv1 := [(0, _), (1, _), (2, _)]) B d_Mo_priceOf_6 rfl (by decide) rfl ?_
  refine a_iconst B d_Mo_priceOf_7 ci_1 ?_
  refine a_istore_n (lv1 := [(0, _), (1, _), (2, _), (3, _)]) B d_Mo_priceOf_8 rfl (by decide) rfl ?_
  refine a_for (lf := fun i => [(0, rV 106), (1, iV (nI t)), (2, iV (nI (sumTo (fun i => unl n0 th pl (ordT T i) (ordT T (i + 1))) i))), (3, iV (nI (i + 1)))]) (τ := fun i => τ_2) (tN T - 1) (fun i hi ihi => ?_) ?_ 0 (Nat.zero_le _)
  · skip
    refine a_iload_n B d_Mo_priceOf_9 rfl rfl ?_
    refine a_aload_n B d_Mo_priceOf_10 rfl rfl ?_
    refine gf_Mo_sizes B d_Mo_priceOf_11 fl_Mo_23 ?_
    refine a_iload_n B d_Mo_priceOf_14 rfl rfl ?_
    refine a_iald B ly_111 _ rfl (by first | assumption | omega) d_Mo_priceOf_15 ?_
    rw [h_2.1 111 (by decide) (by decide), a1]
    first | refine b_icmp_ge B 46 d_Mo_priceOf_16 rfl (by omega) (by omega) (fun c_16 => ?_) (fun c_16 => ?_) | refine a_icmp_ge B 46 d_Mo_priceOf_16 rfl (fun c_16 => ?_) (fun c_16 => ?_)
    · skip
      exact absurd c_16 (by omega)
    refine a_iload_n B d_Mo_priceOf_19 rfl rfl ?_
    refine a_aload_n B d_Mo_priceOf_20 rfl rfl ?_
    refine a_aload_n B d_Mo_priceOf_21 rfl rfl ?_
    refine gf_Mo_order B d_Mo_priceOf_22 fl_Mo_50 ?_
    refine a_iload_n B d_Mo_priceOf_25 rfl rfl ?_
    refine a_iconst B d_Mo_priceOf_26 ci_1 ?_
    first | refine b_isub B (by omega) d_Mo_priceOf_27 ?_ | refine a_isub B d_Mo_priceOf_27 ?_
    rw [show i + 1 - 1 = i by omega]
    refine a_iald B ly_120 _ rfl (by first | assumption | omega) d_Mo_priceOf_28 ?_
    rw [h_2.ord tW (i := i) (by omega)]
    refine a_aload_n B d_Mo_priceOf_29 rfl rfl ?_
    refine gf_Mo_order B d_Mo_priceOf_30 fl_Mo_50 ?_
    refine a_iload_n B d_Mo_priceOf_33 rfl rfl ?_
    refine a_iald B ly_120 _ rfl (by first | assumption | omega) d_Mo_priceOf_34 ?_
    rw [h_2.ord tW (i := i + 1) (by omega)]
    refine a_callVI (ci := 7) B (t_Mo_unlikeness G zR (by have := (pos_ord tW (i := i) (by omega)).1; omega) (by have := (pos_ord tW (i := i + 1) (by omega)).1; omega)) d_Mo_priceOf_35 ok_Mo_unlikeness ml_Mo_104 ly_106 rfl rfl (by decide) (by decide) rfl (Nat.le_of_ble_eq_true rfl) (fun r_35 τ_35 h_35 => ?_)
    obtain ⟨hr_35, hs_35⟩ := h_35
    subst hr_35
    replace hs_35 := hs_35.symm
    subst hs_35
    first | refine b_iadd B d_Mo_priceOf_38 ?_ | refine a_iadd B d_Mo_priceOf_38 ?_
    refine a_istore_n (lv1 := [(0, _), (1, _), (2, _), (3, _)]) B d_Mo_priceOf_39 rfl (by decide) rfl ?_
    first | refine b_iinc (lv1 := [(0, _), (1, _), (2, _), (3, _)]) B d_Mo_priceOf_40 rfl ci_1 (by decide) rfl ?_ | refine a_iinc (lv1 := [(0, _), (1, _), (2, _), (3, _)]) B d_Mo_priceOf_40 rfl rfl (by decide) rfl ?_
    refine a_goto B 9 d_Mo_priceOf_43 rfl ?_
    exact ihi
  · skip
    refine a_iload_n B d_Mo_priceOf_9 rfl rfl ?_
    refine a_aload_n B d_Mo_priceOf_10 rfl rfl ?_
    refine gf_Mo_sizes B d_Mo_priceOf_11 fl_Mo_23 ?_
    refine a_iload_n B d_Mo_priceOf_14 rfl rfl ?_
    refine a_iald B ly_111 _ rfl (by first | assumption | omega) d_Mo_priceOf_15 ?_
    rw [h_2.1 111 (by decide) (by decide), a1]
    first | refine b_icmp_ge B 46 d_Mo_priceOf_16 rfl (by omega) (by omega) (fun c_16 => ?_) (fun c_16 => ?_) | refine a_icmp_ge B 46 d_Mo_priceOf_16 rfl (fun c_16 => ?_) (fun c_16 => ?_)
    · skip
      refine a_iload_n B d_Mo_priceOf_46 rfl rfl ?_
      exact Rt _ _ _ _ d_Mo_priceOf_47 ⟨rfl, h_2⟩
    exact absurd c_16 (by omega)
theorem d_Mo_price_0 : decode prog_9_method_36_code 0 = .ok (.aload_n 0, 1) := by decide +kernel
theorem d_Mo_price_1 : decode prog_9_method_36_code 1 = .ok (.iload_n 1, 1) := by decide +kernel
theorem d_Mo_price_2 : decode prog_9_method_36_code 2 = .ok (.invokevirtual 133, 3) := by decide +kernel
theorem d_Mo_price_5 : decode prog_9_method_36_code 5 = .ok (.istore_n 2, 1) := by decide +kernel
theorem d_Mo_price_6 : decode prog_9_method_36_code 6 = .ok (.iload_n 2, 1) := by decide +kernel
theorem d_Mo_price_7 : decode prog_9_method_36_code 7 = .ok (.ifCond .ge 7, 3) := by decide +kernel
theorem d_Mo_price_10 : decode prog_9_method_36_code 10 = .ok (.iload_n 2, 1) := by decide +kernel
theorem d_Mo_price_11 : decode prog_9_method_36_code 11 = .ok (.goto 13, 3) := by decide +kernel
theorem d_Mo_price_14 : decode prog_9_method_36_code 14 = .ok (.aload_n 0, 1) := by decide +kernel
theorem d_Mo_price_15 : decode prog_9_method_36_code 15 = .ok (.aload_n 0, 1) := by decide +kernel
theorem d_Mo_price_16 : decode prog_9_method_36_code 16 = .ok (.iload_n 1, 1) := by decide +kernel
theorem d_Mo_price_17 : decode prog_9_method_36_code 17 = .ok (.invokevirtual 157, 3) := by decide +kernel
theorem d_Mo_price_20 : decode prog_9_method_36_code 20 = .ok (.iconst 1, 1) := by decide +kernel
theorem d_Mo_price_21 : decode prog_9_method_36_code 21 = .ok (.invokevirtual 108, 3) := by decide +kernel
theorem d_Mo_price_24 : decode prog_9_method_36_code 24 = .ok (.ireturn, 1) := by decide +kernel
set_option maxHeartbeats 4000000 in
set_option maxRecDepth 20000 in
theorem tM_price {g : GG} (G : Gok g) {σ : AH} {S : Sp} (hS : RelM S σ) (x : Int32) : TerI g 3 m_Mo_price [rV 106, iV x] σ (fun r τ => r = (sp_price S x).1 ∧ RelM (sp_price S x).2 τ ∧ frM σ τ) := by
  refine TerI.mk G (by decide +kernel) rfl (Nat.le_of_ble_eq_true rfl) (fun K B Rt => ?_)
  have B : Cx g K prog_9_method_36_code 3 R_Mo 3 := B
  have Rt : RetI g K prog_9_method_36_code 3 (fun r τ => r = (sp_price S x).1 ∧ RelM (sp_price S x).2 τ ∧ frM σ τ) := Rt
  show AW g K 3 0 [(0, rV 106), (1, iV x)] [] σ
  refine a_aload_n B d_Mo_price_0 rfl rfl ?_
  refine a_iload_n B d_Mo_price_1 rfl rfl ?_
  refine a_callVI (ci := 7) B (t_Mo_askedFor G hS x) d_Mo_price_2 ok_Mo_askedFor ml_Mo_133 ly_106 rfl rfl (by decide) (by decide) rfl (Nat.le_of_ble_eq_true rfl) (fun r_2 τ_2 h_2 => ?_)
  rcases h_2 with ⟨q, hq, hr9, hR9, hF9⟩ | ⟨t, hq, hr9, hs9⟩
  · skip
    subst hr9
    refine a_istore_n (lv1 := [(0, _), (1, _), (2, _)]) B d_Mo_price_5 rfl (by decide) rfl ?_
    refine a_iload_n B d_Mo_price_6 rfl rfl ?_
    refine a_if_ge B 14 d_Mo_price_7 rfl (fun c9 => absurd (neg_nz (trQ_neg hq)).2 (Int32.not_lt.mpr c9)) (fun _ => ?_)
    refine a_iload_n B d_Mo_price_10 rfl rfl ?_
    refine a_goto B 24 d_Mo_price_11 rfl ?_
    exact Rt _ _ _ _ d_Mo_price_24 (by first | exact (by have e : sp_price S x = q := (by rw [sp_price, hq]); rw [e]; exact ⟨rfl, hR9, hF9⟩) | exact (by have e : sp_price S (nI t) = (1, pA S (nI (priceT (uS S) (sT S t)))) := (by rw [sp_price, hq]); rw [e]; exact ⟨rfl, RelM_asked (RelM_wk hS hO.wk), frM_tr (wkM_fr hO.wk) frM_ask⟩))
  · skip
    subst hr9
    replace hs9 := hs9.symm
    subst hs9
    obtain ⟨ht, rfl, hn⟩ := trQ_ok hq
    obtain ⟨tW, tA, tB, tX⟩ := (hS.2.1 t ht).2 hn
    obtain ⟨a1, a2, a3, a4, a5, a6⟩ := id tA
    have w1 := tW.1
    have w10 := tW.2.1
    refine a_istore_n (lv1 := [(0, _), (1, _), (2, _)]) B d_Mo_price_5 rfl (by decide) rfl ?_
    refine a_iload_n B d_Mo_price_6 rfl rfl ?_
    refine b_if_ge B 14 d_Mo_price_7 rfl (by first | assumption | omega) ?_
    refine a_aload_n B d_Mo_price_14 rfl rfl ?_
    refine a_aload_n B d_Mo_price_15 rfl rfl ?_
    refine a_iload_n B d_Mo_price_16 rfl rfl ?_
    refine a_callVI (ci := 7) B (t_Mo_priceOf G ht tW tA tB hS.1) d_Mo_price_17 ok_Mo_priceOf ml_Mo_157 ly_106 rfl rfl (by decide) (by decide) rfl (Nat.le_of_ble_eq_true rfl) (fun r_17 τ_17 h_17 => ?_)
    obtain ⟨hr_17, hO⟩ := h_17
    subst hr_17
    refine a_iconst B d_Mo_price_20 ci_1 ?_
    refine a_callVI (ci := 7) B (t_Mo_ask G _ (nI 1)) d_Mo_price_21 ok_Mo_ask ml_Mo_108 ly_106 rfl rfl (by decide) (by decide) rfl (Nat.le_of_ble_eq_true rfl) (fun r_21 τ_21 h_21 => ?_)
    obtain ⟨hr_21, hs_21⟩ := h_21
    subst hr_21
    subst hs_21
    exact Rt _ _ _ _ d_Mo_price_24 (by first | exact (by have e : sp_price S x = q := (by rw [sp_price, hq]); rw [e]; exact ⟨rfl, hR9, hF9⟩) | exact (by have e : sp_price S (nI t) = (1, pA S (nI (priceT (uS S) (sT S t)))) := (by rw [sp_price, hq]); rw [e]; exact ⟨rfl, RelM_asked (RelM_wk hS hO.wk), frM_tr (wkM_fr hO.wk) frM_ask⟩))
theorem bit10 {a i : Nat} (ha : a < 1024) (h : 10 ≤ i) : a.testBit i = false := Nat.testBit_lt_two_pow (Nat.lt_of_lt_of_le ha (show 2 ^ 10 ≤ 2 ^ i from Nat.pow_le_pow_right (by decide) h))
theorem and_not {a b : Nat} (ha : a < 1024) : nI a &&& (nI b ^^^ (-1)) = nI (a &&& (1023 ^^^ b)) := by
  apply Int32.toBitVec_inj.mp
  show BitVec.ofNat 32 a &&& (BitVec.ofNat 32 b ^^^ BitVec.allOnes 32) = BitVec.ofNat 32 (a &&& (1023 ^^^ b))
  apply BitVec.eq_of_getLsbD_eq
  intro i hi
  simp only [BitVec.getLsbD_and, BitVec.getLsbD_xor, BitVec.getLsbD_ofNat, BitVec.getLsbD_allOnes, hi, decide_true, Bool.true_and, Nat.testBit_and, Nat.testBit_xor]
  by_cases h : i < 10
  · have e : Nat.testBit 1023 i = true := by rw [show (1023 : Nat) = 2 ^ 10 - 1 from rfl, Nat.testBit_two_pow_sub_one]; exact decide_eq_true h
    rw [e]
    cases a.testBit i <;> cases b.testBit i <;> rfl
  · have e : a.testBit i = false := bit10 ha (by omega)
    rw [e]
    simp
def subB (T : TT) (v e : Nat) : Bool := !decide (v = e) && decide (tM T v &&& (1023 ^^^ tM T e) = 0)
theorem sub_iff {T : TT} {v e : Nat} (hv : tM T v < 1024) : tM T v &&& (1023 ^^^ tM T e) = 0 ↔ ∀ x, hasL T v x = true → hasL T e x = true := by
  constructor
  · intro h x hx
    have hb : (tM T v &&& (1023 ^^^ tM T e)).testBit x = false := by rw [h]; exact Nat.zero_testBit x
    rw [Nat.testBit_and, Nat.testBit_xor, show (tM T v).testBit x = true from hx] at hb
    have h10 : x < 10 := by
      refine Nat.lt_of_not_le (fun q => ?_)
      have : (tM T v).testBit x = false := bit10 hv q
      rw [show (tM T v).testBit x = true from hx] at this
      cases this
    have e9 : Nat.testBit 1023 x = true := by rw [show (1023 : Nat) = 2 ^ 10 - 1 from rfl, Nat.testBit_two_pow_sub_one]; exact decide_eq_true h10
    rw [e9] at hb
    unfold hasL
    revert hb
    cases (tM T e).testBit x <;> simp
  · intro h
    apply Nat.eq_of_testBit_eq
    intro x
    rw [Nat.zero_testBit, Nat.testBit_and, Nat.testBit_xor]
    by_cases hx : (tM T v).testBit x = true
    · have h10 : x < 10 := by
        refine Nat.lt_of_not_le (fun q => ?_)
        have : (tM T v).testBit x = false := bit10 hv q
        rw [hx] at this
        cases this
      have e9 : Nat.testBit 1023 x = true := by rw [show (1023 : Nat) = 2 ^ 10 - 1 from rfl, Nat.testBit_two_pow_sub_one]; exact decide_eq_true h10
      rw [show (tM T e).testBit x = true from h x hx, e9]
      simp
    · simp [hx]
theorem sub_hi {T : TT} (hW : Wf T) {v e : Nat} (h : e < v) (hv : v < 2 * tN T - 1) : ¬ ∀ x, hasL T v x = true → hasL T e x = true := by
  intro hs
  obtain ⟨x, hx⟩ := hasL_ex hW v hv
  have he := hs x hx
  obtain ⟨q1, q2⟩ := lam hW v e h hv he hx
  obtain ⟨u1, u2, u3, u4⟩ := hW.2.2.2.1 e (by omega)
  obtain ⟨c1, c2, c3, c4, c5⟩ := hW.2.2.1 _ u1 u3
  have hUv : ∀ y, hasL T (tU T e) y = true → hasL T v y = true := by
    rcases Nat.lt_or_eq_of_le q1 with hlt | heq
    · have hx2 : hasL T (tU T e) x = true := by
        rw [hasL_join hW u1 u3]
        rcases u4 with u4 | u4
        · rw [u4, he]; rfl
        · rw [u4, he, Bool.or_true]
      exact (lam hW v (tU T e) hlt hv hx2 hx).2
    · rw [heq]; exact fun y hy => hy
  rcases u4 with u4 | u4
  · obtain ⟨y, hy⟩ := hasL_ex hW (tR T (tU T e)) (by omega)
    have h1 := hs y (hUv y (by rw [hasL_join hW u1 u3, hy, Bool.or_true]))
    rw [← u4] at h1
    exact hasL_dis hW u1 u3 ⟨h1, hy⟩
  · obtain ⟨y, hy⟩ := hasL_ex hW (tL T (tU T e)) (by omega)
    have h1 := hs y (hUv y (by rw [hasL_join hW u1 u3, hy]; rfl))
    rw [← u4] at h1
    exact hasL_dis hW u1 u3 ⟨hy, h1⟩
theorem sub_lo {T : TT} (hW : Wf T) {v e : Nat} (h : v < e) (he : e < 2 * tN T - 1) : (tM T v &&& (1023 ^^^ tM T e) = 0) ↔ tM T v &&& tM T e ≠ 0 := by
  rw [sub_iff (hW.2.2.2.2.2.2.2.1 v (by omega))]
  constructor
  · intro hs hz
    obtain ⟨x, hx⟩ := hasL_ex hW v (by omega)
    have hb : (tM T v &&& tM T e).testBit x = false := by rw [hz]; exact Nat.zero_testBit x
    rw [Nat.testBit_and, show (tM T v).testBit x = true from hx, show (tM T e).testBit x = true from hs x hx] at hb
    cases hb
  · intro hz
    have : ∃ x, (tM T v &&& tM T e).testBit x = true := Nat.exists_testBit_of_ne_zero hz
    obtain ⟨x, hx⟩ := this
    rw [Nat.testBit_and, Bool.and_eq_true] at hx
    exact (lam hW e v h he hx.1 hx.2).2
theorem cntB_more {p : Nat → Bool} {a : Nat} : ∀ b, (∀ k, a ≤ k → k < a + b → p k = false) → cntB p (a + b) = cntB p a
  | 0, _ => rfl
  | b + 1, h => by
    rw [show a + (b + 1) = (a + b) + 1 from rfl, cntB_f (h (a + b) (by omega) (by omega))]
    exact cntB_more b (fun k q1 q2 => h k q1 (by omega))
theorem below_eq {T : TT} (hW : Wf T) {e : Nat} (h1 : tN T ≤ e) (h2 : e < 2 * tN T - 1) : cntB (fun k => tD T (tN T + k) && subB T (tN T + k) e) (tN T - 1) = belowT T e := by
  unfold belowT
  rw [show tN T - 1 = (e - tN T) + (2 * tN T - 1 - e) by omega, cntB_more]
  · refine cntB_congr (fun k hk => ?_)
    unfold subB
    rw [decide_eq_false (show ¬ tN T + k = e by omega), Bool.not_false, Bool.true_and]
    congr 1
    exact decide_eq_decide.mpr (sub_lo hW (by omega) h2)
  · intro k q1 q2
    unfold subB
    by_cases e9 : tN T + k = e
    · rw [decide_eq_true e9]; simp
    · rw [decide_eq_false (p := tM T (tN T + k) &&& (1023 ^^^ tM T e) = 0) (fun q => sub_hi hW (show e < tN T + k by omega) (by omega) ((sub_iff (hW.2.2.2.2.2.2.2.1 _ (by omega))).mp q))]; simp
theorem d_Mo_isBelow_0 : decode prog_9_method_29_code 0 = .ok (.iload_n 2, 1) := by decide +kernel
theorem d_Mo_isBelow_1 : decode prog_9_method_29_code 1 = .ok (.iload_n 3, 1) := by decide +kernel
theorem d_Mo_isBelow_2 : decode prog_9_method_29_code 2 = .ok (.if_icmp .eq 35, 3) := by decide +kernel
theorem d_Mo_isBelow_5 : decode prog_9_method_29_code 5 = .ok (.aload_n 0, 1) := by decide +kernel
theorem d_Mo_isBelow_6 : decode prog_9_method_29_code 6 = .ok (.getfield 44, 3) := by decide +kernel
theorem d_Mo_isBelow_9 : decode prog_9_method_29_code 9 = .ok (.bipush 20, 2) := by decide +kernel
theorem d_Mo_isBelow_11 : decode prog_9_method_29_code 11 = .ok (.iload_n 1, 1) := by decide +kernel
theorem d_Mo_isBelow_12 : decode prog_9_method_29_code 12 = .ok (.imul, 1) := by decide +kernel
theorem d_Mo_isBelow_13 : decode prog_9_method_29_code 13 = .ok (.iload_n 2, 1) := by decide +kernel
theorem d_Mo_isBelow_14 : decode prog_9_method_29_code 14 = .ok (.iadd, 1) := by decide +kernel
theorem d_Mo_isBelow_15 : decode prog_9_method_29_code 15 = .ok (.iaload, 1) := by decide +kernel
theorem d_Mo_isBelow_16 : decode prog_9_method_29_code 16 = .ok (.aload_n 0, 1) := by decide +kernel
theorem d_Mo_isBelow_17 : decode prog_9_method_29_code 17 = .ok (.getfield 44, 3) := by decide +kernel
theorem d_Mo_isBelow_20 : decode prog_9_method_29_code 20 = .ok (.bipush 20, 2) := by decide +kernel
theorem d_Mo_isBelow_22 : decode prog_9_method_29_code 22 = .ok (.iload_n 1, 1) := by decide +kernel
theorem d_Mo_isBelow_23 : decode prog_9_method_29_code 23 = .ok (.imul, 1) := by decide +kernel
theorem d_Mo_isBelow_24 : decode prog_9_method_29_code 24 = .ok (.iload_n 3, 1) := by decide +kernel
theorem d_Mo_isBelow_25 : decode prog_9_method_29_code 25 = .ok (.iadd, 1) := by decide +kernel
theorem d_Mo_isBelow_26 : decode prog_9_method_29_code 26 = .ok (.iaload, 1) := by decide +kernel
theorem d_Mo_isBelow_27 : decode prog_9_method_29_code 27 = .ok (.iconst (-1), 1) := by decide +kernel
theorem d_Mo_isBelow_28 : decode prog_9_method_29_code 28 = .ok (.ixor, 1) := by decide +kernel
theorem d_Mo_isBelow_29 : decode prog_9_method_29_code 29 = .ok (.iand, 1) := by decide +kernel
theorem d_Mo_isBelow_30 : decode prog_9_method_29_code 30 = .ok (.ifCond .ne 7, 3) := by decide +kernel
theorem d_Mo_isBelow_33 : decode prog_9_method_29_code 33 = .ok (.iconst 1, 1) := by decide +kernel
theorem d_Mo_isBelow_34 : decode prog_9_method_29_code 34 = .ok (.goto 4, 3) := by decide +kernel
theorem d_Mo_isBelow_37 : decode prog_9_method_29_code 37 = .ok (.iconst 0, 1) := by decide +kernel
theorem d_Mo_isBelow_38 : decode prog_9_method_29_code 38 = .ok (.ireturn, 1) := by decide +kernel
set_option maxHeartbeats 4000000 in
set_option maxRecDepth 20000 in
theorem t_Mo_isBelow {g : GG} (G : Gok g) {σ : AH} {t : Nat} {T : TT} (ht : t < 4) (tW : Wf T) (tA : TmA σ t T) {v e : Nat} (hv : v < 2 * tN T - 1) (he : e < 2 * tN T - 1) : TerI g 0 m_Mo_isBelow [rV 106, iV (nI t), iV (nI v), iV (nI e)] σ (fun r τ => r = bI (subB T v e) ∧ τ = σ) := by
  refine TerI.mkZ G (by decide +kernel) rfl (Nat.le_of_ble_eq_true rfl) (fun K B Rt => ?_)
  have B : Cx g K prog_9_method_29_code 4 R_Mo 0 := B
  have Rt : RetZ g K prog_9_method_29_code 4 (fun r τ => r = bI (subB T v e) ∧ τ = σ) := Rt
  show AW g K 4 0 [(0, rV 106), (1, iV (nI t)), (2, iV (nI v)), (3, iV (nI e))] [] σ
  obtain ⟨a1, a2, a3, a4, a5, a6⟩ := id tA
  have w1 := tW.1
  have w10 := tW.2.1
  have m1 := tW.2.2.2.2.2.2.2.1 v hv
  have m2 := tW.2.2.2.2.2.2.2.1 e he
  refine a_iload_n B d_Mo_isBelow_0 rfl rfl ?_
  refine a_iload_n B d_Mo_isBelow_1 rfl rfl ?_
  first | refine b_icmp_eq B 37 d_Mo_isBelow_2 rfl (by omega) (by omega) (fun c_2 => ?_) (fun c_2 => ?_) | refine a_icmp_eq B 37 d_Mo_isBelow_2 rfl (fun c_2 => ?_) (fun c_2 => ?_)
  · skip
    refine a_iconst B d_Mo_isBelow_37 ci_0 ?_
    exact Rt _ _ _ _ d_Mo_isBelow_38 (by first | exact Or.inl rfl | exact Or.inr rfl) ⟨by first | exact bI_t (by unfold subB; rw [decide_eq_false c_2, decide_eq_true (nI_z (by omega) c_30)]; rfl) | exact bI_f (by unfold subB; rw [decide_eq_true c_2]; rfl) | exact bI_f (by unfold subB; rw [decide_eq_false (p := tM T v &&& (1023 ^^^ tM T e) = 0) (fun q => c_30 (by rw [q]; rfl))]; simp), rfl⟩
  refine a_aload_n B d_Mo_isBelow_5 rfl rfl ?_
  refine gf_Mo_below B d_Mo_isBelow_6 fl_Mo_44 ?_
  refine a_bipush B d_Mo_isBelow_9 cb_20 ?_
  refine a_iload_n B d_Mo_isBelow_11 rfl rfl ?_
  first | refine b_imul B d_Mo_isBelow_12 ?_ | refine a_imul B d_Mo_isBelow_12 ?_
  refine a_iload_n B d_Mo_isBelow_13 rfl rfl ?_
  first | refine b_iadd B d_Mo_isBelow_14 ?_ | refine a_iadd B d_Mo_isBelow_14 ?_
  refine a_iald B ly_118 _ rfl (by first | assumption | omega) d_Mo_isBelow_15 ?_
  rw [a6 v hv]
  refine a_aload_n B d_Mo_isBelow_16 rfl rfl ?_
  refine gf_Mo_below B d_Mo_isBelow_17 fl_Mo_44 ?_
  refine a_bipush B d_Mo_isBelow_20 cb_20 ?_
  refine a_iload_n B d_Mo_isBelow_22 rfl rfl ?_
  first | refine b_imul B d_Mo_isBelow_23 ?_ | refine a_imul B d_Mo_isBelow_23 ?_
  refine a_iload_n B d_Mo_isBelow_24 rfl rfl ?_
  first | refine b_iadd B d_Mo_isBelow_25 ?_ | refine a_iadd B d_Mo_isBelow_25 ?_
  refine a_iald B ly_118 _ rfl (by first | assumption | omega) d_Mo_isBelow_26 ?_
  rw [a6 e he]
  refine a_iconst B d_Mo_isBelow_27 ci_m1 ?_
  refine a_ixor B d_Mo_isBelow_28 ?_
  refine a_iand B d_Mo_isBelow_29 ?_
  rw [and_not m1]
  have m3 : tM T v &&& (1023 ^^^ tM T e) < 1024 := Nat.lt_of_le_of_lt Nat.and_le_left m1
  first | refine b_if_ne_b B 37 d_Mo_isBelow_30 rfl (fun c_30 => ?_) (fun c_30 => ?_) | refine a_if_ne B 37 d_Mo_isBelow_30 rfl (fun c_30 => ?_) (fun c_30 => ?_)
  · skip
    refine a_iconst B d_Mo_isBelow_37 ci_0 ?_
    exact Rt _ _ _ _ d_Mo_isBelow_38 (by first | exact Or.inl rfl | exact Or.inr rfl) ⟨by first | exact bI_t (by unfold subB; rw [decide_eq_false c_2, decide_eq_true (nI_z (by omega) c_30)]; rfl) | exact bI_f (by unfold subB; rw [decide_eq_true c_2]; rfl) | exact bI_f (by unfold subB; rw [decide_eq_false (p := tM T v &&& (1023 ^^^ tM T e) = 0) (fun q => c_30 (by rw [q]; rfl))]; simp), rfl⟩
  refine a_iconst B d_Mo_isBelow_33 ci_1 ?_
  refine a_goto B 38 d_Mo_isBelow_34 rfl ?_
  exact Rt _ _ _ _ d_Mo_isBelow_38 (by first | exact Or.inl rfl | exact Or.inr rfl) ⟨by first | exact bI_t (by unfold subB; rw [decide_eq_false c_2, decide_eq_true (nI_z (by omega) c_30)]; rfl) | exact bI_f (by unfold subB; rw [decide_eq_true c_2]; rfl) | exact bI_f (by unfold subB; rw [decide_eq_false (p := tM T v &&& (1023 ^^^ tM T e) = 0) (fun q => c_30 (by rw [q]; rfl))]; simp), rfl⟩
theorem kind_of {T : TT} {v k : Nat} (h1 : 1 ≤ k) (h3 : k ≤ 3) : isOfT T v k = decide (kindT T v = k ∨ (k = 2 ∧ kindT T v = 3)) := by
  unfold isOfT kindT
  by_cases hv : v < tN T
  · rw [if_pos hv]
    rcases (by omega : k = 1 ∨ k = 2 ∨ k = 3) with rfl | rfl | rfl
    · simp [hv]
    · simp [hv]
    · simp [hv]
      intro q
      omega
  · rw [if_neg hv]
    rcases (by omega : k = 1 ∨ k = 2 ∨ k = 3) with rfl | rfl | rfl
    · cases tD T v <;> simp [hv]
    · cases tD T v <;> simp [hv]; omega; omega
    · cases tD T v <;> simp [hv]; omega
theorem d_Mo_mark_0 : decode prog_9_method_30_code 0 = .ok (.iload_n 3, 1) := by decide +kernel
theorem d_Mo_mark_1 : decode prog_9_method_30_code 1 = .ok (.iconst 1, 1) := by decide +kernel
theorem d_Mo_mark_2 : decode prog_9_method_30_code 2 = .ok (.iconst 3, 1) := by decide +kernel
theorem d_Mo_mark_3 : decode prog_9_method_30_code 3 = .ok (.invokestatic 87, 3) := by decide +kernel
theorem d_Mo_mark_6 : decode prog_9_method_30_code 6 = .ok (.ifCond .ne 5, 3) := by decide +kernel
theorem d_Mo_mark_9 : decode prog_9_method_30_code 9 = .ok (.iconst (-1), 1) := by decide +kernel
theorem d_Mo_mark_10 : decode prog_9_method_30_code 10 = .ok (.ireturn, 1) := by decide +kernel
theorem d_Mo_mark_11 : decode prog_9_method_30_code 11 = .ok (.aload_n 0, 1) := by decide +kernel
theorem d_Mo_mark_12 : decode prog_9_method_30_code 12 = .ok (.iload_n 1, 1) := by decide +kernel
theorem d_Mo_mark_13 : decode prog_9_method_30_code 13 = .ok (.iload_n 2, 1) := by decide +kernel
theorem d_Mo_mark_14 : decode prog_9_method_30_code 14 = .ok (.invokevirtual 139, 3) := by decide +kernel
theorem d_Mo_mark_17 : decode prog_9_method_30_code 17 = .ok (.istore 4, 2) := by decide +kernel
theorem d_Mo_mark_19 : decode prog_9_method_30_code 19 = .ok (.iload 4, 2) := by decide +kernel
theorem d_Mo_mark_21 : decode prog_9_method_30_code 21 = .ok (.ifCond .ge 6, 3) := by decide +kernel
theorem d_Mo_mark_24 : decode prog_9_method_30_code 24 = .ok (.iload 4, 2) := by decide +kernel
theorem d_Mo_mark_26 : decode prog_9_method_30_code 26 = .ok (.ireturn, 1) := by decide +kernel
theorem d_Mo_mark_27 : decode prog_9_method_30_code 27 = .ok (.aload_n 0, 1) := by decide +kernel
theorem d_Mo_mark_28 : decode prog_9_method_30_code 28 = .ok (.iload_n 1, 1) := by decide +kernel
theorem d_Mo_mark_29 : decode prog_9_method_30_code 29 = .ok (.iload_n 2, 1) := by decide +kernel
theorem d_Mo_mark_30 : decode prog_9_method_30_code 30 = .ok (.invokevirtual 136, 3) := by decide +kernel
theorem d_Mo_mark_33 : decode prog_9_method_30_code 33 = .ok (.istore 5, 2) := by decide +kernel
theorem d_Mo_mark_35 : decode prog_9_method_30_code 35 = .ok (.iload 5, 2) := by decide +kernel
theorem d_Mo_mark_37 : decode prog_9_method_30_code 37 = .ok (.iload_n 3, 1) := by decide +kernel
theorem d_Mo_mark_38 : decode prog_9_method_30_code 38 = .ok (.if_icmp .eq 20, 3) := by decide +kernel
theorem d_Mo_mark_41 : decode prog_9_method_30_code 41 = .ok (.iload_n 3, 1) := by decide +kernel
theorem d_Mo_mark_42 : decode prog_9_method_30_code 42 = .ok (.iconst 2, 1) := by decide +kernel
theorem d_Mo_mark_43 : decode prog_9_method_30_code 43 = .ok (.if_icmp .ne 9, 3) := by decide +kernel
theorem d_Mo_mark_46 : decode prog_9_method_30_code 46 = .ok (.iload 5, 2) := by decide +kernel
theorem d_Mo_mark_48 : decode prog_9_method_30_code 48 = .ok (.iconst 3, 1) := by decide +kernel
theorem d_Mo_mark_49 : decode prog_9_method_30_code 49 = .ok (.if_icmp .eq 9, 3) := by decide +kernel
theorem d_Mo_mark_52 : decode prog_9_method_30_code 52 = .ok (.aload_n 0, 1) := by decide +kernel
theorem d_Mo_mark_53 : decode prog_9_method_30_code 53 = .ok (.iconst 3, 1) := by decide +kernel
theorem d_Mo_mark_54 : decode prog_9_method_30_code 54 = .ok (.invokevirtual 95, 3) := by decide +kernel
theorem d_Mo_mark_57 : decode prog_9_method_30_code 57 = .ok (.ireturn, 1) := by decide +kernel
theorem d_Mo_mark_58 : decode prog_9_method_30_code 58 = .ok (.iload_n 3, 1) := by decide +kernel
theorem d_Mo_mark_59 : decode prog_9_method_30_code 59 = .ok (.iconst 1, 1) := by decide +kernel
theorem d_Mo_mark_60 : decode prog_9_method_30_code 60 = .ok (.if_icmp .ne 15, 3) := by decide +kernel
theorem d_Mo_mark_63 : decode prog_9_method_30_code 63 = .ok (.aload_n 0, 1) := by decide +kernel
theorem d_Mo_mark_64 : decode prog_9_method_30_code 64 = .ok (.iload_n 1, 1) := by decide +kernel
theorem d_Mo_mark_65 : decode prog_9_method_30_code 65 = .ok (.invokevirtual 146, 3) := by decide +kernel
theorem d_Mo_mark_68 : decode prog_9_method_30_code 68 = .ok (.aload_n 0, 1) := by decide +kernel
theorem d_Mo_mark_69 : decode prog_9_method_30_code 69 = .ok (.getfield 53, 3) := by decide +kernel
theorem d_Mo_mark_72 : decode prog_9_method_30_code 72 = .ok (.iload_n 2, 1) := by decide +kernel
theorem d_Mo_mark_73 : decode prog_9_method_30_code 73 = .ok (.iaload, 1) := by decide +kernel
theorem d_Mo_mark_74 : decode prog_9_method_30_code 74 = .ok (.ireturn, 1) := by decide +kernel
theorem d_Mo_mark_75 : decode prog_9_method_30_code 75 = .ok (.iload_n 3, 1) := by decide +kernel
theorem d_Mo_mark_76 : decode prog_9_method_30_code 76 = .ok (.iconst 2, 1) := by decide +kernel
theorem d_Mo_mark_77 : decode prog_9_method_30_code 77 = .ok (.if_icmp .ne 15, 3) := by decide +kernel
theorem d_Mo_mark_80 : decode prog_9_method_30_code 80 = .ok (.aload_n 0, 1) := by decide +kernel
theorem d_Mo_mark_81 : decode prog_9_method_30_code 81 = .ok (.getfield 38, 3) := by decide +kernel
theorem d_Mo_mark_84 : decode prog_9_method_30_code 84 = .ok (.bipush 20, 2) := by decide +kernel
theorem d_Mo_mark_86 : decode prog_9_method_30_code 86 = .ok (.iload_n 1, 1) := by decide +kernel
theorem d_Mo_mark_87 : decode prog_9_method_30_code 87 = .ok (.imul, 1) := by decide +kernel
theorem d_Mo_mark_88 : decode prog_9_method_30_code 88 = .ok (.iload_n 2, 1) := by decide +kernel
theorem d_Mo_mark_89 : decode prog_9_method_30_code 89 = .ok (.iadd, 1) := by decide +kernel
theorem d_Mo_mark_90 : decode prog_9_method_30_code 90 = .ok (.iaload, 1) := by decide +kernel
theorem d_Mo_mark_91 : decode prog_9_method_30_code 91 = .ok (.ireturn, 1) := by decide +kernel
theorem d_Mo_mark_92 : decode prog_9_method_30_code 92 = .ok (.iconst 0, 1) := by decide +kernel
theorem d_Mo_mark_93 : decode prog_9_method_30_code 93 = .ok (.istore 6, 2) := by decide +kernel
theorem d_Mo_mark_95 : decode prog_9_method_30_code 95 = .ok (.aload_n 0, 1) := by decide +kernel
theorem d_Mo_mark_96 : decode prog_9_method_30_code 96 = .ok (.getfield 23, 3) := by decide +kernel
theorem d_Mo_mark_99 : decode prog_9_method_30_code 99 = .ok (.iload_n 1, 1) := by decide +kernel
theorem d_Mo_mark_100 : decode prog_9_method_30_code 100 = .ok (.iaload, 1) := by decide +kernel
theorem d_Mo_mark_101 : decode prog_9_method_30_code 101 = .ok (.istore 7, 2) := by decide +kernel
theorem d_Mo_mark_103 : decode prog_9_method_30_code 103 = .ok (.iload 7, 2) := by decide +kernel
theorem d_Mo_mark_105 : decode prog_9_method_30_code 105 = .ok (.aload_n 0, 1) := by decide +kernel
theorem d_Mo_mark_106 : decode prog_9_method_30_code 106 = .ok (.iload_n 1, 1) := by decide +kernel
theorem d_Mo_mark_107 : decode prog_9_method_30_code 107 = .ok (.invokevirtual 123, 3) := by decide +kernel
theorem d_Mo_mark_110 : decode prog_9_method_30_code 110 = .ok (.if_icmp .ge 45, 3) := by decide +kernel
theorem d_Mo_mark_113 : decode prog_9_method_30_code 113 = .ok (.iload 6, 2) := by decide +kernel
theorem d_Mo_mark_115 : decode prog_9_method_30_code 115 = .ok (.aload_n 0, 1) := by decide +kernel
theorem d_Mo_mark_116 : decode prog_9_method_30_code 116 = .ok (.getfield 41, 3) := by decide +kernel
theorem d_Mo_mark_119 : decode prog_9_method_30_code 119 = .ok (.bipush 20, 2) := by decide +kernel
theorem d_Mo_mark_121 : decode prog_9_method_30_code 121 = .ok (.iload_n 1, 1) := by decide +kernel
theorem d_Mo_mark_122 : decode prog_9_method_30_code 122 = .ok (.imul, 1) := by decide +kernel
theorem d_Mo_mark_123 : decode prog_9_method_30_code 123 = .ok (.iload 7, 2) := by decide +kernel
theorem d_Mo_mark_125 : decode prog_9_method_30_code 125 = .ok (.iadd, 1) := by decide +kernel
theorem d_Mo_mark_126 : decode prog_9_method_30_code 126 = .ok (.baload, 1) := by decide +kernel
theorem d_Mo_mark_127 : decode prog_9_method_30_code 127 = .ok (.ifCond .eq 18, 3) := by decide +kernel
theorem d_Mo_mark_130 : decode prog_9_method_30_code 130 = .ok (.aload_n 0, 1) := by decide +kernel
theorem d_Mo_mark_131 : decode prog_9_method_30_code 131 = .ok (.iload_n 1, 1) := by decide +kernel
theorem d_Mo_mark_132 : decode prog_9_method_30_code 132 = .ok (.iload 7, 2) := by decide +kernel
theorem d_Mo_mark_134 : decode prog_9_method_30_code 134 = .ok (.iload_n 2, 1) := by decide +kernel
theorem d_Mo_mark_135 : decode prog_9_method_30_code 135 = .ok (.invokevirtual 150, 3) := by decide +kernel
theorem d_Mo_mark_138 : decode prog_9_method_30_code 138 = .ok (.ifCond .eq 7, 3) := by decide +kernel
theorem d_Mo_mark_141 : decode prog_9_method_30_code 141 = .ok (.iconst 1, 1) := by decide +kernel
theorem d_Mo_mark_142 : decode prog_9_method_30_code 142 = .ok (.goto 4, 3) := by decide +kernel
theorem d_Mo_mark_145 : decode prog_9_method_30_code 145 = .ok (.iconst 0, 1) := by decide +kernel
theorem d_Mo_mark_146 : decode prog_9_method_30_code 146 = .ok (.iadd, 1) := by decide +kernel
theorem d_Mo_mark_147 : decode prog_9_method_30_code 147 = .ok (.istore 6, 2) := by decide +kernel
theorem d_Mo_mark_149 : decode prog_9_method_30_code 149 = .ok (.iinc 7 1, 3) := by decide +kernel
theorem d_Mo_mark_152 : decode prog_9_method_30_code 152 = .ok (.goto (-49), 3) := by decide +kernel
theorem d_Mo_mark_155 : decode prog_9_method_30_code 155 = .ok (.iload 6, 2) := by decide +kernel
theorem d_Mo_mark_157 : decode prog_9_method_30_code 157 = .ok (.ireturn, 1) := by decide +kernel
set_option maxHeartbeats 4000000 in
set_option maxRecDepth 20000 in
theorem tM_mark {g : GG} (G : Gok g) {σ : AH} {S : Sp} (hS : RelM S σ) (x y w : Int32) : TerI g 4 m_Mo_mark [rV 106, iV x, iV y, iV w] σ (fun r τ => r = (sp_mark S x y w).1 ∧ RelM (sp_mark S x y w).2 τ ∧ frM σ τ) := by
  refine TerI.mk G (by decide +kernel) rfl (Nat.le_of_ble_eq_true rfl) (fun K B Rt => ?_)
  have B : Cx g K prog_9_method_30_code 8 R_Mo 4 := B
  have Rt : RetI g K prog_9_method_30_code 8 (fun r τ => r = (sp_mark S x y w).1 ∧ RelM (sp_mark S x y w).2 τ ∧ frM σ τ) := Rt
  show AW g K 8 0 [(0, rV 106), (1, iV x), (2, iV y), (3, iV w)] [] σ
  refine a_iload_n B d_Mo_mark_0 rfl rfl ?_
  refine a_iconst B d_Mo_mark_1 ci_1 ?_
  refine a_iconst B d_Mo_mark_2 ci_3 ?_
  refine a_callSI B (t_Mo_in G w (nI 1) (nI 3)) d_Mo_mark_3 ok_Mo_in ml_Mo_87 rfl (by decide) (by decide) rfl (Nat.le_of_ble_eq_true rfl) (fun r_3 τ_3 h_3 => ?_)
  obtain ⟨hr_3, hs_3⟩ := h_3
  subst hr_3
  replace hs_3 := hs_3.symm
  subst hs_3
  first | refine b_if_ne_b B 11 d_Mo_mark_6 rfl (fun c_6 => ?_) (fun c_6 => ?_) | refine a_if_ne B 11 d_Mo_mark_6 rfl (fun c_6 => ?_) (fun c_6 => ?_)
  · skip
    have c_6 := of_decide_eq_true c_6
    obtain ⟨k, hk1, hk3, hwe, hwk⟩ := tnc_3 (Int32.not_lt.mpr c_6.1) c_6.2
    subst hwe
    refine a_aload_n B d_Mo_mark_11 rfl rfl ?_
    refine a_iload_n B d_Mo_mark_12 rfl rfl ?_
    refine a_iload_n B d_Mo_mark_13 rfl rfl ?_
    refine a_callVI (ci := 7) B (t_Mo_askedNode G hS x y) d_Mo_mark_14 ok_Mo_askedNode ml_Mo_139 ly_106 rfl rfl (by decide) (by decide) rfl (Nat.le_of_ble_eq_true rfl) (fun r_14 τ_14 h_14 => ?_)
    rcases h_14 with ⟨q, hq, hr9, hR9, hF9⟩ | ⟨q9, hq, hr9, hs9⟩
    · skip
      subst hr9
      refine a_istore (lv1 := [(0, _), (1, _), (2, _), (3, _), (4, _)]) B d_Mo_mark_17 (by decide) rfl ?_
      refine a_iload B d_Mo_mark_19 rfl ?_
      refine a_if_ge B 27 d_Mo_mark_21 rfl (fun c9 => absurd (neg_nz (ndQ_neg hq)).2 (Int32.not_lt.mpr c9)) (fun _ => ?_)
      refine a_iload B d_Mo_mark_24 rfl ?_
      exact Rt _ _ _ _ d_Mo_mark_26 (by have e : sp_mark S x y (nI k) = q := (by rw [sp_mark]; show (if _ then _ else _) = _; rw [if_neg (fun q => q.elim (Int32.not_lt.mpr c_6.1) (Int32.not_lt.mpr c_6.2)), hq]); rw [e]; exact ⟨rfl, hR9, hF9⟩)
    · skip
      subst hr9
      replace hs9 := hs9.symm
      subst hs9
      obtain ⟨t, v⟩ := q9
      obtain ⟨ht, hx9, hn, hv, hy9⟩ := ndQ_ok hq (tM_le hS (ndQ_t hq))
      dsimp only at ht hx9 hn hv hy9
      subst hx9
      subst hy9
      obtain ⟨tW, tA, tB, tX⟩ := (hS.2.1 t ht).2 hn
      obtain ⟨a1, a2, a3, a4, a5, a6⟩ := id tA
      have w1 := tW.1
      have w10 := tW.2.1
      refine a_istore (lv1 := [(0, _), (1, _), (2, _), (3, _), (4, _)]) B d_Mo_mark_17 (by decide) rfl ?_
      refine a_iload B d_Mo_mark_19 rfl ?_
      refine b_if_ge B 27 d_Mo_mark_21 rfl (by first | assumption | omega) ?_
      refine a_aload_n B d_Mo_mark_27 rfl rfl ?_
      refine a_iload_n B d_Mo_mark_28 rfl rfl ?_
      refine a_iload_n B d_Mo_mark_29 rfl rfl ?_
      refine a_callVI (ci := 7) B (t_Mo_kindOf G ht tW tA hv) d_Mo_mark_30 ok_Mo_kindOf ml_Mo_136 ly_106 rfl rfl (by decide) (by decide) rfl (Nat.le_of_ble_eq_true rfl) (fun r_30 τ_30 h_30 => ?_)
      obtain ⟨hr_30, hs_30⟩ := h_30
      subst hr_30
      replace hs_30 := hs_30.symm
      subst hs_30
      have hkb : kindT (sT S t) v ≤ 3 := (by unfold kindT; split; decide; split <;> decide)
      refine a_istore (lv1 := [(0, _), (1, _), (2, _), (3, _), (4, _), (5, _)]) B d_Mo_mark_33 (by decide) rfl ?_
      refine a_iload B d_Mo_mark_35 rfl ?_
      refine a_iload_n B d_Mo_mark_37 rfl rfl ?_
      first | refine b_icmp_eq B 58 d_Mo_mark_38 rfl (by omega) (by omega) (fun c_38 => ?_) (fun c_38 => ?_) | refine a_icmp_eq B 58 d_Mo_mark_38 rfl (fun c_38 => ?_) (fun c_38 => ?_)
      · skip
        have hkd : isOfT (sT S t) v k = true := (by rw [kind_of hk1 hk3]; exact decide_eq_true (by first | exact Or.inl c_38 | exact Or.inr ⟨c_43, c_49⟩))
        refine a_iload_n B d_Mo_mark_58 rfl rfl ?_
        refine a_iconst B d_Mo_mark_59 ci_1 ?_
        first | refine b_icmp_ne B 75 d_Mo_mark_60 rfl (by omega) (by omega) (fun c_60 => ?_) (fun c_60 => ?_) | refine a_icmp_ne B 75 d_Mo_mark_60 rfl (fun c_60 => ?_) (fun c_60 => ?_)
        · skip
          have c_60 : ¬ k = 1 := c_60
          refine a_iload_n B d_Mo_mark_75 rfl rfl ?_
          refine a_iconst B d_Mo_mark_76 ci_2 ?_
          first | refine b_icmp_ne B 92 d_Mo_mark_77 rfl (by omega) (by omega) (fun c_77 => ?_) (fun c_77 => ?_) | refine a_icmp_ne B 92 d_Mo_mark_77 rfl (fun c_77 => ?_) (fun c_77 => ?_)
          · skip
            have c_77 : ¬ k = 2 := c_77
            have hge : tN (sT S t) ≤ v := (by have c9 := hkd; rw [isOfT, if_neg c_60] at c9; simp at c9; exact c9.1)
            refine a_iconst B d_Mo_mark_92 ci_0 ?_
            refine a_istore (lv1 := [(0, _), (1, _), (2, _), (3, _), (4, _), (5, _), (6, _)]) B d_Mo_mark_93 (by decide) rfl ?_
            refine a_aload_n B d_Mo_mark_95 rfl rfl ?_
            refine gf_Mo_sizes B d_Mo_mark_96 fl_Mo_23 ?_
            refine a_iload_n B d_Mo_mark_99 rfl rfl ?_
            refine a_iald B ly_111 _ rfl (by first | assumption | omega) d_Mo_mark_100 ?_
            rw [a1]
            refine a_istore (lv1 := [(0, _), (1, _), (2, _), (3, _), (4, _), (5, _), (6, _), (7, _)]) B d_Mo_mark_101 (by decide) rfl ?_
            refine a_for (lf := fun i => [(0, rV 106), (1, iV (nI t)), (2, iV (nI v)), (3, iV (nI k)), (4, iV (nI 0)), (5, iV (nI (kindT (sT S t) v))), (6, iV (nI (cntB (fun k => tD (sT S t) (tN (sT S t) + k) && subB (sT S t) (tN (sT S t) + k) v) i))), (7, iV (nI (tN (sT S t) + i)))]) (τ := fun i => σ) (tN (sT S t) - 1) (fun i hi ihi => ?_) ?_ 0 (Nat.zero_le _)
            · skip
              refine a_iload B d_Mo_mark_103 rfl ?_
              refine a_aload_n B d_Mo_mark_105 rfl rfl ?_
              refine a_iload_n B d_Mo_mark_106 rfl rfl ?_
              refine a_callVI (ci := 7) B (t_Mo_nodes G ht w1 w10 a1) d_Mo_mark_107 ok_Mo_nodes ml_Mo_123 ly_106 rfl rfl (by decide) (by decide) rfl (Nat.le_of_ble_eq_true rfl) (fun r_107 τ_107 h_107 => ?_)
              obtain ⟨hr_107, hs_107⟩ := h_107
              subst hr_107
              replace hs_107 := hs_107.symm
              subst hs_107
              first | refine b_icmp_ge B 155 d_Mo_mark_110 rfl (by omega) (by omega) (fun c_110 => ?_) (fun c_110 => ?_) | refine a_icmp_ge B 155 d_Mo_mark_110 rfl (fun c_110 => ?_) (fun c_110 => ?_)
              · skip
                exact absurd c_110 (by omega)
              refine a_iload B d_Mo_mark_113 rfl ?_
              refine a_aload_n B d_Mo_mark_115 rfl rfl ?_
              refine gf_Mo_isHeld B d_Mo_mark_116 fl_Mo_41 ?_
              refine a_bipush B d_Mo_mark_119 cb_20 ?_
              refine a_iload_n B d_Mo_mark_121 rfl rfl ?_
              first | refine b_imul B d_Mo_mark_122 ?_ | refine a_imul B d_Mo_mark_122 ?_
              refine a_iload B d_Mo_mark_123 rfl ?_
              first | refine b_iadd B d_Mo_mark_125 ?_ | refine a_iadd B d_Mo_mark_125 ?_
              refine a_zald B ly_117 _ rfl (by first | assumption | omega) d_Mo_mark_126 ?_
              rw [a5 (tN (sT S t) + i) (by omega)]
              first | refine b_if_eq_b B 145 d_Mo_mark_127 rfl (fun c_127 => ?_) (fun c_127 => ?_) | refine a_if_eq B 145 d_Mo_mark_127 rfl (fun c_127 => ?_) (fun c_127 => ?_)
              · skip
                refine a_iconst B d_Mo_mark_145 ci_0 ?_
                first | refine b_iadd B d_Mo_mark_146 ?_ | refine a_iadd B d_Mo_mark_146 ?_
                refine a_istore (lv1 := [(0, _), (1, _), (2, _), (3, _), (4, _), (5, _), (6, _), (7, _)]) B d_Mo_mark_147 (by decide) rfl ?_
                first | refine b_iinc (lv1 := [(0, _), (1, _), (2, _), (3, _), (4, _), (5, _), (6, _), (7, _)]) B d_Mo_mark_149 rfl ci_1 (by decide) rfl ?_ | refine a_iinc (lv1 := [(0, _), (1, _), (2, _), (3, _), (4, _), (5, _), (6, _), (7, _)]) B d_Mo_mark_149 rfl rfl (by decide) rfl ?_
                refine a_goto B 103 d_Mo_mark_152 rfl ?_
                first | (rw [cntB_t (p := fun k => tD (sT S t) (tN (sT S t) + k) && subB (sT S t) (tN (sT S t) + k) v) (i := i) (by rw [c_127, c_138]; rfl)] at ihi; exact ihi) | (rw [cntB_f (p := fun k => tD (sT S t) (tN (sT S t) + k) && subB (sT S t) (tN (sT S t) + k) v) (i := i) (by rw [c_127, c_138]; rfl)] at ihi; exact ihi) | (rw [cntB_f (p := fun k => tD (sT S t) (tN (sT S t) + k) && subB (sT S t) (tN (sT S t) + k) v) (i := i) (by rw [c_127]; rfl)] at ihi; exact ihi)
              refine a_aload_n B d_Mo_mark_130 rfl rfl ?_
              refine a_iload_n B d_Mo_mark_131 rfl rfl ?_
              refine a_iload B d_Mo_mark_132 rfl ?_
              refine a_iload_n B d_Mo_mark_134 rfl rfl ?_
              refine a_callVI (ci := 7) B (t_Mo_isBelow G ht tW tA (v := tN (sT S t) + i) (e := v) (by omega) hv) d_Mo_mark_135 ok_Mo_isBelow ml_Mo_150 ly_106 rfl rfl (by decide) (by decide) rfl (Nat.le_of_ble_eq_true rfl) (fun r_135 τ_135 h_135 => ?_)
              obtain ⟨hr_135, hs_135⟩ := h_135
              subst hr_135
              replace hs_135 := hs_135.symm
              subst hs_135
              first | refine b_if_eq_b B 145 d_Mo_mark_138 rfl (fun c_138 => ?_) (fun c_138 => ?_) | refine a_if_eq B 145 d_Mo_mark_138 rfl (fun c_138 => ?_) (fun c_138 => ?_)
              · skip
                refine a_iconst B d_Mo_mark_145 ci_0 ?_
                first | refine b_iadd B d_Mo_mark_146 ?_ | refine a_iadd B d_Mo_mark_146 ?_
                refine a_istore (lv1 := [(0, _), (1, _), (2, _), (3, _), (4, _), (5, _), (6, _), (7, _)]) B d_Mo_mark_147 (by decide) rfl ?_
                first | refine b_iinc (lv1 := [(0, _), (1, _), (2, _), (3, _), (4, _), (5, _), (6, _), (7, _)]) B d_Mo_mark_149 rfl ci_1 (by decide) rfl ?_ | refine a_iinc (lv1 := [(0, _), (1, _), (2, _), (3, _), (4, _), (5, _), (6, _), (7, _)]) B d_Mo_mark_149 rfl rfl (by decide) rfl ?_
                refine a_goto B 103 d_Mo_mark_152 rfl ?_
                first | (rw [cntB_t (p := fun k => tD (sT S t) (tN (sT S t) + k) && subB (sT S t) (tN (sT S t) + k) v) (i := i) (by rw [c_127, c_138]; rfl)] at ihi; exact ihi) | (rw [cntB_f (p := fun k => tD (sT S t) (tN (sT S t) + k) && subB (sT S t) (tN (sT S t) + k) v) (i := i) (by rw [c_127, c_138]; rfl)] at ihi; exact ihi) | (rw [cntB_f (p := fun k => tD (sT S t) (tN (sT S t) + k) && subB (sT S t) (tN (sT S t) + k) v) (i := i) (by rw [c_127]; rfl)] at ihi; exact ihi)
              refine a_iconst B d_Mo_mark_141 ci_1 ?_
              refine a_goto B 146 d_Mo_mark_142 rfl ?_
              first | refine b_iadd B d_Mo_mark_146 ?_ | refine a_iadd B d_Mo_mark_146 ?_
              refine a_istore (lv1 := [(0, _), (1, _), (2, _), (3, _), (4, _), (5, _), (6, _), (7, _)]) B d_Mo_mark_147 (by decide) rfl ?_
              first | refine b_iinc (lv1 := [(0, _), (1, _), (2, _), (3, _), (4, _), (5, _), (6, _), (7, _)]) B d_Mo_mark_149 rfl ci_1 (by decide) rfl ?_ | refine a_iinc (lv1 := [(0, _), (1, _), (2, _), (3, _), (4, _), (5, _), (6, _), (7, _)]) B d_Mo_mark_149 rfl rfl (by decide) rfl ?_
              refine a_goto B 103 d_Mo_mark_152 rfl ?_
              first | (rw [cntB_t (p := fun k => tD (sT S t) (tN (sT S t) + k) && subB (sT S t) (tN (sT S t) + k) v) (i := i) (by rw [c_127, c_138]; rfl)] at ihi; exact ihi) | (rw [cntB_f (p := fun k => tD (sT S t) (tN (sT S t) + k) && subB (sT S t) (tN (sT S t) + k) v) (i := i) (by rw [c_127, c_138]; rfl)] at ihi; exact ihi) | (rw [cntB_f (p := fun k => tD (sT S t) (tN (sT S t) + k) && subB (sT S t) (tN (sT S t) + k) v) (i := i) (by rw [c_127]; rfl)] at ihi; exact ihi)
            · skip
              refine a_iload B d_Mo_mark_103 rfl ?_
              refine a_aload_n B d_Mo_mark_105 rfl rfl ?_
              refine a_iload_n B d_Mo_mark_106 rfl rfl ?_
              refine a_callVI (ci := 7) B (t_Mo_nodes G ht w1 w10 a1) d_Mo_mark_107 ok_Mo_nodes ml_Mo_123 ly_106 rfl rfl (by decide) (by decide) rfl (Nat.le_of_ble_eq_true rfl) (fun r_107 τ_107 h_107 => ?_)
              obtain ⟨hr_107, hs_107⟩ := h_107
              subst hr_107
              replace hs_107 := hs_107.symm
              subst hs_107
              first | refine b_icmp_ge B 155 d_Mo_mark_110 rfl (by omega) (by omega) (fun c_110 => ?_) (fun c_110 => ?_) | refine a_icmp_ge B 155 d_Mo_mark_110 rfl (fun c_110 => ?_) (fun c_110 => ?_)
              · skip
                refine a_iload B d_Mo_mark_155 rfl ?_
                exact Rt _ _ _ _ d_Mo_mark_157 (by have e : sp_mark S (nI t) (nI v) (nI k) = (nI (belowT (sT S t) v), S) := (by rw [sp_mark]; show (if _ then _ else _) = _; rw [if_neg (fun q => q.elim (Int32.not_lt.mpr c_6.1) (Int32.not_lt.mpr c_6.2)), hq]; show (if _ then _ else _) = _; rw [hwk]; rw [if_neg (by rw [hkd]; decide), if_neg c_60, if_neg c_77]); rw [e]; exact ⟨by rw [below_eq tW hge hv], hS, (fun _ _ => rfl)⟩)
              exact absurd c_110 (by omega)
          refine a_aload_n B d_Mo_mark_80 rfl rfl ?_
          refine gf_Mo_turned B d_Mo_mark_81 fl_Mo_38 ?_
          refine a_bipush B d_Mo_mark_84 cb_20 ?_
          refine a_iload_n B d_Mo_mark_86 rfl rfl ?_
          first | refine b_imul B d_Mo_mark_87 ?_ | refine a_imul B d_Mo_mark_87 ?_
          refine a_iload_n B d_Mo_mark_88 rfl rfl ?_
          first | refine b_iadd B d_Mo_mark_89 ?_ | refine a_iadd B d_Mo_mark_89 ?_
          refine a_iald B ly_116 _ rfl (by first | assumption | omega) d_Mo_mark_90 ?_
          rw [tX v hv]
          exact Rt _ _ _ _ d_Mo_mark_91 (by have e : sp_mark S (nI t) (nI v) (nI k) = (tC (sT S t) v, S) := (by rw [sp_mark]; show (if _ then _ else _) = _; rw [if_neg (fun q => q.elim (Int32.not_lt.mpr c_6.1) (Int32.not_lt.mpr c_6.2)), hq]; show (if _ then _ else _) = _; rw [hwk]; rw [if_neg (by rw [hkd]; decide), if_neg c_60, if_pos c_77]); rw [e]; exact ⟨rfl, hS, (fun _ _ => rfl)⟩)
        have hvl : v < tN (sT S t) := (by have c9 := hkd; rw [c_60, isOfT, if_pos rfl] at c9; exact of_decide_eq_true c9)
        refine a_aload_n B d_Mo_mark_63 rfl rfl ?_
        refine a_iload_n B d_Mo_mark_64 rfl rfl ?_
        refine a_callVV (ci := 7) B (t_Mo_setOrder G ht tW tA tB) d_Mo_mark_65 ok_Mo_setOrder ml_Mo_146 ly_106 rfl rfl (by decide) (by decide) rfl (Nat.le_of_ble_eq_true rfl) (fun τ_65 h_65 => ?_)
        have hW := h_65.wk
        refine a_aload_n B d_Mo_mark_68 rfl rfl ?_
        refine gf_Mo_places B d_Mo_mark_69 fl_Mo_53 ?_
        refine a_iload_n B d_Mo_mark_72 rfl rfl ?_
        refine a_iald B ly_121 _ rfl (by first | assumption | omega) d_Mo_mark_73 ?_
        rw [h_65.2.1 v hvl]
        exact Rt _ _ _ _ d_Mo_mark_74 (by have e : sp_mark S (nI t) (nI v) (nI k) = (nI (posT (sT S t) v), S) := (by rw [sp_mark]; show (if _ then _ else _) = _; rw [if_neg (fun q => q.elim (Int32.not_lt.mpr c_6.1) (Int32.not_lt.mpr c_6.2)), hq]; show (if _ then _ else _) = _; rw [hwk]; rw [if_neg (by rw [hkd]; decide), if_pos c_60]); rw [e]; exact ⟨rfl, RelM_wk hS hW, wkM_fr hW⟩)
      refine a_iload_n B d_Mo_mark_41 rfl rfl ?_
      refine a_iconst B d_Mo_mark_42 ci_2 ?_
      first | refine b_icmp_ne B 52 d_Mo_mark_43 rfl (by omega) (by omega) (fun c_43 => ?_) (fun c_43 => ?_) | refine a_icmp_ne B 52 d_Mo_mark_43 rfl (fun c_43 => ?_) (fun c_43 => ?_)
      · skip
        have hkd : isOfT (sT S t) v k = false := (by rw [kind_of hk1 hk3]; exact decide_eq_false (fun q => q.elim (fun q => c_38 q) (fun q => by first | exact c_43 q.1 | exact c_49 q.2)))
        refine a_aload_n B d_Mo_mark_52 rfl rfl ?_
        refine a_iconst B d_Mo_mark_53 ci_3 ?_
        refine a_callVI (ci := 7) B (t_Mo_meets G 3 (by decide)) d_Mo_mark_54 ok_Mo_meets ml_Mo_95 ly_106 rfl rfl (by decide) (by decide) rfl (Nat.le_of_ble_eq_true rfl) (fun r_54 τ_54 h_54 => ?_)
        obtain ⟨hr_54, hs_54⟩ := h_54
        subst hr_54
        subst hs_54
        exact Rt _ _ _ _ d_Mo_mark_57 (by have e : sp_mark S (nI t) (nI v) (nI k) = RF S 3 := (by rw [sp_mark]; show (if _ then _ else _) = _; rw [if_neg (fun q => q.elim (Int32.not_lt.mpr c_6.1) (Int32.not_lt.mpr c_6.2)), hq]; show (if _ then _ else _) = _; rw [hwk]; exact if_pos hkd); rw [e]; exact ⟨rfl, RelM_fnd hS (by decide), frM_meet⟩)
      refine a_iload B d_Mo_mark_46 rfl ?_
      refine a_iconst B d_Mo_mark_48 ci_3 ?_
      first | refine b_icmp_eq B 58 d_Mo_mark_49 rfl (by omega) (by omega) (fun c_49 => ?_) (fun c_49 => ?_) | refine a_icmp_eq B 58 d_Mo_mark_49 rfl (fun c_49 => ?_) (fun c_49 => ?_)
      · skip
        have hkd : isOfT (sT S t) v k = true := (by rw [kind_of hk1 hk3]; exact decide_eq_true (by first | exact Or.inl c_38 | exact Or.inr ⟨c_43, c_49⟩))
        refine a_iload_n B d_Mo_mark_58 rfl rfl ?_
        refine a_iconst B d_Mo_mark_59 ci_1 ?_
        first | refine b_icmp_ne B 75 d_Mo_mark_60 rfl (by omega) (by omega) (fun c_60 => ?_) (fun c_60 => ?_) | refine a_icmp_ne B 75 d_Mo_mark_60 rfl (fun c_60 => ?_) (fun c_60 => ?_)
        · skip
          have c_60 : ¬ k = 1 := c_60
          refine a_iload_n B d_Mo_mark_75 rfl rfl ?_
          refine a_iconst B d_Mo_mark_76 ci_2 ?_
          first | refine b_icmp_ne B 92 d_Mo_mark_77 rfl (by omega) (by omega) (fun c_77 => ?_) (fun c_77 => ?_) | refine a_icmp_ne B 92 d_Mo_mark_77 rfl (fun c_77 => ?_) (fun c_77 => ?_)
          · skip
            have c_77 : ¬ k = 2 := c_77
            have hge : tN (sT S t) ≤ v := (by have c9 := hkd; rw [isOfT, if_neg c_60] at c9; simp at c9; exact c9.1)
            refine a_iconst B d_Mo_mark_92 ci_0 ?_
            refine a_istore (lv1 := [(0, _), (1, _), (2, _), (3, _), (4, _), (5, _), (6, _)]) B d_Mo_mark_93 (by decide) rfl ?_
            refine a_aload_n B d_Mo_mark_95 rfl rfl ?_
            refine gf_Mo_sizes B d_Mo_mark_96 fl_Mo_23 ?_
            refine a_iload_n B d_Mo_mark_99 rfl rfl ?_
            refine a_iald B ly_111 _ rfl (by first | assumption | omega) d_Mo_mark_100 ?_
            rw [a1]
            refine a_istore (lv1 := [(0, _), (1, _), (2, _), (3, _), (4, _), (5, _), (6, _), (7, _)]) B d_Mo_mark_101 (by decide) rfl ?_
            refine a_for (lf := fun i => [(0, rV 106), (1, iV (nI t)), (2, iV (nI v)), (3, iV (nI k)), (4, iV (nI 0)), (5, iV (nI (kindT (sT S t) v))), (6, iV (nI (cntB (fun k => tD (sT S t) (tN (sT S t) + k) && subB (sT S t) (tN (sT S t) + k) v) i))), (7, iV (nI (tN (sT S t) + i)))]) (τ := fun i => σ) (tN (sT S t) - 1) (fun i hi ihi => ?_) ?_ 0 (Nat.zero_le _)
            · skip
              refine a_iload B d_Mo_mark_103 rfl ?_
              refine a_aload_n B d_Mo_mark_105 rfl rfl ?_
              refine a_iload_n B d_Mo_mark_106 rfl rfl ?_
              refine a_callVI (ci := 7) B (t_Mo_nodes G ht w1 w10 a1) d_Mo_mark_107 ok_Mo_nodes ml_Mo_123 ly_106 rfl rfl (by decide) (by decide) rfl (Nat.le_of_ble_eq_true rfl) (fun r_107 τ_107 h_107 => ?_)
              obtain ⟨hr_107, hs_107⟩ := h_107
              subst hr_107
              replace hs_107 := hs_107.symm
              subst hs_107
              first | refine b_icmp_ge B 155 d_Mo_mark_110 rfl (by omega) (by omega) (fun c_110 => ?_) (fun c_110 => ?_) | refine a_icmp_ge B 155 d_Mo_mark_110 rfl (fun c_110 => ?_) (fun c_110 => ?_)
              · skip
                exact absurd c_110 (by omega)
              refine a_iload B d_Mo_mark_113 rfl ?_
              refine a_aload_n B d_Mo_mark_115 rfl rfl ?_
              refine gf_Mo_isHeld B d_Mo_mark_116 fl_Mo_41 ?_
              refine a_bipush B d_Mo_mark_119 cb_20 ?_
              refine a_iload_n B d_Mo_mark_121 rfl rfl ?_
              first | refine b_imul B d_Mo_mark_122 ?_ | refine a_imul B d_Mo_mark_122 ?_
              refine a_iload B d_Mo_mark_123 rfl ?_
              first | refine b_iadd B d_Mo_mark_125 ?_ | refine a_iadd B d_Mo_mark_125 ?_
              refine a_zald B ly_117 _ rfl (by first | assumption | omega) d_Mo_mark_126 ?_
              rw [a5 (tN (sT S t) + i) (by omega)]
              first | refine b_if_eq_b B 145 d_Mo_mark_127 rfl (fun c_127 => ?_) (fun c_127 => ?_) | refine a_if_eq B 145 d_Mo_mark_127 rfl (fun c_127 => ?_) (fun c_127 => ?_)
              · skip
                refine a_iconst B d_Mo_mark_145 ci_0 ?_
                first | refine b_iadd B d_Mo_mark_146 ?_ | refine a_iadd B d_Mo_mark_146 ?_
                refine a_istore (lv1 := [(0, _), (1, _), (2, _), (3, _), (4, _), (5, _), (6, _), (7, _)]) B d_Mo_mark_147 (by decide) rfl ?_
                first | refine b_iinc (lv1 := [(0, _), (1, _), (2, _), (3, _), (4, _), (5, _), (6, _), (7, _)]) B d_Mo_mark_149 rfl ci_1 (by decide) rfl ?_ | refine a_iinc (lv1 := [(0, _), (1, _), (2, _), (3, _), (4, _), (5, _), (6, _), (7, _)]) B d_Mo_mark_149 rfl rfl (by decide) rfl ?_
                refine a_goto B 103 d_Mo_mark_152 rfl ?_
                first | (rw [cntB_t (p := fun k => tD (sT S t) (tN (sT S t) + k) && subB (sT S t) (tN (sT S t) + k) v) (i := i) (by rw [c_127, c_138]; rfl)] at ihi; exact ihi) | (rw [cntB_f (p := fun k => tD (sT S t) (tN (sT S t) + k) && subB (sT S t) (tN (sT S t) + k) v) (i := i) (by rw [c_127, c_138]; rfl)] at ihi; exact ihi) | (rw [cntB_f (p := fun k => tD (sT S t) (tN (sT S t) + k) && subB (sT S t) (tN (sT S t) + k) v) (i := i) (by rw [c_127]; rfl)] at ihi; exact ihi)
              refine a_aload_n B d_Mo_mark_130 rfl rfl ?_
              refine a_iload_n B d_Mo_mark_131 rfl rfl ?_
              refine a_iload B d_Mo_mark_132 rfl ?_
              refine a_iload_n B d_Mo_mark_134 rfl rfl ?_
              refine a_callVI (ci := 7) B (t_Mo_isBelow G ht tW tA (v := tN (sT S t) + i) (e := v) (by omega) hv) d_Mo_mark_135 ok_Mo_isBelow ml_Mo_150 ly_106 rfl rfl (by decide) (by decide) rfl (Nat.le_of_ble_eq_true rfl) (fun r_135 τ_135 h_135 => ?_)
              obtain ⟨hr_135, hs_135⟩ := h_135
              subst hr_135
              replace hs_135 := hs_135.symm
              subst hs_135
              first | refine b_if_eq_b B 145 d_Mo_mark_138 rfl (fun c_138 => ?_) (fun c_138 => ?_) | refine a_if_eq B 145 d_Mo_mark_138 rfl (fun c_138 => ?_) (fun c_138 => ?_)
              · skip
                refine a_iconst B d_Mo_mark_145 ci_0 ?_
                first | refine b_iadd B d_Mo_mark_146 ?_ | refine a_iadd B d_Mo_mark_146 ?_
                refine a_istore (lv1 := [(0, _), (1, _), (2, _), (3, _), (4, _), (5, _), (6, _), (7, _)]) B d_Mo_mark_147 (by decide) rfl ?_
                first | refine b_iinc (lv1 := [(0, _), (1, _), (2, _), (3, _), (4, _), (5, _), (6, _), (7, _)]) B d_Mo_mark_149 rfl ci_1 (by decide) rfl ?_ | refine a_iinc (lv1 := [(0, _), (1, _), (2, _), (3, _), (4, _), (5, _), (6, _), (7, _)]) B d_Mo_mark_149 rfl rfl (by decide) rfl ?_
                refine a_goto B 103 d_Mo_mark_152 rfl ?_
                first | (rw [cntB_t (p := fun k => tD (sT S t) (tN (sT S t) + k) && subB (sT S t) (tN (sT S t) + k) v) (i := i) (by rw [c_127, c_138]; rfl)] at ihi; exact ihi) | (rw [cntB_f (p := fun k => tD (sT S t) (tN (sT S t) + k) && subB (sT S t) (tN (sT S t) + k) v) (i := i) (by rw [c_127, c_138]; rfl)] at ihi; exact ihi) | (rw [cntB_f (p := fun k => tD (sT S t) (tN (sT S t) + k) && subB (sT S t) (tN (sT S t) + k) v) (i := i) (by rw [c_127]; rfl)] at ihi; exact ihi)
              refine a_iconst B d_Mo_mark_141 ci_1 ?_
              refine a_goto B 146 d_Mo_mark_142 rfl ?_
              first | refine b_iadd B d_Mo_mark_146 ?_ | refine a_iadd B d_Mo_mark_146 ?_
              refine a_istore (lv1 := [(0, _), (1, _), (2, _), (3, _), (4, _), (5, _), (6, _), (7, _)]) B d_Mo_mark_147 (by decide) rfl ?_
              first | refine b_iinc (lv1 := [(0, _), (1, _), (2, _), (3, _), (4, _), (5, _), (6, _), (7, _)]) B d_Mo_mark_149 rfl ci_1 (by decide) rfl ?_ | refine a_iinc (lv1 := [(0, _), (1, _), (2, _), (3, _), (4, _), (5, _), (6, _), (7, _)]) B d_Mo_mark_149 rfl rfl (by decide) rfl ?_
              refine a_goto B 103 d_Mo_mark_152 rfl ?_
              first | (rw [cntB_t (p := fun k => tD (sT S t) (tN (sT S t) + k) && subB (sT S t) (tN (sT S t) + k) v) (i := i) (by rw [c_127, c_138]; rfl)] at ihi; exact ihi) | (rw [cntB_f (p := fun k => tD (sT S t) (tN (sT S t) + k) && subB (sT S t) (tN (sT S t) + k) v) (i := i) (by rw [c_127, c_138]; rfl)] at ihi; exact ihi) | (rw [cntB_f (p := fun k => tD (sT S t) (tN (sT S t) + k) && subB (sT S t) (tN (sT S t) + k) v) (i := i) (by rw [c_127]; rfl)] at ihi; exact ihi)
            · skip
              refine a_iload B d_Mo_mark_103 rfl ?_
              refine a_aload_n B d_Mo_mark_105 rfl rfl ?_
              refine a_iload_n B d_Mo_mark_106 rfl rfl ?_
              refine a_callVI (ci := 7) B (t_Mo_nodes G ht w1 w10 a1) d_Mo_mark_107 ok_Mo_nodes ml_Mo_123 ly_106 rfl rfl (by decide) (by decide) rfl (Nat.le_of_ble_eq_true rfl) (fun r_107 τ_107 h_107 => ?_)
              obtain ⟨hr_107, hs_107⟩ := h_107
              subst hr_107
              replace hs_107 := hs_107.symm
              subst hs_107
              first | refine b_icmp_ge B 155 d_Mo_mark_110 rfl (by omega) (by omega) (fun c_110 => ?_) (fun c_110 => ?_) | refine a_icmp_ge B 155 d_Mo_mark_110 rfl (fun c_110 => ?_) (fun c_110 => ?_)
              · skip
                refine a_iload B d_Mo_mark_155 rfl ?_
                exact Rt _ _ _ _ d_Mo_mark_157 (by have e : sp_mark S (nI t) (nI v) (nI k) = (nI (belowT (sT S t) v), S) := (by rw [sp_mark]; show (if _ then _ else _) = _; rw [if_neg (fun q => q.elim (Int32.not_lt.mpr c_6.1) (Int32.not_lt.mpr c_6.2)), hq]; show (if _ then _ else _) = _; rw [hwk]; rw [if_neg (by rw [hkd]; decide), if_neg c_60, if_neg c_77]); rw [e]; exact ⟨by rw [below_eq tW hge hv], hS, (fun _ _ => rfl)⟩)
              exact absurd c_110 (by omega)
          refine a_aload_n B d_Mo_mark_80 rfl rfl ?_
          refine gf_Mo_turned B d_Mo_mark_81 fl_Mo_38 ?_
          refine a_bipush B d_Mo_mark_84 cb_20 ?_
          refine a_iload_n B d_Mo_mark_86 rfl rfl ?_
          first | refine b_imul B d_Mo_mark_87 ?_ | refine a_imul B d_Mo_mark_87 ?_
          refine a_iload_n B d_Mo_mark_88 rfl rfl ?_
          first | refine b_iadd B d_Mo_mark_89 ?_ | refine a_iadd B d_Mo_mark_89 ?_
          refine a_iald B ly_116 _ rfl (by first | assumption | omega) d_Mo_mark_90 ?_
          rw [tX v hv]
          exact Rt _ _ _ _ d_Mo_mark_91 (by have e : sp_mark S (nI t) (nI v) (nI k) = (tC (sT S t) v, S) := (by rw [sp_mark]; show (if _ then _ else _) = _; rw [if_neg (fun q => q.elim (Int32.not_lt.mpr c_6.1) (Int32.not_lt.mpr c_6.2)), hq]; show (if _ then _ else _) = _; rw [hwk]; rw [if_neg (by rw [hkd]; decide), if_neg c_60, if_pos c_77]); rw [e]; exact ⟨rfl, hS, (fun _ _ => rfl)⟩)
        have hvl : v < tN (sT S t) := (by have c9 := hkd; rw [c_60, isOfT, if_pos rfl] at c9; exact of_decide_eq_true c9)
        refine a_aload_n B d_Mo_mark_63 rfl rfl ?_
        refine a_iload_n B d_Mo_mark_64 rfl rfl ?_
        refine a_callVV (ci := 7) B (t_Mo_setOrder G ht tW tA tB) d_Mo_mark_65 ok_Mo_setOrder ml_Mo_146 ly_106 rfl rfl (by decide) (by decide) rfl (Nat.le_of_ble_eq_true rfl) (fun τ_65 h_65 => ?_)
        have hW := h_65.wk
        refine a_aload_n B d_Mo_mark_68 rfl rfl ?_
        refine gf_Mo_places B d_Mo_mark_69 fl_Mo_53 ?_
        refine a_iload_n B d_Mo_mark_72 rfl rfl ?_
        refine a_iald B ly_121 _ rfl (by first | assumption | omega) d_Mo_mark_73 ?_
        rw [h_65.2.1 v hvl]
        exact Rt _ _ _ _ d_Mo_mark_74 (by have e : sp_mark S (nI t) (nI v) (nI k) = (nI (posT (sT S t) v), S) := (by rw [sp_mark]; show (if _ then _ else _) = _; rw [if_neg (fun q => q.elim (Int32.not_lt.mpr c_6.1) (Int32.not_lt.mpr c_6.2)), hq]; show (if _ then _ else _) = _; rw [hwk]; rw [if_neg (by rw [hkd]; decide), if_pos c_60]); rw [e]; exact ⟨rfl, RelM_wk hS hW, wkM_fr hW⟩)
      have hkd : isOfT (sT S t) v k = false := (by rw [kind_of hk1 hk3]; exact decide_eq_false (fun q => q.elim (fun q => c_38 q) (fun q => by first | exact c_43 q.1 | exact c_49 q.2)))
      refine a_aload_n B d_Mo_mark_52 rfl rfl ?_
      refine a_iconst B d_Mo_mark_53 ci_3 ?_
      refine a_callVI (ci := 7) B (t_Mo_meets G 3 (by decide)) d_Mo_mark_54 ok_Mo_meets ml_Mo_95 ly_106 rfl rfl (by decide) (by decide) rfl (Nat.le_of_ble_eq_true rfl) (fun r_54 τ_54 h_54 => ?_)
      obtain ⟨hr_54, hs_54⟩ := h_54
      subst hr_54
      subst hs_54
      exact Rt _ _ _ _ d_Mo_mark_57 (by have e : sp_mark S (nI t) (nI v) (nI k) = RF S 3 := (by rw [sp_mark]; show (if _ then _ else _) = _; rw [if_neg (fun q => q.elim (Int32.not_lt.mpr c_6.1) (Int32.not_lt.mpr c_6.2)), hq]; show (if _ then _ else _) = _; rw [hwk]; exact if_pos hkd); rw [e]; exact ⟨rfl, RelM_fnd hS (by decide), frM_meet⟩)
  have c_6 := of_decide_eq_false c_6
  refine a_iconst B d_Mo_mark_9 ci_m1 ?_
  exact Rt _ _ _ _ d_Mo_mark_10 (by have e : sp_mark S x y w = RB S := (by rw [sp_mark]; exact if_pos (Decidable.byContradiction (fun q => c_6 ⟨Int32.not_lt.mp (fun h => q (Or.inl h)), Int32.not_lt.mp (fun h => q (Or.inr h))⟩))); rw [e]; exact ⟨rfl, hS, (fun _ _ => rfl)⟩)
