/-! the reference: groups, axes told -/
def orT (x : Option Nat) (t : Nat) : Option Nat := match x with
  | some w => some w
  | none => some t
def abT (T : TT) (h v : Nat) : Option Nat := if v < 2 * tN T - 2 then topN T h (tU T v) else none
theorem top_beg {T : TT} (hW : Wf T) {h l : Nat} (hl : l < tN T) : topN T h l = orT (abT T h l) l := by
  have h1 := hW.1
  rw [topN_eq hW h (by omega), if_pos (Or.inl hl)]
  rfl
theorem top_go {T : TT} (hW : Wf T) {h l v p : Nat} (hv : v < 2 * tN T - 2) (hI : topN T h l = orT (abT T h v) p) : topN T h l = orT (abT T h (tU T v)) (if tH T (tU T v) ≤ h then tU T v else p) := by
  obtain ⟨u1, u2, u3, u4⟩ := hW.2.2.2.1 v hv
  have e : abT T h v = match abT T h (tU T v) with
    | some w => some w
    | none => if tU T v < tN T ∨ tH T (tU T v) ≤ h then some (tU T v) else none := by
    unfold abT
    rw [if_pos hv]
    exact topN_eq hW h u3
  rw [hI, e]
  cases abT T h (tU T v) with
  | some w => rfl
  | none =>
    by_cases q : tH T (tU T v) ≤ h
    · rw [if_pos q]
      show orT (if _ then _ else _) p = _
      rw [if_pos (Or.inr q)]
      try rfl
    · rw [if_neg q]
      show orT (if _ then _ else _) p = _
      rw [if_neg (fun z => z.elim (fun z => by omega) q)]
      try rfl
theorem top_end {T : TT} {h l v p : Nat} (hv : ¬ v < 2 * tN T - 2) (hI : topN T h l = orT (abT T h v) p) : topL T h l = p := by
  unfold topL
  rw [hI]
  unfold abT
  rw [if_neg hv]
  rfl
theorem d_Mo_topOf_0 : decode prog_9_method_51_code 0 = .ok (.iload_n 2, 1) := by decide +kernel
theorem d_Mo_topOf_1 : decode prog_9_method_51_code 1 = .ok (.istore 4, 2) := by decide +kernel
theorem d_Mo_topOf_3 : decode prog_9_method_51_code 3 = .ok (.aload_n 0, 1) := by decide +kernel
theorem d_Mo_topOf_4 : decode prog_9_method_51_code 4 = .ok (.getfield 32, 3) := by decide +kernel
theorem d_Mo_topOf_7 : decode prog_9_method_51_code 7 = .ok (.bipush 20, 2) := by decide +kernel
theorem d_Mo_topOf_9 : decode prog_9_method_51_code 9 = .ok (.iload_n 1, 1) := by decide +kernel
theorem d_Mo_topOf_10 : decode prog_9_method_51_code 10 = .ok (.imul, 1) := by decide +kernel
theorem d_Mo_topOf_11 : decode prog_9_method_51_code 11 = .ok (.iload_n 2, 1) := by decide +kernel
theorem d_Mo_topOf_12 : decode prog_9_method_51_code 12 = .ok (.iadd, 1) := by decide +kernel
theorem d_Mo_topOf_13 : decode prog_9_method_51_code 13 = .ok (.iaload, 1) := by decide +kernel
theorem d_Mo_topOf_14 : decode prog_9_method_51_code 14 = .ok (.istore 5, 2) := by decide +kernel
theorem d_Mo_topOf_16 : decode prog_9_method_51_code 16 = .ok (.iload 5, 2) := by decide +kernel
theorem d_Mo_topOf_18 : decode prog_9_method_51_code 18 = .ok (.ifCond .lt 45, 3) := by decide +kernel
theorem d_Mo_topOf_21 : decode prog_9_method_51_code 21 = .ok (.aload_n 0, 1) := by decide +kernel
theorem d_Mo_topOf_22 : decode prog_9_method_51_code 22 = .ok (.getfield 35, 3) := by decide +kernel
theorem d_Mo_topOf_25 : decode prog_9_method_51_code 25 = .ok (.bipush 20, 2) := by decide +kernel
theorem d_Mo_topOf_27 : decode prog_9_method_51_code 27 = .ok (.iload_n 1, 1) := by decide +kernel
theorem d_Mo_topOf_28 : decode prog_9_method_51_code 28 = .ok (.imul, 1) := by decide +kernel
theorem d_Mo_topOf_29 : decode prog_9_method_51_code 29 = .ok (.iload 5, 2) := by decide +kernel
theorem d_Mo_topOf_31 : decode prog_9_method_51_code 31 = .ok (.iadd, 1) := by decide +kernel
theorem d_Mo_topOf_32 : decode prog_9_method_51_code 32 = .ok (.iaload, 1) := by decide +kernel
theorem d_Mo_topOf_33 : decode prog_9_method_51_code 33 = .ok (.iload_n 3, 1) := by decide +kernel
theorem d_Mo_topOf_34 : decode prog_9_method_51_code 34 = .ok (.if_icmp .gt 8, 3) := by decide +kernel
theorem d_Mo_topOf_37 : decode prog_9_method_51_code 37 = .ok (.iload 5, 2) := by decide +kernel
theorem d_Mo_topOf_39 : decode prog_9_method_51_code 39 = .ok (.goto 5, 3) := by decide +kernel
theorem d_Mo_topOf_42 : decode prog_9_method_51_code 42 = .ok (.iload 4, 2) := by decide +kernel
theorem d_Mo_topOf_44 : decode prog_9_method_51_code 44 = .ok (.istore 4, 2) := by decide +kernel
theorem d_Mo_topOf_46 : decode prog_9_method_51_code 46 = .ok (.aload_n 0, 1) := by decide +kernel
theorem d_Mo_topOf_47 : decode prog_9_method_51_code 47 = .ok (.getfield 32, 3) := by decide +kernel
theorem d_Mo_topOf_50 : decode prog_9_method_51_code 50 = .ok (.bipush 20, 2) := by decide +kernel
theorem d_Mo_topOf_52 : decode prog_9_method_51_code 52 = .ok (.iload_n 1, 1) := by decide +kernel
theorem d_Mo_topOf_53 : decode prog_9_method_51_code 53 = .ok (.imul, 1) := by decide +kernel
theorem d_Mo_topOf_54 : decode prog_9_method_51_code 54 = .ok (.iload 5, 2) := by decide +kernel
theorem d_Mo_topOf_56 : decode prog_9_method_51_code 56 = .ok (.iadd, 1) := by decide +kernel
theorem d_Mo_topOf_57 : decode prog_9_method_51_code 57 = .ok (.iaload, 1) := by decide +kernel
theorem d_Mo_topOf_58 : decode prog_9_method_51_code 58 = .ok (.istore 5, 2) := by decide +kernel
theorem d_Mo_topOf_60 : decode prog_9_method_51_code 60 = .ok (.goto (-44), 3) := by decide +kernel
theorem d_Mo_topOf_63 : decode prog_9_method_51_code 63 = .ok (.iload 4, 2) := by decide +kernel
theorem d_Mo_topOf_65 : decode prog_9_method_51_code 65 = .ok (.ireturn, 1) := by decide +kernel
set_option maxHeartbeats 4000000 in
set_option maxRecDepth 20000 in
theorem t_Mo_topOf {g : GG} (G : Gok g) {σ : AH} {t : Nat} {T : TT} (ht : t < 4) (tW : Wf T) (tA : TmA σ t T) {l h : Nat} (hl : l < tN T) (hh : h ≤ 1000000) : TerI g 0 m_Mo_topOf [rV 106, iV (nI t), iV (nI l), iV (nI h)] σ (fun r τ => r = nI (topL T h l) ∧ τ = σ) := by
  refine TerI.mk G (by decide +kernel) rfl (Nat.le_of_ble_eq_true rfl) (fun K B Rt => ?_)
  have B : Cx g K prog_9_method_51_code 6 R_Mo 0 := B
  have Rt : RetI g K prog_9_method_51_code 6 (fun r τ => r = nI (topL T h l) ∧ τ = σ) := Rt
  show AW g K 6 0 [(0, rV 106), (1, iV (nI t)), (2, iV (nI l)), (3, iV (nI h))] [] σ
  obtain ⟨a1, a2, a3, a4, a5, a6⟩ := id tA
  have w1 := tW.1
  have w10 := tW.2.1
  refine a_iload_n B d_Mo_topOf_0 rfl rfl ?_
  refine a_istore (lv1 := [(0, _), (1, _), (2, _), (3, _), (4, _)]) B d_Mo_topOf_1 (by decide) rfl ?_
  refine a_aload_n B d_Mo_topOf_3 rfl rfl ?_
  refine gf_Mo_ups B d_Mo_topOf_4 fl_Mo_32 ?_
  refine a_bipush B d_Mo_topOf_7 cb_20 ?_
  refine a_iload_n B d_Mo_topOf_9 rfl rfl ?_
  first | refine b_imul B d_Mo_topOf_10 ?_ | refine a_imul B d_Mo_topOf_10 ?_
  refine a_iload_n B d_Mo_topOf_11 rfl rfl ?_
  first | refine b_iadd B d_Mo_topOf_12 ?_ | refine a_iadd B d_Mo_topOf_12 ?_
  refine a_iald B ly_114 _ rfl (by first | assumption | omega) d_Mo_topOf_13 ?_
  rw [up_at tA (v := l) (by omega)]
  refine a_istore (lv1 := [(0, _), (1, _), (2, _), (3, _), (4, _), (5, _)]) B d_Mo_topOf_14 (by decide) rfl ?_
  refine a_loop (fun m lv τ9 => (∃ v p, m = 2 * tN T - 1 - v ∧ v < 2 * tN T - 1 ∧ topN T h l = orT (abT T h v) p ∧ lv = [(0, rV 106), (1, iV (nI t)), (2, iV (nI l)), (3, iV (nI h)), (4, iV (nI p)), (5, iV (upI T v))]) ∧ τ9 = σ) (fun m lv τ9 hm ihm => ?_) (2 * tN T - 1 - l) _ _ ⟨⟨l, l, rfl, by omega, top_beg tW hl, rfl⟩, rfl⟩
  obtain ⟨⟨v, p, rfl, hv, hp, rfl⟩, rfl⟩ := hm
  refine a_iload B d_Mo_topOf_16 rfl ?_
  by_cases hvt : v < 2 * tN T - 2
  · skip
    rw [show upI T v = nI (tU T v) from if_pos hvt]
    obtain ⟨u1, u2, u3, u4⟩ := tW.2.2.2.1 v hvt
    have hb := tW.2.2.2.2.2.2.2.2 (tU T v)
    have hg := top_go tW hvt hp
    refine b_if_lt B 63 d_Mo_topOf_18 rfl (by first | assumption | omega) ?_
    refine a_aload_n B d_Mo_topOf_21 rfl rfl ?_
    refine gf_Mo_heights B d_Mo_topOf_22 fl_Mo_35 ?_
    refine a_bipush B d_Mo_topOf_25 cb_20 ?_
    refine a_iload_n B d_Mo_topOf_27 rfl rfl ?_
    first | refine b_imul B d_Mo_topOf_28 ?_ | refine a_imul B d_Mo_topOf_28 ?_
    refine a_iload B d_Mo_topOf_29 rfl ?_
    first | refine b_iadd B d_Mo_topOf_31 ?_ | refine a_iadd B d_Mo_topOf_31 ?_
    refine a_iald B ly_115 _ rfl (by first | assumption | omega) d_Mo_topOf_32 ?_
    rw [a4 _ u3]
    refine a_iload_n B d_Mo_topOf_33 rfl rfl ?_
    first | refine b_icmp_gt B 42 d_Mo_topOf_34 rfl (by omega) (by omega) (fun c_34 => ?_) (fun c_34 => ?_) | refine a_icmp_gt B 42 d_Mo_topOf_34 rfl (fun c_34 => ?_) (fun c_34 => ?_)
    · skip
      refine a_iload B d_Mo_topOf_42 rfl ?_
      refine a_istore (lv1 := [(0, _), (1, _), (2, _), (3, _), (4, _), (5, _)]) B d_Mo_topOf_44 (by decide) rfl ?_
      refine a_aload_n B d_Mo_topOf_46 rfl rfl ?_
      refine gf_Mo_ups B d_Mo_topOf_47 fl_Mo_32 ?_
      refine a_bipush B d_Mo_topOf_50 cb_20 ?_
      refine a_iload_n B d_Mo_topOf_52 rfl rfl ?_
      first | refine b_imul B d_Mo_topOf_53 ?_ | refine a_imul B d_Mo_topOf_53 ?_
      refine a_iload B d_Mo_topOf_54 rfl ?_
      first | refine b_iadd B d_Mo_topOf_56 ?_ | refine a_iadd B d_Mo_topOf_56 ?_
      refine a_iald B ly_114 _ rfl (by first | assumption | omega) d_Mo_topOf_57 ?_
      rw [up_at tA u3]
      refine a_istore (lv1 := [(0, _), (1, _), (2, _), (3, _), (4, _), (5, _)]) B d_Mo_topOf_58 (by decide) rfl ?_
      refine a_goto B 16 d_Mo_topOf_60 rfl ?_
      first | exact ihm (2 * tN T - 1 - tU T v) _ _ (by omega) ⟨⟨tU T v, tU T v, rfl, u3, by rw [if_pos c_34] at hg; exact hg, rfl⟩, rfl⟩ | exact ihm (2 * tN T - 1 - tU T v) _ _ (by omega) ⟨⟨tU T v, p, rfl, u3, by rw [if_neg (Nat.not_le.mpr c_34)] at hg; exact hg, rfl⟩, rfl⟩
    refine a_iload B d_Mo_topOf_37 rfl ?_
    refine a_goto B 44 d_Mo_topOf_39 rfl ?_
    refine a_istore (lv1 := [(0, _), (1, _), (2, _), (3, _), (4, _), (5, _)]) B d_Mo_topOf_44 (by decide) rfl ?_
    refine a_aload_n B d_Mo_topOf_46 rfl rfl ?_
    refine gf_Mo_ups B d_Mo_topOf_47 fl_Mo_32 ?_
    refine a_bipush B d_Mo_topOf_50 cb_20 ?_
    refine a_iload_n B d_Mo_topOf_52 rfl rfl ?_
    first | refine b_imul B d_Mo_topOf_53 ?_ | refine a_imul B d_Mo_topOf_53 ?_
    refine a_iload B d_Mo_topOf_54 rfl ?_
    first | refine b_iadd B d_Mo_topOf_56 ?_ | refine a_iadd B d_Mo_topOf_56 ?_
    refine a_iald B ly_114 _ rfl (by first | assumption | omega) d_Mo_topOf_57 ?_
    rw [up_at tA u3]
    refine a_istore (lv1 := [(0, _), (1, _), (2, _), (3, _), (4, _), (5, _)]) B d_Mo_topOf_58 (by decide) rfl ?_
    refine a_goto B 16 d_Mo_topOf_60 rfl ?_
    first | exact ihm (2 * tN T - 1 - tU T v) _ _ (by omega) ⟨⟨tU T v, tU T v, rfl, u3, by rw [if_pos c_34] at hg; exact hg, rfl⟩, rfl⟩ | exact ihm (2 * tN T - 1 - tU T v) _ _ (by omega) ⟨⟨tU T v, p, rfl, u3, by rw [if_neg (Nat.not_le.mpr c_34)] at hg; exact hg, rfl⟩, rfl⟩
  · skip
    rw [show upI T v = -9 from if_neg hvt]
    refine a_if_lt B 63 d_Mo_topOf_18 rfl (fun _ => ?_) (fun c9 => absurd (by decide) c9)
    refine a_iload B d_Mo_topOf_63 rfl ?_
    exact Rt _ _ _ _ d_Mo_topOf_65 ⟨by rw [top_end hvt hp], rfl⟩
theorem k_mil : (1000000 : Int32) = nI 1000000 := by decide +kernel
theorem le_0 {i : Nat} (hi : i < 2 ^ 31) (h : nI i ≤ 0) : i = 0 := by
  have := (nI_le' (b := 0) hi (by decide)).mp (by rw [nI_0]; exact h)
  omega
theorem nle_0 {i : Nat} (hi : i < 2 ^ 31) (h : ¬ nI i ≤ 0) : 0 < i := Nat.pos_of_ne_zero (fun q => h (by rw [q, nI_0]; decide))
theorem RelM_grp {S : Sp} {σ τ : AH} {f : Nat → Int32} (h : RelM S σ) (e25 : τ.1 106 25 = bI true) (e125 : ∀ l, l < 10 → τ.1 125 l = f l) (e : ∀ k, k ≠ 106 → k ≠ 125 → (k < 119 ∨ 123 < k) → τ.1 k = σ.1 k) (f9 : ∀ j, j ≠ 25 → τ.1 106 j = σ.1 106 j) : RelM (pG S f) τ := by
  obtain ⟨h1, h2, h3, h4⟩ := h
  refine ⟨h1.of (f9 _ (by decide)) (e _ (by decide) (by decide) (by decide)) (e _ (by decide) (by decide) (by decide)), fun t ht => (h2 t ht).of (fun k q1 q2 => e k (by omega) (by omega) (by omega)), ?_, h4.of (f9 _ (by decide)) (e _ (by decide) (by decide) (by decide))⟩
  obtain ⟨m1, m2, m3, m4, m5, m6, m7, m8, m9, m10⟩ := h3
  exact ⟨by rw [f9 _ (by decide)]; exact m1, by rw [e _ (by decide) (by decide) (by decide)]; exact m2, by rw [f9 _ (by decide)]; exact m3, by rw [f9 _ (by decide)]; exact m4, m5, by rw [e _ (by decide) (by decide) (by decide)]; exact m6, ⟨true, e25, fun _ => e125, fun q => by cases q⟩, by rw [f9 _ (by decide)]; exact m8, m9, by rw [e _ (by decide) (by decide) (by decide)]; exact m10⟩
theorem d_Mo_cut_0 : decode prog_9_method_52_code 0 = .ok (.iload_n 2, 1) := by decide +kernel
theorem d_Mo_cut_1 : decode prog_9_method_52_code 1 = .ok (.iconst 0, 1) := by decide +kernel
theorem d_Mo_cut_2 : decode prog_9_method_52_code 2 = .ok (.ldc 185, 2) := by decide +kernel
theorem d_Mo_cut_4 : decode prog_9_method_52_code 4 = .ok (.invokestatic 87, 3) := by decide +kernel
theorem d_Mo_cut_7 : decode prog_9_method_52_code 7 = .ok (.ifCond .ne 5, 3) := by decide +kernel
theorem d_Mo_cut_10 : decode prog_9_method_52_code 10 = .ok (.iconst (-1), 1) := by decide +kernel
theorem d_Mo_cut_11 : decode prog_9_method_52_code 11 = .ok (.ireturn, 1) := by decide +kernel
theorem d_Mo_cut_12 : decode prog_9_method_52_code 12 = .ok (.aload_n 0, 1) := by decide +kernel
theorem d_Mo_cut_13 : decode prog_9_method_52_code 13 = .ok (.iload_n 1, 1) := by decide +kernel
theorem d_Mo_cut_14 : decode prog_9_method_52_code 14 = .ok (.invokevirtual 133, 3) := by decide +kernel
theorem d_Mo_cut_17 : decode prog_9_method_52_code 17 = .ok (.istore_n 3, 1) := by decide +kernel
theorem d_Mo_cut_18 : decode prog_9_method_52_code 18 = .ok (.iload_n 3, 1) := by decide +kernel
theorem d_Mo_cut_19 : decode prog_9_method_52_code 19 = .ok (.ifCond .ge 5, 3) := by decide +kernel
theorem d_Mo_cut_22 : decode prog_9_method_52_code 22 = .ok (.iload_n 3, 1) := by decide +kernel
theorem d_Mo_cut_23 : decode prog_9_method_52_code 23 = .ok (.ireturn, 1) := by decide +kernel
theorem d_Mo_cut_24 : decode prog_9_method_52_code 24 = .ok (.aload_n 0, 1) := by decide +kernel
theorem d_Mo_cut_25 : decode prog_9_method_52_code 25 = .ok (.iload_n 1, 1) := by decide +kernel
theorem d_Mo_cut_26 : decode prog_9_method_52_code 26 = .ok (.invokevirtual 146, 3) := by decide +kernel
theorem d_Mo_cut_29 : decode prog_9_method_52_code 29 = .ok (.aload_n 0, 1) := by decide +kernel
theorem d_Mo_cut_30 : decode prog_9_method_52_code 30 = .ok (.iconst 1, 1) := by decide +kernel
theorem d_Mo_cut_31 : decode prog_9_method_52_code 31 = .ok (.putfield 186, 3) := by decide +kernel
theorem d_Mo_cut_34 : decode prog_9_method_52_code 34 = .ok (.iconst 0, 1) := by decide +kernel
theorem d_Mo_cut_35 : decode prog_9_method_52_code 35 = .ok (.istore 4, 2) := by decide +kernel
theorem d_Mo_cut_37 : decode prog_9_method_52_code 37 = .ok (.iload 4, 2) := by decide +kernel
theorem d_Mo_cut_39 : decode prog_9_method_52_code 39 = .ok (.bipush 10, 2) := by decide +kernel
theorem d_Mo_cut_41 : decode prog_9_method_52_code 41 = .ok (.if_icmp .ge 18, 3) := by decide +kernel
theorem d_Mo_cut_44 : decode prog_9_method_52_code 44 = .ok (.aload_n 0, 1) := by decide +kernel
theorem d_Mo_cut_45 : decode prog_9_method_52_code 45 = .ok (.getfield 65, 3) := by decide +kernel
theorem d_Mo_cut_48 : decode prog_9_method_52_code 48 = .ok (.iload 4, 2) := by decide +kernel
theorem d_Mo_cut_50 : decode prog_9_method_52_code 50 = .ok (.bipush (-9), 2) := by decide +kernel
theorem d_Mo_cut_52 : decode prog_9_method_52_code 52 = .ok (.iastore, 1) := by decide +kernel
theorem d_Mo_cut_53 : decode prog_9_method_52_code 53 = .ok (.iinc 4 1, 3) := by decide +kernel
theorem d_Mo_cut_56 : decode prog_9_method_52_code 56 = .ok (.goto (-19), 3) := by decide +kernel
theorem d_Mo_cut_59 : decode prog_9_method_52_code 59 = .ok (.iconst 0, 1) := by decide +kernel
theorem d_Mo_cut_60 : decode prog_9_method_52_code 60 = .ok (.istore 4, 2) := by decide +kernel
theorem d_Mo_cut_62 : decode prog_9_method_52_code 62 = .ok (.iconst 0, 1) := by decide +kernel
theorem d_Mo_cut_63 : decode prog_9_method_52_code 63 = .ok (.istore 5, 2) := by decide +kernel
theorem d_Mo_cut_65 : decode prog_9_method_52_code 65 = .ok (.iload 5, 2) := by decide +kernel
theorem d_Mo_cut_67 : decode prog_9_method_52_code 67 = .ok (.aload_n 0, 1) := by decide +kernel
theorem d_Mo_cut_68 : decode prog_9_method_52_code 68 = .ok (.getfield 23, 3) := by decide +kernel
theorem d_Mo_cut_71 : decode prog_9_method_52_code 71 = .ok (.iload_n 1, 1) := by decide +kernel
theorem d_Mo_cut_72 : decode prog_9_method_52_code 72 = .ok (.iaload, 1) := by decide +kernel
theorem d_Mo_cut_73 : decode prog_9_method_52_code 73 = .ok (.if_icmp .ge 87, 3) := by decide +kernel
theorem d_Mo_cut_76 : decode prog_9_method_52_code 76 = .ok (.aload_n 0, 1) := by decide +kernel
theorem d_Mo_cut_77 : decode prog_9_method_52_code 77 = .ok (.iload_n 1, 1) := by decide +kernel
theorem d_Mo_cut_78 : decode prog_9_method_52_code 78 = .ok (.aload_n 0, 1) := by decide +kernel
theorem d_Mo_cut_79 : decode prog_9_method_52_code 79 = .ok (.getfield 50, 3) := by decide +kernel
theorem d_Mo_cut_82 : decode prog_9_method_52_code 82 = .ok (.iload 5, 2) := by decide +kernel
theorem d_Mo_cut_84 : decode prog_9_method_52_code 84 = .ok (.iaload, 1) := by decide +kernel
theorem d_Mo_cut_85 : decode prog_9_method_52_code 85 = .ok (.iload_n 2, 1) := by decide +kernel
theorem d_Mo_cut_86 : decode prog_9_method_52_code 86 = .ok (.invokevirtual 190, 3) := by decide +kernel
theorem d_Mo_cut_89 : decode prog_9_method_52_code 89 = .ok (.istore 6, 2) := by decide +kernel
theorem d_Mo_cut_91 : decode prog_9_method_52_code 91 = .ok (.iload 5, 2) := by decide +kernel
theorem d_Mo_cut_93 : decode prog_9_method_52_code 93 = .ok (.ifCond .le 27, 3) := by decide +kernel
theorem d_Mo_cut_96 : decode prog_9_method_52_code 96 = .ok (.aload_n 0, 1) := by decide +kernel
theorem d_Mo_cut_97 : decode prog_9_method_52_code 97 = .ok (.iload_n 1, 1) := by decide +kernel
theorem d_Mo_cut_98 : decode prog_9_method_52_code 98 = .ok (.aload_n 0, 1) := by decide +kernel
theorem d_Mo_cut_99 : decode prog_9_method_52_code 99 = .ok (.getfield 50, 3) := by decide +kernel
theorem d_Mo_cut_102 : decode prog_9_method_52_code 102 = .ok (.iload 5, 2) := by decide +kernel
theorem d_Mo_cut_104 : decode prog_9_method_52_code 104 = .ok (.iconst 1, 1) := by decide +kernel
theorem d_Mo_cut_105 : decode prog_9_method_52_code 105 = .ok (.isub, 1) := by decide +kernel
theorem d_Mo_cut_106 : decode prog_9_method_52_code 106 = .ok (.iaload, 1) := by decide +kernel
theorem d_Mo_cut_107 : decode prog_9_method_52_code 107 = .ok (.iload_n 2, 1) := by decide +kernel
theorem d_Mo_cut_108 : decode prog_9_method_52_code 108 = .ok (.invokevirtual 190, 3) := by decide +kernel
theorem d_Mo_cut_111 : decode prog_9_method_52_code 111 = .ok (.iload 6, 2) := by decide +kernel
theorem d_Mo_cut_113 : decode prog_9_method_52_code 113 = .ok (.if_icmp .ne 7, 3) := by decide +kernel
theorem d_Mo_cut_116 : decode prog_9_method_52_code 116 = .ok (.iconst 1, 1) := by decide +kernel
theorem d_Mo_cut_117 : decode prog_9_method_52_code 117 = .ok (.goto 4, 3) := by decide +kernel
theorem d_Mo_cut_120 : decode prog_9_method_52_code 120 = .ok (.iconst 0, 1) := by decide +kernel
theorem d_Mo_cut_121 : decode prog_9_method_52_code 121 = .ok (.istore 7, 2) := by decide +kernel
theorem d_Mo_cut_123 : decode prog_9_method_52_code 123 = .ok (.iload 4, 2) := by decide +kernel
theorem d_Mo_cut_125 : decode prog_9_method_52_code 125 = .ok (.iload 7, 2) := by decide +kernel
theorem d_Mo_cut_127 : decode prog_9_method_52_code 127 = .ok (.ifCond .eq 7, 3) := by decide +kernel
theorem d_Mo_cut_130 : decode prog_9_method_52_code 130 = .ok (.iconst 0, 1) := by decide +kernel
theorem d_Mo_cut_131 : decode prog_9_method_52_code 131 = .ok (.goto 4, 3) := by decide +kernel
theorem d_Mo_cut_134 : decode prog_9_method_52_code 134 = .ok (.iconst 1, 1) := by decide +kernel
theorem d_Mo_cut_135 : decode prog_9_method_52_code 135 = .ok (.iadd, 1) := by decide +kernel
theorem d_Mo_cut_136 : decode prog_9_method_52_code 136 = .ok (.istore 4, 2) := by decide +kernel
theorem d_Mo_cut_138 : decode prog_9_method_52_code 138 = .ok (.aload_n 0, 1) := by decide +kernel
theorem d_Mo_cut_139 : decode prog_9_method_52_code 139 = .ok (.getfield 65, 3) := by decide +kernel
theorem d_Mo_cut_142 : decode prog_9_method_52_code 142 = .ok (.aload_n 0, 1) := by decide +kernel
theorem d_Mo_cut_143 : decode prog_9_method_52_code 143 = .ok (.getfield 50, 3) := by decide +kernel
theorem d_Mo_cut_146 : decode prog_9_method_52_code 146 = .ok (.iload 5, 2) := by decide +kernel
theorem d_Mo_cut_148 : decode prog_9_method_52_code 148 = .ok (.iaload, 1) := by decide +kernel
theorem d_Mo_cut_149 : decode prog_9_method_52_code 149 = .ok (.iload 4, 2) := by decide +kernel
theorem d_Mo_cut_151 : decode prog_9_method_52_code 151 = .ok (.iconst 1, 1) := by decide +kernel
theorem d_Mo_cut_152 : decode prog_9_method_52_code 152 = .ok (.isub, 1) := by decide +kernel
theorem d_Mo_cut_153 : decode prog_9_method_52_code 153 = .ok (.iastore, 1) := by decide +kernel
theorem d_Mo_cut_154 : decode prog_9_method_52_code 154 = .ok (.iinc 5 1, 3) := by decide +kernel
theorem d_Mo_cut_157 : decode prog_9_method_52_code 157 = .ok (.goto (-92), 3) := by decide +kernel
theorem d_Mo_cut_160 : decode prog_9_method_52_code 160 = .ok (.iload 4, 2) := by decide +kernel
theorem d_Mo_cut_162 : decode prog_9_method_52_code 162 = .ok (.ireturn, 1) := by decide +kernel
set_option maxHeartbeats 4000000 in
set_option maxRecDepth 20000 in
theorem tM_cut {g : GG} (G : Gok g) {σ : AH} {S : Sp} (hS : RelM S σ) (x h : Int32) : TerI g 3 m_Mo_cut [rV 106, iV x, iV h] σ (fun r τ => r = (sp_cut S x h).1 ∧ RelM (sp_cut S x h).2 τ ∧ frM σ τ) := by
  refine TerI.mk G (by decide +kernel) rfl (Nat.le_of_ble_eq_true rfl) (fun K B Rt => ?_)
  have B : Cx g K prog_9_method_52_code 8 R_Mo 3 := B
  have Rt : RetI g K prog_9_method_52_code 8 (fun r τ => r = (sp_cut S x h).1 ∧ RelM (sp_cut S x h).2 τ ∧ frM σ τ) := Rt
  show AW g K 8 0 [(0, rV 106), (1, iV x), (2, iV h)] [] σ
  refine a_iload_n B d_Mo_cut_0 rfl rfl ?_
  refine a_iconst B d_Mo_cut_1 ci_0 ?_
  refine a_ldc B d_Mo_cut_2 kl_Mo_185 ?_
  rw [k_mil]
  refine a_callSI B (t_Mo_in G h (nI 0) (nI 1000000)) d_Mo_cut_4 ok_Mo_in ml_Mo_87 rfl (by decide) (by decide) rfl (Nat.le_of_ble_eq_true rfl) (fun r_4 τ_4 h_4 => ?_)
  obtain ⟨hr_4, hs_4⟩ := h_4
  subst hr_4
  replace hs_4 := hs_4.symm
  subst hs_4
  first | refine b_if_ne_b B 12 d_Mo_cut_7 rfl (fun c_7 => ?_) (fun c_7 => ?_) | refine a_if_ne B 12 d_Mo_cut_7 rfl (fun c_7 => ?_) (fun c_7 => ?_)
  · skip
    obtain ⟨k, hqk⟩ := isS_t ((in_rngP (n := 1000001) (by decide) (by decide)).symm.trans c_7)
    obtain ⟨hk, rfl⟩ := rngQ_some (by decide) hqk
    refine a_aload_n B d_Mo_cut_12 rfl rfl ?_
    refine a_iload_n B d_Mo_cut_13 rfl rfl ?_
    refine a_callVI (ci := 7) B (t_Mo_askedFor G hS x) d_Mo_cut_14 ok_Mo_askedFor ml_Mo_133 ly_106 rfl rfl (by decide) (by decide) rfl (Nat.le_of_ble_eq_true rfl) (fun r_14 τ_14 h_14 => ?_)
    refine a_istore_n (lv1 := [(0, _), (1, _), (2, _), (3, _)]) B d_Mo_cut_17 rfl (by decide) rfl ?_
    refine a_iload_n B d_Mo_cut_18 rfl rfl ?_
    rcases h_14 with ⟨q, hq, hr9, hR9, hF9⟩ | ⟨t, hq, hr9, hs9⟩
    · skip
      subst hr9
      refine a_if_ge B 24 d_Mo_cut_19 rfl (fun c9 => absurd (neg_nz (trQ_neg hq)).2 (Int32.not_lt.mpr c9)) (fun _ => ?_)
      refine a_iload_n B d_Mo_cut_22 rfl rfl ?_
      exact Rt _ _ _ _ d_Mo_cut_23 (by have e : sp_cut S x (nI k) = q := (by rw [sp_cut, hqk]; show (match trQ S x with | .inl r => r | .inr t => _) = _; rw [hq]); rw [e]; exact ⟨rfl, hR9, hF9⟩)
    · skip
      subst hr9
      replace hs9 := hs9.symm
      subst hs9
      obtain ⟨ht, rfl, hn⟩ := trQ_ok hq
      obtain ⟨tW, tA, tB, tX⟩ := (hS.2.1 t ht).2 hn
      obtain ⟨a1, a2, a3, a4, a5, a6⟩ := id tA
      have w1 := tW.1
      have w10 := tW.2.1
      refine b_if_ge B 24 d_Mo_cut_19 rfl (by first | assumption | omega) ?_
      refine a_aload_n B d_Mo_cut_24 rfl rfl ?_
      refine a_iload_n B d_Mo_cut_25 rfl rfl ?_
      refine a_callVV (ci := 7) B (t_Mo_setOrder G ht tW tA tB) d_Mo_cut_26 ok_Mo_setOrder ml_Mo_146 ly_106 rfl rfl (by decide) (by decide) rfl (Nat.le_of_ble_eq_true rfl) (fun τ_26 h_26 => ?_)
      refine a_aload_n B d_Mo_cut_29 rfl rfl ?_
      refine a_iconst B d_Mo_cut_30 ci_1 ?_
      refine pf_Mo_isGroups B (by first | exact Or.inl rfl | exact Or.inr rfl) d_Mo_cut_31 fl_Mo_186 ?_
      refine a_iconst B d_Mo_cut_34 ci_0 ?_
      refine a_istore (lv1 := [(0, _), (1, _), (2, _), (3, _), (4, _)]) B d_Mo_cut_35 (by decide) rfl ?_
      refine a_forR 10 (fun i lv τ => lv = [(0, rV 106), (1, iV (nI t)), (2, iV (nI k)), (3, iV (nI 0)), (4, iV (nI i))] ∧ (∀ j, j ≠ 125 → τ.1 j = (up1 τ_26 106 (upd (τ_26.1 106) 25 (nI 1))).1 j) ∧ (∀ x, x < i → τ.1 125 x = -9)) (fun i lv τ hi hI ihi => ?_) (fun lv τ hI => ?_) 0 (Nat.zero_le _) _ _ ⟨rfl, fun _ _ => rfl, fun _ h => absurd h (Nat.not_lt_zero _)⟩
      · skip
        obtain ⟨rfl, hF, hQ⟩ := hI
        refine a_iload B d_Mo_cut_37 rfl ?_
        refine a_bipush B d_Mo_cut_39 cb_10 ?_
        first | refine b_icmp_ge B 59 d_Mo_cut_41 rfl (by omega) (by omega) (fun c_41 => ?_) (fun c_41 => ?_) | refine a_icmp_ge B 59 d_Mo_cut_41 rfl (fun c_41 => ?_) (fun c_41 => ?_)
        · skip
          exact absurd c_41 (by omega)
        refine a_aload_n B d_Mo_cut_44 rfl rfl ?_
        refine gf_Mo_groups B d_Mo_cut_45 fl_Mo_65 ?_
        refine a_iload B d_Mo_cut_48 rfl ?_
        refine a_bipush B d_Mo_cut_50 cb_m9 ?_
        refine a_iast B ly_125 _ rfl (by first | assumption | omega) d_Mo_cut_52 ?_
        first | refine b_iinc (lv1 := [(0, _), (1, _), (2, _), (3, _), (4, _)]) B d_Mo_cut_53 rfl ci_1 (by decide) rfl ?_ | refine a_iinc (lv1 := [(0, _), (1, _), (2, _), (3, _), (4, _)]) B d_Mo_cut_53 rfl rfl (by decide) rfl ?_
        refine a_goto B 37 d_Mo_cut_56 rfl ?_
        refine ihi _ _ ⟨rfl, fun j q => by rw [up1_o q]; exact hF j q, fun x hx => ?_⟩
        rw [up1_s]
        by_cases e : x = i
        · rw [e, upd_s]
        · rw [upd_o e]; exact hQ x (by omega)
      · skip
        obtain ⟨rfl, hF, hQ⟩ := hI
        refine a_iload B d_Mo_cut_37 rfl ?_
        refine a_bipush B d_Mo_cut_39 cb_10 ?_
        first | refine b_icmp_ge B 59 d_Mo_cut_41 rfl (by omega) (by omega) (fun c_41 => ?_) (fun c_41 => ?_) | refine a_icmp_ge B 59 d_Mo_cut_41 rfl (fun c_41 => ?_) (fun c_41 => ?_)
        · skip
          refine a_iconst B d_Mo_cut_59 ci_0 ?_
          refine a_istore (lv1 := [(0, _), (1, _), (2, _), (3, _), (4, _)]) B d_Mo_cut_60 (by decide) rfl ?_
          refine a_iconst B d_Mo_cut_62 ci_0 ?_
          refine a_istore (lv1 := [(0, _), (1, _), (2, _), (3, _), (4, _), (5, _)]) B d_Mo_cut_63 (by decide) rfl ?_
          refine a_forR (tN (sT S t)) (fun i lv τ => lv = [(0, rV 106), (1, iV (nI t)), (2, iV (nI k)), (3, iV (nI 0)), (4, iV (nI (grpN (sT S t) k i))), (5, iV (nI i))] ∧ (∀ j, j ≠ 125 → τ.1 j = (up1 τ_26 106 (upd (τ_26.1 106) 25 (nI 1))).1 j) ∧ (∀ x, x < 10 → τ.1 125 x = grpF (sT S t) k (fun _ => -9) i x)) (fun i lv τ hi hI ihi => ?_) (fun lv τ hI => ?_) 0 (Nat.zero_le _) _ _ ⟨rfl, hF, fun x hx => hQ x hx⟩
          · skip
            obtain ⟨rfl, hF, hQ⟩ := hI
            have z1 : τ.1 111 t = nI (tN (sT S t)) := (by rw [hF 111 (by decide), up1_o (by decide), h_26.1 111 (by decide) (by decide)]; exact a1)
            have zA : TmA τ t (sT S t) := tA.fl (fun j _ _ _ q1 q2 => by rw [hF j (by omega), up1_o (by omega)]; exact h_26.1 j (by omega) (by omega))
            have zO : ∀ i, i < tN (sT S t) → τ.1 120 i = nI (ordT (sT S t) i) := fun i hi => by rw [hF 120 (by decide), up1_o (by decide)]; exact h_26.ord tW hi
            have o1 := (pos_ord tW (i := i) (by omega)).1
            have tp1 := (topL_eq tW (h := k) o1).2
            refine a_iload B d_Mo_cut_65 rfl ?_
            refine a_aload_n B d_Mo_cut_67 rfl rfl ?_
            refine gf_Mo_sizes B d_Mo_cut_68 fl_Mo_23 ?_
            refine a_iload_n B d_Mo_cut_71 rfl rfl ?_
            refine a_iald B ly_111 _ rfl (by first | assumption | omega) d_Mo_cut_72 ?_
            rw [z1]
            first | refine b_icmp_ge B 160 d_Mo_cut_73 rfl (by omega) (by omega) (fun c_73 => ?_) (fun c_73 => ?_) | refine a_icmp_ge B 160 d_Mo_cut_73 rfl (fun c_73 => ?_) (fun c_73 => ?_)
            · skip
              exact absurd c_73 (by omega)
            refine a_aload_n B d_Mo_cut_76 rfl rfl ?_
            refine a_iload_n B d_Mo_cut_77 rfl rfl ?_
            refine a_aload_n B d_Mo_cut_78 rfl rfl ?_
            refine gf_Mo_order B d_Mo_cut_79 fl_Mo_50 ?_
            refine a_iload B d_Mo_cut_82 rfl ?_
            refine a_iald B ly_120 _ rfl (by first | assumption | omega) d_Mo_cut_84 ?_
            rw [zO i (by omega)]
            refine a_iload_n B d_Mo_cut_85 rfl rfl ?_
            refine a_callVI (ci := 7) B (t_Mo_topOf G ht tW zA o1 (by omega)) d_Mo_cut_86 ok_Mo_topOf ml_Mo_190 ly_106 rfl rfl (by decide) (by decide) rfl (Nat.le_of_ble_eq_true rfl) (fun r_86 τ_86 h_86 => ?_)
            obtain ⟨hr_86, hs_86⟩ := h_86
            subst hr_86
            replace hs_86 := hs_86.symm
            subst hs_86
            refine a_istore (lv1 := [(0, _), (1, _), (2, _), (3, _), (4, _), (5, _), (6, _)]) B d_Mo_cut_89 (by decide) rfl ?_
            refine a_iload B d_Mo_cut_91 rfl ?_
            refine a_if_le B 120 d_Mo_cut_93 rfl (fun c_93 => ?_) (fun c_93 => ?_)
            · skip
              have c_93 := le_0 (by omega) c_93
              have hg : grpN (sT S t) k (i + 1) = grpN (sT S t) k i + 1 := (by show _ + _ = _; rw [if_neg (fun q => by omega)])
              refine a_iconst B d_Mo_cut_120 ci_0 ?_
              refine a_istore (lv1 := [(0, _), (1, _), (2, _), (3, _), (4, _), (5, _), (6, _), (7, _)]) B d_Mo_cut_121 (by decide) rfl ?_
              refine a_iload B d_Mo_cut_123 rfl ?_
              refine a_iload B d_Mo_cut_125 rfl ?_
              refine a_if_eq B 134 d_Mo_cut_127 rfl (fun _ => ?_) (fun c9 => absurd nI_0 c9)
              refine a_iconst B d_Mo_cut_134 ci_1 ?_
              first | refine b_iadd B d_Mo_cut_135 ?_ | refine a_iadd B d_Mo_cut_135 ?_
              refine a_istore (lv1 := [(0, _), (1, _), (2, _), (3, _), (4, _), (5, _), (6, _), (7, _)]) B d_Mo_cut_136 (by decide) rfl ?_
              refine a_aload_n B d_Mo_cut_138 rfl rfl ?_
              refine gf_Mo_groups B d_Mo_cut_139 fl_Mo_65 ?_
              refine a_aload_n B d_Mo_cut_142 rfl rfl ?_
              refine gf_Mo_order B d_Mo_cut_143 fl_Mo_50 ?_
              refine a_iload B d_Mo_cut_146 rfl ?_
              refine a_iald B ly_120 _ rfl (by first | assumption | omega) d_Mo_cut_148 ?_
              rw [zO i (by omega)]
              refine a_iload B d_Mo_cut_149 rfl ?_
              refine a_iconst B d_Mo_cut_151 ci_1 ?_
              first | refine b_isub B (by omega) d_Mo_cut_152 ?_ | refine a_isub B d_Mo_cut_152 ?_
              refine a_iast B ly_125 _ rfl (by first | assumption | omega) d_Mo_cut_153 ?_
              first | refine b_iinc (lv1 := [(0, _), (1, _), (2, _), (3, _), (4, _), (5, _), (6, _), (7, _)]) B d_Mo_cut_154 rfl ci_1 (by decide) rfl ?_ | refine a_iinc (lv1 := [(0, _), (1, _), (2, _), (3, _), (4, _), (5, _), (6, _), (7, _)]) B d_Mo_cut_154 rfl rfl (by decide) rfl ?_
              refine a_goto B 65 d_Mo_cut_157 rfl ?_
              refine a_sub (lv1 := [(0, _), (1, _), (2, _), (3, _), (4, _), (5, _)]) rfl ?_
              refine ihi _ _ ⟨by rw [hg] <;> rfl, fun j q => by rw [up1_o q]; exact hF j q, fun x hx => ?_⟩
              rw [up1_s]
              show _ = upd (grpF (sT S t) k (fun _ => -9) i) (ordT (sT S t) i) (nI (grpN (sT S t) k (i + 1) - 1)) x
              rw [hg]
              by_cases e : x = ordT (sT S t) i
              · rw [e, upd_s, upd_s]
              · rw [upd_o e, upd_o e]; exact hQ x hx
            have c_93 := nle_0 (by omega) c_93
            have hgp := grpN_pos (T := sT S t) (h := k) i c_93
            have o2 := (pos_ord tW (i := i - 1) (by omega)).1
            have tp2 := (topL_eq tW (h := k) o2).2
            refine a_aload_n B d_Mo_cut_96 rfl rfl ?_
            refine a_iload_n B d_Mo_cut_97 rfl rfl ?_
            refine a_aload_n B d_Mo_cut_98 rfl rfl ?_
            refine gf_Mo_order B d_Mo_cut_99 fl_Mo_50 ?_
            refine a_iload B d_Mo_cut_102 rfl ?_
            refine a_iconst B d_Mo_cut_104 ci_1 ?_
            first | refine b_isub B (by omega) d_Mo_cut_105 ?_ | refine a_isub B d_Mo_cut_105 ?_
            refine a_iald B ly_120 _ rfl (by first | assumption | omega) d_Mo_cut_106 ?_
            rw [zO (i - 1) (by omega)]
            refine a_iload_n B d_Mo_cut_107 rfl rfl ?_
            refine a_callVI (ci := 7) B (t_Mo_topOf G ht tW zA o2 (by omega)) d_Mo_cut_108 ok_Mo_topOf ml_Mo_190 ly_106 rfl rfl (by decide) (by decide) rfl (Nat.le_of_ble_eq_true rfl) (fun r_108 τ_108 h_108 => ?_)
            obtain ⟨hr_108, hs_108⟩ := h_108
            subst hr_108
            replace hs_108 := hs_108.symm
            subst hs_108
            refine a_iload B d_Mo_cut_111 rfl ?_
            first | refine b_icmp_ne B 120 d_Mo_cut_113 rfl (by omega) (by omega) (fun c_113 => ?_) (fun c_113 => ?_) | refine a_icmp_ne B 120 d_Mo_cut_113 rfl (fun c_113 => ?_) (fun c_113 => ?_)
            · skip
              have hg : grpN (sT S t) k (i + 1) = grpN (sT S t) k i + 1 := (by show _ + _ = _; rw [if_neg (fun q => c_113 q.2)])
              refine a_iconst B d_Mo_cut_120 ci_0 ?_
              refine a_istore (lv1 := [(0, _), (1, _), (2, _), (3, _), (4, _), (5, _), (6, _), (7, _)]) B d_Mo_cut_121 (by decide) rfl ?_
              refine a_iload B d_Mo_cut_123 rfl ?_
              refine a_iload B d_Mo_cut_125 rfl ?_
              refine a_if_eq B 134 d_Mo_cut_127 rfl (fun _ => ?_) (fun c9 => absurd nI_0 c9)
              refine a_iconst B d_Mo_cut_134 ci_1 ?_
              first | refine b_iadd B d_Mo_cut_135 ?_ | refine a_iadd B d_Mo_cut_135 ?_
              refine a_istore (lv1 := [(0, _), (1, _), (2, _), (3, _), (4, _), (5, _), (6, _), (7, _)]) B d_Mo_cut_136 (by decide) rfl ?_
              refine a_aload_n B d_Mo_cut_138 rfl rfl ?_
              refine gf_Mo_groups B d_Mo_cut_139 fl_Mo_65 ?_
              refine a_aload_n B d_Mo_cut_142 rfl rfl ?_
              refine gf_Mo_order B d_Mo_cut_143 fl_Mo_50 ?_
              refine a_iload B d_Mo_cut_146 rfl ?_
              refine a_iald B ly_120 _ rfl (by first | assumption | omega) d_Mo_cut_148 ?_
              rw [zO i (by omega)]
              refine a_iload B d_Mo_cut_149 rfl ?_
              refine a_iconst B d_Mo_cut_151 ci_1 ?_
              first | refine b_isub B (by omega) d_Mo_cut_152 ?_ | refine a_isub B d_Mo_cut_152 ?_
              refine a_iast B ly_125 _ rfl (by first | assumption | omega) d_Mo_cut_153 ?_
              first | refine b_iinc (lv1 := [(0, _), (1, _), (2, _), (3, _), (4, _), (5, _), (6, _), (7, _)]) B d_Mo_cut_154 rfl ci_1 (by decide) rfl ?_ | refine a_iinc (lv1 := [(0, _), (1, _), (2, _), (3, _), (4, _), (5, _), (6, _), (7, _)]) B d_Mo_cut_154 rfl rfl (by decide) rfl ?_
              refine a_goto B 65 d_Mo_cut_157 rfl ?_
              refine a_sub (lv1 := [(0, _), (1, _), (2, _), (3, _), (4, _), (5, _)]) rfl ?_
              refine ihi _ _ ⟨by rw [hg] <;> rfl, fun j q => by rw [up1_o q]; exact hF j q, fun x hx => ?_⟩
              rw [up1_s]
              show _ = upd (grpF (sT S t) k (fun _ => -9) i) (ordT (sT S t) i) (nI (grpN (sT S t) k (i + 1) - 1)) x
              rw [hg]
              by_cases e : x = ordT (sT S t) i
              · rw [e, upd_s, upd_s]
              · rw [upd_o e, upd_o e]; exact hQ x hx
            have hg : grpN (sT S t) k (i + 1) = grpN (sT S t) k i + 0 := (by show _ + _ = _; rw [if_pos ⟨c_93, c_113⟩])
            refine a_iconst B d_Mo_cut_116 ci_1 ?_
            refine a_goto B 121 d_Mo_cut_117 rfl ?_
            refine a_istore (lv1 := [(0, _), (1, _), (2, _), (3, _), (4, _), (5, _), (6, _), (7, _)]) B d_Mo_cut_121 (by decide) rfl ?_
            refine a_iload B d_Mo_cut_123 rfl ?_
            refine a_iload B d_Mo_cut_125 rfl ?_
            refine a_if_eq B 134 d_Mo_cut_127 rfl (fun c9 => absurd c9 (by decide)) (fun _ => ?_)
            refine a_iconst B d_Mo_cut_130 ci_0 ?_
            refine a_goto B 135 d_Mo_cut_131 rfl ?_
            first | refine b_iadd B d_Mo_cut_135 ?_ | refine a_iadd B d_Mo_cut_135 ?_
            refine a_istore (lv1 := [(0, _), (1, _), (2, _), (3, _), (4, _), (5, _), (6, _), (7, _)]) B d_Mo_cut_136 (by decide) rfl ?_
            refine a_aload_n B d_Mo_cut_138 rfl rfl ?_
            refine gf_Mo_groups B d_Mo_cut_139 fl_Mo_65 ?_
            refine a_aload_n B d_Mo_cut_142 rfl rfl ?_
            refine gf_Mo_order B d_Mo_cut_143 fl_Mo_50 ?_
            refine a_iload B d_Mo_cut_146 rfl ?_
            refine a_iald B ly_120 _ rfl (by first | assumption | omega) d_Mo_cut_148 ?_
            rw [zO i (by omega)]
            refine a_iload B d_Mo_cut_149 rfl ?_
            refine a_iconst B d_Mo_cut_151 ci_1 ?_
            first | refine b_isub B (by omega) d_Mo_cut_152 ?_ | refine a_isub B d_Mo_cut_152 ?_
            refine a_iast B ly_125 _ rfl (by first | assumption | omega) d_Mo_cut_153 ?_
            first | refine b_iinc (lv1 := [(0, _), (1, _), (2, _), (3, _), (4, _), (5, _), (6, _), (7, _)]) B d_Mo_cut_154 rfl ci_1 (by decide) rfl ?_ | refine a_iinc (lv1 := [(0, _), (1, _), (2, _), (3, _), (4, _), (5, _), (6, _), (7, _)]) B d_Mo_cut_154 rfl rfl (by decide) rfl ?_
            refine a_goto B 65 d_Mo_cut_157 rfl ?_
            refine a_sub (lv1 := [(0, _), (1, _), (2, _), (3, _), (4, _), (5, _)]) rfl ?_
            refine ihi _ _ ⟨by rw [hg] <;> rfl, fun j q => by rw [up1_o q]; exact hF j q, fun x hx => ?_⟩
            rw [up1_s]
            show _ = upd (grpF (sT S t) k (fun _ => -9) i) (ordT (sT S t) i) (nI (grpN (sT S t) k (i + 1) - 1)) x
            rw [hg]
            by_cases e : x = ordT (sT S t) i
            · rw [e, upd_s, upd_s]
            · rw [upd_o e, upd_o e]; exact hQ x hx
          · skip
            obtain ⟨rfl, hF, hQ⟩ := hI
            have z1 : τ.1 111 t = nI (tN (sT S t)) := (by rw [hF 111 (by decide), up1_o (by decide), h_26.1 111 (by decide) (by decide)]; exact a1)
            refine a_iload B d_Mo_cut_65 rfl ?_
            refine a_aload_n B d_Mo_cut_67 rfl rfl ?_
            refine gf_Mo_sizes B d_Mo_cut_68 fl_Mo_23 ?_
            refine a_iload_n B d_Mo_cut_71 rfl rfl ?_
            refine a_iald B ly_111 _ rfl (by first | assumption | omega) d_Mo_cut_72 ?_
            rw [z1]
            first | refine b_icmp_ge B 160 d_Mo_cut_73 rfl (by omega) (by omega) (fun c_73 => ?_) (fun c_73 => ?_) | refine a_icmp_ge B 160 d_Mo_cut_73 rfl (fun c_73 => ?_) (fun c_73 => ?_)
            · skip
              refine a_iload B d_Mo_cut_160 rfl ?_
              exact Rt _ _ _ _ d_Mo_cut_162 (by have e : sp_cut S (nI t) (nI k) = (nI (grpN (sT S t) k (tN (sT S t))), pG S (grpF (sT S t) k (fun _ => -9) (tN (sT S t)))) := (by rw [sp_cut, hqk]; show (match trQ S (nI t) with | .inl r => r | .inr t => _) = _; rw [hq]); rw [e]; exact ⟨rfl, RelM_grp hS (by rw [hF 106 (by decide), up1_s, upd_s]; rfl) hQ (fun j q1 q2 q3 => by rw [hF j q2, up1_o q1]; exact h_26.1 j (by omega) (by omega)) (fun j hj => by rw [hF 106 (by decide), up1_s, upd_o hj, h_26.1 106 (by decide) (by decide)]), fun j hj => by rw [hF j (by omega), up1_o (by omega)]; exact h_26.1 j (by omega) (by omega)⟩)
            exact absurd c_73 (by omega)
        exact absurd c_41 (by omega)
  have hqk := isS_f ((in_rngP (n := 1000001) (by decide) (by decide)).symm.trans c_7)
  refine a_iconst B d_Mo_cut_10 ci_m1 ?_
  exact Rt _ _ _ _ d_Mo_cut_11 (by have e : sp_cut S x h = RB S := (by rw [sp_cut, hqk]); rw [e]; exact ⟨rfl, hS, (fun _ _ => rfl)⟩)
theorem d_Mo_group_0 : decode prog_9_method_53_code 0 = .ok (.aload_n 0, 1) := by decide +kernel
theorem d_Mo_group_1 : decode prog_9_method_53_code 1 = .ok (.getfield 186, 3) := by decide +kernel
theorem d_Mo_group_4 : decode prog_9_method_53_code 4 = .ok (.ifCond .eq 22, 3) := by decide +kernel
theorem d_Mo_group_7 : decode prog_9_method_53_code 7 = .ok (.iload_n 1, 1) := by decide +kernel
theorem d_Mo_group_8 : decode prog_9_method_53_code 8 = .ok (.iconst 0, 1) := by decide +kernel
theorem d_Mo_group_9 : decode prog_9_method_53_code 9 = .ok (.bipush 9, 2) := by decide +kernel
theorem d_Mo_group_11 : decode prog_9_method_53_code 11 = .ok (.invokestatic 87, 3) := by decide +kernel
theorem d_Mo_group_14 : decode prog_9_method_53_code 14 = .ok (.ifCond .eq 12, 3) := by decide +kernel
theorem d_Mo_group_17 : decode prog_9_method_53_code 17 = .ok (.aload_n 0, 1) := by decide +kernel
theorem d_Mo_group_18 : decode prog_9_method_53_code 18 = .ok (.getfield 65, 3) := by decide +kernel
theorem d_Mo_group_21 : decode prog_9_method_53_code 21 = .ok (.iload_n 1, 1) := by decide +kernel
theorem d_Mo_group_22 : decode prog_9_method_53_code 22 = .ok (.iaload, 1) := by decide +kernel
theorem d_Mo_group_23 : decode prog_9_method_53_code 23 = .ok (.goto 5, 3) := by decide +kernel
theorem d_Mo_group_26 : decode prog_9_method_53_code 26 = .ok (.bipush (-9), 2) := by decide +kernel
theorem d_Mo_group_28 : decode prog_9_method_53_code 28 = .ok (.ireturn, 1) := by decide +kernel
set_option maxHeartbeats 4000000 in
set_option maxRecDepth 20000 in
theorem tM_group {g : GG} (G : Gok g) {σ : AH} {S : Sp} (hS : RelM S σ) (x : Int32) : TerI g 1 m_Mo_group [rV 106, iV x] σ (fun r τ => r = (sp_group S x).1 ∧ RelM (sp_group S x).2 τ ∧ frM σ τ) := by
  refine TerI.mk G (by decide +kernel) rfl (Nat.le_of_ble_eq_true rfl) (fun K B Rt => ?_)
  have B : Cx g K prog_9_method_53_code 2 R_Mo 1 := B
  have Rt : RetI g K prog_9_method_53_code 2 (fun r τ => r = (sp_group S x).1 ∧ RelM (sp_group S x).2 τ ∧ frM σ τ) := Rt
  show AW g K 2 0 [(0, rV 106), (1, iV x)] [] σ
  obtain ⟨m1, m2, m3, m4, m5, m6, ⟨b, mb, m7, m7b⟩, m8, m9, m10⟩ := id hS.2.2.1
  refine a_aload_n B d_Mo_group_0 rfl rfl ?_
  refine gf_Mo_isGroups B d_Mo_group_1 fl_Mo_186 ?_
  rw [mb]
  first | refine b_if_eq_b B 26 d_Mo_group_4 rfl (fun c_4 => ?_) (fun c_4 => ?_) | refine a_if_eq B 26 d_Mo_group_4 rfl (fun c_4 => ?_) (fun c_4 => ?_)
  · skip
    refine a_bipush B d_Mo_group_26 cb_m9 ?_
    exact Rt _ _ _ _ d_Mo_group_28 (by first | exact (by have e : sp_group S (nI l) = (sGr S l, S) := (by show (match rngQ 10 (nI l) with | none => (-9 : Int32) | some l => sGr S l, S) = _; rw [hql]); rw [e]; exact ⟨rfl, hS, (fun _ _ => rfl)⟩) | exact (by have e : sp_group S x = (-9, S) := (by show (match rngQ 10 x with | none => (-9 : Int32) | some l => sGr S l, S) = _; rw [hql]); rw [e]; exact ⟨rfl, hS, (fun _ _ => rfl)⟩) | exact (by have e : sp_group S x = (-9, S) := (by show (match rngQ 10 x with | none => (-9 : Int32) | some l => sGr S l, S) = _; cases hz : rngQ 10 x with | none => rfl | some l => (show (sGr S l, S) = _; rw [m7b c_4 l (rngQ_some (by decide) hz).1])); rw [e]; exact ⟨rfl, hS, (fun _ _ => rfl)⟩))
  refine a_iload_n B d_Mo_group_7 rfl rfl ?_
  refine a_iconst B d_Mo_group_8 ci_0 ?_
  refine a_bipush B d_Mo_group_9 cb_9 ?_
  refine a_callSI B (t_Mo_in G x (nI 0) (nI 9)) d_Mo_group_11 ok_Mo_in ml_Mo_87 rfl (by decide) (by decide) rfl (Nat.le_of_ble_eq_true rfl) (fun r_11 τ_11 h_11 => ?_)
  obtain ⟨hr_11, hs_11⟩ := h_11
  subst hr_11
  replace hs_11 := hs_11.symm
  subst hs_11
  first | refine b_if_eq_b B 26 d_Mo_group_14 rfl (fun c_14 => ?_) (fun c_14 => ?_) | refine a_if_eq B 26 d_Mo_group_14 rfl (fun c_14 => ?_) (fun c_14 => ?_)
  · skip
    have hql := isS_f ((in_rngP (n := 10) (by decide) (by decide)).symm.trans c_14)
    refine a_bipush B d_Mo_group_26 cb_m9 ?_
    exact Rt _ _ _ _ d_Mo_group_28 (by first | exact (by have e : sp_group S (nI l) = (sGr S l, S) := (by show (match rngQ 10 (nI l) with | none => (-9 : Int32) | some l => sGr S l, S) = _; rw [hql]); rw [e]; exact ⟨rfl, hS, (fun _ _ => rfl)⟩) | exact (by have e : sp_group S x = (-9, S) := (by show (match rngQ 10 x with | none => (-9 : Int32) | some l => sGr S l, S) = _; rw [hql]); rw [e]; exact ⟨rfl, hS, (fun _ _ => rfl)⟩) | exact (by have e : sp_group S x = (-9, S) := (by show (match rngQ 10 x with | none => (-9 : Int32) | some l => sGr S l, S) = _; cases hz : rngQ 10 x with | none => rfl | some l => (show (sGr S l, S) = _; rw [m7b c_4 l (rngQ_some (by decide) hz).1])); rw [e]; exact ⟨rfl, hS, (fun _ _ => rfl)⟩))
  obtain ⟨l, hql⟩ := isS_t ((in_rngP (n := 10) (by decide) (by decide)).symm.trans c_14)
  obtain ⟨hl, rfl⟩ := rngQ_some (by decide) hql
  refine a_aload_n B d_Mo_group_17 rfl rfl ?_
  refine gf_Mo_groups B d_Mo_group_18 fl_Mo_65 ?_
  refine a_iload_n B d_Mo_group_21 rfl rfl ?_
  refine a_iald B ly_125 _ rfl (by first | assumption | omega) d_Mo_group_22 ?_
  rw [m7 c_4 l hl]
  refine a_goto B 28 d_Mo_group_23 rfl ?_
  exact Rt _ _ _ _ d_Mo_group_28 (by first | exact (by have e : sp_group S (nI l) = (sGr S l, S) := (by show (match rngQ 10 (nI l) with | none => (-9 : Int32) | some l => sGr S l, S) = _; rw [hql]); rw [e]; exact ⟨rfl, hS, (fun _ _ => rfl)⟩) | exact (by have e : sp_group S x = (-9, S) := (by show (match rngQ 10 x with | none => (-9 : Int32) | some l => sGr S l, S) = _; rw [hql]); rw [e]; exact ⟨rfl, hS, (fun _ _ => rfl)⟩) | exact (by have e : sp_group S x = (-9, S) := (by show (match rngQ 10 x with | none => (-9 : Int32) | some l => sGr S l, S) = _; cases hz : rngQ 10 x with | none => rfl | some l => (show (sGr S l, S) = _; rw [m7b c_4 l (rngQ_some (by decide) hz).1])); rw [e]; exact ⟨rfl, hS, (fun _ _ => rfl)⟩))
theorem d_Mo_same_0 : decode prog_9_method_54_code 0 = .ok (.iload_n 3, 1) := by decide +kernel
theorem d_Mo_same_1 : decode prog_9_method_54_code 1 = .ok (.iconst 0, 1) := by decide +kernel
theorem d_Mo_same_2 : decode prog_9_method_54_code 2 = .ok (.ldc 185, 2) := by decide +kernel
theorem d_Mo_same_4 : decode prog_9_method_54_code 4 = .ok (.invokestatic 87, 3) := by decide +kernel
theorem d_Mo_same_7 : decode prog_9_method_54_code 7 = .ok (.ifCond .ne 5, 3) := by decide +kernel
theorem d_Mo_same_10 : decode prog_9_method_54_code 10 = .ok (.iconst (-1), 1) := by decide +kernel
theorem d_Mo_same_11 : decode prog_9_method_54_code 11 = .ok (.ireturn, 1) := by decide +kernel
theorem d_Mo_same_12 : decode prog_9_method_54_code 12 = .ok (.aload_n 0, 1) := by decide +kernel
theorem d_Mo_same_13 : decode prog_9_method_54_code 13 = .ok (.iload_n 1, 1) := by decide +kernel
theorem d_Mo_same_14 : decode prog_9_method_54_code 14 = .ok (.iload_n 2, 1) := by decide +kernel
theorem d_Mo_same_15 : decode prog_9_method_54_code 15 = .ok (.invokevirtual 170, 3) := by decide +kernel
theorem d_Mo_same_18 : decode prog_9_method_54_code 18 = .ok (.istore 4, 2) := by decide +kernel
theorem d_Mo_same_20 : decode prog_9_method_54_code 20 = .ok (.iload 4, 2) := by decide +kernel
theorem d_Mo_same_22 : decode prog_9_method_54_code 22 = .ok (.ifCond .ge 6, 3) := by decide +kernel
theorem d_Mo_same_25 : decode prog_9_method_54_code 25 = .ok (.iload 4, 2) := by decide +kernel
theorem d_Mo_same_27 : decode prog_9_method_54_code 27 = .ok (.ireturn, 1) := by decide +kernel
theorem d_Mo_same_28 : decode prog_9_method_54_code 28 = .ok (.iconst 0, 1) := by decide +kernel
theorem d_Mo_same_29 : decode prog_9_method_54_code 29 = .ok (.istore 5, 2) := by decide +kernel
theorem d_Mo_same_31 : decode prog_9_method_54_code 31 = .ok (.iconst 0, 1) := by decide +kernel
theorem d_Mo_same_32 : decode prog_9_method_54_code 32 = .ok (.istore 6, 2) := by decide +kernel
theorem d_Mo_same_34 : decode prog_9_method_54_code 34 = .ok (.iload 6, 2) := by decide +kernel
theorem d_Mo_same_36 : decode prog_9_method_54_code 36 = .ok (.aload_n 0, 1) := by decide +kernel
theorem d_Mo_same_37 : decode prog_9_method_54_code 37 = .ok (.getfield 23, 3) := by decide +kernel
theorem d_Mo_same_40 : decode prog_9_method_54_code 40 = .ok (.iload_n 1, 1) := by decide +kernel
theorem d_Mo_same_41 : decode prog_9_method_54_code 41 = .ok (.iaload, 1) := by decide +kernel
theorem d_Mo_same_42 : decode prog_9_method_54_code 42 = .ok (.if_icmp .ge 58, 3) := by decide +kernel
theorem d_Mo_same_45 : decode prog_9_method_54_code 45 = .ok (.iload 5, 2) := by decide +kernel
theorem d_Mo_same_47 : decode prog_9_method_54_code 47 = .ok (.aload_n 0, 1) := by decide +kernel
theorem d_Mo_same_48 : decode prog_9_method_54_code 48 = .ok (.getfield 44, 3) := by decide +kernel
theorem d_Mo_same_51 : decode prog_9_method_54_code 51 = .ok (.bipush 20, 2) := by decide +kernel
theorem d_Mo_same_53 : decode prog_9_method_54_code 53 = .ok (.iload_n 1, 1) := by decide +kernel
theorem d_Mo_same_54 : decode prog_9_method_54_code 54 = .ok (.imul, 1) := by decide +kernel
theorem d_Mo_same_55 : decode prog_9_method_54_code 55 = .ok (.aload_n 0, 1) := by decide +kernel
theorem d_Mo_same_56 : decode prog_9_method_54_code 56 = .ok (.iload_n 1, 1) := by decide +kernel
theorem d_Mo_same_57 : decode prog_9_method_54_code 57 = .ok (.iload 6, 2) := by decide +kernel
theorem d_Mo_same_59 : decode prog_9_method_54_code 59 = .ok (.iload_n 3, 1) := by decide +kernel
theorem d_Mo_same_60 : decode prog_9_method_54_code 60 = .ok (.invokevirtual 190, 3) := by decide +kernel
theorem d_Mo_same_63 : decode prog_9_method_54_code 63 = .ok (.iadd, 1) := by decide +kernel
theorem d_Mo_same_64 : decode prog_9_method_54_code 64 = .ok (.iaload, 1) := by decide +kernel
theorem d_Mo_same_65 : decode prog_9_method_54_code 65 = .ok (.aload_n 0, 1) := by decide +kernel
theorem d_Mo_same_66 : decode prog_9_method_54_code 66 = .ok (.getfield 44, 3) := by decide +kernel
theorem d_Mo_same_69 : decode prog_9_method_54_code 69 = .ok (.bipush 20, 2) := by decide +kernel
theorem d_Mo_same_71 : decode prog_9_method_54_code 71 = .ok (.iload_n 2, 1) := by decide +kernel
theorem d_Mo_same_72 : decode prog_9_method_54_code 72 = .ok (.imul, 1) := by decide +kernel
theorem d_Mo_same_73 : decode prog_9_method_54_code 73 = .ok (.aload_n 0, 1) := by decide +kernel
theorem d_Mo_same_74 : decode prog_9_method_54_code 74 = .ok (.iload_n 2, 1) := by decide +kernel
theorem d_Mo_same_75 : decode prog_9_method_54_code 75 = .ok (.iload 6, 2) := by decide +kernel
theorem d_Mo_same_77 : decode prog_9_method_54_code 77 = .ok (.iload_n 3, 1) := by decide +kernel
theorem d_Mo_same_78 : decode prog_9_method_54_code 78 = .ok (.invokevirtual 190, 3) := by decide +kernel
theorem d_Mo_same_81 : decode prog_9_method_54_code 81 = .ok (.iadd, 1) := by decide +kernel
theorem d_Mo_same_82 : decode prog_9_method_54_code 82 = .ok (.iaload, 1) := by decide +kernel
theorem d_Mo_same_83 : decode prog_9_method_54_code 83 = .ok (.if_icmp .ne 7, 3) := by decide +kernel
theorem d_Mo_same_86 : decode prog_9_method_54_code 86 = .ok (.iconst 1, 1) := by decide +kernel
theorem d_Mo_same_87 : decode prog_9_method_54_code 87 = .ok (.goto 4, 3) := by decide +kernel
theorem d_Mo_same_90 : decode prog_9_method_54_code 90 = .ok (.iconst 0, 1) := by decide +kernel
theorem d_Mo_same_91 : decode prog_9_method_54_code 91 = .ok (.iadd, 1) := by decide +kernel
theorem d_Mo_same_92 : decode prog_9_method_54_code 92 = .ok (.istore 5, 2) := by decide +kernel
theorem d_Mo_same_94 : decode prog_9_method_54_code 94 = .ok (.iinc 6 1, 3) := by decide +kernel
theorem d_Mo_same_97 : decode prog_9_method_54_code 97 = .ok (.goto (-63), 3) := by decide +kernel
theorem d_Mo_same_100 : decode prog_9_method_54_code 100 = .ok (.iload 5, 2) := by decide +kernel
theorem d_Mo_same_102 : decode prog_9_method_54_code 102 = .ok (.ireturn, 1) := by decide +kernel
set_option maxHeartbeats 4000000 in
set_option maxRecDepth 20000 in
theorem tM_same {g : GG} (G : Gok g) {σ : AH} {S : Sp} (hS : RelM S σ) (x y h : Int32) : TerI g 3 m_Mo_same [rV 106, iV x, iV y, iV h] σ (fun r τ => r = (sp_same S x y h).1 ∧ RelM (sp_same S x y h).2 τ ∧ frM σ τ) := by
  refine TerI.mk G (by decide +kernel) rfl (Nat.le_of_ble_eq_true rfl) (fun K B Rt => ?_)
  have B : Cx g K prog_9_method_54_code 7 R_Mo 3 := B
  have Rt : RetI g K prog_9_method_54_code 7 (fun r τ => r = (sp_same S x y h).1 ∧ RelM (sp_same S x y h).2 τ ∧ frM σ τ) := Rt
  show AW g K 7 0 [(0, rV 106), (1, iV x), (2, iV y), (3, iV h)] [] σ
  refine a_iload_n B d_Mo_same_0 rfl rfl ?_
  refine a_iconst B d_Mo_same_1 ci_0 ?_
  refine a_ldc B d_Mo_same_2 kl_Mo_185 ?_
  rw [k_mil]
  refine a_callSI B (t_Mo_in G h (nI 0) (nI 1000000)) d_Mo_same_4 ok_Mo_in ml_Mo_87 rfl (by decide) (by decide) rfl (Nat.le_of_ble_eq_true rfl) (fun r_4 τ_4 h_4 => ?_)
  obtain ⟨hr_4, hs_4⟩ := h_4
  subst hr_4
  replace hs_4 := hs_4.symm
  subst hs_4
  first | refine b_if_ne_b B 12 d_Mo_same_7 rfl (fun c_7 => ?_) (fun c_7 => ?_) | refine a_if_ne B 12 d_Mo_same_7 rfl (fun c_7 => ?_) (fun c_7 => ?_)
  · skip
    obtain ⟨k, hqk⟩ := isS_t ((in_rngP (n := 1000001) (by decide) (by decide)).symm.trans c_7)
    obtain ⟨hk, rfl⟩ := rngQ_some (by decide) hqk
    refine a_aload_n B d_Mo_same_12 rfl rfl ?_
    refine a_iload_n B d_Mo_same_13 rfl rfl ?_
    refine a_iload_n B d_Mo_same_14 rfl rfl ?_
    refine a_callVI (ci := 7) B (t_Mo_askedTwo G hS x y) d_Mo_same_15 ok_Mo_askedTwo ml_Mo_170 ly_106 rfl rfl (by decide) (by decide) rfl (Nat.le_of_ble_eq_true rfl) (fun r_15 τ_15 h_15 => ?_)
    refine a_istore (lv1 := [(0, _), (1, _), (2, _), (3, _), (4, _)]) B d_Mo_same_18 (by decide) rfl ?_
    refine a_iload B d_Mo_same_20 rfl ?_
    rcases h_15 with ⟨q, hq, hr9, hR9, hF9⟩ | ⟨q9, hq, hr9, hs9⟩
    · skip
      subst hr9
      refine a_if_ge B 28 d_Mo_same_22 rfl (fun c9 => absurd (neg_nz (prQ_neg hq)).2 (Int32.not_lt.mpr c9)) (fun _ => ?_)
      refine a_iload B d_Mo_same_25 rfl ?_
      exact Rt _ _ _ _ d_Mo_same_27 (by have e : sp_same S x y (nI k) = q := (by rw [sp_same, hqk]; show (match prQ S x y with | .inl r => r | .inr q => _) = _; rw [hq]); rw [e]; exact ⟨rfl, hR9, hF9⟩)
    · skip
      subst hr9
      replace hs9 := hs9.symm
      subst hs9
      obtain ⟨t, u⟩ := q9
      obtain ⟨ht, hx9, hu, hy9, hnt, hnu, he9⟩ := prQ_ok hq
      dsimp only at ht hx9 hu hy9 hnt hnu he9
      subst hx9
      subst hy9
      obtain ⟨tW, tA, tB, tX⟩ := (hS.2.1 t ht).2 hnt
      obtain ⟨uW, uA, uB, uC⟩ := (hS.2.1 u hu).2 hnu
      obtain ⟨a1, a2, a3, a4, a5, a6⟩ := id tA
      have w1 := tW.1
      have w10 := tW.2.1
      refine b_if_ge B 28 d_Mo_same_22 rfl (by first | assumption | omega) ?_
      refine a_iconst B d_Mo_same_28 ci_0 ?_
      refine a_istore (lv1 := [(0, _), (1, _), (2, _), (3, _), (4, _), (5, _)]) B d_Mo_same_29 (by decide) rfl ?_
      refine a_iconst B d_Mo_same_31 ci_0 ?_
      refine a_istore (lv1 := [(0, _), (1, _), (2, _), (3, _), (4, _), (5, _), (6, _)]) B d_Mo_same_32 (by decide) rfl ?_
      refine a_for (lf := fun i => [(0, rV 106), (1, iV (nI t)), (2, iV (nI u)), (3, iV (nI k)), (4, iV (nI 0)), (5, iV (nI (cntB (fun l => decide (tM (sT S t) (topL (sT S t) k l) = tM (sT S u) (topL (sT S u) k l))) i))), (6, iV (nI i))]) (τ := fun i => σ) (tN (sT S t)) (fun i hi ihi => ?_) ?_ 0 (Nat.zero_le _)
      · skip
        refine a_iload B d_Mo_same_34 rfl ?_
        refine a_aload_n B d_Mo_same_36 rfl rfl ?_
        refine gf_Mo_sizes B d_Mo_same_37 fl_Mo_23 ?_
        refine a_iload_n B d_Mo_same_40 rfl rfl ?_
        refine a_iald B ly_111 _ rfl (by first | assumption | omega) d_Mo_same_41 ?_
        rw [a1]
        first | refine b_icmp_ge B 100 d_Mo_same_42 rfl (by omega) (by omega) (fun c_42 => ?_) (fun c_42 => ?_) | refine a_icmp_ge B 100 d_Mo_same_42 rfl (fun c_42 => ?_) (fun c_42 => ?_)
        · skip
          exact absurd c_42 (by omega)
        have hiu : i < tN (sT S u) := by omega
        have tp1 := (topL_eq tW (h := k) (show i < tN (sT S t) by omega)).2
        have tp2 := (topL_eq uW (h := k) hiu).2
        have u10 := uW.2.1
        refine a_iload B d_Mo_same_45 rfl ?_
        refine a_aload_n B d_Mo_same_47 rfl rfl ?_
        refine gf_Mo_below B d_Mo_same_48 fl_Mo_44 ?_
        refine a_bipush B d_Mo_same_51 cb_20 ?_
        refine a_iload_n B d_Mo_same_53 rfl rfl ?_
        first | refine b_imul B d_Mo_same_54 ?_ | refine a_imul B d_Mo_same_54 ?_
        refine a_aload_n B d_Mo_same_55 rfl rfl ?_
        refine a_iload_n B d_Mo_same_56 rfl rfl ?_
        refine a_iload B d_Mo_same_57 rfl ?_
        refine a_iload_n B d_Mo_same_59 rfl rfl ?_
        refine a_callVI (ci := 7) B (t_Mo_topOf G ht tW tA (show i < tN (sT S t) by omega) (by omega)) d_Mo_same_60 ok_Mo_topOf ml_Mo_190 ly_106 rfl rfl (by decide) (by decide) rfl (Nat.le_of_ble_eq_true rfl) (fun r_60 τ_60 h_60 => ?_)
        obtain ⟨hr_60, hs_60⟩ := h_60
        subst hr_60
        replace hs_60 := hs_60.symm
        subst hs_60
        first | refine b_iadd B d_Mo_same_63 ?_ | refine a_iadd B d_Mo_same_63 ?_
        refine a_iald B ly_118 _ rfl (by first | assumption | omega) d_Mo_same_64 ?_
        rw [a6 _ tp1]
        have mm1 := tW.2.2.2.2.2.2.2.1 _ tp1
        refine a_aload_n B d_Mo_same_65 rfl rfl ?_
        refine gf_Mo_below B d_Mo_same_66 fl_Mo_44 ?_
        refine a_bipush B d_Mo_same_69 cb_20 ?_
        refine a_iload_n B d_Mo_same_71 rfl rfl ?_
        first | refine b_imul B d_Mo_same_72 ?_ | refine a_imul B d_Mo_same_72 ?_
        refine a_aload_n B d_Mo_same_73 rfl rfl ?_
        refine a_iload_n B d_Mo_same_74 rfl rfl ?_
        refine a_iload B d_Mo_same_75 rfl ?_
        refine a_iload_n B d_Mo_same_77 rfl rfl ?_
        refine a_callVI (ci := 7) B (t_Mo_topOf G hu uW uA hiu (by omega)) d_Mo_same_78 ok_Mo_topOf ml_Mo_190 ly_106 rfl rfl (by decide) (by decide) rfl (Nat.le_of_ble_eq_true rfl) (fun r_78 τ_78 h_78 => ?_)
        obtain ⟨hr_78, hs_78⟩ := h_78
        subst hr_78
        replace hs_78 := hs_78.symm
        subst hs_78
        first | refine b_iadd B d_Mo_same_81 ?_ | refine a_iadd B d_Mo_same_81 ?_
        refine a_iald B ly_118 _ rfl (by first | assumption | omega) d_Mo_same_82 ?_
        rw [uA.2.2.2.2.2 _ tp2]
        have mm2 := uW.2.2.2.2.2.2.2.1 _ tp2
        first | refine b_icmp_ne B 90 d_Mo_same_83 rfl (by omega) (by omega) (fun c_83 => ?_) (fun c_83 => ?_) | refine a_icmp_ne B 90 d_Mo_same_83 rfl (fun c_83 => ?_) (fun c_83 => ?_)
        · skip
          refine a_iconst B d_Mo_same_90 ci_0 ?_
          first | refine b_iadd B d_Mo_same_91 ?_ | refine a_iadd B d_Mo_same_91 ?_
          refine a_istore (lv1 := [(0, _), (1, _), (2, _), (3, _), (4, _), (5, _), (6, _)]) B d_Mo_same_92 (by decide) rfl ?_
          first | refine b_iinc (lv1 := [(0, _), (1, _), (2, _), (3, _), (4, _), (5, _), (6, _)]) B d_Mo_same_94 rfl ci_1 (by decide) rfl ?_ | refine a_iinc (lv1 := [(0, _), (1, _), (2, _), (3, _), (4, _), (5, _), (6, _)]) B d_Mo_same_94 rfl rfl (by decide) rfl ?_
          refine a_goto B 34 d_Mo_same_97 rfl ?_
          first | (rw [cntB_t (p := fun l => decide (tM (sT S t) (topL (sT S t) k l) = tM (sT S u) (topL (sT S u) k l))) (i := i) (decide_eq_true c_83)] at ihi; exact ihi) | (rw [cntB_f (p := fun l => decide (tM (sT S t) (topL (sT S t) k l) = tM (sT S u) (topL (sT S u) k l))) (i := i) (decide_eq_false c_83)] at ihi; exact ihi)
        refine a_iconst B d_Mo_same_86 ci_1 ?_
        refine a_goto B 91 d_Mo_same_87 rfl ?_
        first | refine b_iadd B d_Mo_same_91 ?_ | refine a_iadd B d_Mo_same_91 ?_
        refine a_istore (lv1 := [(0, _), (1, _), (2, _), (3, _), (4, _), (5, _), (6, _)]) B d_Mo_same_92 (by decide) rfl ?_
        first | refine b_iinc (lv1 := [(0, _), (1, _), (2, _), (3, _), (4, _), (5, _), (6, _)]) B d_Mo_same_94 rfl ci_1 (by decide) rfl ?_ | refine a_iinc (lv1 := [(0, _), (1, _), (2, _), (3, _), (4, _), (5, _), (6, _)]) B d_Mo_same_94 rfl rfl (by decide) rfl ?_
        refine a_goto B 34 d_Mo_same_97 rfl ?_
        first | (rw [cntB_t (p := fun l => decide (tM (sT S t) (topL (sT S t) k l) = tM (sT S u) (topL (sT S u) k l))) (i := i) (decide_eq_true c_83)] at ihi; exact ihi) | (rw [cntB_f (p := fun l => decide (tM (sT S t) (topL (sT S t) k l) = tM (sT S u) (topL (sT S u) k l))) (i := i) (decide_eq_false c_83)] at ihi; exact ihi)
      · skip
        refine a_iload B d_Mo_same_34 rfl ?_
        refine a_aload_n B d_Mo_same_36 rfl rfl ?_
        refine gf_Mo_sizes B d_Mo_same_37 fl_Mo_23 ?_
        refine a_iload_n B d_Mo_same_40 rfl rfl ?_
        refine a_iald B ly_111 _ rfl (by first | assumption | omega) d_Mo_same_41 ?_
        rw [a1]
        first | refine b_icmp_ge B 100 d_Mo_same_42 rfl (by omega) (by omega) (fun c_42 => ?_) (fun c_42 => ?_) | refine a_icmp_ge B 100 d_Mo_same_42 rfl (fun c_42 => ?_) (fun c_42 => ?_)
        · skip
          refine a_iload B d_Mo_same_100 rfl ?_
          exact Rt _ _ _ _ d_Mo_same_102 (by have e : sp_same S (nI t) (nI u) (nI k) = (nI (sameN (sT S t) (sT S u) k), S) := (by rw [sp_same, hqk]; show (match prQ S (nI t) (nI u) with | .inl r => r | .inr q => _) = _; rw [hq]); rw [e]; exact ⟨rfl, hS, (fun _ _ => rfl)⟩)
        exact absurd c_42 (by omega)
  have hqk := isS_f ((in_rngP (n := 1000001) (by decide) (by decide)).symm.trans c_7)
  refine a_iconst B d_Mo_same_10 ci_m1 ?_
  exact Rt _ _ _ _ d_Mo_same_11 (by have e : sp_same S x y h = RB S := (by rw [sp_same, hqk]); rw [e]; exact ⟨rfl, hS, (fun _ _ => rfl)⟩)
