/-! build -/
theorem maxTo_pick {f : Nat → Nat} : ∀ {l n : Nat}, l < n → (∀ k, k < n → k ≠ l → f k = 0) → maxTo f n = f l
  | l, n + 1, h, hz => by
    show max (maxTo f n) (f n) = f l
    by_cases e : n = l
    · subst e
      rw [maxTo_congr (f' := fun _ => 0) (fun k hk => hz k (by omega) (by omega)), maxTo_0]
      omega
    · rw [maxTo_pick (by omega) (fun k hk hne => hz k (by omega) hne), hz n (by omega) e]
      omega
theorem minTo_pick {f : Nat → Nat} : ∀ {l n : Nat}, l < n → f l ≤ 20000 → (∀ k, k < n → k ≠ l → f k = 20000) → minTo f n = f l
  | l, n + 1, h, hl, hz => by
    show min (minTo f n) (f n) = f l
    by_cases e : n = l
    · subst e
      rw [minTo_congr (f' := fun _ => 20000) (fun k hk => hz k (by omega) (by omega)), minTo_0]
      omega
    · rw [minTo_pick (by omega) hl (fun k hk hne => hz k (by omega) hne), hz n (by omega) e]
      omega
theorem fUp_pow {u : Nat → Nat → Nat} (hu : ∀ a b, u a b ≤ 10000) {w a b : Nat} (ha : a < 10) (hb : b < 10) : fUp u w (2 ^ a) (2 ^ b) = u a b := by
  have hub := hu a b
  unfold fUp fMin fMax fSum
  have t1 : ∀ i : Nat, (2 ^ a).testBit i = decide (a = i) := fun i => Nat.testBit_two_pow
  have t2 : ∀ i : Nat, (2 ^ b).testBit i = decide (b = i) := fun i => Nat.testBit_two_pow
  simp only [t1, t2]
  split
  · have e : ∀ i, i < 10 → i ≠ a → minTo (fun j => if (decide (a = i) && decide (b = j)) = true then u i j else 20000) 10 = 20000 := fun i _ hne => by
      rw [minTo_congr (f' := fun _ => 20000) (fun j _ => by simp [hne.symm]), minTo_0]
    have e2 : minTo (fun j => if (decide (a = a) && decide (b = j)) = true then u a j else 20000) 10 = u a b := by
      rw [minTo_pick hb (by simp; omega) (fun j _ hne => by simp [hne.symm])]
      simp
    rw [minTo_pick ha (by rw [e2]; omega) e, e2]
  · split
    · have e : ∀ i, i < 10 → i ≠ a → maxTo (fun j => if (decide (a = i) && decide (b = j)) = true then u i j else 0) 10 = 0 := fun i _ hne => by
        rw [maxTo_congr (f' := fun _ => 0) (fun j _ => by simp [hne.symm]), maxTo_0]
      rw [maxTo_pick ha e, maxTo_pick hb (fun j _ hne => by simp [hne.symm])]
      simp
    · have e : ∀ i, i < 10 → i ≠ a → sumTo (fun j => if (decide (a = i) && decide (b = j)) = true then u i j else 0) 10 = 0 := fun i _ hne => by
        rw [sumTo_zero (fun j _ => by simp [hne.symm])]
      rw [sumTo_pick ha e, sumTo_pick hb (fun j _ hne => by simp [hne.symm])]
      simp
theorem RtK_fin {σ : AH} {t n w : Nat} {u : Nat → Nat → Nat} (hu : ∀ a b, u a b ≤ 10000) (h1 : 1 ≤ n) (h10 : n ≤ 10) (h : RtK σ t n (2 * n - 1) (mkM u w n (n - 1))) : RtA σ t (makeT u w n) ∧ RtB σ t (makeT u w n) ∧ σ.1 (tI t) 11 = 1 := by
  obtain ⟨k11, k12, k13, kl, kj, ku, kv, kz⟩ := h
  obtain ⟨m1, m2⟩ := make_top hu (w := w) h1 h10
  refine ⟨⟨k12, k13, fun v hv => ?_, ?_, fun v hv => (kv v hv).1, fun v hv => (kv v hv).2.1, fun v hv => (kv v hv).2.2, fun v hv => ?_⟩, ⟨kl, kj, fun v hv => ?_⟩, k11⟩
  · have hv : v < 2 * n - 2 := hv
    rw [ku v (by omega), m2 v hv]
    rfl
  · show σ.1 (tI t + 3) (2 * n - 2) = -9
    rw [ku _ (by omega), m1]
    rfl
  · have hv : v < 2 * n - 1 := hv
    exact (kz v (by omega)).2
  · have hv : v < 2 * n - 1 := hv
    exact (kz v (by omega)).1
theorem d_Mk_build_0 : decode prog_5_method_2_code 0 = .ok (.aload_n 2, 1) := by decide +kernel
theorem d_Mk_build_1 : decode prog_5_method_2_code 1 = .ok (.getfield 20, 3) := by decide +kernel
theorem d_Mk_build_4 : decode prog_5_method_2_code 4 = .ok (.istore 4, 2) := by decide +kernel
theorem d_Mk_build_6 : decode prog_5_method_2_code 6 = .ok (.aload_n 1, 1) := by decide +kernel
theorem d_Mk_build_7 : decode prog_5_method_2_code 7 = .ok (.iload 4, 2) := by decide +kernel
theorem d_Mk_build_9 : decode prog_5_method_2_code 9 = .ok (.invokevirtual 26, 3) := by decide +kernel
theorem d_Mk_build_12 : decode prog_5_method_2_code 12 = .ok (.iconst 0, 1) := by decide +kernel
theorem d_Mk_build_13 : decode prog_5_method_2_code 13 = .ok (.istore 5, 2) := by decide +kernel
theorem d_Mk_build_15 : decode prog_5_method_2_code 15 = .ok (.iload 5, 2) := by decide +kernel
theorem d_Mk_build_17 : decode prog_5_method_2_code 17 = .ok (.iload 4, 2) := by decide +kernel
theorem d_Mk_build_19 : decode prog_5_method_2_code 19 = .ok (.if_icmp .ge 52, 3) := by decide +kernel
theorem d_Mk_build_22 : decode prog_5_method_2_code 22 = .ok (.aload_n 0, 1) := by decide +kernel
theorem d_Mk_build_23 : decode prog_5_method_2_code 23 = .ok (.getfield 16, 3) := by decide +kernel
theorem d_Mk_build_26 : decode prog_5_method_2_code 26 = .ok (.iload 5, 2) := by decide +kernel
theorem d_Mk_build_28 : decode prog_5_method_2_code 28 = .ok (.iload 5, 2) := by decide +kernel
theorem d_Mk_build_30 : decode prog_5_method_2_code 30 = .ok (.iastore, 1) := by decide +kernel
theorem d_Mk_build_31 : decode prog_5_method_2_code 31 = .ok (.iconst 0, 1) := by decide +kernel
theorem d_Mk_build_32 : decode prog_5_method_2_code 32 = .ok (.istore 6, 2) := by decide +kernel
theorem d_Mk_build_34 : decode prog_5_method_2_code 34 = .ok (.iload 6, 2) := by decide +kernel
theorem d_Mk_build_36 : decode prog_5_method_2_code 36 = .ok (.iload 4, 2) := by decide +kernel
theorem d_Mk_build_38 : decode prog_5_method_2_code 38 = .ok (.if_icmp .ge 27, 3) := by decide +kernel
theorem d_Mk_build_41 : decode prog_5_method_2_code 41 = .ok (.aload_n 0, 1) := by decide +kernel
theorem d_Mk_build_42 : decode prog_5_method_2_code 42 = .ok (.getfield 11, 3) := by decide +kernel
theorem d_Mk_build_45 : decode prog_5_method_2_code 45 = .ok (.iload 5, 2) := by decide +kernel
theorem d_Mk_build_47 : decode prog_5_method_2_code 47 = .ok (.aaload, 1) := by decide +kernel
theorem d_Mk_build_48 : decode prog_5_method_2_code 48 = .ok (.iload 6, 2) := by decide +kernel
theorem d_Mk_build_50 : decode prog_5_method_2_code 50 = .ok (.aload_n 2, 1) := by decide +kernel
theorem d_Mk_build_51 : decode prog_5_method_2_code 51 = .ok (.iload 5, 2) := by decide +kernel
theorem d_Mk_build_53 : decode prog_5_method_2_code 53 = .ok (.iload 6, 2) := by decide +kernel
theorem d_Mk_build_55 : decode prog_5_method_2_code 55 = .ok (.invokevirtual 32, 3) := by decide +kernel
theorem d_Mk_build_58 : decode prog_5_method_2_code 58 = .ok (.iastore, 1) := by decide +kernel
theorem d_Mk_build_59 : decode prog_5_method_2_code 59 = .ok (.iinc 6 1, 3) := by decide +kernel
theorem d_Mk_build_62 : decode prog_5_method_2_code 62 = .ok (.goto (-28), 3) := by decide +kernel
theorem d_Mk_build_65 : decode prog_5_method_2_code 65 = .ok (.iinc 5 1, 3) := by decide +kernel
theorem d_Mk_build_68 : decode prog_5_method_2_code 68 = .ok (.goto (-53), 3) := by decide +kernel
theorem d_Mk_build_71 : decode prog_5_method_2_code 71 = .ok (.iconst 1, 1) := by decide +kernel
theorem d_Mk_build_72 : decode prog_5_method_2_code 72 = .ok (.istore 5, 2) := by decide +kernel
theorem d_Mk_build_74 : decode prog_5_method_2_code 74 = .ok (.iload 5, 2) := by decide +kernel
theorem d_Mk_build_76 : decode prog_5_method_2_code 76 = .ok (.iload 4, 2) := by decide +kernel
theorem d_Mk_build_78 : decode prog_5_method_2_code 78 = .ok (.if_icmp .ge 15, 3) := by decide +kernel
theorem d_Mk_build_81 : decode prog_5_method_2_code 81 = .ok (.aload_n 0, 1) := by decide +kernel
theorem d_Mk_build_82 : decode prog_5_method_2_code 82 = .ok (.aload_n 1, 1) := by decide +kernel
theorem d_Mk_build_83 : decode prog_5_method_2_code 83 = .ok (.iload_n 3, 1) := by decide +kernel
theorem d_Mk_build_84 : decode prog_5_method_2_code 84 = .ok (.invokevirtual 36, 3) := by decide +kernel
theorem d_Mk_build_87 : decode prog_5_method_2_code 87 = .ok (.iinc 5 1, 3) := by decide +kernel
theorem d_Mk_build_90 : decode prog_5_method_2_code 90 = .ok (.goto (-16), 3) := by decide +kernel
theorem d_Mk_build_93 : decode prog_5_method_2_code 93 = .ok (.aload_n 1, 1) := by decide +kernel
theorem d_Mk_build_94 : decode prog_5_method_2_code 94 = .ok (.invokevirtual 40, 3) := by decide +kernel
theorem d_Mk_build_97 : decode prog_5_method_2_code 97 = .ok (.return_, 1) := by decide +kernel
set_option maxRecDepth 20000 in
theorem t_Mk_build {g : GG} (G : Gok g) {σ : AH} {t n w : Nat} {th : Nat → Bool} {pl : Nat → Nat → Nat} (ht : t < 4) (hw : w < 3) (hn1 : 1 ≤ n) (hR : RoC σ n th pl) : TerV g 4 m_Mk_build [rV 5, rV (tI t), rV 1, iV (nI w)] σ (fun τ => τ.2 = σ.2 ∧ τ.1 (tI t) 11 = 1 ∧ RtA τ t (makeT (unl n th pl) w n) ∧ RtB τ t (makeT (unl n th pl) w n) ∧ RtP τ t (makeT (unl n th pl) w n) ∧ ∀ k, k ≠ 7 → (k < 30 ∨ 40 ≤ k) → (k < tI t ∨ tI t + 10 < k) → τ.1 k = σ.1 k) := by
  refine TerV.mk G (by decide +kernel) rfl (Nat.le_of_ble_eq_true rfl) (fun K B Rt => ?_)
  have B : Cx g K prog_5_method_2_code 7 R_Mk 4 := B
  have Rt : RetV g K prog_5_method_2_code 7 (fun τ => τ.2 = σ.2 ∧ τ.1 (tI t) 11 = 1 ∧ RtA τ t (makeT (unl n th pl) w n) ∧ RtB τ t (makeT (unl n th pl) w n) ∧ RtP τ t (makeT (unl n th pl) w n) ∧ ∀ k, k ≠ 7 → (k < 30 ∨ 40 ≤ k) → (k < tI t ∨ tI t + 10 < k) → τ.1 k = σ.1 k) := Rt
  show AW g K 7 0 [(0, rV 5), (1, rV (tI t)), (2, rV 1), (3, iV (nI w))] [] σ
  obtain ⟨hN, hn, hth, hpl, hbd⟩ := id hR
  have hu : ∀ a b, unl n th pl a b ≤ 10000 := unl_le hbd
  have h58 : 58 ≤ tI t := Nat.le_add_right _ _
  refine a_aload_n B d_Mk_build_0 rfl rfl ?_
  refine gf_Ro_leafCount B d_Mk_build_1 fl_Mk_20 ?_
  rw [hN]
  refine a_istore (lv1 := [(0, _), (1, _), (2, _), (3, _), (4, _)]) B d_Mk_build_4 (by decide) rfl ?_
  refine a_aload_n B d_Mk_build_6 rfl rfl ?_
  refine a_iload B d_Mk_build_7 rfl ?_
  refine a_callVV (ci := 5) B (t_Tr_begin G ht hn) d_Mk_build_9 ok_Tr_begin ml_Mk_26 (ly_T (by first | assumption | omega)) rfl rfl (by decide) (by decide) rfl (Nat.le_of_ble_eq_true rfl) (fun τ_9 h_9 => ?_)
  obtain ⟨b2, b0, b7, bz, bl, bo⟩ := h_9
  refine a_iconst B d_Mk_build_12 ci_0 ?_
  refine a_istore (lv1 := [(0, _), (1, _), (2, _), (3, _), (4, _), (5, _)]) B d_Mk_build_13 (by decide) rfl ?_
  refine a_forR n (fun i lv τ => lv = [(0, rV 5), (1, rV (tI t)), (2, rV 1), (3, iV (nI w)), (4, iV (nI n)), (5, iV (nI i))] ∧ τ.2 = τ_9.2 ∧ (∀ a, a < i → τ.1 7 a = nI a ∧ ∀ b, b < n → τ.1 (30 + a) b = nI ((unl n th pl) a b)) ∧ ∀ k, k ≠ 7 → (k < 30 ∨ 40 ≤ k) → τ.1 k = τ_9.1 k) (fun i lv τ hi hI ihi => ?_) (fun lv τ hI => ?_) 0 (Nat.zero_le _) _ _ ⟨rfl, rfl, fun a ha => absurd ha (Nat.not_lt_zero a), fun _ _ _ => rfl⟩
  · skip
    obtain ⟨rfl, e2, hF, hO⟩ := hI
    refine a_iload B d_Mk_build_15 rfl ?_
    refine a_iload B d_Mk_build_17 rfl ?_
    first | refine b_icmp_ge B 71 d_Mk_build_19 rfl (by omega) (by omega) (fun c_19 => ?_) (fun c_19 => ?_) | refine a_icmp_ge B 71 d_Mk_build_19 rfl (fun c_19 => ?_) (fun c_19 => ?_)
    · skip
      exact absurd c_19 (by omega)
    refine a_aload_n B d_Mk_build_22 rfl rfl ?_
    refine gf_Mk_nodeOf B d_Mk_build_23 fl_Mk_16 ?_
    refine a_iload B d_Mk_build_26 rfl ?_
    refine a_iload B d_Mk_build_28 rfl ?_
    refine a_iast B ly_7 _ rfl (by first | assumption | omega) d_Mk_build_30 ?_
    refine a_iconst B d_Mk_build_31 ci_0 ?_
    refine a_istore (lv1 := [(0, _), (1, _), (2, _), (3, _), (4, _), (5, _), (6, _)]) B d_Mk_build_32 (by decide) rfl ?_
    refine a_forR n (fun j lv τ => lv = [(0, rV 5), (1, rV (tI t)), (2, rV 1), (3, iV (nI w)), (4, iV (nI n)), (5, iV (nI i)), (6, iV (nI j))] ∧ τ.2 = τ_9.2 ∧ (∀ a, a < i → τ.1 7 a = nI a ∧ ∀ b, b < n → τ.1 (30 + a) b = nI ((unl n th pl) a b)) ∧ τ.1 7 i = nI i ∧ (∀ b, b < j → τ.1 (30 + i) b = nI ((unl n th pl) i b)) ∧ ∀ k, k ≠ 7 → (k < 30 ∨ 40 ≤ k) → τ.1 k = τ_9.1 k) (fun j lv τ hj hI ihj => ?_) (fun lv τ hI => ?_) 0 (Nat.zero_le _) _ _ ⟨rfl, e2, fun a ha => ⟨by rw [up1_s, upd_o (by omega)]; exact (hF a ha).1, fun b hb => by rw [up1_o (by omega)]; exact (hF a ha).2 b hb⟩, by rw [up1_s, upd_s], fun b hb => absurd hb (Nat.not_lt_zero b), fun k q1 q2 => by rw [up1_o q1]; exact hO k q1 q2⟩
    · skip
      obtain ⟨rfl, e2, hF, h7, hG, hO⟩ := hI
      refine a_iload B d_Mk_build_34 rfl ?_
      refine a_iload B d_Mk_build_36 rfl ?_
      first | refine b_icmp_ge B 65 d_Mk_build_38 rfl (by omega) (by omega) (fun c_38 => ?_) (fun c_38 => ?_) | refine a_icmp_ge B 65 d_Mk_build_38 rfl (fun c_38 => ?_) (fun c_38 => ?_)
      · skip
        exact absurd c_38 (by omega)
      refine a_aload_n B d_Mk_build_41 rfl rfl ?_
      refine gf_Mk_apart B d_Mk_build_42 fl_Mk_11 ?_
      refine a_iload B d_Mk_build_45 rfl ?_
      refine al_ap B _ rfl (by first | assumption | omega) d_Mk_build_47 ?_
      refine a_iload B d_Mk_build_48 rfl ?_
      refine a_aload_n B d_Mk_build_50 rfl rfl ?_
      refine a_iload B d_Mk_build_51 rfl ?_
      refine a_iload B d_Mk_build_53 rfl ?_
      refine a_callVI (ci := 4) B (t_Ro_unlikeness G (hR.of (by rw [hO 1 (by omega) (by omega), bo 1 (by omega)]) (by rw [hO 3 (by omega) (by omega), bo 3 (by omega)]) (fun i hi => by rw [hO _ (by omega) (by omega), bo _ (by omega)])) (by omega) (by omega)) d_Mk_build_55 ok_Ro_unlikeness ml_Mk_32 ly_1 rfl rfl (by decide) (by decide) rfl (Nat.le_of_ble_eq_true rfl) (fun r_55 τ_55 h_55 => ?_)
      obtain ⟨hr_55, hs_55⟩ := h_55
      subst hr_55
      replace hs_55 := hs_55.symm
      subst hs_55
      refine a_iast B (ly_ap (by first | assumption | omega)) _ rfl (by first | assumption | omega) d_Mk_build_58 ?_
      first | refine b_iinc (lv1 := [(0, _), (1, _), (2, _), (3, _), (4, _), (5, _), (6, _)]) B d_Mk_build_59 rfl ci_1 (by decide) rfl ?_ | refine a_iinc (lv1 := [(0, _), (1, _), (2, _), (3, _), (4, _), (5, _), (6, _)]) B d_Mk_build_59 rfl rfl (by decide) rfl ?_
      refine a_goto B 34 d_Mk_build_62 rfl ?_
      refine ihj _ _ ⟨rfl, e2, fun a ha => ⟨?_, fun b hb => ?_⟩, ?_, fun b hb => ?_, fun k q1 q2 => ?_⟩
      · rw [up1_o (by omega)]; exact (hF a ha).1
      · rw [up1_o (by omega)]; exact (hF a ha).2 b hb
      · rw [up1_o (by omega)]; exact h7
      · rw [up1_s]
        by_cases e : b = j
        · rw [e, upd_s]
        · rw [upd_o e]; exact hG b (by omega)
      · rw [up1_o (by omega)]; exact hO k q1 q2
    · skip
      obtain ⟨rfl, e2, hF, h7, hG, hO⟩ := hI
      refine a_iload B d_Mk_build_34 rfl ?_
      refine a_iload B d_Mk_build_36 rfl ?_
      first | refine b_icmp_ge B 65 d_Mk_build_38 rfl (by omega) (by omega) (fun c_38 => ?_) (fun c_38 => ?_) | refine a_icmp_ge B 65 d_Mk_build_38 rfl (fun c_38 => ?_) (fun c_38 => ?_)
      · skip
        first | refine b_iinc (lv1 := [(0, _), (1, _), (2, _), (3, _), (4, _), (5, _), (6, _)]) B d_Mk_build_65 rfl ci_1 (by decide) rfl ?_ | refine a_iinc (lv1 := [(0, _), (1, _), (2, _), (3, _), (4, _), (5, _), (6, _)]) B d_Mk_build_65 rfl rfl (by decide) rfl ?_
        refine a_goto B 15 d_Mk_build_68 rfl ?_
        refine a_sub (lv1 := [(0, _), (1, _), (2, _), (3, _), (4, _), (5, _)]) rfl ?_
        refine ihi _ _ ⟨rfl, e2, fun a ha => ?_, hO⟩
        by_cases e : a = i
        · rw [e]; exact ⟨h7, hG⟩
        · exact hF a (by omega)
      exact absurd c_38 (by omega)
  · skip
    obtain ⟨rfl, e2, hF, hO⟩ := hI
    refine a_iload B d_Mk_build_15 rfl ?_
    refine a_iload B d_Mk_build_17 rfl ?_
    first | refine b_icmp_ge B 71 d_Mk_build_19 rfl (by omega) (by omega) (fun c_19 => ?_) (fun c_19 => ?_) | refine a_icmp_ge B 71 d_Mk_build_19 rfl (fun c_19 => ?_) (fun c_19 => ?_)
    · skip
      have hK0 : RtK τ t n n (initM n) := by
        rw [RtK]
        rw [hO (tI t) (by omega) (by omega), hO (tI t + 1) (by omega) (by omega), hO (tI t + 2) (by omega) (by omega), hO (tI t + 3) (by omega) (by omega), hO (tI t + 4) (by omega) (by omega), hO (tI t + 5) (by omega) (by omega), hO (tI t + 6) (by omega) (by omega), hO (tI t + 7) (by omega) (by omega), hO (tI t + 8) (by omega) (by omega), b0, b7]
        refine ⟨by rw [upd_o (by decide), upd_o (by decide), upd_s]; rfl, by rw [upd_o (by decide), upd_s], by rw [upd_s], fun l hl => ⟨(bl l hl).1, (bl l hl).2.1⟩, fun j q1 q2 => by omega, fun v hv => (bz v hv).2, fun v hv => ⟨(bl v hv).2.2.1, ?_, (bl v hv).2.2.2.2⟩, fun v hv => ⟨by simp [fillF, hv], (bz v hv).1⟩⟩
        show _ = nI (cB (2 ^ v))
        rw [cB_pow (by omega)]
        exact (bl v hv).2.2.2.1
      have hM0 : RaK τ (unl n th pl) w n (initM n) := by
        refine ⟨fun a ha => ?_, fun a b va vb ha hb hne h h' => ?_⟩
        · rw [(hF a ha).1]
          show nI a = oI (if a < n then some a else none)
          rw [if_pos ha]
          rfl
        · have h : (if a < n then some a else none) = some va := h
          have h' : (if b < n then some b else none) = some vb := h'
          rw [if_pos ha] at h
          rw [if_pos hb] at h'
          cases h
          cases h'
          rw [(hF a ha).2 b hb]
          exact congrArg nI (fUp_pow hu (by omega) (by omega)).symm
      refine a_iconst B d_Mk_build_71 ci_1 ?_
      refine a_istore (lv1 := [(0, _), (1, _), (2, _), (3, _), (4, _), (5, _)]) B d_Mk_build_72 (by decide) rfl ?_
      refine a_forR (n - 1) (fun i lv τ => lv = [(0, rV 5), (1, rV (tI t)), (2, rV 1), (3, iV (nI w)), (4, iV (nI n)), (5, iV (nI (i + 1)))] ∧ τ.2 = σ.2 ∧ RtK τ t n (n + i) (mkM (unl n th pl) w n i) ∧ RaK τ (unl n th pl) w n (mkM (unl n th pl) w n i) ∧ ∀ k, k ≠ 7 → (k < 30 ∨ 40 ≤ k) → (k < tI t ∨ tI t + 8 < k) → τ.1 k = σ.1 k) (fun i lv τ hi hI ihi => ?_) (fun lv τ hI => ?_) 0 (Nat.zero_le _) _ _ ⟨rfl, by rw [e2]; exact b2, hK0, hM0, fun k q1 q2 q3 => by rw [hO k q1 q2, bo k q3]⟩
      · skip
        obtain ⟨rfl, e2, hKi, hMi, hO⟩ := hI
        refine a_iload B d_Mk_build_74 rfl ?_
        refine a_iload B d_Mk_build_76 rfl ?_
        first | refine b_icmp_ge B 93 d_Mk_build_78 rfl (by omega) (by omega) (fun c_78 => ?_) (fun c_78 => ?_) | refine a_icmp_ge B 93 d_Mk_build_78 rfl (fun c_78 => ?_) (fun c_78 => ?_)
        · skip
          exact absurd c_78 (by omega)
        refine a_aload_n B d_Mk_build_81 rfl rfl ?_
        refine a_aload_n B d_Mk_build_82 rfl rfl ?_
        refine a_iload_n B d_Mk_build_83 rfl rfl ?_
        refine a_callVV (ci := 3) B (t_Mk_joinNearest G ht hn hw hu hKi hMi (InvM_mk hu hn1 hn i (by omega)) (by omega) (by omega) (fun a b => unl_sym a b)) d_Mk_build_84 ok_Mk_joinNearest ml_Mk_36 ly_5 rfl rfl (by decide) (by decide) rfl (Nat.le_of_ble_eq_true rfl) (fun τ_84 h_84 => ?_)
        obtain ⟨hK2, hM2, f2, f3⟩ := h_84
        first | refine b_iinc (lv1 := [(0, _), (1, _), (2, _), (3, _), (4, _), (5, _)]) B d_Mk_build_87 rfl ci_1 (by decide) rfl ?_ | refine a_iinc (lv1 := [(0, _), (1, _), (2, _), (3, _), (4, _), (5, _)]) B d_Mk_build_87 rfl rfl (by decide) rfl ?_
        refine a_goto B 74 d_Mk_build_90 rfl ?_
        refine ihi _ _ ⟨rfl, by rw [f2]; exact e2, hK2, hM2, fun k q1 q2 q3 => ?_⟩
        rw [f3 k q1 q2 (by omega)]
        exact hO k q1 q2 q3
      · skip
        obtain ⟨rfl, e2, hKi, hMi, hO⟩ := hI
        refine a_iload B d_Mk_build_74 rfl ?_
        refine a_iload B d_Mk_build_76 rfl ?_
        first | refine b_icmp_ge B 93 d_Mk_build_78 rfl (by omega) (by omega) (fun c_78 => ?_) (fun c_78 => ?_) | refine a_icmp_ge B 93 d_Mk_build_78 rfl (fun c_78 => ?_) (fun c_78 => ?_)
        · skip
          rw [show n + (n - 1) = 2 * n - 1 by omega] at hKi
          obtain ⟨fA, fB, f11⟩ := RtK_fin hu hn1 hn hKi
          refine a_aload_n B d_Mk_build_93 rfl rfl ?_
          refine a_callVV (ci := 5) B (t_Tr_arrange G ht (Wf_make hu hn1 hn) fA fB) d_Mk_build_94 ok_Tr_arrange ml_Mk_40 (ly_T (by first | assumption | omega)) rfl rfl (by decide) (by decide) rfl (Nat.le_of_ble_eq_true rfl) (fun τ_94 h_94 => ?_)
          obtain ⟨f, f2, rfl, hf, hf2⟩ := h_94
          exact Rt _ _ _ d_Mk_build_97 ⟨by show τ.2 = σ.2; exact e2, by rw [up1_o (by omega), up1_o (by omega)]; exact f11, fA.of rfl rfl rfl rfl rfl (by rw [up1_o (by omega), up1_o (by omega)]) (by rw [up1_o (by omega), up1_o (by omega)]) (by rw [up1_o (by omega), up1_o (by omega)]) (by rw [up1_o (by omega), up1_o (by omega)]) (by rw [up1_o (by omega), up1_o (by omega)]) (by rw [up1_o (by omega), up1_o (by omega)]), fB.of (by rw [up1_o (by omega), up1_o (by omega)]) (by rw [up1_o (by omega), up1_o (by omega)]) (by rw [up1_o (by omega), up1_o (by omega)]), ⟨fun v hv => by rw [up1_o (by omega), up1_s]; exact hf v hv, fun l hl => by rw [up1_s]; exact hf2 l hl⟩, fun k q1 q2 q3 => by rw [up1_o (by omega), up1_o (by omega)]; exact hO k q1 q2 (by omega)⟩
        exact absurd c_78 (by omega)
    exact absurd c_19 (by omega)
