/-! the reference: both trees turned; the fewest crossings -/
def fr2 (t u : Nat) (σ τ : AH) : Prop := (∀ k, k ≠ 106 → k ≠ 110 → (k < 111 ∨ 123 < k) → k ≠ 127 → τ.1 k = σ.1 k) ∧ (∀ j, j ≠ 15 → j ≠ 16 → τ.1 106 j = σ.1 106 j) ∧ ∀ t', t' ≠ t → t' ≠ u → τ.1 111 t' = σ.1 111 t' ∧ ∀ k v, 111 < k → k ≤ 118 → v < 20 → τ.1 k (20 * t' + v) = σ.1 k (20 * t' + v)
theorem fr2_t {t u : Nat} {σ τ : AH} (h : tfM t σ τ) : fr2 t u σ τ := ⟨h.1, h.2.1, fun t' a _ => h.2.2 t' a⟩
theorem fr2_u {t u : Nat} {σ τ : AH} (h : tfM u σ τ) : fr2 t u σ τ := ⟨h.1, h.2.1, fun t' _ b => h.2.2 t' b⟩
theorem fr2_tr {t u : Nat} {σ τ υ : AH} (h : fr2 t u σ τ) (h' : fr2 t u τ υ) : fr2 t u σ υ := ⟨fun k a b c d => (h'.1 k a b c d).trans (h.1 k a b c d), fun j a b => (h'.2.1 j a b).trans (h.2.1 j a b), fun t' x y => ⟨((h'.2.2 t' x y).1).trans (h.2.2 t' x y).1, fun k v a b c => ((h'.2.2 t' x y).2 k v a b c).trans ((h.2.2 t' x y).2 k v a b c)⟩⟩
theorem fr2_fr {t u : Nat} {σ τ : AH} (h : fr2 t u σ τ) : frM σ τ := fun k hk => h.1 k (by omega) (by omega) (by omega) (by omega)
theorem RelM_tree2 {S : Sp} {σ τ : AH} {t u : Nat} {T U : TT} (h : RelM S σ) (hT : TrM τ t T) (hU : TrM τ u U) (htu : t ≠ u) (e : fr2 t u σ τ) : RelM (pT (pT S t T) u U) τ := by
  obtain ⟨h1, h2, h3, h4⟩ := h
  obtain ⟨e, f, g⟩ := e
  refine ⟨h1.of (f _ (by decide) (by decide)) (e _ (by decide) (by decide) (by decide) (by decide)) (e _ (by decide) (by decide) (by decide) (by decide)), fun t' ht' => ?_, ?_, h4.of (f _ (by decide) (by decide)) (e _ (by decide) (by decide) (by decide) (by decide))⟩
  · show TrM τ t' (va_up (va_up (sT S) t T) u U t')
    by_cases eu : t' = u
    · rw [eu, va_up_s]; exact hU
    · rw [va_up_o eu]
      by_cases et : t' = t
      · rw [et, va_up_s]; exact hT
      · rw [va_up_o et]
        exact (h2 t' ht').at (g t' et eu).1 (g t' et eu).2
  · exact MiM_of (S := S) h3 (f _ (by decide) (by decide)) (f _ (by decide) (by decide)) (f _ (by decide) (by decide)) (f _ (by decide) (by decide)) (f _ (by decide) (by decide)) (e _ (by decide) (by decide) (by decide) (by decide)) (e _ (by decide) (by decide) (by decide) (by decide)) (e _ (by decide) (by decide) (by decide) (by decide)) (e _ (by decide) (by decide) (by decide) (by decide))
theorem pT_same {S : Sp} {t : Nat} : pT S t (sT S t) = S := by
  obtain ⟨a1, a2, a3, a4, a5⟩ := S
  show (a1, a2, a3, va_up a4 t (a4 t), a5) = (a1, a2, a3, a4, a5)
  have e : va_up a4 t (a4 t) = a4 := by
    funext k
    by_cases h : k = t
    · rw [h, va_up_s]
    · rw [va_up_o h]
  rw [e]
theorem fbF_st {m : Nat} {p : TT × TT} (hm : 0 < m) (h : fbN p = 0) : fbF m p = fbR p := by
  obtain ⟨k, rfl⟩ : ∃ k, m = k + 1 := ⟨m - 1, by omega⟩
  exact if_pos h
theorem fbF_go {m : Nat} {p : TT × TT} (hm : 0 < m) (h : ¬ fbN p = 0) : fbF m p = fbF (m - 1) (fbR p) := by
  obtain ⟨k, rfl⟩ : ∃ k, m = k + 1 := ⟨m - 1, by omega⟩
  exact if_neg h
def FbX (t u n : Nat) (p : TT × TT) (σ τ : AH) : Prop := Wf p.1 ∧ Wf p.2 ∧ tN p.1 = n ∧ tN p.2 = n ∧ (TmA τ t p.1 ∧ TmB τ t p.1 ∧ TmC τ t p.1) ∧ (TmA τ u p.2 ∧ TmB τ u p.2 ∧ TmC τ u p.2) ∧ fr2 t u σ τ
theorem FbX_wk {t u n : Nat} {p : TT × TT} {σ τ υ : AH} (h : FbX t u n p σ τ) (e : wkM τ υ) : FbX t u n p σ υ := by
  obtain ⟨h1, h2, h3, h4, h5, h6, h7⟩ := h
  exact ⟨h1, h2, h3, h4, ⟨wkA h5.1 e, wkB h5.2.1 e, wkC h5.2.2 e⟩, ⟨wkA h6.1 e, wkB h6.2.1 e, wkC h6.2.2 e⟩, fr2_tr h7 (fr2_t (tfM_wk e))⟩
theorem TmX_at {t u : Nat} {T : TT} {τ υ : AH} (hW : Wf T) (htu : u ≠ t) (e : tfM t τ υ) (h : TmA τ u T ∧ TmB τ u T ∧ TmC τ u T) : TmA υ u T ∧ TmB υ u T ∧ TmC υ u T := by
  have g := e.2.2 u htu
  exact ⟨h.1.at hW.1 hW.2.1 g.1 g.2, h.2.1.at hW.1 hW.2.1 (fun k v q1 q2 q3 => g.2 k v q1 (by omega) q3), h.2.2.at hW.2.1 (fun v q => g.2 116 v (by decide) (by decide) q)⟩
theorem FbX_t {t u n : Nat} {p : TT × TT} {T : TT} {σ τ υ : AH} (h : FbX t u n p σ τ) (htu : t ≠ u) (hW : Wf T) (hn : tN T = n) (hT : TmA υ t T ∧ TmB υ t T ∧ TmC υ t T) (e : tfM t τ υ) : FbX t u n (T, p.2) σ υ := by
  obtain ⟨h1, h2, h3, h4, h5, h6, h7⟩ := h
  exact ⟨hW, h2, hn, h4, hT, TmX_at h2 (Ne.symm htu) e h6, fr2_tr h7 (fr2_t e)⟩
theorem FbX_u {t u n : Nat} {p : TT × TT} {U : TT} {σ τ υ : AH} (h : FbX t u n p σ τ) (htu : t ≠ u) (hW : Wf U) (hn : tN U = n) (hU : TmA υ u U ∧ TmB υ u U ∧ TmC υ u U) (e : tfM u τ υ) : FbX t u n (p.1, U) σ υ := by
  obtain ⟨h1, h2, h3, h4, h5, h6, h7⟩ := h
  exact ⟨h1, hW, h3, hn, TmX_at h1 htu e h5, hU, fr2_tr h7 (fr2_u e)⟩
theorem FbX_rel {S : Sp} {t u n : Nat} {p : TT × TT} {σ τ : AH} (h : FbX t u n p σ τ) (hS : RelM S σ) (htu : t ≠ u) : RelM (pT (pT S t p.1) u p.2) τ := by
  obtain ⟨h1, h2, h3, h4, h5, h6, h7⟩ := h
  exact RelM_tree2 hS ⟨h5.1.1, fun _ => ⟨h1, h5⟩⟩ ⟨h6.1.1, fun _ => ⟨h2, h6⟩⟩ htu h7
theorem flM_set {t s : Nat} {T : TT} {σ τ : AH} (h : flM t σ τ) (hA : TmA σ t T) (hB : TmB τ t (setT T s)) (hC : TmC σ t T) : TmA τ t (setT T s) ∧ TmB τ t (setT T s) ∧ TmC τ t (setT T s) := ⟨hA.fl (fun k q2 q3 _ _ _ => h.1 k q2 q3), hB, hC.of (h.1 _ (by decide) (by decide))⟩
theorem flM_back {t s : Nat} {T : TT} {σ τ : AH} (h : flM t σ τ) (hA : TmA σ t (setT T s)) (hB : TmB τ t (setT (setT T s) s)) (hC : TmC σ t (setT T s)) : TmA τ t T ∧ TmB τ t T ∧ TmC τ t T := ⟨TmA.fl (T := T) hA (fun k q2 q3 _ _ _ => h.1 k q2 q3), TmB_back hB, TmC.of (T := T) hC (h.1 _ (by decide) (by decide))⟩
theorem d_Mo_faceBoth_0 : decode prog_9_method_47_code 0 = .ok (.iload_n 1, 1) := by decide +kernel
theorem d_Mo_faceBoth_1 : decode prog_9_method_47_code 1 = .ok (.iload_n 2, 1) := by decide +kernel
theorem d_Mo_faceBoth_2 : decode prog_9_method_47_code 2 = .ok (.if_icmp .ne 7, 3) := by decide +kernel
theorem d_Mo_faceBoth_5 : decode prog_9_method_47_code 5 = .ok (.iconst (-1), 1) := by decide +kernel
theorem d_Mo_faceBoth_6 : decode prog_9_method_47_code 6 = .ok (.goto 9, 3) := by decide +kernel
theorem d_Mo_faceBoth_9 : decode prog_9_method_47_code 9 = .ok (.aload_n 0, 1) := by decide +kernel
theorem d_Mo_faceBoth_10 : decode prog_9_method_47_code 10 = .ok (.iload_n 1, 1) := by decide +kernel
theorem d_Mo_faceBoth_11 : decode prog_9_method_47_code 11 = .ok (.iload_n 2, 1) := by decide +kernel
theorem d_Mo_faceBoth_12 : decode prog_9_method_47_code 12 = .ok (.invokevirtual 170, 3) := by decide +kernel
theorem d_Mo_faceBoth_15 : decode prog_9_method_47_code 15 = .ok (.istore_n 3, 1) := by decide +kernel
theorem d_Mo_faceBoth_16 : decode prog_9_method_47_code 16 = .ok (.iload_n 3, 1) := by decide +kernel
theorem d_Mo_faceBoth_17 : decode prog_9_method_47_code 17 = .ok (.ifCond .ge 5, 3) := by decide +kernel
theorem d_Mo_faceBoth_20 : decode prog_9_method_47_code 20 = .ok (.iload_n 3, 1) := by decide +kernel
theorem d_Mo_faceBoth_21 : decode prog_9_method_47_code 21 = .ok (.ireturn, 1) := by decide +kernel
theorem d_Mo_faceBoth_22 : decode prog_9_method_47_code 22 = .ok (.iconst 1, 1) := by decide +kernel
theorem d_Mo_faceBoth_23 : decode prog_9_method_47_code 23 = .ok (.istore 4, 2) := by decide +kernel
theorem d_Mo_faceBoth_25 : decode prog_9_method_47_code 25 = .ok (.iload 4, 2) := by decide +kernel
theorem d_Mo_faceBoth_27 : decode prog_9_method_47_code 27 = .ok (.ifCond .le 33, 3) := by decide +kernel
theorem d_Mo_faceBoth_30 : decode prog_9_method_47_code 30 = .ok (.aload_n 0, 1) := by decide +kernel
theorem d_Mo_faceBoth_31 : decode prog_9_method_47_code 31 = .ok (.iload_n 2, 1) := by decide +kernel
theorem d_Mo_faceBoth_32 : decode prog_9_method_47_code 32 = .ok (.invokevirtual 173, 3) := by decide +kernel
theorem d_Mo_faceBoth_35 : decode prog_9_method_47_code 35 = .ok (.aload_n 0, 1) := by decide +kernel
theorem d_Mo_faceBoth_36 : decode prog_9_method_47_code 36 = .ok (.iload_n 1, 1) := by decide +kernel
theorem d_Mo_faceBoth_37 : decode prog_9_method_47_code 37 = .ok (.invokevirtual 179, 3) := by decide +kernel
theorem d_Mo_faceBoth_40 : decode prog_9_method_47_code 40 = .ok (.istore 4, 2) := by decide +kernel
theorem d_Mo_faceBoth_42 : decode prog_9_method_47_code 42 = .ok (.aload_n 0, 1) := by decide +kernel
theorem d_Mo_faceBoth_43 : decode prog_9_method_47_code 43 = .ok (.iload_n 1, 1) := by decide +kernel
theorem d_Mo_faceBoth_44 : decode prog_9_method_47_code 44 = .ok (.invokevirtual 173, 3) := by decide +kernel
theorem d_Mo_faceBoth_47 : decode prog_9_method_47_code 47 = .ok (.iload 4, 2) := by decide +kernel
theorem d_Mo_faceBoth_49 : decode prog_9_method_47_code 49 = .ok (.aload_n 0, 1) := by decide +kernel
theorem d_Mo_faceBoth_50 : decode prog_9_method_47_code 50 = .ok (.iload_n 2, 1) := by decide +kernel
theorem d_Mo_faceBoth_51 : decode prog_9_method_47_code 51 = .ok (.invokevirtual 179, 3) := by decide +kernel
theorem d_Mo_faceBoth_54 : decode prog_9_method_47_code 54 = .ok (.iadd, 1) := by decide +kernel
theorem d_Mo_faceBoth_55 : decode prog_9_method_47_code 55 = .ok (.istore 4, 2) := by decide +kernel
theorem d_Mo_faceBoth_57 : decode prog_9_method_47_code 57 = .ok (.goto (-32), 3) := by decide +kernel
theorem d_Mo_faceBoth_60 : decode prog_9_method_47_code 60 = .ok (.aload_n 0, 1) := by decide +kernel
theorem d_Mo_faceBoth_61 : decode prog_9_method_47_code 61 = .ok (.iload_n 2, 1) := by decide +kernel
theorem d_Mo_faceBoth_62 : decode prog_9_method_47_code 62 = .ok (.invokevirtual 173, 3) := by decide +kernel
theorem d_Mo_faceBoth_65 : decode prog_9_method_47_code 65 = .ok (.aload_n 0, 1) := by decide +kernel
theorem d_Mo_faceBoth_66 : decode prog_9_method_47_code 66 = .ok (.iload_n 1, 1) := by decide +kernel
theorem d_Mo_faceBoth_67 : decode prog_9_method_47_code 67 = .ok (.invokevirtual 176, 3) := by decide +kernel
theorem d_Mo_faceBoth_70 : decode prog_9_method_47_code 70 = .ok (.ireturn, 1) := by decide +kernel
set_option maxHeartbeats 4000000 in
set_option maxRecDepth 20000 in
theorem tM_faceBoth {g : GG} (G : Gok g) {σ : AH} {S : Sp} (hS : RelM S σ) (x y : Int32) : TerI g 3 m_Mo_faceBoth [rV 106, iV x, iV y] σ (fun r τ => r = (sp_faceBoth S x y).1 ∧ RelM (sp_faceBoth S x y).2 τ ∧ frM σ τ) := by
  refine TerI.mk G (by decide +kernel) rfl (Nat.le_of_ble_eq_true rfl) (fun K B Rt => ?_)
  have B : Cx g K prog_9_method_47_code 5 R_Mo 3 := B
  have Rt : RetI g K prog_9_method_47_code 5 (fun r τ => r = (sp_faceBoth S x y).1 ∧ RelM (sp_faceBoth S x y).2 τ ∧ frM σ τ) := Rt
  show AW g K 5 0 [(0, rV 106), (1, iV x), (2, iV y)] [] σ
  refine a_iload_n B d_Mo_faceBoth_0 rfl rfl ?_
  refine a_iload_n B d_Mo_faceBoth_1 rfl rfl ?_
  first | refine b_icmp_ne B 9 d_Mo_faceBoth_2 rfl (by omega) (by omega) (fun c_2 => ?_) (fun c_2 => ?_) | refine a_icmp_ne B 9 d_Mo_faceBoth_2 rfl (fun c_2 => ?_) (fun c_2 => ?_)
  · skip
    refine a_aload_n B d_Mo_faceBoth_9 rfl rfl ?_
    refine a_iload_n B d_Mo_faceBoth_10 rfl rfl ?_
    refine a_iload_n B d_Mo_faceBoth_11 rfl rfl ?_
    refine a_callVI (ci := 7) B (t_Mo_askedTwo G hS x y) d_Mo_faceBoth_12 ok_Mo_askedTwo ml_Mo_170 ly_106 rfl rfl (by decide) (by decide) rfl (Nat.le_of_ble_eq_true rfl) (fun r_12 τ_12 h_12 => ?_)
    rcases h_12 with ⟨q, hq, hr9, hR9, hF9⟩ | ⟨q9, hq, hr9, hs9⟩
    · skip
      subst hr9
      refine a_istore_n (lv1 := [(0, _), (1, _), (2, _), (3, _)]) B d_Mo_faceBoth_15 rfl (by decide) rfl ?_
      refine a_iload_n B d_Mo_faceBoth_16 rfl rfl ?_
      refine a_if_ge B 22 d_Mo_faceBoth_17 rfl (fun c9 => absurd (neg_nz (prQ_neg hq)).2 (Int32.not_lt.mpr c9)) (fun _ => ?_)
      refine a_iload_n B d_Mo_faceBoth_20 rfl rfl ?_
      exact Rt _ _ _ _ d_Mo_faceBoth_21 (by first | (have e : sp_faceBoth S x y = RB S := (by rw [sp_faceBoth, fcQ_eq c_2]); rw [e]; exact ⟨rfl, hS, fun _ _ => rfl⟩) | (have e : sp_faceBoth S x y = q := (by rw [sp_faceBoth, fcQ_ne c_2, hq]); rw [e]; exact ⟨rfl, hR9, hF9⟩))
    · skip
      subst hr9
      replace hs9 := hs9.symm
      subst hs9
      obtain ⟨t, u⟩ := q9
      obtain ⟨ht, hx9, hu, hy9, hnt, hnu, he9⟩ := prQ_ok hq
      dsimp only at ht hx9 hu hy9 hnt hnu he9
      subst hx9
      subst hy9
      obtain ⟨tW, tA, tB, tX⟩ := (hS.2.1 t ht).2 hnt
      obtain ⟨uW, uA, uB, uC⟩ := (hS.2.1 u hu).2 hnu
      obtain ⟨a1, a2, a3, a4, a5, a6⟩ := id tA
      have w1 := tW.1
      have w10 := tW.2.1
      have htu := ne_of_nI c_2
      refine a_istore_n (lv1 := [(0, _), (1, _), (2, _), (3, _)]) B d_Mo_faceBoth_15 rfl (by decide) rfl ?_
      refine a_iload_n B d_Mo_faceBoth_16 rfl rfl ?_
      refine b_if_ge B 22 d_Mo_faceBoth_17 rfl (by first | assumption | omega) ?_
      refine a_iconst B d_Mo_faceBoth_22 ci_1 ?_
      refine a_istore (lv1 := [(0, _), (1, _), (2, _), (3, _), (4, _)]) B d_Mo_faceBoth_23 (by decide) rfl ?_
      refine a_sub (lv1 := [(0, _), (1, _), (2, _), (4, _)]) rfl ?_
      refine a_loop (fun m9 lv τ => ∃ p n, lv = [(0, rV 106), (1, iV (nI t)), (2, iV (nI u)), (4, iV (nI n))] ∧ FbX t u (tN (sT S t)) p σ τ ∧ n ≤ 100 ∧ ((n = 0 ∧ m9 = 0 ∧ fbF 101 (sT S t, sT S u) = p) ∨ (0 < n ∧ crossT p.1 (plT p.2) < m9 ∧ fbF 101 (sT S t, sT S u) = fbF m9 p))) (fun m9 lv τ hm ihm => ?_) 101 _ _ ⟨(sT S t, sT S u), 1, rfl, ⟨tW, uW, rfl, he9.symm, ⟨tA, tB, tX⟩, ⟨uA, uB, uC⟩, fr2_t tfM_rfl⟩, by omega, Or.inr ⟨by omega, by have := cross_100 tW (pl := plT (sT S u)); show crossT (sT S t) (plT (sT S u)) < 101; omega, rfl⟩⟩
      obtain ⟨p, n, rfl, hX, hn, hc⟩ := hm
      obtain ⟨k1, k2, k3, k4, k5, k6, k7⟩ := id hX
      rcases hc with ⟨rfl, rfl, hp⟩ | ⟨hn0, hcm, hp⟩
      · skip
        refine a_iload B d_Mo_faceBoth_25 rfl ?_
        refine a_if_le B 60 d_Mo_faceBoth_27 rfl (fun c_27 => ?_) (fun c_27 => ?_)
        · skip
          refine a_aload_n B d_Mo_faceBoth_60 rfl rfl ?_
          refine a_iload_n B d_Mo_faceBoth_61 rfl rfl ?_
          refine a_callVV (ci := 7) B (t_Mo_setAgainst G hu k2 k6.1 k6.2.1) d_Mo_faceBoth_62 ok_Mo_setAgainst ml_Mo_173 ly_106 rfl rfl (by decide) (by decide) rfl (Nat.le_of_ble_eq_true rfl) (fun τ_62 h_62 => ?_)
          refine a_aload_n B d_Mo_faceBoth_65 rfl rfl ?_
          refine a_iload_n B d_Mo_faceBoth_66 rfl rfl ?_
          refine a_callVI (ci := 7) B (t_Mo_allCrossed G ht k1 (wkA k5.1 h_62.wk) (wkB k5.2.1 h_62.wk)) d_Mo_faceBoth_67 ok_Mo_allCrossed ml_Mo_176 ly_106 rfl rfl (by decide) (by decide) rfl (Nat.le_of_ble_eq_true rfl) (fun r_67 τ_67 h_67 => ?_)
          obtain ⟨hr_67, hs_67⟩ := h_67
          subst hr_67
          replace hs_67 := hs_67.symm
          subst hs_67
          rw [cross_cg k1 (h_62.cr (by omega))]
          have hX9 := FbX_wk hX h_62.wk
          exact Rt _ _ _ _ d_Mo_faceBoth_70 (by have e : sp_faceBoth S (nI t) (nI u) = (nI (crossT (fbF 101 (sT S t, sT S u)).1 (plT (fbF 101 (sT S t, sT S u)).2)), pT (pT S t (fbF 101 (sT S t, sT S u)).1) u (fbF 101 (sT S t, sT S u)).2) := (by rw [sp_faceBoth, fcQ_ne c_2, hq]); rw [e, hp]; exact ⟨rfl, FbX_rel hX9 hS htu, fr2_fr hX9.2.2.2.2.2.2⟩)
        · exact absurd (show nI 0 ≤ 0 by decide) c_27
      · skip
        refine a_iload B d_Mo_faceBoth_25 rfl ?_
        refine a_if_le B 60 d_Mo_faceBoth_27 rfl (fun c_27 => ?_) (fun c_27 => ?_)
        · exact absurd (le_0 (by omega) c_27) (by omega)
        refine a_aload_n B d_Mo_faceBoth_30 rfl rfl ?_
        refine a_iload_n B d_Mo_faceBoth_31 rfl rfl ?_
        refine a_callVV (ci := 7) B (t_Mo_setAgainst G hu k2 k6.1 k6.2.1) d_Mo_faceBoth_32 ok_Mo_setAgainst ml_Mo_173 ly_106 rfl rfl (by decide) (by decide) rfl (Nat.le_of_ble_eq_true rfl) (fun τ_32 h_32 => ?_)
        have hY := FbX_wk hX h_32.wk
        obtain ⟨y1, y2, y3, y4, y5, y6, y7⟩ := id hY
        refine a_aload_n B d_Mo_faceBoth_35 rfl rfl ?_
        refine a_iload_n B d_Mo_faceBoth_36 rfl rfl ?_
        refine a_callVI (ci := 7) B (t_Mo_faces G ht k1 y5.1 y5.2.1 y5.2.2) d_Mo_faceBoth_37 ok_Mo_faces ml_Mo_179 ly_106 rfl rfl (by decide) (by decide) rfl (Nat.le_of_ble_eq_true rfl) (fun r_37 τ_37 h_37 => ?_)
        obtain ⟨hr_37, cA, cB9, cC, cF, cT⟩ := h_37
        subst hr_37
        rw [look_cg k1 (h_32.cr (by omega))] at cA cB9 cC
        rw [looks_cg k1 (h_32.cr (by omega))]
        have hZ : FbX t u (tN (sT S t)) (lookT p.1 (plT p.2), p.2) σ τ_37 := FbX_t hY htu (Wf_flips k1) k3 ⟨cA, cB9, cC⟩ cT
        obtain ⟨z1, z2, z3, z4, z5, z6, z7⟩ := id hZ
        have lk1 := looks_le (T := p.1) (pl := plT p.2)
        refine a_istore (lv1 := [(0, _), (1, _), (2, _), (4, _)]) B d_Mo_faceBoth_40 (by decide) rfl ?_
        refine a_aload_n B d_Mo_faceBoth_42 rfl rfl ?_
        refine a_iload_n B d_Mo_faceBoth_43 rfl rfl ?_
        refine a_callVV (ci := 7) B (t_Mo_setAgainst G ht z1 z5.1 z5.2.1) d_Mo_faceBoth_44 ok_Mo_setAgainst ml_Mo_173 ly_106 rfl rfl (by decide) (by decide) rfl (Nat.le_of_ble_eq_true rfl) (fun τ_44 h_44 => ?_)
        have hV := FbX_wk hZ h_44.wk
        obtain ⟨v1, v2, v3, v4, v5, v6, v7⟩ := id hV
        refine a_iload B d_Mo_faceBoth_47 rfl ?_
        refine a_aload_n B d_Mo_faceBoth_49 rfl rfl ?_
        refine a_iload_n B d_Mo_faceBoth_50 rfl rfl ?_
        refine a_callVI (ci := 7) B (t_Mo_faces G hu v2 v6.1 v6.2.1 v6.2.2) d_Mo_faceBoth_51 ok_Mo_faces ml_Mo_179 ly_106 rfl rfl (by decide) (by decide) rfl (Nat.le_of_ble_eq_true rfl) (fun r_51 τ_51 h_51 => ?_)
        obtain ⟨hr_51, dA, dB, dC, dF, dT⟩ := h_51
        subst hr_51
        have hq9 : ∀ x, x < tN p.2 → τ_44.1 123 x = plT (lookT p.1 (plT p.2)) x := h_44.cr (by omega)
        rw [look_cg k2 hq9] at dA dB dC
        rw [looks_cg k2 hq9]
        have hR : FbX t u (tN (sT S t)) (fbR p) σ τ_51 := FbX_u hV htu (Wf_flips k2) k4 ⟨dA, dB, dC⟩ dT
        have lk2 := looks_le (T := p.2) (pl := plT (lookT p.1 (plT p.2)))
        have hl := round_less k1 k2 (k3.trans k4.symm)
        have hN9 : fbN p ≤ 20 := (by unfold fbN; omega)
        first | refine b_iadd B d_Mo_faceBoth_54 ?_ | refine a_iadd B d_Mo_faceBoth_54 ?_
        refine a_istore (lv1 := [(0, _), (1, _), (2, _), (4, _)]) B d_Mo_faceBoth_55 (by decide) rfl ?_
        refine a_goto B 25 d_Mo_faceBoth_57 rfl ?_
        rw [show nI (looksN p.1 (plT p.2) + looksN p.2 (plT (lookT p.1 (plT p.2)))) = nI (fbN p) from rfl]
        by_cases h0 : fbN p = 0
        · rw [h0]
          exact ihm 0 _ _ (by omega) ⟨fbR p, 0, rfl, hR, by omega, Or.inl ⟨rfl, rfl, by rw [hp]; exact fbF_st (by omega) h0⟩⟩
        · exact ihm (m9 - 1) _ _ (by omega) ⟨fbR p, fbN p, rfl, hR, by omega, Or.inr ⟨by omega, by omega, by rw [hp]; exact fbF_go (by omega) h0⟩⟩
  refine a_iconst B d_Mo_faceBoth_5 ci_m1 ?_
  refine a_goto B 15 d_Mo_faceBoth_6 rfl ?_
  refine a_istore_n (lv1 := [(0, _), (1, _), (2, _), (3, _)]) B d_Mo_faceBoth_15 rfl (by decide) rfl ?_
  refine a_iload_n B d_Mo_faceBoth_16 rfl rfl ?_
  refine a_if_ge B 22 d_Mo_faceBoth_17 rfl (fun c9 => absurd c9 (by decide)) (fun _ => ?_)
  refine a_iload_n B d_Mo_faceBoth_20 rfl rfl ?_
  exact Rt _ _ _ _ d_Mo_faceBoth_21 (by first | (have e : sp_faceBoth S x y = RB S := (by rw [sp_faceBoth, fcQ_eq c_2]); rw [e]; exact ⟨rfl, hS, fun _ _ => rfl⟩) | (have e : sp_faceBoth S x y = q := (by rw [sp_faceBoth, fcQ_ne c_2, hq]); rw [e]; exact ⟨rfl, hR9, hF9⟩))
theorem d_Mo_fewest_0 : decode prog_9_method_48_code 0 = .ok (.iload_n 1, 1) := by decide +kernel
theorem d_Mo_fewest_1 : decode prog_9_method_48_code 1 = .ok (.iload_n 2, 1) := by decide +kernel
theorem d_Mo_fewest_2 : decode prog_9_method_48_code 2 = .ok (.if_icmp .ne 7, 3) := by decide +kernel
theorem d_Mo_fewest_5 : decode prog_9_method_48_code 5 = .ok (.iconst (-1), 1) := by decide +kernel
theorem d_Mo_fewest_6 : decode prog_9_method_48_code 6 = .ok (.goto 9, 3) := by decide +kernel
theorem d_Mo_fewest_9 : decode prog_9_method_48_code 9 = .ok (.aload_n 0, 1) := by decide +kernel
theorem d_Mo_fewest_10 : decode prog_9_method_48_code 10 = .ok (.iload_n 1, 1) := by decide +kernel
theorem d_Mo_fewest_11 : decode prog_9_method_48_code 11 = .ok (.iload_n 2, 1) := by decide +kernel
theorem d_Mo_fewest_12 : decode prog_9_method_48_code 12 = .ok (.invokevirtual 170, 3) := by decide +kernel
theorem d_Mo_fewest_15 : decode prog_9_method_48_code 15 = .ok (.istore_n 3, 1) := by decide +kernel
theorem d_Mo_fewest_16 : decode prog_9_method_48_code 16 = .ok (.iload_n 3, 1) := by decide +kernel
theorem d_Mo_fewest_17 : decode prog_9_method_48_code 17 = .ok (.ifCond .ge 5, 3) := by decide +kernel
theorem d_Mo_fewest_20 : decode prog_9_method_48_code 20 = .ok (.iload_n 3, 1) := by decide +kernel
theorem d_Mo_fewest_21 : decode prog_9_method_48_code 21 = .ok (.ireturn, 1) := by decide +kernel
theorem d_Mo_fewest_22 : decode prog_9_method_48_code 22 = .ok (.aload_n 0, 1) := by decide +kernel
theorem d_Mo_fewest_23 : decode prog_9_method_48_code 23 = .ok (.getfield 23, 3) := by decide +kernel
theorem d_Mo_fewest_26 : decode prog_9_method_48_code 26 = .ok (.iload_n 1, 1) := by decide +kernel
theorem d_Mo_fewest_27 : decode prog_9_method_48_code 27 = .ok (.iaload, 1) := by decide +kernel
theorem d_Mo_fewest_28 : decode prog_9_method_48_code 28 = .ok (.bipush 6, 2) := by decide +kernel
theorem d_Mo_fewest_30 : decode prog_9_method_48_code 30 = .ok (.if_icmp .le 6, 3) := by decide +kernel
theorem d_Mo_fewest_33 : decode prog_9_method_48_code 33 = .ok (.bipush (-4), 2) := by decide +kernel
theorem d_Mo_fewest_35 : decode prog_9_method_48_code 35 = .ok (.ireturn, 1) := by decide +kernel
theorem d_Mo_fewest_36 : decode prog_9_method_48_code 36 = .ok (.bipush (-9), 2) := by decide +kernel
theorem d_Mo_fewest_38 : decode prog_9_method_48_code 38 = .ok (.istore 4, 2) := by decide +kernel
theorem d_Mo_fewest_40 : decode prog_9_method_48_code 40 = .ok (.iconst 0, 1) := by decide +kernel
theorem d_Mo_fewest_41 : decode prog_9_method_48_code 41 = .ok (.istore 5, 2) := by decide +kernel
theorem d_Mo_fewest_43 : decode prog_9_method_48_code 43 = .ok (.iload 5, 2) := by decide +kernel
theorem d_Mo_fewest_45 : decode prog_9_method_48_code 45 = .ok (.iconst 1, 1) := by decide +kernel
theorem d_Mo_fewest_46 : decode prog_9_method_48_code 46 = .ok (.aload_n 0, 1) := by decide +kernel
theorem d_Mo_fewest_47 : decode prog_9_method_48_code 47 = .ok (.getfield 23, 3) := by decide +kernel
theorem d_Mo_fewest_50 : decode prog_9_method_48_code 50 = .ok (.iload_n 2, 1) := by decide +kernel
theorem d_Mo_fewest_51 : decode prog_9_method_48_code 51 = .ok (.iaload, 1) := by decide +kernel
theorem d_Mo_fewest_52 : decode prog_9_method_48_code 52 = .ok (.iconst 1, 1) := by decide +kernel
theorem d_Mo_fewest_53 : decode prog_9_method_48_code 53 = .ok (.isub, 1) := by decide +kernel
theorem d_Mo_fewest_54 : decode prog_9_method_48_code 54 = .ok (.ishl, 1) := by decide +kernel
theorem d_Mo_fewest_55 : decode prog_9_method_48_code 55 = .ok (.if_icmp .ge 104, 3) := by decide +kernel
theorem d_Mo_fewest_58 : decode prog_9_method_48_code 58 = .ok (.aload_n 0, 1) := by decide +kernel
theorem d_Mo_fewest_59 : decode prog_9_method_48_code 59 = .ok (.iload_n 2, 1) := by decide +kernel
theorem d_Mo_fewest_60 : decode prog_9_method_48_code 60 = .ok (.iload 5, 2) := by decide +kernel
theorem d_Mo_fewest_62 : decode prog_9_method_48_code 62 = .ok (.invokevirtual 160, 3) := by decide +kernel
theorem d_Mo_fewest_65 : decode prog_9_method_48_code 65 = .ok (.ifCond .eq 88, 3) := by decide +kernel
theorem d_Mo_fewest_68 : decode prog_9_method_48_code 68 = .ok (.aload_n 0, 1) := by decide +kernel
theorem d_Mo_fewest_69 : decode prog_9_method_48_code 69 = .ok (.iload_n 2, 1) := by decide +kernel
theorem d_Mo_fewest_70 : decode prog_9_method_48_code 70 = .ok (.invokevirtual 173, 3) := by decide +kernel
theorem d_Mo_fewest_73 : decode prog_9_method_48_code 73 = .ok (.iconst 0, 1) := by decide +kernel
theorem d_Mo_fewest_74 : decode prog_9_method_48_code 74 = .ok (.istore 6, 2) := by decide +kernel
theorem d_Mo_fewest_76 : decode prog_9_method_48_code 76 = .ok (.iload 6, 2) := by decide +kernel
theorem d_Mo_fewest_78 : decode prog_9_method_48_code 78 = .ok (.iconst 1, 1) := by decide +kernel
theorem d_Mo_fewest_79 : decode prog_9_method_48_code 79 = .ok (.aload_n 0, 1) := by decide +kernel
theorem d_Mo_fewest_80 : decode prog_9_method_48_code 80 = .ok (.getfield 23, 3) := by decide +kernel
theorem d_Mo_fewest_83 : decode prog_9_method_48_code 83 = .ok (.iload_n 1, 1) := by decide +kernel
theorem d_Mo_fewest_84 : decode prog_9_method_48_code 84 = .ok (.iaload, 1) := by decide +kernel
theorem d_Mo_fewest_85 : decode prog_9_method_48_code 85 = .ok (.iconst 1, 1) := by decide +kernel
theorem d_Mo_fewest_86 : decode prog_9_method_48_code 86 = .ok (.isub, 1) := by decide +kernel
theorem d_Mo_fewest_87 : decode prog_9_method_48_code 87 = .ok (.ishl, 1) := by decide +kernel
theorem d_Mo_fewest_88 : decode prog_9_method_48_code 88 = .ok (.if_icmp .ge 56, 3) := by decide +kernel
theorem d_Mo_fewest_91 : decode prog_9_method_48_code 91 = .ok (.aload_n 0, 1) := by decide +kernel
theorem d_Mo_fewest_92 : decode prog_9_method_48_code 92 = .ok (.iload_n 1, 1) := by decide +kernel
theorem d_Mo_fewest_93 : decode prog_9_method_48_code 93 = .ok (.iload 6, 2) := by decide +kernel
theorem d_Mo_fewest_95 : decode prog_9_method_48_code 95 = .ok (.invokevirtual 160, 3) := by decide +kernel
theorem d_Mo_fewest_98 : decode prog_9_method_48_code 98 = .ok (.ifCond .eq 40, 3) := by decide +kernel
theorem d_Mo_fewest_101 : decode prog_9_method_48_code 101 = .ok (.aload_n 0, 1) := by decide +kernel
theorem d_Mo_fewest_102 : decode prog_9_method_48_code 102 = .ok (.iload_n 1, 1) := by decide +kernel
theorem d_Mo_fewest_103 : decode prog_9_method_48_code 103 = .ok (.invokevirtual 176, 3) := by decide +kernel
theorem d_Mo_fewest_106 : decode prog_9_method_48_code 106 = .ok (.istore 7, 2) := by decide +kernel
theorem d_Mo_fewest_108 : decode prog_9_method_48_code 108 = .ok (.iload 4, 2) := by decide +kernel
theorem d_Mo_fewest_110 : decode prog_9_method_48_code 110 = .ok (.ifCond .lt 10, 3) := by decide +kernel
theorem d_Mo_fewest_113 : decode prog_9_method_48_code 113 = .ok (.iload 7, 2) := by decide +kernel
theorem d_Mo_fewest_115 : decode prog_9_method_48_code 115 = .ok (.iload 4, 2) := by decide +kernel
theorem d_Mo_fewest_117 : decode prog_9_method_48_code 117 = .ok (.if_icmp .ge 8, 3) := by decide +kernel
theorem d_Mo_fewest_120 : decode prog_9_method_48_code 120 = .ok (.iload 7, 2) := by decide +kernel
theorem d_Mo_fewest_122 : decode prog_9_method_48_code 122 = .ok (.goto 5, 3) := by decide +kernel
theorem d_Mo_fewest_125 : decode prog_9_method_48_code 125 = .ok (.iload 4, 2) := by decide +kernel
theorem d_Mo_fewest_127 : decode prog_9_method_48_code 127 = .ok (.istore 4, 2) := by decide +kernel
theorem d_Mo_fewest_129 : decode prog_9_method_48_code 129 = .ok (.aload_n 0, 1) := by decide +kernel
theorem d_Mo_fewest_130 : decode prog_9_method_48_code 130 = .ok (.iload_n 1, 1) := by decide +kernel
theorem d_Mo_fewest_131 : decode prog_9_method_48_code 131 = .ok (.iload 6, 2) := by decide +kernel
theorem d_Mo_fewest_133 : decode prog_9_method_48_code 133 = .ok (.invokevirtual 160, 3) := by decide +kernel
theorem d_Mo_fewest_136 : decode prog_9_method_48_code 136 = .ok (.istore 8, 2) := by decide +kernel
theorem d_Mo_fewest_138 : decode prog_9_method_48_code 138 = .ok (.iinc 6 1, 3) := by decide +kernel
theorem d_Mo_fewest_141 : decode prog_9_method_48_code 141 = .ok (.goto (-65), 3) := by decide +kernel
theorem d_Mo_fewest_144 : decode prog_9_method_48_code 144 = .ok (.aload_n 0, 1) := by decide +kernel
theorem d_Mo_fewest_145 : decode prog_9_method_48_code 145 = .ok (.iload_n 2, 1) := by decide +kernel
theorem d_Mo_fewest_146 : decode prog_9_method_48_code 146 = .ok (.iload 5, 2) := by decide +kernel
theorem d_Mo_fewest_148 : decode prog_9_method_48_code 148 = .ok (.invokevirtual 160, 3) := by decide +kernel
theorem d_Mo_fewest_151 : decode prog_9_method_48_code 151 = .ok (.istore 6, 2) := by decide +kernel
theorem d_Mo_fewest_153 : decode prog_9_method_48_code 153 = .ok (.iinc 5 1, 3) := by decide +kernel
theorem d_Mo_fewest_156 : decode prog_9_method_48_code 156 = .ok (.goto (-113), 3) := by decide +kernel
theorem d_Mo_fewest_159 : decode prog_9_method_48_code 159 = .ok (.iload 4, 2) := by decide +kernel
theorem d_Mo_fewest_161 : decode prog_9_method_48_code 161 = .ok (.ireturn, 1) := by decide +kernel
set_option maxHeartbeats 4000000 in
set_option maxRecDepth 20000 in
theorem tM_fewest {g : GG} (G : Gok g) {σ : AH} {S : Sp} (hS : RelM S σ) (x y : Int32) : TerI g 3 m_Mo_fewest [rV 106, iV x, iV y] σ (fun r τ => r = (sp_fewest S x y).1 ∧ RelM (sp_fewest S x y).2 τ ∧ frM σ τ) := by
  refine TerI.mk G (by decide +kernel) rfl (Nat.le_of_ble_eq_true rfl) (fun K B Rt => ?_)
  have B : Cx g K prog_9_method_48_code 9 R_Mo 3 := B
  have Rt : RetI g K prog_9_method_48_code 9 (fun r τ => r = (sp_fewest S x y).1 ∧ RelM (sp_fewest S x y).2 τ ∧ frM σ τ) := Rt
  show AW g K 9 0 [(0, rV 106), (1, iV x), (2, iV y)] [] σ
  refine a_iload_n B d_Mo_fewest_0 rfl rfl ?_
  refine a_iload_n B d_Mo_fewest_1 rfl rfl ?_
  first | refine b_icmp_ne B 9 d_Mo_fewest_2 rfl (by omega) (by omega) (fun c_2 => ?_) (fun c_2 => ?_) | refine a_icmp_ne B 9 d_Mo_fewest_2 rfl (fun c_2 => ?_) (fun c_2 => ?_)
  · skip
    refine a_aload_n B d_Mo_fewest_9 rfl rfl ?_
    refine a_iload_n B d_Mo_fewest_10 rfl rfl ?_
    refine a_iload_n B d_Mo_fewest_11 rfl rfl ?_
    refine a_callVI (ci := 7) B (t_Mo_askedTwo G hS x y) d_Mo_fewest_12 ok_Mo_askedTwo ml_Mo_170 ly_106 rfl rfl (by decide) (by decide) rfl (Nat.le_of_ble_eq_true rfl) (fun r_12 τ_12 h_12 => ?_)
    rcases h_12 with ⟨q, hq, hr9, hR9, hF9⟩ | ⟨q9, hq, hr9, hs9⟩
    · skip
      subst hr9
      refine a_istore_n (lv1 := [(0, _), (1, _), (2, _), (3, _)]) B d_Mo_fewest_15 rfl (by decide) rfl ?_
      refine a_iload_n B d_Mo_fewest_16 rfl rfl ?_
      refine a_if_ge B 22 d_Mo_fewest_17 rfl (fun c9 => absurd (neg_nz (prQ_neg hq)).2 (Int32.not_lt.mpr c9)) (fun _ => ?_)
      refine a_iload_n B d_Mo_fewest_20 rfl rfl ?_
      exact Rt _ _ _ _ d_Mo_fewest_21 (by first | (have e : sp_fewest S x y = RB S := (by rw [sp_fewest, fcQ_eq c_2]); rw [e]; exact ⟨rfl, hS, fun _ _ => rfl⟩) | (have e : sp_fewest S x y = q := (by rw [sp_fewest, fcQ_ne c_2, hq]); rw [e]; exact ⟨rfl, hR9, hF9⟩))
    · skip
      subst hr9
      replace hs9 := hs9.symm
      subst hs9
      obtain ⟨t, u⟩ := q9
      obtain ⟨ht, hx9, hu, hy9, hnt, hnu, he9⟩ := prQ_ok hq
      dsimp only at ht hx9 hu hy9 hnt hnu he9
      subst hx9
      subst hy9
      obtain ⟨tW, tA, tB, tX⟩ := (hS.2.1 t ht).2 hnt
      obtain ⟨uW, uA, uB, uC⟩ := (hS.2.1 u hu).2 hnu
      obtain ⟨a1, a2, a3, a4, a5, a6⟩ := id tA
      have w1 := tW.1
      have w10 := tW.2.1
      have htu := ne_of_nI c_2
      have hp9 := pow9 w10
      have hp8 := pow9 uW.2.1
      have u1 := uW.1
      have u10 := uW.2.1
      refine a_istore_n (lv1 := [(0, _), (1, _), (2, _), (3, _)]) B d_Mo_fewest_15 rfl (by decide) rfl ?_
      refine a_iload_n B d_Mo_fewest_16 rfl rfl ?_
      refine b_if_ge B 22 d_Mo_fewest_17 rfl (by first | assumption | omega) ?_
      refine a_aload_n B d_Mo_fewest_22 rfl rfl ?_
      refine gf_Mo_sizes B d_Mo_fewest_23 fl_Mo_23 ?_
      refine a_iload_n B d_Mo_fewest_26 rfl rfl ?_
      refine a_iald B ly_111 _ rfl (by first | assumption | omega) d_Mo_fewest_27 ?_
      rw [a1]
      refine a_bipush B d_Mo_fewest_28 cb_6 ?_
      first | refine b_icmp_le B 36 d_Mo_fewest_30 rfl (by omega) (by omega) (fun c_30 => ?_) (fun c_30 => ?_) | refine a_icmp_le B 36 d_Mo_fewest_30 rfl (fun c_30 => ?_) (fun c_30 => ?_)
      · skip
        refine a_bipush B d_Mo_fewest_36 cb_m9 ?_
        refine a_istore (lv1 := [(0, _), (1, _), (2, _), (3, _), (4, _)]) B d_Mo_fewest_38 (by decide) rfl ?_
        refine a_iconst B d_Mo_fewest_40 ci_0 ?_
        refine a_istore (lv1 := [(0, _), (1, _), (2, _), (3, _), (4, _), (5, _)]) B d_Mo_fewest_41 (by decide) rfl ?_
        refine a_forR (2 ^ (tN (sT S u) - 1)) (fun s lv τ => lv = [(0, rV 106), (1, iV (nI t)), (2, iV (nI u)), (3, iV (nI 0)), (4, iV (btB (rfF (sT S t) (sT S u) s))), (5, iV (nI s))] ∧ FbX t u (tN (sT S t)) (sT S t, sT S u) σ τ) (fun s lv τ hs9 hI ihs => ?_) (fun lv τ hI => ?_) 0 (Nat.zero_le _) _ _ ⟨rfl, ⟨tW, uW, rfl, he9.symm, ⟨tA, tB, tX⟩, ⟨uA, uB, uC⟩, fr2_t tfM_rfl⟩⟩
        · skip
          obtain ⟨rfl, hX0⟩ := hI
          obtain ⟨x1, x2, x3, x4, x5, x6, x7⟩ := id hX0
          refine a_iload B d_Mo_fewest_43 rfl ?_
          refine a_iconst B d_Mo_fewest_45 ci_1 ?_
          refine a_aload_n B d_Mo_fewest_46 rfl rfl ?_
          refine gf_Mo_sizes B d_Mo_fewest_47 fl_Mo_23 ?_
          refine a_iload_n B d_Mo_fewest_50 rfl rfl ?_
          refine a_iald B ly_111 _ rfl (by first | assumption | omega) d_Mo_fewest_51 ?_
          rw [x6.1.1]
          refine a_iconst B d_Mo_fewest_52 ci_1 ?_
          first | refine b_isub B (by omega) d_Mo_fewest_53 ?_ | refine a_isub B d_Mo_fewest_53 ?_
          refine a_ishl B d_Mo_fewest_54 ?_
          rw [show nI 1 <<< (nI (tN (sT S u) - 1) &&& 31) = nI (2 ^ (tN (sT S u) - 1)) from nI_pow (by omega)]
          first | refine b_icmp_ge B 159 d_Mo_fewest_55 rfl (by omega) (by omega) (fun c_55 => ?_) (fun c_55 => ?_) | refine a_icmp_ge B 159 d_Mo_fewest_55 rfl (fun c_55 => ?_) (fun c_55 => ?_)
          · skip
            exact absurd c_55 (by omega)
          refine a_aload_n B d_Mo_fewest_58 rfl rfl ?_
          refine a_iload_n B d_Mo_fewest_59 rfl rfl ?_
          refine a_iload B d_Mo_fewest_60 rfl ?_
          refine a_callVI (ci := 7) B (t_Mo_flips G hu uW x6.1 x6.2.1 (s := s) (by omega)) d_Mo_fewest_62 ok_Mo_flips ml_Mo_160 ly_106 rfl rfl (by decide) (by decide) rfl (Nat.le_of_ble_eq_true rfl) (fun r_62 τ_62 h_62 => ?_)
          obtain ⟨hr_62, hy_62, hn_62, hf_62⟩ := h_62
          subst hr_62
          first | refine b_if_eq_b B 153 d_Mo_fewest_65 rfl (fun c_65 => ?_) (fun c_65 => ?_) | refine a_if_eq B 153 d_Mo_fewest_65 rfl (fun c_65 => ?_) (fun c_65 => ?_)
          · skip
            first | refine b_iinc (lv1 := [(0, _), (1, _), (2, _), (3, _), (4, _), (5, _)]) B d_Mo_fewest_153 rfl ci_1 (by decide) rfl ?_ | refine a_iinc (lv1 := [(0, _), (1, _), (2, _), (3, _), (4, _), (5, _)]) B d_Mo_fewest_153 rfl rfl (by decide) rfl ?_
            refine a_goto B 43 d_Mo_fewest_156 rfl ?_
            have e9 := hn_62 c_65
            subst e9
            exact ihs _ _ ⟨by rw [show rfF (sT S t) (sT S u) (s + 1) = rfF (sT S t) (sT S u) s from if_neg (by rw [c_65]; decide)], hX0⟩
          have hX1 : FbX t u (tN (sT S t)) (sT S t, (setT (sT S u) s)) σ τ_62 := FbX_u hX0 htu (Wf_set uW) he9.symm (flM_set hf_62 x6.1 (hy_62 c_65) x6.2.2) hf_62.2
          refine a_aload_n B d_Mo_fewest_68 rfl rfl ?_
          refine a_iload_n B d_Mo_fewest_69 rfl rfl ?_
          refine a_callVV (ci := 7) B (t_Mo_setAgainst G hu (Wf_set uW) hX1.2.2.2.2.2.1.1 hX1.2.2.2.2.2.1.2.1) d_Mo_fewest_70 ok_Mo_setAgainst ml_Mo_173 ly_106 rfl rfl (by decide) (by decide) rfl (Nat.le_of_ble_eq_true rfl) (fun τ_70 h_70 => ?_)
          refine a_iconst B d_Mo_fewest_73 ci_0 ?_
          refine a_istore (lv1 := [(0, _), (1, _), (2, _), (3, _), (4, _), (5, _), (6, _)]) B d_Mo_fewest_74 (by decide) rfl ?_
          refine a_forR (2 ^ (tN (sT S t) - 1)) (fun i lv τ => lv = [(0, rV 106), (1, iV (nI t)), (2, iV (nI u)), (3, iV (nI 0)), (4, iV (btB (inF (sT S t) (plT (setT (sT S u) s)) (rfF (sT S t) (sT S u) s) i))), (5, iV (nI s)), (6, iV (nI i))] ∧ FbX t u (tN (sT S t)) (sT S t, (setT (sT S u) s)) σ τ ∧ ∀ l, l < 10 → τ.1 123 l = (plT (setT (sT S u) s)) l) (fun i lv τ hi hI ihi => ?_) (fun lv τ hI => ?_) 0 (Nat.zero_le _) _ _ ⟨rfl, FbX_wk hX1 h_70.wk, h_70.2⟩
          · skip
            obtain ⟨rfl, hX, hP⟩ := hI
            obtain ⟨k1, k2, k3, k4, k5, k6, k7⟩ := id hX
            refine a_iload B d_Mo_fewest_76 rfl ?_
            refine a_iconst B d_Mo_fewest_78 ci_1 ?_
            refine a_aload_n B d_Mo_fewest_79 rfl rfl ?_
            refine gf_Mo_sizes B d_Mo_fewest_80 fl_Mo_23 ?_
            refine a_iload_n B d_Mo_fewest_83 rfl rfl ?_
            refine a_iald B ly_111 _ rfl (by first | assumption | omega) d_Mo_fewest_84 ?_
            rw [k5.1.1]
            refine a_iconst B d_Mo_fewest_85 ci_1 ?_
            first | refine b_isub B (by omega) d_Mo_fewest_86 ?_ | refine a_isub B d_Mo_fewest_86 ?_
            refine a_ishl B d_Mo_fewest_87 ?_
            rw [show nI 1 <<< (nI (tN (sT S t) - 1) &&& 31) = nI (2 ^ (tN (sT S t) - 1)) from nI_pow (by omega)]
            first | refine b_icmp_ge B 144 d_Mo_fewest_88 rfl (by omega) (by omega) (fun c_88 => ?_) (fun c_88 => ?_) | refine a_icmp_ge B 144 d_Mo_fewest_88 rfl (fun c_88 => ?_) (fun c_88 => ?_)
            · skip
              exact absurd c_88 (by omega)
            refine a_aload_n B d_Mo_fewest_91 rfl rfl ?_
            refine a_iload_n B d_Mo_fewest_92 rfl rfl ?_
            refine a_iload B d_Mo_fewest_93 rfl ?_
            refine a_callVI (ci := 7) B (t_Mo_flips G ht tW k5.1 k5.2.1 (s := i) (by omega)) d_Mo_fewest_95 ok_Mo_flips ml_Mo_160 ly_106 rfl rfl (by decide) (by decide) rfl (Nat.le_of_ble_eq_true rfl) (fun r_95 τ_95 h_95 => ?_)
            obtain ⟨hr_95, hy, hn9, hfl⟩ := h_95
            subst hr_95
            first | refine b_if_eq_b B 138 d_Mo_fewest_98 rfl (fun c_98 => ?_) (fun c_98 => ?_) | refine a_if_eq B 138 d_Mo_fewest_98 rfl (fun c_98 => ?_) (fun c_98 => ?_)
            · skip
              first | refine b_iinc (lv1 := [(0, _), (1, _), (2, _), (3, _), (4, _), (5, _), (6, _)]) B d_Mo_fewest_138 rfl ci_1 (by decide) rfl ?_ | refine a_iinc (lv1 := [(0, _), (1, _), (2, _), (3, _), (4, _), (5, _), (6, _)]) B d_Mo_fewest_138 rfl rfl (by decide) rfl ?_
              refine a_goto B 76 d_Mo_fewest_141 rfl ?_
              refine a_sub (lv1 := [(0, _), (1, _), (2, _), (3, _), (4, _), (5, _), (6, _)]) rfl ?_
              first | exact ihi _ _ ⟨by rw [hst] <;> rfl, hX3, hP3⟩ | (have e9 := hn9 c_98; subst e9; exact ihi _ _ ⟨by rw [inF_n c_98] <;> rfl, hX, hP⟩)
            have hyB := hy c_98
            have hX2 : FbX t u (tN (sT S t)) (setT (sT S t) i, (setT (sT S u) s)) σ τ_95 := FbX_t hX htu (Wf_set tW) rfl (flM_set hfl k5.1 hyB k5.2.2) hfl.2
            have hP2 : ∀ l, l < 10 → τ_95.1 123 l = (plT (setT (sT S u) s)) l := fun l hl => by rw [hfl.1 123 (by decide) (by decide)]; exact hP l hl
            refine a_aload_n B d_Mo_fewest_101 rfl rfl ?_
            refine a_iload_n B d_Mo_fewest_102 rfl rfl ?_
            refine a_callVI (ci := 7) B (t_Mo_allCrossed G ht (Wf_set tW) hX2.2.2.2.2.1.1 hX2.2.2.2.2.1.2.1) d_Mo_fewest_103 ok_Mo_allCrossed ml_Mo_176 ly_106 rfl rfl (by decide) (by decide) rfl (Nat.le_of_ble_eq_true rfl) (fun r_103 τ_103 h_103 => ?_)
            obtain ⟨hr_103, hs_103⟩ := h_103
            subst hr_103
            replace hs_103 := hs_103.symm
            subst hs_103
            rw [cross_cg (Wf_set (s := i) tW) (pl' := (plT (setT (sT S u) s))) (fun x hx => hP2 x (by have e9 : tN (setT (sT S t) i) = tN (sT S t) := rfl; omega))]
            have hc9 := cross_100 (Wf_set (s := i) tW) (pl := (plT (setT (sT S u) s)))
            refine a_istore (lv1 := [(0, _), (1, _), (2, _), (3, _), (4, _), (5, _), (6, _), (7, _)]) B d_Mo_fewest_106 (by decide) rfl ?_
            cases hq : (inF (sT S t) (plT (setT (sT S u) s)) (rfF (sT S t) (sT S u) s) i)
            · skip
              have hst : (inF (sT S t) (plT (setT (sT S u) s)) (rfF (sT S t) (sT S u) s) (i + 1)) = some (crossT (setT (sT S t) i) (plT (setT (sT S u) s))) := (by rw [inF_y c_98, hq]; rfl)
              refine a_iload B d_Mo_fewest_108 rfl ?_
              refine a_if_lt B 120 d_Mo_fewest_110 rfl (fun _ => ?_) (fun c9 => absurd (by decide) c9)
              refine a_iload B d_Mo_fewest_120 rfl ?_
              refine a_goto B 127 d_Mo_fewest_122 rfl ?_
              refine a_istore (lv1 := [(0, _), (1, _), (2, _), (3, _), (4, _), (5, _), (6, _), (7, _)]) B d_Mo_fewest_127 (by decide) rfl ?_
              refine a_aload_n B d_Mo_fewest_129 rfl rfl ?_
              refine a_iload_n B d_Mo_fewest_130 rfl rfl ?_
              refine a_iload B d_Mo_fewest_131 rfl ?_
              refine a_callVI (ci := 7) B (t_Mo_flips G ht (Wf_set tW) hX2.2.2.2.2.1.1 hX2.2.2.2.2.1.2.1 (s := i) (by omega)) d_Mo_fewest_133 ok_Mo_flips ml_Mo_160 ly_106 rfl rfl (by decide) (by decide) rfl (Nat.le_of_ble_eq_true rfl) (fun r_133 τ_133 h_133 => ?_)
              obtain ⟨hr_133, hy_133, hn_133, hf_133⟩ := h_133
              subst hr_133
              have hX3 : FbX t u (tN (sT S t)) (sT S t, (setT (sT S u) s)) σ τ_133 := FbX_t hX2 htu tW rfl (flM_back hf_133 hX2.2.2.2.2.1.1 (hy_133 c_98) hX2.2.2.2.2.1.2.2) hf_133.2
              have hP3 : ∀ l, l < 10 → τ_133.1 123 l = (plT (setT (sT S u) s)) l := fun l hl => by rw [hf_133.1 123 (by decide) (by decide)]; exact hP2 l hl
              refine a_istore (lv1 := [(0, _), (1, _), (2, _), (3, _), (4, _), (5, _), (6, _), (7, _), (8, _)]) B d_Mo_fewest_136 (by decide) rfl ?_
              first | refine b_iinc (lv1 := [(0, _), (1, _), (2, _), (3, _), (4, _), (5, _), (6, _), (7, _), (8, _)]) B d_Mo_fewest_138 rfl ci_1 (by decide) rfl ?_ | refine a_iinc (lv1 := [(0, _), (1, _), (2, _), (3, _), (4, _), (5, _), (6, _), (7, _), (8, _)]) B d_Mo_fewest_138 rfl rfl (by decide) rfl ?_
              refine a_goto B 76 d_Mo_fewest_141 rfl ?_
              refine a_sub (lv1 := [(0, _), (1, _), (2, _), (3, _), (4, _), (5, _), (6, _)]) rfl ?_
              first | exact ihi _ _ ⟨by rw [hst] <;> rfl, hX3, hP3⟩ | (have e9 := hn9 c_98; subst e9; exact ihi _ _ ⟨by rw [inF_n c_98] <;> rfl, hX, hP⟩)
            · skip
              rename_i b
              have hb1 := inF_le tW (rfF_le tW s) i b hq
              have hb2 : b < 2 ^ 31 := by omega
              show AW g K 9 _ [(0, rV 106), (1, iV (nI t)), (2, iV (nI u)), (3, iV (nI 0)), (4, iV (nI b)), (5, iV (nI s)), (6, iV (nI i)), (7, iV (nI (crossT (setT (sT S t) i) (plT (setT (sT S u) s)))))] [] τ_95
              refine a_iload B d_Mo_fewest_108 rfl ?_
              refine b_if_lt B 120 d_Mo_fewest_110 rfl (by first | assumption | omega) ?_
              refine a_iload B d_Mo_fewest_113 rfl ?_
              refine a_iload B d_Mo_fewest_115 rfl ?_
              first | refine b_icmp_ge B 125 d_Mo_fewest_117 rfl (by omega) (by omega) (fun c_117 => ?_) (fun c_117 => ?_) | refine a_icmp_ge B 125 d_Mo_fewest_117 rfl (fun c_117 => ?_) (fun c_117 => ?_)
              · skip
                have hst : (inF (sT S t) (plT (setT (sT S u) s)) (rfF (sT S t) (sT S u) s) (i + 1)) = some b := (by rw [inF_y c_98, hq]; exact congrArg some (Nat.min_eq_left (by omega)))
                refine a_iload B d_Mo_fewest_125 rfl ?_
                refine a_istore (lv1 := [(0, _), (1, _), (2, _), (3, _), (4, _), (5, _), (6, _), (7, _)]) B d_Mo_fewest_127 (by decide) rfl ?_
                refine a_aload_n B d_Mo_fewest_129 rfl rfl ?_
                refine a_iload_n B d_Mo_fewest_130 rfl rfl ?_
                refine a_iload B d_Mo_fewest_131 rfl ?_
                refine a_callVI (ci := 7) B (t_Mo_flips G ht (Wf_set tW) hX2.2.2.2.2.1.1 hX2.2.2.2.2.1.2.1 (s := i) (by omega)) d_Mo_fewest_133 ok_Mo_flips ml_Mo_160 ly_106 rfl rfl (by decide) (by decide) rfl (Nat.le_of_ble_eq_true rfl) (fun r_133 τ_133 h_133 => ?_)
                obtain ⟨hr_133, hy_133, hn_133, hf_133⟩ := h_133
                subst hr_133
                have hX3 : FbX t u (tN (sT S t)) (sT S t, (setT (sT S u) s)) σ τ_133 := FbX_t hX2 htu tW rfl (flM_back hf_133 hX2.2.2.2.2.1.1 (hy_133 c_98) hX2.2.2.2.2.1.2.2) hf_133.2
                have hP3 : ∀ l, l < 10 → τ_133.1 123 l = (plT (setT (sT S u) s)) l := fun l hl => by rw [hf_133.1 123 (by decide) (by decide)]; exact hP2 l hl
                refine a_istore (lv1 := [(0, _), (1, _), (2, _), (3, _), (4, _), (5, _), (6, _), (7, _), (8, _)]) B d_Mo_fewest_136 (by decide) rfl ?_
                first | refine b_iinc (lv1 := [(0, _), (1, _), (2, _), (3, _), (4, _), (5, _), (6, _), (7, _), (8, _)]) B d_Mo_fewest_138 rfl ci_1 (by decide) rfl ?_ | refine a_iinc (lv1 := [(0, _), (1, _), (2, _), (3, _), (4, _), (5, _), (6, _), (7, _), (8, _)]) B d_Mo_fewest_138 rfl rfl (by decide) rfl ?_
                refine a_goto B 76 d_Mo_fewest_141 rfl ?_
                refine a_sub (lv1 := [(0, _), (1, _), (2, _), (3, _), (4, _), (5, _), (6, _)]) rfl ?_
                first | exact ihi _ _ ⟨by rw [hst] <;> rfl, hX3, hP3⟩ | (have e9 := hn9 c_98; subst e9; exact ihi _ _ ⟨by rw [inF_n c_98] <;> rfl, hX, hP⟩)
              have hst : (inF (sT S t) (plT (setT (sT S u) s)) (rfF (sT S t) (sT S u) s) (i + 1)) = some (crossT (setT (sT S t) i) (plT (setT (sT S u) s))) := (by rw [inF_y c_98, hq]; exact congrArg some (Nat.min_eq_right (by omega)))
              refine a_iload B d_Mo_fewest_120 rfl ?_
              refine a_goto B 127 d_Mo_fewest_122 rfl ?_
              refine a_istore (lv1 := [(0, _), (1, _), (2, _), (3, _), (4, _), (5, _), (6, _), (7, _)]) B d_Mo_fewest_127 (by decide) rfl ?_
              refine a_aload_n B d_Mo_fewest_129 rfl rfl ?_
              refine a_iload_n B d_Mo_fewest_130 rfl rfl ?_
              refine a_iload B d_Mo_fewest_131 rfl ?_
              refine a_callVI (ci := 7) B (t_Mo_flips G ht (Wf_set tW) hX2.2.2.2.2.1.1 hX2.2.2.2.2.1.2.1 (s := i) (by omega)) d_Mo_fewest_133 ok_Mo_flips ml_Mo_160 ly_106 rfl rfl (by decide) (by decide) rfl (Nat.le_of_ble_eq_true rfl) (fun r_133 τ_133 h_133 => ?_)
              obtain ⟨hr_133, hy_133, hn_133, hf_133⟩ := h_133
              subst hr_133
              have hX3 : FbX t u (tN (sT S t)) (sT S t, (setT (sT S u) s)) σ τ_133 := FbX_t hX2 htu tW rfl (flM_back hf_133 hX2.2.2.2.2.1.1 (hy_133 c_98) hX2.2.2.2.2.1.2.2) hf_133.2
              have hP3 : ∀ l, l < 10 → τ_133.1 123 l = (plT (setT (sT S u) s)) l := fun l hl => by rw [hf_133.1 123 (by decide) (by decide)]; exact hP2 l hl
              refine a_istore (lv1 := [(0, _), (1, _), (2, _), (3, _), (4, _), (5, _), (6, _), (7, _), (8, _)]) B d_Mo_fewest_136 (by decide) rfl ?_
              first | refine b_iinc (lv1 := [(0, _), (1, _), (2, _), (3, _), (4, _), (5, _), (6, _), (7, _), (8, _)]) B d_Mo_fewest_138 rfl ci_1 (by decide) rfl ?_ | refine a_iinc (lv1 := [(0, _), (1, _), (2, _), (3, _), (4, _), (5, _), (6, _), (7, _), (8, _)]) B d_Mo_fewest_138 rfl rfl (by decide) rfl ?_
              refine a_goto B 76 d_Mo_fewest_141 rfl ?_
              refine a_sub (lv1 := [(0, _), (1, _), (2, _), (3, _), (4, _), (5, _), (6, _)]) rfl ?_
              first | exact ihi _ _ ⟨by rw [hst] <;> rfl, hX3, hP3⟩ | (have e9 := hn9 c_98; subst e9; exact ihi _ _ ⟨by rw [inF_n c_98] <;> rfl, hX, hP⟩)
          · skip
            obtain ⟨rfl, hX, hP⟩ := hI
            obtain ⟨k1, k2, k3, k4, k5, k6, k7⟩ := id hX
            refine a_iload B d_Mo_fewest_76 rfl ?_
            refine a_iconst B d_Mo_fewest_78 ci_1 ?_
            refine a_aload_n B d_Mo_fewest_79 rfl rfl ?_
            refine gf_Mo_sizes B d_Mo_fewest_80 fl_Mo_23 ?_
            refine a_iload_n B d_Mo_fewest_83 rfl rfl ?_
            refine a_iald B ly_111 _ rfl (by first | assumption | omega) d_Mo_fewest_84 ?_
            rw [k5.1.1]
            refine a_iconst B d_Mo_fewest_85 ci_1 ?_
            first | refine b_isub B (by omega) d_Mo_fewest_86 ?_ | refine a_isub B d_Mo_fewest_86 ?_
            refine a_ishl B d_Mo_fewest_87 ?_
            rw [show nI 1 <<< (nI (tN (sT S t) - 1) &&& 31) = nI (2 ^ (tN (sT S t) - 1)) from nI_pow (by omega)]
            first | refine b_icmp_ge B 144 d_Mo_fewest_88 rfl (by omega) (by omega) (fun c_88 => ?_) (fun c_88 => ?_) | refine a_icmp_ge B 144 d_Mo_fewest_88 rfl (fun c_88 => ?_) (fun c_88 => ?_)
            · skip
              refine a_aload_n B d_Mo_fewest_144 rfl rfl ?_
              refine a_iload_n B d_Mo_fewest_145 rfl rfl ?_
              refine a_iload B d_Mo_fewest_146 rfl ?_
              refine a_callVI (ci := 7) B (t_Mo_flips G hu (Wf_set uW) k6.1 k6.2.1 (s := s) (by omega)) d_Mo_fewest_148 ok_Mo_flips ml_Mo_160 ly_106 rfl rfl (by decide) (by decide) rfl (Nat.le_of_ble_eq_true rfl) (fun r_148 τ_148 h_148 => ?_)
              obtain ⟨hr_148, hy_148, hn_148, hf_148⟩ := h_148
              subst hr_148
              have hX4 : FbX t u (tN (sT S t)) (sT S t, sT S u) σ τ_148 := FbX_u hX htu uW he9.symm (flM_back hf_148 k6.1 (hy_148 c_65) k6.2.2) hf_148.2
              refine a_istore (lv1 := [(0, _), (1, _), (2, _), (3, _), (4, _), (5, _), (6, _)]) B d_Mo_fewest_151 (by decide) rfl ?_
              first | refine b_iinc (lv1 := [(0, _), (1, _), (2, _), (3, _), (4, _), (5, _), (6, _)]) B d_Mo_fewest_153 rfl ci_1 (by decide) rfl ?_ | refine a_iinc (lv1 := [(0, _), (1, _), (2, _), (3, _), (4, _), (5, _), (6, _)]) B d_Mo_fewest_153 rfl rfl (by decide) rfl ?_
              refine a_goto B 43 d_Mo_fewest_156 rfl ?_
              refine a_sub (lv1 := [(0, _), (1, _), (2, _), (3, _), (4, _), (5, _)]) rfl ?_
              exact ihs _ _ ⟨by rw [show rfF (sT S t) (sT S u) (s + 1) = (inF (sT S t) (plT (setT (sT S u) s)) (rfF (sT S t) (sT S u) s) (2 ^ (tN (sT S t) - 1))) from if_pos c_65], hX4⟩
            exact absurd c_88 (by omega)
        · skip
          obtain ⟨rfl, hX0⟩ := hI
          obtain ⟨x1, x2, x3, x4, x5, x6, x7⟩ := id hX0
          refine a_iload B d_Mo_fewest_43 rfl ?_
          refine a_iconst B d_Mo_fewest_45 ci_1 ?_
          refine a_aload_n B d_Mo_fewest_46 rfl rfl ?_
          refine gf_Mo_sizes B d_Mo_fewest_47 fl_Mo_23 ?_
          refine a_iload_n B d_Mo_fewest_50 rfl rfl ?_
          refine a_iald B ly_111 _ rfl (by first | assumption | omega) d_Mo_fewest_51 ?_
          rw [x6.1.1]
          refine a_iconst B d_Mo_fewest_52 ci_1 ?_
          first | refine b_isub B (by omega) d_Mo_fewest_53 ?_ | refine a_isub B d_Mo_fewest_53 ?_
          refine a_ishl B d_Mo_fewest_54 ?_
          rw [show nI 1 <<< (nI (tN (sT S u) - 1) &&& 31) = nI (2 ^ (tN (sT S u) - 1)) from nI_pow (by omega)]
          first | refine b_icmp_ge B 159 d_Mo_fewest_55 rfl (by omega) (by omega) (fun c_55 => ?_) (fun c_55 => ?_) | refine a_icmp_ge B 159 d_Mo_fewest_55 rfl (fun c_55 => ?_) (fun c_55 => ?_)
          · skip
            refine a_iload B d_Mo_fewest_159 rfl ?_
            exact Rt _ _ _ _ d_Mo_fewest_161 (by have e : sp_fewest S (nI t) (nI u) = (nI (fwF (sT S t) (sT S u) (2 ^ (tN (sT S u) - 1))), S) := (by rw [sp_fewest, fcQ_ne c_2, hq]; exact if_neg (Nat.not_lt.mpr c_30)); rw [e]; exact ⟨by rw [rfF_end (Nat.one_le_two_pow)] <;> rfl, by (have q9 := FbX_rel hX0 hS htu; rw [show pT (pT S t (sT S t)) u (sT S u) = S from by rw [pT_same, pT_same]] at q9; exact q9), fr2_fr x7⟩)
          exact absurd c_55 (by omega)
      refine a_bipush B d_Mo_fewest_33 cb_m4 ?_
      exact Rt _ _ _ _ d_Mo_fewest_35 (by have e : sp_fewest S (nI t) (nI u) = RS S := (by rw [sp_fewest, fcQ_ne c_2, hq]; exact if_pos c_30); rw [e]; exact ⟨rfl, hS, (fun _ _ => rfl)⟩)
  refine a_iconst B d_Mo_fewest_5 ci_m1 ?_
  refine a_goto B 15 d_Mo_fewest_6 rfl ?_
  refine a_istore_n (lv1 := [(0, _), (1, _), (2, _), (3, _)]) B d_Mo_fewest_15 rfl (by decide) rfl ?_
  refine a_iload_n B d_Mo_fewest_16 rfl rfl ?_
  refine a_if_ge B 22 d_Mo_fewest_17 rfl (fun c9 => absurd c9 (by decide)) (fun _ => ?_)
  refine a_iload_n B d_Mo_fewest_20 rfl rfl ?_
  exact Rt _ _ _ _ d_Mo_fewest_21 (by first | (have e : sp_fewest S x y = RB S := (by rw [sp_fewest, fcQ_eq c_2]); rw [e]; exact ⟨rfl, hS, fun _ _ => rfl⟩) | (have e : sp_fewest S x y = q := (by rw [sp_fewest, fcQ_ne c_2, hq]); rw [e]; exact ⟨rfl, hR9, hF9⟩))
