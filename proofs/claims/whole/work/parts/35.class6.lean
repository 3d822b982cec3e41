/-! the class: orders kept, groups, rows copied, counts and the digest -/
theorem RelC_keep {S : Sp} {σ τ : AH} {n : Nat} {p : Nat → Int32} (h : RelC S σ) (e9 : τ.1 0 9 = nI n) (e10 : τ.1 0 10 = σ.1 0 10) (hn : n ≤ 10) (e18 : ∀ l, l < 10 → τ.1 18 l = p l) (e : ∀ k, k ≠ 0 → k ≠ 18 → τ.1 k = σ.1 k) : RelC (pK S n p) τ := by
  obtain ⟨h1, h2, h3, h4⟩ := h
  refine ⟨h1.of (e _ (by decide) (by decide)) (e _ (by decide) (by decide)) (fun i hi => e _ (by omega) (by omega)), fun t ht => TrC_of (h2 t ht) (fun k q1 q2 => e k (by have : 58 ≤ tI t := Nat.le_add_right _ _; omega) (by have : 58 ≤ tI t := Nat.le_add_right _ _; omega)), ?_, h4.of (e _ (by decide) (by decide)) (fun a ha => e _ (by omega) (by omega))⟩
  obtain ⟨m1, m2, m3, m4, m5, m6, m7, m8⟩ := h3
  exact ⟨by rw [e10]; exact m1, by rw [e _ (by decide) (by decide)]; exact m2, by rw [e _ (by decide) (by decide)]; exact m3, e9, hn, e18, by rw [e _ (by decide) (by decide)]; exact m7, by rw [e _ (by decide) (by decide), e _ (by decide) (by decide)]; exact m8⟩
theorem RelC_grp {S : Sp} {σ τ : AH} {f : Nat → Int32} (h : RelC S σ) (e17 : ∀ l, l < 10 → τ.1 17 l = f l) (e : ∀ k, k ≠ 17 → (∀ t, t < 4 → k ≠ tI t + 11) → τ.1 k = σ.1 k) : RelC (pG S f) τ := by
  obtain ⟨h1, h2, h3, h4⟩ := h
  have e9 : ∀ k, k ≠ 17 → k < 58 → τ.1 k = σ.1 k := fun k q1 q2 => e k q1 (fun t ht => by have : tI t = 58 + 12 * t := rfl; omega)
  refine ⟨h1.of (e9 _ (by decide) (by decide)) (e9 _ (by decide) (by decide)) (fun i hi => e9 _ (by omega) (by omega)), fun t ht => TrC_of (h2 t ht) (fun k q1 q2 => e k (by have : 58 ≤ tI t := Nat.le_add_right _ _; omega) (fun t' ht' => by have : tI t = 58 + 12 * t := rfl; have : tI t' = 58 + 12 * t' := rfl; omega)), ?_, h4.of (e9 _ (by decide) (by decide)) (fun a ha => e9 _ (by omega) (by omega))⟩
  obtain ⟨m1, m2, m3, m4, m5, m6, m7, m8⟩ := h3
  exact ⟨by rw [e9 _ (by decide) (by decide)]; exact m1, by rw [e9 _ (by decide) (by decide)]; exact m2, by rw [e9 _ (by decide) (by decide)]; exact m3, by rw [e9 _ (by decide) (by decide)]; exact m4, m5, by rw [e9 _ (by decide) (by decide)]; exact m6, e17, by rw [e9 _ (by decide) (by decide), e9 _ (by decide) (by decide)]; exact m8⟩
theorem cntB_t {p : Nat → Bool} {i : Nat} (h : p i = true) : cntB p (i + 1) = cntB p i + 1 := by
  show cntB p i + _ = _
  rw [if_pos h]
theorem cntB_f {p : Nat → Bool} {i : Nat} (h : p i = false) : cntB p (i + 1) = cntB p i := by
  show cntB p i + _ = _
  rw [if_neg (by rw [h]; decide)]
  rfl
theorem grpF_cg {T : TT} {h : Nat} {f f' : Nat → Int32} {l : Nat} (e : f l = f' l) : ∀ i, grpF T h f i l = grpF T h f' i l
  | 0 => e
  | i + 1 => by
    show upd (grpF T h f i) (ordT T i) _ l = upd (grpF T h f' i) (ordT T i) _ l
    by_cases q : l = ordT T i
    · rw [q, upd_s, upd_s]
    · rw [upd_o q, upd_o q]; exact grpF_cg e i
theorem d_Lo_keep_0 : decode prog_1_method_22_code 0 = .ok (.aload_n 0, 1) := by decide +kernel
theorem d_Lo_keep_1 : decode prog_1_method_22_code 1 = .ok (.iload_n 1, 1) := by decide +kernel
theorem d_Lo_keep_2 : decode prog_1_method_22_code 2 = .ok (.invokevirtual 120, 3) := by decide +kernel
theorem d_Lo_keep_5 : decode prog_1_method_22_code 5 = .ok (.istore_n 2, 1) := by decide +kernel
theorem d_Lo_keep_6 : decode prog_1_method_22_code 6 = .ok (.iload_n 2, 1) := by decide +kernel
theorem d_Lo_keep_7 : decode prog_1_method_22_code 7 = .ok (.ifCond .eq 5, 3) := by decide +kernel
theorem d_Lo_keep_10 : decode prog_1_method_22_code 10 = .ok (.iload_n 2, 1) := by decide +kernel
theorem d_Lo_keep_11 : decode prog_1_method_22_code 11 = .ok (.ireturn, 1) := by decide +kernel
theorem d_Lo_keep_12 : decode prog_1_method_22_code 12 = .ok (.aload_n 0, 1) := by decide +kernel
theorem d_Lo_keep_13 : decode prog_1_method_22_code 13 = .ok (.aload_n 0, 1) := by decide +kernel
theorem d_Lo_keep_14 : decode prog_1_method_22_code 14 = .ok (.getfield 18, 3) := by decide +kernel
theorem d_Lo_keep_17 : decode prog_1_method_22_code 17 = .ok (.iload_n 1, 1) := by decide +kernel
theorem d_Lo_keep_18 : decode prog_1_method_22_code 18 = .ok (.aaload, 1) := by decide +kernel
theorem d_Lo_keep_19 : decode prog_1_method_22_code 19 = .ok (.getfield 157, 3) := by decide +kernel
theorem d_Lo_keep_22 : decode prog_1_method_22_code 22 = .ok (.putfield 67, 3) := by decide +kernel
theorem d_Lo_keep_25 : decode prog_1_method_22_code 25 = .ok (.aload_n 0, 1) := by decide +kernel
theorem d_Lo_keep_26 : decode prog_1_method_22_code 26 = .ok (.getfield 61, 3) := by decide +kernel
theorem d_Lo_keep_29 : decode prog_1_method_22_code 29 = .ok (.bipush (-9), 2) := by decide +kernel
theorem d_Lo_keep_31 : decode prog_1_method_22_code 31 = .ok (.invokestatic 55, 3) := by decide +kernel
theorem d_Lo_keep_34 : decode prog_1_method_22_code 34 = .ok (.aload_n 0, 1) := by decide +kernel
theorem d_Lo_keep_35 : decode prog_1_method_22_code 35 = .ok (.getfield 18, 3) := by decide +kernel
theorem d_Lo_keep_38 : decode prog_1_method_22_code 38 = .ok (.iload_n 1, 1) := by decide +kernel
theorem d_Lo_keep_39 : decode prog_1_method_22_code 39 = .ok (.aaload, 1) := by decide +kernel
theorem d_Lo_keep_40 : decode prog_1_method_22_code 40 = .ok (.getfield 135, 3) := by decide +kernel
theorem d_Lo_keep_43 : decode prog_1_method_22_code 43 = .ok (.iconst 0, 1) := by decide +kernel
theorem d_Lo_keep_44 : decode prog_1_method_22_code 44 = .ok (.aload_n 0, 1) := by decide +kernel
theorem d_Lo_keep_45 : decode prog_1_method_22_code 45 = .ok (.getfield 61, 3) := by decide +kernel
theorem d_Lo_keep_48 : decode prog_1_method_22_code 48 = .ok (.iconst 0, 1) := by decide +kernel
theorem d_Lo_keep_49 : decode prog_1_method_22_code 49 = .ok (.aload_n 0, 1) := by decide +kernel
theorem d_Lo_keep_50 : decode prog_1_method_22_code 50 = .ok (.getfield 67, 3) := by decide +kernel
theorem d_Lo_keep_53 : decode prog_1_method_22_code 53 = .ok (.invokestatic 97, 3) := by decide +kernel
theorem d_Lo_keep_56 : decode prog_1_method_22_code 56 = .ok (.aload_n 0, 1) := by decide +kernel
theorem d_Lo_keep_57 : decode prog_1_method_22_code 57 = .ok (.getfield 67, 3) := by decide +kernel
theorem d_Lo_keep_60 : decode prog_1_method_22_code 60 = .ok (.ireturn, 1) := by decide +kernel
set_option maxHeartbeats 4000000 in
set_option maxRecDepth 20000 in
theorem tC_keep {g : GG} (G : Gok g) {σ : AH} {S : Sp} (hS : RelC S σ) (x : Int32) : TerI g 2 m_Lo_keep [rV 0, iV x] σ (fun r τ => r = (sp_keep S x).1 ∧ RelC (sp_keep S x).2 τ ∧ frC σ τ) := by
  refine TerI.mk G (by decide +kernel) rfl (Nat.le_of_ble_eq_true rfl) (fun K B Rt => ?_)
  have B : Cx g K prog_1_method_22_code 3 R_Lo 2 := B
  have Rt : RetI g K prog_1_method_22_code 3 (fun r τ => r = (sp_keep S x).1 ∧ RelC (sp_keep S x).2 τ ∧ frC σ τ) := Rt
  show AW g K 3 0 [(0, rV 0), (1, iV x)] [] σ
  refine a_aload_n B d_Lo_keep_0 rfl rfl ?_
  refine a_iload_n B d_Lo_keep_1 rfl rfl ?_
  refine a_callVI (ci := 6) B (t_Lo_treeRefused G hS x) d_Lo_keep_2 ok_Lo_treeRefused ml_Lo_120 ly_0 rfl rfl (by decide) (by decide) rfl (Nat.le_of_ble_eq_true rfl) (fun r_2 τ_2 h_2 => ?_)
  rcases h_2 with ⟨q, hq, hr9, hR9, hF9⟩ | ⟨t, hq, hr9, hs9⟩
  · skip
    subst hr9
    refine a_istore_n (lv1 := [(0, _), (1, _), (2, _)]) B d_Lo_keep_5 rfl (by decide) rfl ?_
    refine a_iload_n B d_Lo_keep_6 rfl rfl ?_
    refine a_if_eq B 12 d_Lo_keep_7 rfl (fun c9 => absurd c9 (neg_nz (trQ_neg hq)).1) (fun _ => ?_)
    refine a_iload_n B d_Lo_keep_10 rfl rfl ?_
    exact Rt _ _ _ _ d_Lo_keep_11 (by have e : sp_keep S x = q := (by rw [sp_keep, hq]); rw [e]; exact ⟨rfl, hR9, hF9⟩)
  · skip
    subst hr9
    replace hs9 := hs9.symm
    subst hs9
    obtain ⟨ht, rfl, hn⟩ := trQ_ok hq
    obtain ⟨t11, tW, tA, tB, tP⟩ := TrC_in (hS.2.1 t ht) hn
    have w1 := tW.1
    have w10 := tW.2.1
    have h58 : tI t = 58 + 12 * t := rfl
    refine a_istore_n (lv1 := [(0, _), (1, _), (2, _)]) B d_Lo_keep_5 rfl (by decide) rfl ?_
    refine a_iload_n B d_Lo_keep_6 rfl rfl ?_
    refine a_if_eq B 12 d_Lo_keep_7 rfl (fun _ => ?_) (fun c9 => absurd nI_0 c9)
    refine a_aload_n B d_Lo_keep_12 rfl rfl ?_
    refine a_aload_n B d_Lo_keep_13 rfl rfl ?_
    refine gf_Lo_trees B d_Lo_keep_14 fl_Lo_18 ?_
    refine a_iload_n B d_Lo_keep_17 rfl rfl ?_
    refine al_tr B _ rfl (by first | assumption | omega) d_Lo_keep_18 ?_
    refine gf_Tr_leafCount B (by first | assumption | omega) d_Lo_keep_19 fl_Lo_157 ?_
    rw [tA.1]
    refine pf_Lo_keptCount B d_Lo_keep_22 fl_Lo_67 ?_
    refine a_aload_n B d_Lo_keep_25 rfl rfl ?_
    refine gf_Lo_keptPlaces B d_Lo_keep_26 fl_Lo_61 ?_
    refine a_bipush B d_Lo_keep_29 cb_m9 ?_
    refine a_callSV B (t_Ar_fillI G ly_18 (-9)) d_Lo_keep_31 ok_Ar_fill_IIV ml_Lo_55 rfl (by decide) (by decide) rfl (Nat.le_of_ble_eq_true rfl) (fun τ_31 h_31 => ?_)
    subst h_31
    refine a_aload_n B d_Lo_keep_34 rfl rfl ?_
    refine gf_Lo_trees B d_Lo_keep_35 fl_Lo_18 ?_
    refine a_iload_n B d_Lo_keep_38 rfl rfl ?_
    refine al_tr B _ rfl (by first | assumption | omega) d_Lo_keep_39 ?_
    refine gf_Tr_start B (by first | assumption | omega) d_Lo_keep_40 fl_Lo_135 ?_
    refine a_iconst B d_Lo_keep_43 ci_0 ?_
    refine a_aload_n B d_Lo_keep_44 rfl rfl ?_
    refine gf_Lo_keptPlaces B d_Lo_keep_45 fl_Lo_61 ?_
    refine a_iconst B d_Lo_keep_48 ci_0 ?_
    refine a_aload_n B d_Lo_keep_49 rfl rfl ?_
    refine gf_Lo_keptCount B d_Lo_keep_50 fl_Lo_67 ?_
    rw [up1_o (by omega), up1_s, upd_s]
    refine a_copyi B (ly_T_start ht) ly_18 d_Lo_keep_53 ml_Lo_97 wn_acopy ws_acopy wi_acopy (by decide) (Nat.le_of_ble_eq_true rfl) rfl rfl rfl (by omega) (by omega) ?_
    refine a_aload_n B d_Lo_keep_56 rfl rfl ?_
    refine gf_Lo_keptCount B d_Lo_keep_57 fl_Lo_67 ?_
    rw [up1_o (by omega), up1_o (by omega), up1_s, upd_s]
    exact Rt _ _ _ _ d_Lo_keep_60 (by have e : sp_keep S (nI t) = (nI (tN (sT S t)), pK S (tN (sT S t)) (plT (sT S t))) := (by rw [sp_keep, hq]); rw [e]; exact ⟨rfl, RelC_keep hS (by rw [up1_o (by omega), up1_o (by omega), up1_s, upd_s]) (by rw [up1_o (by omega), up1_o (by omega), up1_s, upd_o (by decide)]) w10 (fun l hl => by rw [up1_s]; unfold va_cpy plT; (by_cases e9 : l < tN (sT S t); rw [if_pos ⟨Nat.zero_le _, by omega⟩, if_pos e9, up1_o (by omega), up1_o (by omega)]; rw [show 0 + (l - 0) = l by omega]; exact tP.1 l (by omega); rw [if_neg (by omega), if_neg e9, up1_s]; exact if_pos hl)) (fun k q1 q2 => by rw [up1_o q2, up1_o q2, up1_o q1]), fun k hk => by rw [up1_o (by omega), up1_o (by omega), up1_o (by omega)]⟩)
theorem d_Lo_cut_0 : decode prog_1_method_24_code 0 = .ok (.iload_n 2, 1) := by decide +kernel
theorem d_Lo_cut_1 : decode prog_1_method_24_code 1 = .ok (.invokestatic 188, 3) := by decide +kernel
theorem d_Lo_cut_4 : decode prog_1_method_24_code 4 = .ok (.ifCond .ne 5, 3) := by decide +kernel
theorem d_Lo_cut_7 : decode prog_1_method_24_code 7 = .ok (.iconst (-1), 1) := by decide +kernel
theorem d_Lo_cut_8 : decode prog_1_method_24_code 8 = .ok (.ireturn, 1) := by decide +kernel
theorem d_Lo_cut_9 : decode prog_1_method_24_code 9 = .ok (.aload_n 0, 1) := by decide +kernel
theorem d_Lo_cut_10 : decode prog_1_method_24_code 10 = .ok (.iload_n 1, 1) := by decide +kernel
theorem d_Lo_cut_11 : decode prog_1_method_24_code 11 = .ok (.invokevirtual 120, 3) := by decide +kernel
theorem d_Lo_cut_14 : decode prog_1_method_24_code 14 = .ok (.istore_n 3, 1) := by decide +kernel
theorem d_Lo_cut_15 : decode prog_1_method_24_code 15 = .ok (.iload_n 3, 1) := by decide +kernel
theorem d_Lo_cut_16 : decode prog_1_method_24_code 16 = .ok (.ifCond .eq 5, 3) := by decide +kernel
theorem d_Lo_cut_19 : decode prog_1_method_24_code 19 = .ok (.iload_n 3, 1) := by decide +kernel
theorem d_Lo_cut_20 : decode prog_1_method_24_code 20 = .ok (.ireturn, 1) := by decide +kernel
theorem d_Lo_cut_21 : decode prog_1_method_24_code 21 = .ok (.aload_n 0, 1) := by decide +kernel
theorem d_Lo_cut_22 : decode prog_1_method_24_code 22 = .ok (.getfield 51, 3) := by decide +kernel
theorem d_Lo_cut_25 : decode prog_1_method_24_code 25 = .ok (.bipush (-9), 2) := by decide +kernel
theorem d_Lo_cut_27 : decode prog_1_method_24_code 27 = .ok (.invokestatic 55, 3) := by decide +kernel
theorem d_Lo_cut_30 : decode prog_1_method_24_code 30 = .ok (.aload_n 0, 1) := by decide +kernel
theorem d_Lo_cut_31 : decode prog_1_method_24_code 31 = .ok (.getfield 18, 3) := by decide +kernel
theorem d_Lo_cut_34 : decode prog_1_method_24_code 34 = .ok (.iload_n 1, 1) := by decide +kernel
theorem d_Lo_cut_35 : decode prog_1_method_24_code 35 = .ok (.aaload, 1) := by decide +kernel
theorem d_Lo_cut_36 : decode prog_1_method_24_code 36 = .ok (.iload_n 2, 1) := by decide +kernel
theorem d_Lo_cut_37 : decode prog_1_method_24_code 37 = .ok (.invokevirtual 191, 3) := by decide +kernel
theorem d_Lo_cut_40 : decode prog_1_method_24_code 40 = .ok (.aload_n 0, 1) := by decide +kernel
theorem d_Lo_cut_41 : decode prog_1_method_24_code 41 = .ok (.getfield 18, 3) := by decide +kernel
theorem d_Lo_cut_44 : decode prog_1_method_24_code 44 = .ok (.iload_n 1, 1) := by decide +kernel
theorem d_Lo_cut_45 : decode prog_1_method_24_code 45 = .ok (.aaload, 1) := by decide +kernel
theorem d_Lo_cut_46 : decode prog_1_method_24_code 46 = .ok (.aload_n 0, 1) := by decide +kernel
theorem d_Lo_cut_47 : decode prog_1_method_24_code 47 = .ok (.getfield 51, 3) := by decide +kernel
theorem d_Lo_cut_50 : decode prog_1_method_24_code 50 = .ok (.invokevirtual 194, 3) := by decide +kernel
theorem d_Lo_cut_53 : decode prog_1_method_24_code 53 = .ok (.ireturn, 1) := by decide +kernel
set_option maxHeartbeats 4000000 in
set_option maxRecDepth 20000 in
theorem tC_cut {g : GG} (G : Gok g) {σ : AH} {S : Sp} (hS : RelC S σ) (x h : Int32) : TerI g 2 m_Lo_cut [rV 0, iV x, iV h] σ (fun r τ => r = (sp_cut S x h).1 ∧ RelC (sp_cut S x h).2 τ ∧ frC σ τ) := by
  refine TerI.mk G (by decide +kernel) rfl (Nat.le_of_ble_eq_true rfl) (fun K B Rt => ?_)
  have B : Cx g K prog_1_method_24_code 4 R_Lo 2 := B
  have Rt : RetI g K prog_1_method_24_code 4 (fun r τ => r = (sp_cut S x h).1 ∧ RelC (sp_cut S x h).2 τ ∧ frC σ τ) := Rt
  show AW g K 4 0 [(0, rV 0), (1, iV x), (2, iV h)] [] σ
  refine a_iload_n B d_Lo_cut_0 rfl rfl ?_
  refine a_callSI B (t_Lo_isHeight G h) d_Lo_cut_1 ok_Lo_isHeight ml_Lo_188 rfl (by decide) (by decide) rfl (Nat.le_of_ble_eq_true rfl) (fun r_1 τ_1 h_1 => ?_)
  obtain ⟨hr_1, hs_1⟩ := h_1
  subst hr_1
  replace hs_1 := hs_1.symm
  subst hs_1
  first | refine b_if_ne_b B 9 d_Lo_cut_4 rfl (fun c_4 => ?_) (fun c_4 => ?_) | refine a_if_ne B 9 d_Lo_cut_4 rfl (fun c_4 => ?_) (fun c_4 => ?_)
  · skip
    obtain ⟨k, hqk⟩ := isS_t c_4
    obtain ⟨hk, rfl⟩ := rngQ_some (by decide) hqk
    refine a_aload_n B d_Lo_cut_9 rfl rfl ?_
    refine a_iload_n B d_Lo_cut_10 rfl rfl ?_
    refine a_callVI (ci := 6) B (t_Lo_treeRefused G hS x) d_Lo_cut_11 ok_Lo_treeRefused ml_Lo_120 ly_0 rfl rfl (by decide) (by decide) rfl (Nat.le_of_ble_eq_true rfl) (fun r_11 τ_11 h_11 => ?_)
    rcases h_11 with ⟨q, hq, hr9, hR9, hF9⟩ | ⟨t, hq, hr9, hs9⟩
    · skip
      subst hr9
      refine a_istore_n (lv1 := [(0, _), (1, _), (2, _), (3, _)]) B d_Lo_cut_14 rfl (by decide) rfl ?_
      refine a_iload_n B d_Lo_cut_15 rfl rfl ?_
      refine a_if_eq B 21 d_Lo_cut_16 rfl (fun c9 => absurd c9 (neg_nz (trQ_neg hq)).1) (fun _ => ?_)
      refine a_iload_n B d_Lo_cut_19 rfl rfl ?_
      exact Rt _ _ _ _ d_Lo_cut_20 (by have e : sp_cut S x (nI k) = q := (by rw [sp_cut, hqk]; show (match trQ S x with | .inl r => r | .inr t => _) = _; rw [hq]); rw [e]; exact ⟨rfl, hR9, hF9⟩)
    · skip
      subst hr9
      replace hs9 := hs9.symm
      subst hs9
      obtain ⟨ht, rfl, hn⟩ := trQ_ok hq
      obtain ⟨t11, tW, tA, tB, tP⟩ := TrC_in (hS.2.1 t ht) hn
      have w1 := tW.1
      have w10 := tW.2.1
      have h58 : tI t = 58 + 12 * t := rfl
      refine a_istore_n (lv1 := [(0, _), (1, _), (2, _), (3, _)]) B d_Lo_cut_14 rfl (by decide) rfl ?_
      refine a_iload_n B d_Lo_cut_15 rfl rfl ?_
      refine a_if_eq B 21 d_Lo_cut_16 rfl (fun _ => ?_) (fun c9 => absurd nI_0 c9)
      refine a_aload_n B d_Lo_cut_21 rfl rfl ?_
      refine gf_Lo_groups B d_Lo_cut_22 fl_Lo_51 ?_
      refine a_bipush B d_Lo_cut_25 cb_m9 ?_
      refine a_callSV B (t_Ar_fillI G ly_17 (-9)) d_Lo_cut_27 ok_Ar_fill_IIV ml_Lo_55 rfl (by decide) (by decide) rfl (Nat.le_of_ble_eq_true rfl) (fun τ_27 h_27 => ?_)
      subst h_27
      have ye : ∀ k9, k9 ≠ 17 → (up1 σ 17 (fillF (σ.1 17) 10 (-9))).1 k9 = σ.1 k9 := fun k9 h9 => up1_o h9
      have yA : RtA (up1 σ 17 (fillF (σ.1 17) 10 (-9))) t (sT S t) := tA.of rfl rfl rfl rfl rfl (ye _ (by omega)) (ye _ (by omega)) (ye _ (by omega)) (ye _ (by omega)) (ye _ (by omega)) (ye _ (by omega))
      refine a_aload_n B d_Lo_cut_30 rfl rfl ?_
      refine gf_Lo_trees B d_Lo_cut_31 fl_Lo_18 ?_
      refine a_iload_n B d_Lo_cut_34 rfl rfl ?_
      refine al_tr B _ rfl (by first | assumption | omega) d_Lo_cut_35 ?_
      refine a_iload_n B d_Lo_cut_36 rfl rfl ?_
      refine a_callVV (ci := 5) B (t_Tr_cutAt G ht tW yA (h := k) (by omega)) d_Lo_cut_37 ok_Tr_cutAt ml_Lo_191 (ly_T (by first | assumption | omega)) rfl rfl (by decide) (by decide) rfl (Nat.le_of_ble_eq_true rfl) (fun τ_37 h_37 => ?_)
      obtain ⟨f, rfl, hf⟩ := h_37
      have ze : ∀ k9, k9 ≠ 17 → k9 ≠ tI t + 11 → (up1 (up1 σ 17 (fillF (σ.1 17) 10 (-9))) (tI t + 11) f).1 k9 = σ.1 k9 := fun k9 h9 h8 => by rw [up1_o h8, up1_o h9]
      have zA : RtA (up1 (up1 σ 17 (fillF (σ.1 17) 10 (-9))) (tI t + 11) f) t (sT S t) := tA.of rfl rfl rfl rfl rfl (ze _ (by omega) (by omega)) (ze _ (by omega) (by omega)) (ze _ (by omega) (by omega)) (ze _ (by omega) (by omega)) (ze _ (by omega) (by omega)) (ze _ (by omega) (by omega))
      have zP : RtP (up1 (up1 σ 17 (fillF (σ.1 17) 10 (-9))) (tI t + 11) f) t (sT S t) := tP.of (ze _ (by omega) (by omega)) (ze _ (by omega) (by omega))
      refine a_aload_n B d_Lo_cut_40 rfl rfl ?_
      refine gf_Lo_trees B d_Lo_cut_41 fl_Lo_18 ?_
      refine a_iload_n B d_Lo_cut_44 rfl rfl ?_
      refine al_tr B _ rfl (by first | assumption | omega) d_Lo_cut_45 ?_
      refine a_aload_n B d_Lo_cut_46 rfl rfl ?_
      refine gf_Lo_groups B d_Lo_cut_47 fl_Lo_51 ?_
      refine a_callVI (ci := 5) B (t_Tr_numberGroups G ht tW zA zP ly_17 (by decide) (h := k) (fun v hv => by rw [up1_s]; exact hf v hv)) d_Lo_cut_50 ok_Tr_numberGroups ml_Lo_194 (ly_T (by first | assumption | omega)) rfl rfl (by decide) (by decide) rfl (Nat.le_of_ble_eq_true rfl) (fun r_50 τ_50 h_50 => ?_)
      obtain ⟨hr_50, hs_50⟩ := h_50
      subst hr_50
      subst hs_50
      exact Rt _ _ _ _ d_Lo_cut_53 (by have e : sp_cut S (nI t) (nI k) = (nI (grpN (sT S t) k (tN (sT S t))), pG S (grpF (sT S t) k (fun _ => -9) (tN (sT S t)))) := (by rw [sp_cut, hqk]; show (match trQ S (nI t) with | .inl r => r | .inr t => _) = _; rw [hq]); rw [e]; exact ⟨rfl, RelC_grp hS (fun l hl => by rw [up1_s]; exact grpF_cg (by rw [up1_o (by omega), up1_s]; exact if_pos hl) _) (fun k9 q1 q2 => by rw [up1_o q1]; exact ze k9 q1 (q2 t ht)), fun k9 hk9 => by rw [up1_o (by omega)]; exact ze k9 (by omega) (by omega)⟩)
  have hqk := isS_f c_4
  refine a_iconst B d_Lo_cut_7 ci_m1 ?_
  exact Rt _ _ _ _ d_Lo_cut_8 (by have e : sp_cut S x h = RB S := (by rw [sp_cut, hqk]); rw [e]; exact ⟨rfl, hS, (fun _ _ => rfl)⟩)
theorem d_Lo_same_0 : decode prog_1_method_26_code 0 = .ok (.iload_n 3, 1) := by decide +kernel
theorem d_Lo_same_1 : decode prog_1_method_26_code 1 = .ok (.invokestatic 188, 3) := by decide +kernel
theorem d_Lo_same_4 : decode prog_1_method_26_code 4 = .ok (.ifCond .ne 5, 3) := by decide +kernel
theorem d_Lo_same_7 : decode prog_1_method_26_code 7 = .ok (.iconst (-1), 1) := by decide +kernel
theorem d_Lo_same_8 : decode prog_1_method_26_code 8 = .ok (.ireturn, 1) := by decide +kernel
theorem d_Lo_same_9 : decode prog_1_method_26_code 9 = .ok (.aload_n 0, 1) := by decide +kernel
theorem d_Lo_same_10 : decode prog_1_method_26_code 10 = .ok (.iload_n 1, 1) := by decide +kernel
theorem d_Lo_same_11 : decode prog_1_method_26_code 11 = .ok (.iload_n 2, 1) := by decide +kernel
theorem d_Lo_same_12 : decode prog_1_method_26_code 12 = .ok (.invokevirtual 175, 3) := by decide +kernel
theorem d_Lo_same_15 : decode prog_1_method_26_code 15 = .ok (.istore 4, 2) := by decide +kernel
theorem d_Lo_same_17 : decode prog_1_method_26_code 17 = .ok (.iload 4, 2) := by decide +kernel
theorem d_Lo_same_19 : decode prog_1_method_26_code 19 = .ok (.ifCond .eq 6, 3) := by decide +kernel
theorem d_Lo_same_22 : decode prog_1_method_26_code 22 = .ok (.iload 4, 2) := by decide +kernel
theorem d_Lo_same_24 : decode prog_1_method_26_code 24 = .ok (.ireturn, 1) := by decide +kernel
theorem d_Lo_same_25 : decode prog_1_method_26_code 25 = .ok (.aload_n 0, 1) := by decide +kernel
theorem d_Lo_same_26 : decode prog_1_method_26_code 26 = .ok (.getfield 18, 3) := by decide +kernel
theorem d_Lo_same_29 : decode prog_1_method_26_code 29 = .ok (.iload_n 1, 1) := by decide +kernel
theorem d_Lo_same_30 : decode prog_1_method_26_code 30 = .ok (.aaload, 1) := by decide +kernel
theorem d_Lo_same_31 : decode prog_1_method_26_code 31 = .ok (.iload_n 3, 1) := by decide +kernel
theorem d_Lo_same_32 : decode prog_1_method_26_code 32 = .ok (.invokevirtual 191, 3) := by decide +kernel
theorem d_Lo_same_35 : decode prog_1_method_26_code 35 = .ok (.aload_n 0, 1) := by decide +kernel
theorem d_Lo_same_36 : decode prog_1_method_26_code 36 = .ok (.getfield 18, 3) := by decide +kernel
theorem d_Lo_same_39 : decode prog_1_method_26_code 39 = .ok (.iload_n 2, 1) := by decide +kernel
theorem d_Lo_same_40 : decode prog_1_method_26_code 40 = .ok (.aaload, 1) := by decide +kernel
theorem d_Lo_same_41 : decode prog_1_method_26_code 41 = .ok (.iload_n 3, 1) := by decide +kernel
theorem d_Lo_same_42 : decode prog_1_method_26_code 42 = .ok (.invokevirtual 191, 3) := by decide +kernel
theorem d_Lo_same_45 : decode prog_1_method_26_code 45 = .ok (.iconst 0, 1) := by decide +kernel
theorem d_Lo_same_46 : decode prog_1_method_26_code 46 = .ok (.istore 5, 2) := by decide +kernel
theorem d_Lo_same_48 : decode prog_1_method_26_code 48 = .ok (.iconst 0, 1) := by decide +kernel
theorem d_Lo_same_49 : decode prog_1_method_26_code 49 = .ok (.istore 6, 2) := by decide +kernel
theorem d_Lo_same_51 : decode prog_1_method_26_code 51 = .ok (.iload 6, 2) := by decide +kernel
theorem d_Lo_same_53 : decode prog_1_method_26_code 53 = .ok (.aload_n 0, 1) := by decide +kernel
theorem d_Lo_same_54 : decode prog_1_method_26_code 54 = .ok (.getfield 18, 3) := by decide +kernel
theorem d_Lo_same_57 : decode prog_1_method_26_code 57 = .ok (.iload_n 1, 1) := by decide +kernel
theorem d_Lo_same_58 : decode prog_1_method_26_code 58 = .ok (.aaload, 1) := by decide +kernel
theorem d_Lo_same_59 : decode prog_1_method_26_code 59 = .ok (.getfield 157, 3) := by decide +kernel
theorem d_Lo_same_62 : decode prog_1_method_26_code 62 = .ok (.if_icmp .ge 37, 3) := by decide +kernel
theorem d_Lo_same_65 : decode prog_1_method_26_code 65 = .ok (.aload_n 0, 1) := by decide +kernel
theorem d_Lo_same_66 : decode prog_1_method_26_code 66 = .ok (.getfield 18, 3) := by decide +kernel
theorem d_Lo_same_69 : decode prog_1_method_26_code 69 = .ok (.iload_n 1, 1) := by decide +kernel
theorem d_Lo_same_70 : decode prog_1_method_26_code 70 = .ok (.aaload, 1) := by decide +kernel
theorem d_Lo_same_71 : decode prog_1_method_26_code 71 = .ok (.iload 6, 2) := by decide +kernel
theorem d_Lo_same_73 : decode prog_1_method_26_code 73 = .ok (.invokevirtual 197, 3) := by decide +kernel
theorem d_Lo_same_76 : decode prog_1_method_26_code 76 = .ok (.aload_n 0, 1) := by decide +kernel
theorem d_Lo_same_77 : decode prog_1_method_26_code 77 = .ok (.getfield 18, 3) := by decide +kernel
theorem d_Lo_same_80 : decode prog_1_method_26_code 80 = .ok (.iload_n 2, 1) := by decide +kernel
theorem d_Lo_same_81 : decode prog_1_method_26_code 81 = .ok (.aaload, 1) := by decide +kernel
theorem d_Lo_same_82 : decode prog_1_method_26_code 82 = .ok (.iload 6, 2) := by decide +kernel
theorem d_Lo_same_84 : decode prog_1_method_26_code 84 = .ok (.invokevirtual 197, 3) := by decide +kernel
theorem d_Lo_same_87 : decode prog_1_method_26_code 87 = .ok (.if_icmp .ne 6, 3) := by decide +kernel
theorem d_Lo_same_90 : decode prog_1_method_26_code 90 = .ok (.iinc 5 1, 3) := by decide +kernel
theorem d_Lo_same_93 : decode prog_1_method_26_code 93 = .ok (.iinc 6 1, 3) := by decide +kernel
theorem d_Lo_same_96 : decode prog_1_method_26_code 96 = .ok (.goto (-45), 3) := by decide +kernel
theorem d_Lo_same_99 : decode prog_1_method_26_code 99 = .ok (.iload 5, 2) := by decide +kernel
theorem d_Lo_same_101 : decode prog_1_method_26_code 101 = .ok (.ireturn, 1) := by decide +kernel
set_option maxHeartbeats 4000000 in
set_option maxRecDepth 20000 in
theorem tC_same {g : GG} (G : Gok g) {σ : AH} {S : Sp} (hS : RelC S σ) (x y h : Int32) : TerI g 2 m_Lo_same [rV 0, iV x, iV y, iV h] σ (fun r τ => r = (sp_same S x y h).1 ∧ RelC (sp_same S x y h).2 τ ∧ frC σ τ) := by
  refine TerI.mk G (by decide +kernel) rfl (Nat.le_of_ble_eq_true rfl) (fun K B Rt => ?_)
  have B : Cx g K prog_1_method_26_code 7 R_Lo 2 := B
  have Rt : RetI g K prog_1_method_26_code 7 (fun r τ => r = (sp_same S x y h).1 ∧ RelC (sp_same S x y h).2 τ ∧ frC σ τ) := Rt
  show AW g K 7 0 [(0, rV 0), (1, iV x), (2, iV y), (3, iV h)] [] σ
  refine a_iload_n B d_Lo_same_0 rfl rfl ?_
  refine a_callSI B (t_Lo_isHeight G h) d_Lo_same_1 ok_Lo_isHeight ml_Lo_188 rfl (by decide) (by decide) rfl (Nat.le_of_ble_eq_true rfl) (fun r_1 τ_1 h_1 => ?_)
  obtain ⟨hr_1, hs_1⟩ := h_1
  subst hr_1
  replace hs_1 := hs_1.symm
  subst hs_1
  first | refine b_if_ne_b B 9 d_Lo_same_4 rfl (fun c_4 => ?_) (fun c_4 => ?_) | refine a_if_ne B 9 d_Lo_same_4 rfl (fun c_4 => ?_) (fun c_4 => ?_)
  · skip
    obtain ⟨k, hqk⟩ := isS_t c_4
    obtain ⟨hk, rfl⟩ := rngQ_some (by decide) hqk
    refine a_aload_n B d_Lo_same_9 rfl rfl ?_
    refine a_iload_n B d_Lo_same_10 rfl rfl ?_
    refine a_iload_n B d_Lo_same_11 rfl rfl ?_
    refine a_callVI (ci := 6) B (t_Lo_pairRefused G hS x y) d_Lo_same_12 ok_Lo_pairRefused ml_Lo_175 ly_0 rfl rfl (by decide) (by decide) rfl (Nat.le_of_ble_eq_true rfl) (fun r_12 τ_12 h_12 => ?_)
    rcases h_12 with ⟨q, hq, hr9, hR9, hF9⟩ | ⟨q9, hq, hr9, hs9⟩
    · skip
      subst hr9
      refine a_istore (lv1 := [(0, _), (1, _), (2, _), (3, _), (4, _)]) B d_Lo_same_15 (by decide) rfl ?_
      refine a_iload B d_Lo_same_17 rfl ?_
      refine a_if_eq B 25 d_Lo_same_19 rfl (fun c9 => absurd c9 (neg_nz (prQ_neg hq)).1) (fun _ => ?_)
      refine a_iload B d_Lo_same_22 rfl ?_
      exact Rt _ _ _ _ d_Lo_same_24 (by have e : sp_same S x y (nI k) = q := (by rw [sp_same, hqk]; show (match prQ S x y with | .inl r => r | .inr q => _) = _; rw [hq]); rw [e]; exact ⟨rfl, hR9, hF9⟩)
    · skip
      subst hr9
      replace hs9 := hs9.symm
      subst hs9
      obtain ⟨t, u⟩ := q9
      obtain ⟨ht, hx9, hu, hy9, hnt, hnu, he9⟩ := prQ_ok hq
      dsimp only at ht hx9 hu hy9 hnt hnu he9
      subst hx9
      subst hy9
      obtain ⟨t11, tW, tA, tB, tP⟩ := TrC_in (hS.2.1 t ht) hnt
      obtain ⟨u11, uW, uA, uB, uP⟩ := TrC_in (hS.2.1 u hu) hnu
      have w1 := tW.1
      have w10 := tW.2.1
      have h58 : tI t = 58 + 12 * t := rfl
      have h59 : tI u = 58 + 12 * u := rfl
      refine a_istore (lv1 := [(0, _), (1, _), (2, _), (3, _), (4, _)]) B d_Lo_same_15 (by decide) rfl ?_
      refine a_iload B d_Lo_same_17 rfl ?_
      refine a_if_eq B 25 d_Lo_same_19 rfl (fun _ => ?_) (fun c9 => absurd nI_0 c9)
      refine a_aload_n B d_Lo_same_25 rfl rfl ?_
      refine gf_Lo_trees B d_Lo_same_26 fl_Lo_18 ?_
      refine a_iload_n B d_Lo_same_29 rfl rfl ?_
      refine al_tr B _ rfl (by first | assumption | omega) d_Lo_same_30 ?_
      refine a_iload_n B d_Lo_same_31 rfl rfl ?_
      refine a_callVV (ci := 5) B (t_Tr_cutAt G ht tW tA (h := k) (by omega)) d_Lo_same_32 ok_Tr_cutAt ml_Lo_191 (ly_T (by first | assumption | omega)) rfl rfl (by decide) (by decide) rfl (Nat.le_of_ble_eq_true rfl) (fun τ_32 h_32 => ?_)
      obtain ⟨f, rfl, hf⟩ := h_32
      have yU : RtA (up1 σ (tI t + 11) f) u (sT S u) := uA.of rfl rfl rfl rfl rfl (up1_o (by omega)) (up1_o (by omega)) (up1_o (by omega)) (up1_o (by omega)) (up1_o (by omega)) (up1_o (by omega))
      refine a_aload_n B d_Lo_same_35 rfl rfl ?_
      refine gf_Lo_trees B d_Lo_same_36 fl_Lo_18 ?_
      refine a_iload_n B d_Lo_same_39 rfl rfl ?_
      refine al_tr B _ rfl (by first | assumption | omega) d_Lo_same_40 ?_
      refine a_iload_n B d_Lo_same_41 rfl rfl ?_
      refine a_callVV (ci := 5) B (t_Tr_cutAt G hu uW yU (h := k) (by omega)) d_Lo_same_42 ok_Tr_cutAt ml_Lo_191 (ly_T (by first | assumption | omega)) rfl rfl (by decide) (by decide) rfl (Nat.le_of_ble_eq_true rfl) (fun τ_42 h_42 => ?_)
      obtain ⟨f', rfl, hf'⟩ := h_42
      have ze : ∀ k9, k9 ≠ tI t + 11 → k9 ≠ tI u + 11 → (up1 (up1 σ (tI t + 11) f) (tI u + 11) f').1 k9 = σ.1 k9 := fun k9 h9 h8 => by rw [up1_o h8, up1_o h9]
      have zA : RtA (up1 (up1 σ (tI t + 11) f) (tI u + 11) f') t (sT S t) := tA.of rfl rfl rfl rfl rfl (ze _ (by omega) (by omega)) (ze _ (by omega) (by omega)) (ze _ (by omega) (by omega)) (ze _ (by omega) (by omega)) (ze _ (by omega) (by omega)) (ze _ (by omega) (by omega))
      have zU : RtA (up1 (up1 σ (tI t + 11) f) (tI u + 11) f') u (sT S u) := uA.of rfl rfl rfl rfl rfl (ze _ (by omega) (by omega)) (ze _ (by omega) (by omega)) (ze _ (by omega) (by omega)) (ze _ (by omega) (by omega)) (ze _ (by omega) (by omega)) (ze _ (by omega) (by omega))
      have hHt : ∀ v, v < 2 * tN (sT S t) - 1 → (up1 (up1 σ (tI t + 11) f) (tI u + 11) f').1 (tI t + 11) v = oI (topN (sT S t) k v) := fun v hv => by (by_cases etu : t = u; (subst etu; rw [up1_s]; exact hf' v hv); rw [up1_o (by omega), up1_s]; exact hf v hv)
      have hHu : ∀ v, v < 2 * tN (sT S u) - 1 → (up1 (up1 σ (tI t + 11) f) (tI u + 11) f').1 (tI u + 11) v = oI (topN (sT S u) k v) := fun v hv => by rw [up1_s]; exact hf' v hv
      refine a_iconst B d_Lo_same_45 ci_0 ?_
      refine a_istore (lv1 := [(0, _), (1, _), (2, _), (3, _), (4, _), (5, _)]) B d_Lo_same_46 (by decide) rfl ?_
      refine a_iconst B d_Lo_same_48 ci_0 ?_
      refine a_istore (lv1 := [(0, _), (1, _), (2, _), (3, _), (4, _), (5, _), (6, _)]) B d_Lo_same_49 (by decide) rfl ?_
      refine a_for (lf := fun i => [(0, rV 0), (1, iV (nI t)), (2, iV (nI u)), (3, iV (nI k)), (4, iV 0), (5, iV (nI (cntB (fun l => decide (tM (sT S t) (topL (sT S t) k l) = tM (sT S u) (topL (sT S u) k l))) i))), (6, iV (nI i))]) (τ := fun i => (up1 (up1 σ (tI t + 11) f) (tI u + 11) f')) (tN (sT S t)) (fun i hi ihi => ?_) ?_ 0 (Nat.zero_le _)
      · skip
        refine a_iload B d_Lo_same_51 rfl ?_
        refine a_aload_n B d_Lo_same_53 rfl rfl ?_
        refine gf_Lo_trees B d_Lo_same_54 fl_Lo_18 ?_
        refine a_iload_n B d_Lo_same_57 rfl rfl ?_
        refine al_tr B _ rfl (by first | assumption | omega) d_Lo_same_58 ?_
        refine gf_Tr_leafCount B (by first | assumption | omega) d_Lo_same_59 fl_Lo_157 ?_
        rw [zA.1]
        first | refine b_icmp_ge B 99 d_Lo_same_62 rfl (by omega) (by omega) (fun c_62 => ?_) (fun c_62 => ?_) | refine a_icmp_ge B 99 d_Lo_same_62 rfl (fun c_62 => ?_) (fun c_62 => ?_)
        · skip
          exact absurd c_62 (by omega)
        refine a_aload_n B d_Lo_same_65 rfl rfl ?_
        refine gf_Lo_trees B d_Lo_same_66 fl_Lo_18 ?_
        refine a_iload_n B d_Lo_same_69 rfl rfl ?_
        refine al_tr B _ rfl (by first | assumption | omega) d_Lo_same_70 ?_
        refine a_iload B d_Lo_same_71 rfl ?_
        refine a_callVI (ci := 5) B (t_Tr_groupOf G ht tW zA (h := k) (l := i) (by omega) hHt) d_Lo_same_73 ok_Tr_groupOf ml_Lo_197 (ly_T (by first | assumption | omega)) rfl rfl (by decide) (by decide) rfl (Nat.le_of_ble_eq_true rfl) (fun r_73 τ_73 h_73 => ?_)
        obtain ⟨hr_73, hs_73⟩ := h_73
        subst hr_73
        replace hs_73 := hs_73.symm
        subst hs_73
        refine a_aload_n B d_Lo_same_76 rfl rfl ?_
        refine gf_Lo_trees B d_Lo_same_77 fl_Lo_18 ?_
        refine a_iload_n B d_Lo_same_80 rfl rfl ?_
        refine al_tr B _ rfl (by first | assumption | omega) d_Lo_same_81 ?_
        refine a_iload B d_Lo_same_82 rfl ?_
        refine a_callVI (ci := 5) B (t_Tr_groupOf G hu uW zU (h := k) (l := i) (by omega) hHu) d_Lo_same_84 ok_Tr_groupOf ml_Lo_197 (ly_T (by first | assumption | omega)) rfl rfl (by decide) (by decide) rfl (Nat.le_of_ble_eq_true rfl) (fun r_84 τ_84 h_84 => ?_)
        obtain ⟨hr_84, hs_84⟩ := h_84
        subst hr_84
        replace hs_84 := hs_84.symm
        subst hs_84
        have hb1 := tW.2.2.2.2.2.2.2.1 _ (topL_eq tW (h := k) (l := i) (by omega)).2
        have hb2 := uW.2.2.2.2.2.2.2.1 _ (topL_eq uW (h := k) (l := i) (by omega)).2
        first | refine b_icmp_ne B 93 d_Lo_same_87 rfl (by omega) (by omega) (fun c_87 => ?_) (fun c_87 => ?_) | refine a_icmp_ne B 93 d_Lo_same_87 rfl (fun c_87 => ?_) (fun c_87 => ?_)
        · skip
          first | refine b_iinc (lv1 := [(0, _), (1, _), (2, _), (3, _), (4, _), (5, _), (6, _)]) B d_Lo_same_93 rfl ci_1 (by decide) rfl ?_ | refine a_iinc (lv1 := [(0, _), (1, _), (2, _), (3, _), (4, _), (5, _), (6, _)]) B d_Lo_same_93 rfl rfl (by decide) rfl ?_
          refine a_goto B 51 d_Lo_same_96 rfl ?_
          first | (rw [cntB_t (p := fun l => decide (tM (sT S t) (topL (sT S t) k l) = tM (sT S u) (topL (sT S u) k l))) (i := i) (decide_eq_true c_87)] at ihi; exact ihi) | (rw [cntB_f (p := fun l => decide (tM (sT S t) (topL (sT S t) k l) = tM (sT S u) (topL (sT S u) k l))) (i := i) (decide_eq_false c_87)] at ihi; exact ihi)
        first | refine b_iinc (lv1 := [(0, _), (1, _), (2, _), (3, _), (4, _), (5, _), (6, _)]) B d_Lo_same_90 rfl ci_1 (by decide) rfl ?_ | refine a_iinc (lv1 := [(0, _), (1, _), (2, _), (3, _), (4, _), (5, _), (6, _)]) B d_Lo_same_90 rfl rfl (by decide) rfl ?_
        first | refine b_iinc (lv1 := [(0, _), (1, _), (2, _), (3, _), (4, _), (5, _), (6, _)]) B d_Lo_same_93 rfl ci_1 (by decide) rfl ?_ | refine a_iinc (lv1 := [(0, _), (1, _), (2, _), (3, _), (4, _), (5, _), (6, _)]) B d_Lo_same_93 rfl rfl (by decide) rfl ?_
        refine a_goto B 51 d_Lo_same_96 rfl ?_
        first | (rw [cntB_t (p := fun l => decide (tM (sT S t) (topL (sT S t) k l) = tM (sT S u) (topL (sT S u) k l))) (i := i) (decide_eq_true c_87)] at ihi; exact ihi) | (rw [cntB_f (p := fun l => decide (tM (sT S t) (topL (sT S t) k l) = tM (sT S u) (topL (sT S u) k l))) (i := i) (decide_eq_false c_87)] at ihi; exact ihi)
      · skip
        refine a_iload B d_Lo_same_51 rfl ?_
        refine a_aload_n B d_Lo_same_53 rfl rfl ?_
        refine gf_Lo_trees B d_Lo_same_54 fl_Lo_18 ?_
        refine a_iload_n B d_Lo_same_57 rfl rfl ?_
        refine al_tr B _ rfl (by first | assumption | omega) d_Lo_same_58 ?_
        refine gf_Tr_leafCount B (by first | assumption | omega) d_Lo_same_59 fl_Lo_157 ?_
        rw [zA.1]
        first | refine b_icmp_ge B 99 d_Lo_same_62 rfl (by omega) (by omega) (fun c_62 => ?_) (fun c_62 => ?_) | refine a_icmp_ge B 99 d_Lo_same_62 rfl (fun c_62 => ?_) (fun c_62 => ?_)
        · skip
          refine a_iload B d_Lo_same_99 rfl ?_
          exact Rt _ _ _ _ d_Lo_same_101 (by have e : sp_same S (nI t) (nI u) (nI k) = (nI (sameN (sT S t) (sT S u) k), S) := (by rw [sp_same, hqk]; show (match prQ S (nI t) (nI u) with | .inl r => r | .inr q => _) = _; rw [hq]); rw [e]; exact ⟨rfl, RelC_work hS (fun k9 q1 q2 q3 q4 q5 => ze k9 (q1 t ht) (q1 u hu)), fun k9 hk9 => ze k9 (by omega) (by omega)⟩)
        exact absurd c_62 (by omega)
  have hqk := isS_f c_4
  refine a_iconst B d_Lo_same_7 ci_m1 ?_
  exact Rt _ _ _ _ d_Lo_same_8 (by have e : sp_same S x y h = RB S := (by rw [sp_same, hqk]); rw [e]; exact ⟨rfl, hS, (fun _ _ => rfl)⟩)
theorem hasP_ok {x n : Int32} (h : hasP x n = true) (hn : ¬ n < 0) : ∃ a k, x = nI a ∧ n = nI k ∧ a + k ≤ 10 := by
  unfold hasP at h
  simp only [Bool.and_eq_true, decide_eq_true_eq] at h
  obtain ⟨h1, h2, h3⟩ := h
  have q1 : 0 ≤ x.toInt := by have := Int32.le_iff_toInt_le.mp h1; rw [Int32.toInt_zero] at this; exact this
  have q2 : x.toInt ≤ 10 := by have := Int32.le_iff_toInt_le.mp h2; rw [show (10 : Int32).toInt = 10 from by decide] at this; exact this
  have q0 : 0 ≤ n.toInt := by have := Int32.le_iff_toInt_le.mp (Int32.not_lt.mp hn); rw [Int32.toInt_zero] at this; exact this
  have ex : x = nI x.toInt.toNat := Int32.toInt_inj.mp (by rw [nI_toInt (by omega)]; omega)
  have en : n = nI n.toInt.toNat := Int32.toInt_inj.mp (by rw [nI_toInt (by have := n.toInt_lt; omega)]; omega)
  refine ⟨x.toInt.toNat, n.toInt.toNat, ex, en, ?_⟩
  rw [ex, show (10 : Int32) = nI 10 from rfl, nI_sub' (by omega), en] at h3
  have := (nI_le' (by have := n.toInt_lt; omega) (by omega)).mp h3
  omega
theorem d_Lo_copy_0 : decode prog_1_method_6_code 0 = .ok (.iload_n 1, 1) := by decide +kernel
theorem d_Lo_copy_1 : decode prog_1_method_6_code 1 = .ok (.invokestatic 77, 3) := by decide +kernel
theorem d_Lo_copy_4 : decode prog_1_method_6_code 4 = .ok (.ifCond .eq 10, 3) := by decide +kernel
theorem d_Lo_copy_7 : decode prog_1_method_6_code 7 = .ok (.iload_n 3, 1) := by decide +kernel
theorem d_Lo_copy_8 : decode prog_1_method_6_code 8 = .ok (.invokestatic 77, 3) := by decide +kernel
theorem d_Lo_copy_11 : decode prog_1_method_6_code 11 = .ok (.ifCond .ne 5, 3) := by decide +kernel
theorem d_Lo_copy_14 : decode prog_1_method_6_code 14 = .ok (.iconst (-1), 1) := by decide +kernel
theorem d_Lo_copy_15 : decode prog_1_method_6_code 15 = .ok (.ireturn, 1) := by decide +kernel
theorem d_Lo_copy_16 : decode prog_1_method_6_code 16 = .ok (.iload 5, 2) := by decide +kernel
theorem d_Lo_copy_18 : decode prog_1_method_6_code 18 = .ok (.ifCond .ge 12, 3) := by decide +kernel
theorem d_Lo_copy_21 : decode prog_1_method_6_code 21 = .ok (.aload_n 0, 1) := by decide +kernel
theorem d_Lo_copy_22 : decode prog_1_method_6_code 22 = .ok (.getfield 47, 3) := by decide +kernel
theorem d_Lo_copy_25 : decode prog_1_method_6_code 25 = .ok (.iconst 5, 1) := by decide +kernel
theorem d_Lo_copy_26 : decode prog_1_method_6_code 26 = .ok (.invokevirtual 89, 3) := by decide +kernel
theorem d_Lo_copy_29 : decode prog_1_method_6_code 29 = .ok (.ireturn, 1) := by decide +kernel
theorem d_Lo_copy_30 : decode prog_1_method_6_code 30 = .ok (.aload_n 0, 1) := by decide +kernel
theorem d_Lo_copy_31 : decode prog_1_method_6_code 31 = .ok (.getfield 12, 3) := by decide +kernel
theorem d_Lo_copy_34 : decode prog_1_method_6_code 34 = .ok (.getfield 81, 3) := by decide +kernel
theorem d_Lo_copy_37 : decode prog_1_method_6_code 37 = .ok (.iload_n 1, 1) := by decide +kernel
theorem d_Lo_copy_38 : decode prog_1_method_6_code 38 = .ok (.baload, 1) := by decide +kernel
theorem d_Lo_copy_39 : decode prog_1_method_6_code 39 = .ok (.ifCond .eq 15, 3) := by decide +kernel
theorem d_Lo_copy_42 : decode prog_1_method_6_code 42 = .ok (.aload_n 0, 1) := by decide +kernel
theorem d_Lo_copy_43 : decode prog_1_method_6_code 43 = .ok (.getfield 12, 3) := by decide +kernel
theorem d_Lo_copy_46 : decode prog_1_method_6_code 46 = .ok (.getfield 81, 3) := by decide +kernel
theorem d_Lo_copy_49 : decode prog_1_method_6_code 49 = .ok (.iload_n 3, 1) := by decide +kernel
theorem d_Lo_copy_50 : decode prog_1_method_6_code 50 = .ok (.baload, 1) := by decide +kernel
theorem d_Lo_copy_51 : decode prog_1_method_6_code 51 = .ok (.ifCond .ne 12, 3) := by decide +kernel
theorem d_Lo_copy_54 : decode prog_1_method_6_code 54 = .ok (.aload_n 0, 1) := by decide +kernel
theorem d_Lo_copy_55 : decode prog_1_method_6_code 55 = .ok (.getfield 47, 3) := by decide +kernel
theorem d_Lo_copy_58 : decode prog_1_method_6_code 58 = .ok (.iconst 1, 1) := by decide +kernel
theorem d_Lo_copy_59 : decode prog_1_method_6_code 59 = .ok (.invokevirtual 89, 3) := by decide +kernel
theorem d_Lo_copy_62 : decode prog_1_method_6_code 62 = .ok (.ireturn, 1) := by decide +kernel
theorem d_Lo_copy_63 : decode prog_1_method_6_code 63 = .ok (.iload_n 2, 1) := by decide +kernel
theorem d_Lo_copy_64 : decode prog_1_method_6_code 64 = .ok (.iload 5, 2) := by decide +kernel
theorem d_Lo_copy_66 : decode prog_1_method_6_code 66 = .ok (.invokestatic 93, 3) := by decide +kernel
theorem d_Lo_copy_69 : decode prog_1_method_6_code 69 = .ok (.ifCond .eq 13, 3) := by decide +kernel
theorem d_Lo_copy_72 : decode prog_1_method_6_code 72 = .ok (.iload 4, 2) := by decide +kernel
theorem d_Lo_copy_74 : decode prog_1_method_6_code 74 = .ok (.iload 5, 2) := by decide +kernel
theorem d_Lo_copy_76 : decode prog_1_method_6_code 76 = .ok (.invokestatic 93, 3) := by decide +kernel
theorem d_Lo_copy_79 : decode prog_1_method_6_code 79 = .ok (.ifCond .ne 12, 3) := by decide +kernel
theorem d_Lo_copy_82 : decode prog_1_method_6_code 82 = .ok (.aload_n 0, 1) := by decide +kernel
theorem d_Lo_copy_83 : decode prog_1_method_6_code 83 = .ok (.getfield 47, 3) := by decide +kernel
theorem d_Lo_copy_86 : decode prog_1_method_6_code 86 = .ok (.iconst 2, 1) := by decide +kernel
theorem d_Lo_copy_87 : decode prog_1_method_6_code 87 = .ok (.invokevirtual 89, 3) := by decide +kernel
theorem d_Lo_copy_90 : decode prog_1_method_6_code 90 = .ok (.ireturn, 1) := by decide +kernel
theorem d_Lo_copy_91 : decode prog_1_method_6_code 91 = .ok (.aload_n 0, 1) := by decide +kernel
theorem d_Lo_copy_92 : decode prog_1_method_6_code 92 = .ok (.getfield 12, 3) := by decide +kernel
theorem d_Lo_copy_95 : decode prog_1_method_6_code 95 = .ok (.getfield 85, 3) := by decide +kernel
theorem d_Lo_copy_98 : decode prog_1_method_6_code 98 = .ok (.iload_n 1, 1) := by decide +kernel
theorem d_Lo_copy_99 : decode prog_1_method_6_code 99 = .ok (.aaload, 1) := by decide +kernel
theorem d_Lo_copy_100 : decode prog_1_method_6_code 100 = .ok (.iload_n 2, 1) := by decide +kernel
theorem d_Lo_copy_101 : decode prog_1_method_6_code 101 = .ok (.aload_n 0, 1) := by decide +kernel
theorem d_Lo_copy_102 : decode prog_1_method_6_code 102 = .ok (.getfield 12, 3) := by decide +kernel
theorem d_Lo_copy_105 : decode prog_1_method_6_code 105 = .ok (.getfield 85, 3) := by decide +kernel
theorem d_Lo_copy_108 : decode prog_1_method_6_code 108 = .ok (.iload_n 3, 1) := by decide +kernel
theorem d_Lo_copy_109 : decode prog_1_method_6_code 109 = .ok (.aaload, 1) := by decide +kernel
theorem d_Lo_copy_110 : decode prog_1_method_6_code 110 = .ok (.iload 4, 2) := by decide +kernel
theorem d_Lo_copy_112 : decode prog_1_method_6_code 112 = .ok (.iload 5, 2) := by decide +kernel
theorem d_Lo_copy_114 : decode prog_1_method_6_code 114 = .ok (.invokestatic 97, 3) := by decide +kernel
theorem d_Lo_copy_117 : decode prog_1_method_6_code 117 = .ok (.iconst 1, 1) := by decide +kernel
theorem d_Lo_copy_118 : decode prog_1_method_6_code 118 = .ok (.ireturn, 1) := by decide +kernel
set_option maxHeartbeats 4000000 in
set_option maxRecDepth 20000 in
theorem tC_copy {g : GG} (G : Gok g) {σ : AH} {S : Sp} (hS : RelC S σ) (x f y a n : Int32) : TerI g 1 m_Lo_copy [rV 0, iV x, iV f, iV y, iV a, iV n] σ (fun r τ => r = (sp_copy S x f y a n).1 ∧ RelC (sp_copy S x f y a n).2 τ ∧ frC σ τ) := by
  refine TerI.mk G (by decide +kernel) rfl (Nat.le_of_ble_eq_true rfl) (fun K B Rt => ?_)
  have B : Cx g K prog_1_method_6_code 6 R_Lo 1 := B
  have Rt : RetI g K prog_1_method_6_code 6 (fun r τ => r = (sp_copy S x f y a n).1 ∧ RelC (sp_copy S x f y a n).2 τ ∧ frC σ τ) := Rt
  show AW g K 6 0 [(0, rV 0), (1, iV x), (2, iV f), (3, iV y), (4, iV a), (5, iV n)] [] σ
  obtain ⟨hN, hn, hth, hpl, hbd⟩ := id hS.1
  refine a_iload_n B d_Lo_copy_0 rfl rfl ?_
  refine a_callSI B (t_Lo_isRow G x) d_Lo_copy_1 ok_Lo_isRow ml_Lo_77 rfl (by decide) (by decide) rfl (Nat.le_of_ble_eq_true rfl) (fun r_1 τ_1 h_1 => ?_)
  obtain ⟨hr_1, hs_1⟩ := h_1
  subst hr_1
  replace hs_1 := hs_1.symm
  subst hs_1
  first | refine b_if_eq_b B 14 d_Lo_copy_4 rfl (fun c_4 => ?_) (fun c_4 => ?_) | refine a_if_eq B 14 d_Lo_copy_4 rfl (fun c_4 => ?_) (fun c_4 => ?_)
  · skip
    have hqi := isS_f c_4
    refine a_iconst B d_Lo_copy_14 ci_m1 ?_
    exact Rt _ _ _ _ d_Lo_copy_15 (by first | exact (by have e : sp_copy S x f y a n = RB S := (by rw [sp_copy, hqi]); rw [e]; exact ⟨rfl, hS, (fun _ _ => rfl)⟩) | exact (by have e : sp_copy S (nI i) f y a n = RB S := (by rw [sp_copy, hqi, hqo]); rw [e]; exact ⟨rfl, hS, (fun _ _ => rfl)⟩))
  obtain ⟨i, hqi⟩ := isS_t c_4
  obtain ⟨hi, rfl⟩ := rngQ_some (by decide) hqi
  refine a_iload_n B d_Lo_copy_7 rfl rfl ?_
  refine a_callSI B (t_Lo_isRow G y) d_Lo_copy_8 ok_Lo_isRow ml_Lo_77 rfl (by decide) (by decide) rfl (Nat.le_of_ble_eq_true rfl) (fun r_8 τ_8 h_8 => ?_)
  obtain ⟨hr_8, hs_8⟩ := h_8
  subst hr_8
  replace hs_8 := hs_8.symm
  subst hs_8
  first | refine b_if_ne_b B 16 d_Lo_copy_11 rfl (fun c_11 => ?_) (fun c_11 => ?_) | refine a_if_ne B 16 d_Lo_copy_11 rfl (fun c_11 => ?_) (fun c_11 => ?_)
  · skip
    obtain ⟨o, hqo⟩ := isS_t c_11
    obtain ⟨ho, rfl⟩ := rngQ_some (by decide) hqo
    refine a_iload B d_Lo_copy_16 rfl ?_
    refine a_if_ge B 30 d_Lo_copy_18 rfl (fun c_18 => ?_) (fun c_18 => ?_)
    · skip
      have hn0 : ¬ n < 0 := Int32.not_lt.mpr c_18
      refine a_aload_n B d_Lo_copy_30 rfl rfl ?_
      refine gf_Lo_rows B d_Lo_copy_31 fl_Lo_12 ?_
      refine gf_Ro_there B d_Lo_copy_34 fl_Lo_81 ?_
      refine a_iload_n B d_Lo_copy_37 rfl rfl ?_
      refine a_zald B ly_3 _ rfl (by first | assumption | omega) d_Lo_copy_38 ?_
      rw [hth i hi]
      first | refine b_if_eq_b B 54 d_Lo_copy_39 rfl (fun c_39 => ?_) (fun c_39 => ?_) | refine a_if_eq B 54 d_Lo_copy_39 rfl (fun c_39 => ?_) (fun c_39 => ?_)
      · skip
        refine a_aload_n B d_Lo_copy_54 rfl rfl ?_
        refine gf_Lo_found B d_Lo_copy_55 fl_Lo_47 ?_
        refine a_iconst B d_Lo_copy_58 ci_1 ?_
        refine a_callVI (ci := 2) B (t_Fi_answer G 1 (by decide)) d_Lo_copy_59 ok_Fi_answer ml_Lo_89 ly_15 rfl rfl (by decide) (by decide) rfl (Nat.le_of_ble_eq_true rfl) (fun r_59 τ_59 h_59 => ?_)
        obtain ⟨hr_59, hs_59⟩ := h_59
        subst hr_59
        subst hs_59
        exact Rt _ _ _ _ d_Lo_copy_62 (by first | exact (by have e : sp_copy S (nI i) f (nI o) a n = RF S 1 := (by rw [sp_copy, hqi, hqo]; show (if _ then _ else _) = _; rw [if_neg hn0]; exact if_pos (Or.inl c_39)); rw [e]; exact ⟨rfl, RelC_fnd hS (by decide), frC_ans⟩) | exact (by have e : sp_copy S (nI i) f (nI o) a n = RF S 1 := (by rw [sp_copy, hqi, hqo]; show (if _ then _ else _) = _; rw [if_neg hn0]; exact if_pos (Or.inr c_51)); rw [e]; exact ⟨rfl, RelC_fnd hS (by decide), frC_ans⟩))
      refine a_aload_n B d_Lo_copy_42 rfl rfl ?_
      refine gf_Lo_rows B d_Lo_copy_43 fl_Lo_12 ?_
      refine gf_Ro_there B d_Lo_copy_46 fl_Lo_81 ?_
      refine a_iload_n B d_Lo_copy_49 rfl rfl ?_
      refine a_zald B ly_3 _ rfl (by first | assumption | omega) d_Lo_copy_50 ?_
      rw [hth o ho]
      first | refine b_if_ne_b B 63 d_Lo_copy_51 rfl (fun c_51 => ?_) (fun c_51 => ?_) | refine a_if_ne B 63 d_Lo_copy_51 rfl (fun c_51 => ?_) (fun c_51 => ?_)
      · skip
        refine a_iload_n B d_Lo_copy_63 rfl rfl ?_
        refine a_iload B d_Lo_copy_64 rfl ?_
        refine a_callSI B (t_Lo_hasPlaces G f n) d_Lo_copy_66 ok_Lo_hasPlaces ml_Lo_93 rfl (by decide) (by decide) rfl (Nat.le_of_ble_eq_true rfl) (fun r_66 τ_66 h_66 => ?_)
        obtain ⟨hr_66, hs_66⟩ := h_66
        subst hr_66
        replace hs_66 := hs_66.symm
        subst hs_66
        first | refine b_if_eq_b B 82 d_Lo_copy_69 rfl (fun c_69 => ?_) (fun c_69 => ?_) | refine a_if_eq B 82 d_Lo_copy_69 rfl (fun c_69 => ?_) (fun c_69 => ?_)
        · skip
          refine a_aload_n B d_Lo_copy_82 rfl rfl ?_
          refine gf_Lo_found B d_Lo_copy_83 fl_Lo_47 ?_
          refine a_iconst B d_Lo_copy_86 ci_2 ?_
          refine a_callVI (ci := 2) B (t_Fi_answer G 2 (by decide)) d_Lo_copy_87 ok_Fi_answer ml_Lo_89 ly_15 rfl rfl (by decide) (by decide) rfl (Nat.le_of_ble_eq_true rfl) (fun r_87 τ_87 h_87 => ?_)
          obtain ⟨hr_87, hs_87⟩ := h_87
          subst hr_87
          subst hs_87
          exact Rt _ _ _ _ d_Lo_copy_90 (by first | exact (by have e : sp_copy S (nI i) f (nI o) a n = RF S 2 := (by rw [sp_copy, hqi, hqo]; show (if _ then _ else _) = _; rw [if_neg hn0, if_neg (by rw [c_39, c_51]; decide)]; exact if_pos (by rw [c_69]; rfl)); rw [e]; exact ⟨rfl, RelC_fnd hS (by decide), frC_ans⟩) | exact (by have e : sp_copy S (nI i) f (nI o) a n = RF S 2 := (by rw [sp_copy, hqi, hqo]; show (if _ then _ else _) = _; rw [if_neg hn0, if_neg (by rw [c_39, c_51]; decide)]; exact if_pos (by rw [c_69, c_79]; rfl)); rw [e]; exact ⟨rfl, RelC_fnd hS (by decide), frC_ans⟩))
        refine a_iload B d_Lo_copy_72 rfl ?_
        refine a_iload B d_Lo_copy_74 rfl ?_
        refine a_callSI B (t_Lo_hasPlaces G a n) d_Lo_copy_76 ok_Lo_hasPlaces ml_Lo_93 rfl (by decide) (by decide) rfl (Nat.le_of_ble_eq_true rfl) (fun r_76 τ_76 h_76 => ?_)
        obtain ⟨hr_76, hs_76⟩ := h_76
        subst hr_76
        replace hs_76 := hs_76.symm
        subst hs_76
        first | refine b_if_ne_b B 91 d_Lo_copy_79 rfl (fun c_79 => ?_) (fun c_79 => ?_) | refine a_if_ne B 91 d_Lo_copy_79 rfl (fun c_79 => ?_) (fun c_79 => ?_)
        · skip
          obtain ⟨f9, k9, rfl, hk9, hb1⟩ := hasP_ok c_69 hn0
          obtain ⟨a9, k8, rfl, hk8, hb2⟩ := hasP_ok c_79 hn0
          subst hk9
          have hk8 := (nI_inj' (by omega) (by omega)).mp hk8
          subst hk8
          refine a_aload_n B d_Lo_copy_91 rfl rfl ?_
          refine gf_Lo_rows B d_Lo_copy_92 fl_Lo_12 ?_
          refine gf_Ro_places B d_Lo_copy_95 fl_Lo_85 ?_
          refine a_iload_n B d_Lo_copy_98 rfl rfl ?_
          refine al_pl B _ rfl (by first | assumption | omega) d_Lo_copy_99 ?_
          refine a_iload_n B d_Lo_copy_100 rfl rfl ?_
          refine a_aload_n B d_Lo_copy_101 rfl rfl ?_
          refine gf_Lo_rows B d_Lo_copy_102 fl_Lo_12 ?_
          refine gf_Ro_places B d_Lo_copy_105 fl_Lo_85 ?_
          refine a_iload_n B d_Lo_copy_108 rfl rfl ?_
          refine al_pl B _ rfl (by first | assumption | omega) d_Lo_copy_109 ?_
          refine a_iload B d_Lo_copy_110 rfl ?_
          refine a_iload B d_Lo_copy_112 rfl ?_
          refine a_copyi B (ly_pl hi) (ly_pl ho) d_Lo_copy_114 ml_Lo_97 wn_acopy ws_acopy wi_acopy (by decide) (Nat.le_of_ble_eq_true rfl) rfl rfl rfl (by omega) (by omega) ?_
          refine a_iconst B d_Lo_copy_117 ci_1 ?_
          exact Rt _ _ _ _ d_Lo_copy_118 (by have e : sp_copy S (nI i) (nI f9) (nI o) (nI a9) (nI k9) = (1, pR S (sTh S) (va_up (sPl S) o (va_cpy (sPl S i) (sPl S o) f9 a9 k9))) := (by rw [sp_copy, hqi, hqo]; show (if _ then _ else _) = _; rw [if_neg hn0, if_neg (by rw [c_39, c_51]; decide), if_neg (by rw [c_69, c_79]; decide), nI_clamp (by omega), nI_clamp (by omega), nI_clamp (by omega)]); rw [e]; exact ⟨rfl, RelC_rows hS (RoC_place hS.1 ho (fun j hj => by unfold va_cpy; (by_cases e9 : a9 ≤ j ∧ j < a9 + k9; rw [if_pos e9, if_pos e9]; exact hpl i _ hi (by omega); rw [if_neg e9, if_neg e9]; exact hpl o j ho hj)) (fun j => by unfold va_cpy; (by_cases e9 : a9 ≤ j ∧ j < a9 + k9; rw [if_pos e9]; exact hbd i _; rw [if_neg e9]; exact hbd o j))) (fun k q1 q3 q20 => up1_o (by omega)), fun k hk => up1_o (by omega)⟩)
        refine a_aload_n B d_Lo_copy_82 rfl rfl ?_
        refine gf_Lo_found B d_Lo_copy_83 fl_Lo_47 ?_
        refine a_iconst B d_Lo_copy_86 ci_2 ?_
        refine a_callVI (ci := 2) B (t_Fi_answer G 2 (by decide)) d_Lo_copy_87 ok_Fi_answer ml_Lo_89 ly_15 rfl rfl (by decide) (by decide) rfl (Nat.le_of_ble_eq_true rfl) (fun r_87 τ_87 h_87 => ?_)
        obtain ⟨hr_87, hs_87⟩ := h_87
        subst hr_87
        subst hs_87
        exact Rt _ _ _ _ d_Lo_copy_90 (by first | exact (by have e : sp_copy S (nI i) f (nI o) a n = RF S 2 := (by rw [sp_copy, hqi, hqo]; show (if _ then _ else _) = _; rw [if_neg hn0, if_neg (by rw [c_39, c_51]; decide)]; exact if_pos (by rw [c_69]; rfl)); rw [e]; exact ⟨rfl, RelC_fnd hS (by decide), frC_ans⟩) | exact (by have e : sp_copy S (nI i) f (nI o) a n = RF S 2 := (by rw [sp_copy, hqi, hqo]; show (if _ then _ else _) = _; rw [if_neg hn0, if_neg (by rw [c_39, c_51]; decide)]; exact if_pos (by rw [c_69, c_79]; rfl)); rw [e]; exact ⟨rfl, RelC_fnd hS (by decide), frC_ans⟩))
      refine a_aload_n B d_Lo_copy_54 rfl rfl ?_
      refine gf_Lo_found B d_Lo_copy_55 fl_Lo_47 ?_
      refine a_iconst B d_Lo_copy_58 ci_1 ?_
      refine a_callVI (ci := 2) B (t_Fi_answer G 1 (by decide)) d_Lo_copy_59 ok_Fi_answer ml_Lo_89 ly_15 rfl rfl (by decide) (by decide) rfl (Nat.le_of_ble_eq_true rfl) (fun r_59 τ_59 h_59 => ?_)
      obtain ⟨hr_59, hs_59⟩ := h_59
      subst hr_59
      subst hs_59
      exact Rt _ _ _ _ d_Lo_copy_62 (by first | exact (by have e : sp_copy S (nI i) f (nI o) a n = RF S 1 := (by rw [sp_copy, hqi, hqo]; show (if _ then _ else _) = _; rw [if_neg hn0]; exact if_pos (Or.inl c_39)); rw [e]; exact ⟨rfl, RelC_fnd hS (by decide), frC_ans⟩) | exact (by have e : sp_copy S (nI i) f (nI o) a n = RF S 1 := (by rw [sp_copy, hqi, hqo]; show (if _ then _ else _) = _; rw [if_neg hn0]; exact if_pos (Or.inr c_51)); rw [e]; exact ⟨rfl, RelC_fnd hS (by decide), frC_ans⟩))
    refine a_aload_n B d_Lo_copy_21 rfl rfl ?_
    refine gf_Lo_found B d_Lo_copy_22 fl_Lo_47 ?_
    refine a_iconst B d_Lo_copy_25 ci_5 ?_
    refine a_callVI (ci := 2) B (t_Fi_answer G 5 (by decide)) d_Lo_copy_26 ok_Fi_answer ml_Lo_89 ly_15 rfl rfl (by decide) (by decide) rfl (Nat.le_of_ble_eq_true rfl) (fun r_26 τ_26 h_26 => ?_)
    obtain ⟨hr_26, hs_26⟩ := h_26
    subst hr_26
    subst hs_26
    exact Rt _ _ _ _ d_Lo_copy_29 (by have e : sp_copy S (nI i) f (nI o) a n = RF S 5 := (by rw [sp_copy, hqi, hqo]; show (if _ then _ else _) = _; exact if_pos (Int32.not_le.mp c_18)); rw [e]; exact ⟨rfl, RelC_fnd hS (by decide), frC_ans⟩)
  have hqo := isS_f c_11
  refine a_iconst B d_Lo_copy_14 ci_m1 ?_
  exact Rt _ _ _ _ d_Lo_copy_15 (by first | exact (by have e : sp_copy S x f y a n = RB S := (by rw [sp_copy, hqi]); rw [e]; exact ⟨rfl, hS, (fun _ _ => rfl)⟩) | exact (by have e : sp_copy S (nI i) f y a n = RB S := (by rw [sp_copy, hqi, hqo]); rw [e]; exact ⟨rfl, hS, (fun _ _ => rfl)⟩))
