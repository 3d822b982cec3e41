/-! the class: turns by hand, orders, axes -/
theorem arr_TrC {σ : AH} {t : Nat} {T : TT} {f f2 : Nat → Int32} (h11 : σ.1 (tI t) 11 = 1) (hW : Wf T) (hA : RtA σ t T) (hB : RtB σ t T) (hf : ∀ v, v < 2 * tN T - 1 → f v = nI (posT T v)) (hf2 : ∀ l, l < tN T → f2 (posT T l) = nI l) : TrC (up1 (up1 σ (tI t + 9) f) (tI t + 10) f2) t T := by
  have e : ∀ k, k ≠ tI t + 9 → k ≠ tI t + 10 → (up1 (up1 σ (tI t + 9) f) (tI t + 10) f2).1 k = σ.1 k := fun k q1 q2 => by rw [up1_o q2, up1_o q1]
  refine TrC_mk (by rw [e _ (by omega) (by omega)]; exact h11) hW (hA.of rfl rfl rfl rfl rfl (e _ (by omega) (by omega)) (e _ (by omega) (by omega)) (e _ (by omega) (by omega)) (e _ (by omega) (by omega)) (e _ (by omega) (by omega)) (e _ (by omega) (by omega))) (hB.of (e _ (by omega) (by omega)) (e _ (by omega) (by omega)) (e _ (by omega) (by omega))) ⟨fun v hv => ?_, fun l hl => ?_⟩
  · rw [up1_o (by omega), up1_s]; exact hf v hv
  · rw [up1_s]; exact hf2 l hl
theorem d_Lo_turn_0 : decode prog_1_method_13_code 0 = .ok (.aload_n 0, 1) := by decide +kernel
theorem d_Lo_turn_1 : decode prog_1_method_13_code 1 = .ok (.iload_n 1, 1) := by decide +kernel
theorem d_Lo_turn_2 : decode prog_1_method_13_code 2 = .ok (.iload_n 2, 1) := by decide +kernel
theorem d_Lo_turn_3 : decode prog_1_method_13_code 3 = .ok (.invokevirtual 144, 3) := by decide +kernel
theorem d_Lo_turn_6 : decode prog_1_method_13_code 6 = .ok (.istore_n 3, 1) := by decide +kernel
theorem d_Lo_turn_7 : decode prog_1_method_13_code 7 = .ok (.iload_n 3, 1) := by decide +kernel
theorem d_Lo_turn_8 : decode prog_1_method_13_code 8 = .ok (.ifCond .eq 5, 3) := by decide +kernel
theorem d_Lo_turn_11 : decode prog_1_method_13_code 11 = .ok (.iload_n 3, 1) := by decide +kernel
theorem d_Lo_turn_12 : decode prog_1_method_13_code 12 = .ok (.ireturn, 1) := by decide +kernel
theorem d_Lo_turn_13 : decode prog_1_method_13_code 13 = .ok (.aload_n 0, 1) := by decide +kernel
theorem d_Lo_turn_14 : decode prog_1_method_13_code 14 = .ok (.getfield 18, 3) := by decide +kernel
theorem d_Lo_turn_17 : decode prog_1_method_13_code 17 = .ok (.iload_n 1, 1) := by decide +kernel
theorem d_Lo_turn_18 : decode prog_1_method_13_code 18 = .ok (.aaload, 1) := by decide +kernel
theorem d_Lo_turn_19 : decode prog_1_method_13_code 19 = .ok (.astore 4, 2) := by decide +kernel
theorem d_Lo_turn_21 : decode prog_1_method_13_code 21 = .ok (.aload 4, 2) := by decide +kernel
theorem d_Lo_turn_23 : decode prog_1_method_13_code 23 = .ok (.getfield 147, 3) := by decide +kernel
theorem d_Lo_turn_26 : decode prog_1_method_13_code 26 = .ok (.iload_n 2, 1) := by decide +kernel
theorem d_Lo_turn_27 : decode prog_1_method_13_code 27 = .ok (.baload, 1) := by decide +kernel
theorem d_Lo_turn_28 : decode prog_1_method_13_code 28 = .ok (.ifCond .eq 6, 3) := by decide +kernel
theorem d_Lo_turn_31 : decode prog_1_method_13_code 31 = .ok (.bipush (-4), 2) := by decide +kernel
theorem d_Lo_turn_33 : decode prog_1_method_13_code 33 = .ok (.ireturn, 1) := by decide +kernel
theorem d_Lo_turn_34 : decode prog_1_method_13_code 34 = .ok (.aload 4, 2) := by decide +kernel
theorem d_Lo_turn_36 : decode prog_1_method_13_code 36 = .ok (.iload_n 2, 1) := by decide +kernel
theorem d_Lo_turn_37 : decode prog_1_method_13_code 37 = .ok (.invokevirtual 150, 3) := by decide +kernel
theorem d_Lo_turn_40 : decode prog_1_method_13_code 40 = .ok (.aload 4, 2) := by decide +kernel
theorem d_Lo_turn_42 : decode prog_1_method_13_code 42 = .ok (.invokevirtual 154, 3) := by decide +kernel
theorem d_Lo_turn_45 : decode prog_1_method_13_code 45 = .ok (.aload 4, 2) := by decide +kernel
theorem d_Lo_turn_47 : decode prog_1_method_13_code 47 = .ok (.getfield 138, 3) := by decide +kernel
theorem d_Lo_turn_50 : decode prog_1_method_13_code 50 = .ok (.iload_n 2, 1) := by decide +kernel
theorem d_Lo_turn_51 : decode prog_1_method_13_code 51 = .ok (.iaload, 1) := by decide +kernel
theorem d_Lo_turn_52 : decode prog_1_method_13_code 52 = .ok (.ireturn, 1) := by decide +kernel
set_option maxHeartbeats 4000000 in
set_option maxRecDepth 20000 in
theorem tC_turn {g : GG} (G : Gok g) {σ : AH} {S : Sp} (hS : RelC S σ) (x y : Int32) : TerI g 4 m_Lo_turn [rV 0, iV x, iV y] σ (fun r τ => r = (sp_turn S x y).1 ∧ RelC (sp_turn S x y).2 τ ∧ frC σ τ) := by
  refine TerI.mk G (by decide +kernel) rfl (Nat.le_of_ble_eq_true rfl) (fun K B Rt => ?_)
  have B : Cx g K prog_1_method_13_code 5 R_Lo 4 := B
  have Rt : RetI g K prog_1_method_13_code 5 (fun r τ => r = (sp_turn S x y).1 ∧ RelC (sp_turn S x y).2 τ ∧ frC σ τ) := Rt
  show AW g K 5 0 [(0, rV 0), (1, iV x), (2, iV y)] [] σ
  refine a_aload_n B d_Lo_turn_0 rfl rfl ?_
  refine a_iload_n B d_Lo_turn_1 rfl rfl ?_
  refine a_iload_n B d_Lo_turn_2 rfl rfl ?_
  refine a_callVI (ci := 6) B (t_Lo_joinRefused G hS x y) d_Lo_turn_3 ok_Lo_joinRefused ml_Lo_144 ly_0 rfl rfl (by decide) (by decide) rfl (Nat.le_of_ble_eq_true rfl) (fun r_3 τ_3 h_3 => ?_)
  rcases h_3 with ⟨q, hq, hr9, hR9, hF9⟩ | ⟨q9, hq, hr9, hs9⟩
  · skip
    subst hr9
    refine a_istore_n (lv1 := [(0, _), (1, _), (2, _), (3, _)]) B d_Lo_turn_6 rfl (by decide) rfl ?_
    refine a_iload_n B d_Lo_turn_7 rfl rfl ?_
    refine a_if_eq B 13 d_Lo_turn_8 rfl (fun c9 => absurd c9 (neg_nz (jnQ_neg hq)).1) (fun _ => ?_)
    refine a_iload_n B d_Lo_turn_11 rfl rfl ?_
    exact Rt _ _ _ _ d_Lo_turn_12 (by have e : sp_turn S x y = q := (by rw [sp_turn, hq]); rw [e]; exact ⟨rfl, hR9, hF9⟩)
  · skip
    subst hr9
    replace hs9 := hs9.symm
    subst hs9
    obtain ⟨hq0, hj⟩ := jnQ_ok hq
    obtain ⟨t, v⟩ := q9
    obtain ⟨ht, hx9, hn, hv, hy9⟩ := ndQ_ok hq0 (tN_le hS (ndQ_t hq0))
    dsimp only at ht hx9 hn hv hy9 hj
    subst hx9
    subst hy9
    obtain ⟨t11, tW, tA, tB, tP⟩ := TrC_in (hS.2.1 t ht) hn
    have w1 := tW.1
    have w10 := tW.2.1
    have h58 : tI t = 58 + 12 * t := rfl
    refine a_istore_n (lv1 := [(0, _), (1, _), (2, _), (3, _)]) B d_Lo_turn_6 rfl (by decide) rfl ?_
    refine a_iload_n B d_Lo_turn_7 rfl rfl ?_
    refine a_if_eq B 13 d_Lo_turn_8 rfl (fun _ => ?_) (fun c9 => absurd nI_0 c9)
    refine a_aload_n B d_Lo_turn_13 rfl rfl ?_
    refine gf_Lo_trees B d_Lo_turn_14 fl_Lo_18 ?_
    refine a_iload_n B d_Lo_turn_17 rfl rfl ?_
    refine al_tr B _ rfl (by first | assumption | omega) d_Lo_turn_18 ?_
    refine a_astore (lv1 := [(0, _), (1, _), (2, _), (3, _), (4, _)]) B d_Lo_turn_19 (by decide) rfl ?_
    refine a_aload B d_Lo_turn_21 rfl ?_
    refine gf_Tr_held B (by first | assumption | omega) d_Lo_turn_23 fl_Lo_147 ?_
    refine a_iload_n B d_Lo_turn_26 rfl rfl ?_
    refine a_zald B (ly_T_held (by first | assumption | omega)) _ rfl (by first | assumption | omega) d_Lo_turn_27 ?_
    rw [tA.2.2.2.2.2.2.2 v hv]
    first | refine b_if_eq_b B 34 d_Lo_turn_28 rfl (fun c_28 => ?_) (fun c_28 => ?_) | refine a_if_eq B 34 d_Lo_turn_28 rfl (fun c_28 => ?_) (fun c_28 => ?_)
    · skip
      refine a_aload B d_Lo_turn_34 rfl ?_
      refine a_iload_n B d_Lo_turn_36 rfl rfl ?_
      refine a_callVV (ci := 5) B (t_Tr_swap G ht (j := v) (by omega)) d_Lo_turn_37 ok_Tr_swap ml_Lo_150 (ly_T (by first | assumption | omega)) rfl rfl (by decide) (by decide) rfl (Nat.le_of_ble_eq_true rfl) (fun τ_37 h_37 => ?_)
      subst h_37
      have hB' : RtB (swapH σ t v) t (flipsBy (sT S t) (fun w => decide (w = v))) := RtB_swap (f := fun _ => false) (by rw [flipsBy_no (fun _ => rfl)]; exact tB) hj hv rfl (by simp) (fun w hw => by simp [hw])
      have hA' : RtA (swapH σ t v) t (flipsBy (sT S t) (fun w => decide (w = v))) := tA.of rfl rfl rfl rfl rfl (swapH_o (by omega) (by omega) (by omega)) (swapH_o (by omega) (by omega) (by omega)) (swapH_o (by omega) (by omega) (by omega)) (swapH_o (by omega) (by omega) (by omega)) (swapH_o (by omega) (by omega) (by omega)) (swapH_o (by omega) (by omega) (by omega))
      refine a_aload B d_Lo_turn_40 rfl ?_
      refine a_callVV (ci := 5) B (t_Tr_arrange G ht (Wf_flips (f := fun w => decide (w = v)) tW) hA' hB') d_Lo_turn_42 ok_Tr_arrange ml_Lo_154 (ly_T (by first | assumption | omega)) rfl rfl (by decide) (by decide) rfl (Nat.le_of_ble_eq_true rfl) (fun τ_42 h_42 => ?_)
      obtain ⟨f, f2, rfl, hf, hf2⟩ := h_42
      have hTr := arr_TrC (by rw [swapH_o (by omega) (by omega) (by omega)]; exact t11) (Wf_flips (f := fun w => decide (w = v)) tW) hA' hB' hf hf2
      refine a_aload B d_Lo_turn_45 rfl ?_
      refine gf_Tr_turned B (by first | assumption | omega) d_Lo_turn_47 fl_Lo_138 ?_
      refine a_iload_n B d_Lo_turn_50 rfl rfl ?_
      refine a_iald B (ly_T_turned (by first | assumption | omega)) _ rfl (by first | assumption | omega) d_Lo_turn_51 ?_
      rw [up1_o (by omega), up1_o (by omega), hB'.2.2 v hv, show tC (flipsBy (sT S t) (fun w => decide (w = v))) v = tC (sT S t) v + 1 from if_pos (by simp)]
      exact Rt _ _ _ _ d_Lo_turn_52 (by have e : sp_turn S (nI t) (nI v) = (tC (sT S t) v + 1, pT S t (flipsBy (sT S t) (fun w => decide (w = v)))) := (by rw [sp_turn, hq]; exact if_neg (by rw [c_28]; decide)); rw [e]; exact ⟨rfl, RelC_tree hS ht hTr (fun k q1 _ _ _ _ => by rw [up1_o (by omega), up1_o (by omega), swapH_o (by omega) (by omega) (by omega)]), fun k hk => by rw [up1_o (by omega), up1_o (by omega), swapH_o (by omega) (by omega) (by omega)]⟩)
    refine a_bipush B d_Lo_turn_31 cb_m4 ?_
    exact Rt _ _ _ _ d_Lo_turn_33 (by have e : sp_turn S (nI t) (nI v) = RS S := (by rw [sp_turn, hq]; exact if_pos c_28); rw [e]; exact ⟨rfl, hS, (fun _ _ => rfl)⟩)
theorem nar_b (b : Bool) : vp_nar .boolean (bI b) = bI b := by cases b <;> rfl
theorem posT_held {T : TT} {v : Nat} {b : Bool} : ∀ f w, posF (heldBy T v b) f w = posF T f w
  | 0, _ => rfl
  | f + 1, w => by
    show (if w < 2 * tN T - 2 then posF (heldBy T v b) f (tU T w) + _ else 0) = _
    rw [posT_held f]
    rfl
theorem hold_TrC {σ : AH} {t v : Nat} {T : TT} {b : Bool} (h11 : σ.1 (tI t) 11 = 1) (hW : Wf T) (hA : RtA σ t T) (hB : RtB σ t T) (hP : RtP σ t T) : TrC (up1 σ (tI t + 8) (upd (σ.1 (tI t + 8)) v (bI b))) t (heldBy T v b) := by
  have e : ∀ k, k ≠ tI t + 8 → (up1 σ (tI t + 8) (upd (σ.1 (tI t + 8)) v (bI b))).1 k = σ.1 k := fun k q1 => up1_o q1
  have hB' : RtB (up1 σ (tI t + 8) (upd (σ.1 (tI t + 8)) v (bI b))) t T := hB.of (e _ (by omega)) (e _ (by omega)) (e _ (by omega))
  have hP' : RtP (up1 σ (tI t + 8) (upd (σ.1 (tI t + 8)) v (bI b))) t T := hP.of (e _ (by omega)) (e _ (by omega))
  obtain ⟨a12, a13, a3, a3', a4, a5, a6, a8⟩ := hA
  refine TrC_mk (by rw [e _ (by omega)]; exact h11) hW ⟨by rw [e _ (by omega)]; exact a12, by rw [e _ (by omega)]; exact a13, by rw [e _ (by omega)]; exact a3, by rw [e _ (by omega)]; exact a3', by rw [e _ (by omega)]; exact a4, by rw [e _ (by omega)]; exact a5, by rw [e _ (by omega)]; exact a6, fun w hw => ?_⟩ hB' ⟨fun w hw => ?_, fun l hl => ?_⟩
  · rw [up1_s]
    show _ = bI (va_up (tD T) v b w)
    by_cases e9 : w = v
    · rw [e9, upd_s, va_up_s]
    · rw [upd_o e9, va_up_o e9]; exact a8 w hw
  · rw [show posT (heldBy T v b) w = posT T w from posT_held 20 w]; exact hP'.1 w hw
  · rw [show posT (heldBy T v b) l = posT T l from posT_held 20 l]; exact hP'.2 l hl
theorem d_Lo_hold_0 : decode prog_1_method_14_code 0 = .ok (.aload_n 0, 1) := by decide +kernel
theorem d_Lo_hold_1 : decode prog_1_method_14_code 1 = .ok (.iload_n 1, 1) := by decide +kernel
theorem d_Lo_hold_2 : decode prog_1_method_14_code 2 = .ok (.iload_n 2, 1) := by decide +kernel
theorem d_Lo_hold_3 : decode prog_1_method_14_code 3 = .ok (.invokevirtual 144, 3) := by decide +kernel
theorem d_Lo_hold_6 : decode prog_1_method_14_code 6 = .ok (.istore 4, 2) := by decide +kernel
theorem d_Lo_hold_8 : decode prog_1_method_14_code 8 = .ok (.iload 4, 2) := by decide +kernel
theorem d_Lo_hold_10 : decode prog_1_method_14_code 10 = .ok (.ifCond .eq 6, 3) := by decide +kernel
theorem d_Lo_hold_13 : decode prog_1_method_14_code 13 = .ok (.iload 4, 2) := by decide +kernel
theorem d_Lo_hold_15 : decode prog_1_method_14_code 15 = .ok (.ireturn, 1) := by decide +kernel
theorem d_Lo_hold_16 : decode prog_1_method_14_code 16 = .ok (.aload_n 0, 1) := by decide +kernel
theorem d_Lo_hold_17 : decode prog_1_method_14_code 17 = .ok (.getfield 18, 3) := by decide +kernel
theorem d_Lo_hold_20 : decode prog_1_method_14_code 20 = .ok (.iload_n 1, 1) := by decide +kernel
theorem d_Lo_hold_21 : decode prog_1_method_14_code 21 = .ok (.aaload, 1) := by decide +kernel
theorem d_Lo_hold_22 : decode prog_1_method_14_code 22 = .ok (.getfield 147, 3) := by decide +kernel
theorem d_Lo_hold_25 : decode prog_1_method_14_code 25 = .ok (.iload_n 2, 1) := by decide +kernel
theorem d_Lo_hold_26 : decode prog_1_method_14_code 26 = .ok (.baload, 1) := by decide +kernel
theorem d_Lo_hold_27 : decode prog_1_method_14_code 27 = .ok (.ifCond .eq 7, 3) := by decide +kernel
theorem d_Lo_hold_30 : decode prog_1_method_14_code 30 = .ok (.iconst 1, 1) := by decide +kernel
theorem d_Lo_hold_31 : decode prog_1_method_14_code 31 = .ok (.goto 4, 3) := by decide +kernel
theorem d_Lo_hold_34 : decode prog_1_method_14_code 34 = .ok (.iconst 0, 1) := by decide +kernel
theorem d_Lo_hold_35 : decode prog_1_method_14_code 35 = .ok (.istore 5, 2) := by decide +kernel
theorem d_Lo_hold_37 : decode prog_1_method_14_code 37 = .ok (.aload_n 0, 1) := by decide +kernel
theorem d_Lo_hold_38 : decode prog_1_method_14_code 38 = .ok (.getfield 18, 3) := by decide +kernel
theorem d_Lo_hold_41 : decode prog_1_method_14_code 41 = .ok (.iload_n 1, 1) := by decide +kernel
theorem d_Lo_hold_42 : decode prog_1_method_14_code 42 = .ok (.aaload, 1) := by decide +kernel
theorem d_Lo_hold_43 : decode prog_1_method_14_code 43 = .ok (.getfield 147, 3) := by decide +kernel
theorem d_Lo_hold_46 : decode prog_1_method_14_code 46 = .ok (.iload_n 2, 1) := by decide +kernel
theorem d_Lo_hold_47 : decode prog_1_method_14_code 47 = .ok (.iload_n 3, 1) := by decide +kernel
theorem d_Lo_hold_48 : decode prog_1_method_14_code 48 = .ok (.bastore, 1) := by decide +kernel
theorem d_Lo_hold_49 : decode prog_1_method_14_code 49 = .ok (.iload 5, 2) := by decide +kernel
theorem d_Lo_hold_51 : decode prog_1_method_14_code 51 = .ok (.ireturn, 1) := by decide +kernel
set_option maxHeartbeats 4000000 in
set_option maxRecDepth 20000 in
theorem tC_hold {g : GG} (G : Gok g) {σ : AH} {S : Sp} (hS : RelC S σ) (x y : Int32) (b : Bool) : TerI g 4 m_Lo_hold [rV 0, iV x, iV y, iV (bI b)] σ (fun r τ => r = (sp_hold S x y b).1 ∧ RelC (sp_hold S x y b).2 τ ∧ frC σ τ) := by
  refine TerI.mk G (by decide +kernel) rfl (Nat.le_of_ble_eq_true rfl) (fun K B Rt => ?_)
  have B : Cx g K prog_1_method_14_code 6 R_Lo 4 := B
  have Rt : RetI g K prog_1_method_14_code 6 (fun r τ => r = (sp_hold S x y b).1 ∧ RelC (sp_hold S x y b).2 τ ∧ frC σ τ) := Rt
  show AW g K 6 0 [(0, rV 0), (1, iV x), (2, iV y), (3, iV (bI b))] [] σ
  refine a_aload_n B d_Lo_hold_0 rfl rfl ?_
  refine a_iload_n B d_Lo_hold_1 rfl rfl ?_
  refine a_iload_n B d_Lo_hold_2 rfl rfl ?_
  refine a_callVI (ci := 6) B (t_Lo_joinRefused G hS x y) d_Lo_hold_3 ok_Lo_joinRefused ml_Lo_144 ly_0 rfl rfl (by decide) (by decide) rfl (Nat.le_of_ble_eq_true rfl) (fun r_3 τ_3 h_3 => ?_)
  rcases h_3 with ⟨q, hq, hr9, hR9, hF9⟩ | ⟨q9, hq, hr9, hs9⟩
  · skip
    subst hr9
    refine a_istore (lv1 := [(0, _), (1, _), (2, _), (3, _), (4, _)]) B d_Lo_hold_6 (by decide) rfl ?_
    refine a_iload B d_Lo_hold_8 rfl ?_
    refine a_if_eq B 16 d_Lo_hold_10 rfl (fun c9 => absurd c9 (neg_nz (jnQ_neg hq)).1) (fun _ => ?_)
    refine a_iload B d_Lo_hold_13 rfl ?_
    exact Rt _ _ _ _ d_Lo_hold_15 (by have e : sp_hold S x y b = q := (by rw [sp_hold, hq]); rw [e]; exact ⟨rfl, hR9, hF9⟩)
  · skip
    subst hr9
    replace hs9 := hs9.symm
    subst hs9
    obtain ⟨hq0, hj⟩ := jnQ_ok hq
    obtain ⟨t, v⟩ := q9
    obtain ⟨ht, hx9, hn, hv, hy9⟩ := ndQ_ok hq0 (tN_le hS (ndQ_t hq0))
    dsimp only at ht hx9 hn hv hy9 hj
    subst hx9
    subst hy9
    obtain ⟨t11, tW, tA, tB, tP⟩ := TrC_in (hS.2.1 t ht) hn
    have w1 := tW.1
    have w10 := tW.2.1
    have h58 : tI t = 58 + 12 * t := rfl
    refine a_istore (lv1 := [(0, _), (1, _), (2, _), (3, _), (4, _)]) B d_Lo_hold_6 (by decide) rfl ?_
    refine a_iload B d_Lo_hold_8 rfl ?_
    refine a_if_eq B 16 d_Lo_hold_10 rfl (fun _ => ?_) (fun c9 => absurd nI_0 c9)
    refine a_aload_n B d_Lo_hold_16 rfl rfl ?_
    refine gf_Lo_trees B d_Lo_hold_17 fl_Lo_18 ?_
    refine a_iload_n B d_Lo_hold_20 rfl rfl ?_
    refine al_tr B _ rfl (by first | assumption | omega) d_Lo_hold_21 ?_
    refine gf_Tr_held B (by first | assumption | omega) d_Lo_hold_22 fl_Lo_147 ?_
    refine a_iload_n B d_Lo_hold_25 rfl rfl ?_
    refine a_zald B (ly_T_held (by first | assumption | omega)) _ rfl (by first | assumption | omega) d_Lo_hold_26 ?_
    rw [tA.2.2.2.2.2.2.2 v hv]
    first | refine b_if_eq_b B 34 d_Lo_hold_27 rfl (fun c_27 => ?_) (fun c_27 => ?_) | refine a_if_eq B 34 d_Lo_hold_27 rfl (fun c_27 => ?_) (fun c_27 => ?_)
    · skip
      refine a_iconst B d_Lo_hold_34 ci_0 ?_
      refine a_istore (lv1 := [(0, _), (1, _), (2, _), (3, _), (4, _), (5, _)]) B d_Lo_hold_35 (by decide) rfl ?_
      refine a_aload_n B d_Lo_hold_37 rfl rfl ?_
      refine gf_Lo_trees B d_Lo_hold_38 fl_Lo_18 ?_
      refine a_iload_n B d_Lo_hold_41 rfl rfl ?_
      refine al_tr B _ rfl (by first | assumption | omega) d_Lo_hold_42 ?_
      refine gf_Tr_held B (by first | assumption | omega) d_Lo_hold_43 fl_Lo_147 ?_
      refine a_iload_n B d_Lo_hold_46 rfl rfl ?_
      refine a_iload_n B d_Lo_hold_47 rfl rfl ?_
      refine a_zast B (ly_T_held (by first | assumption | omega)) _ rfl (by first | assumption | omega) (nar_b b) d_Lo_hold_48 ?_
      refine a_iload B d_Lo_hold_49 rfl ?_
      exact Rt _ _ _ _ d_Lo_hold_51 (by have e : sp_hold S (nI t) (nI v) b = (bI (tD (sT S t) v), pT S t (heldBy (sT S t) v b)) := (by rw [sp_hold, hq]); rw [e]; exact ⟨by rw [c_27]; rfl, RelC_tree hS ht (hold_TrC t11 tW tA tB tP) (fun k q1 _ _ _ _ => up1_o (by omega)), fun k hk => up1_o (by omega)⟩)
    refine a_iconst B d_Lo_hold_30 ci_1 ?_
    refine a_goto B 35 d_Lo_hold_31 rfl ?_
    refine a_istore (lv1 := [(0, _), (1, _), (2, _), (3, _), (4, _), (5, _)]) B d_Lo_hold_35 (by decide) rfl ?_
    refine a_aload_n B d_Lo_hold_37 rfl rfl ?_
    refine gf_Lo_trees B d_Lo_hold_38 fl_Lo_18 ?_
    refine a_iload_n B d_Lo_hold_41 rfl rfl ?_
    refine al_tr B _ rfl (by first | assumption | omega) d_Lo_hold_42 ?_
    refine gf_Tr_held B (by first | assumption | omega) d_Lo_hold_43 fl_Lo_147 ?_
    refine a_iload_n B d_Lo_hold_46 rfl rfl ?_
    refine a_iload_n B d_Lo_hold_47 rfl rfl ?_
    refine a_zast B (ly_T_held (by first | assumption | omega)) _ rfl (by first | assumption | omega) (nar_b b) d_Lo_hold_48 ?_
    refine a_iload B d_Lo_hold_49 rfl ?_
    exact Rt _ _ _ _ d_Lo_hold_51 (by have e : sp_hold S (nI t) (nI v) b = (bI (tD (sT S t) v), pT S t (heldBy (sT S t) v b)) := (by rw [sp_hold, hq]); rw [e]; exact ⟨by rw [c_27]; rfl, RelC_tree hS ht (hold_TrC t11 tW tA tB tP) (fun k q1 _ _ _ _ => up1_o (by omega)), fun k hk => up1_o (by omega)⟩)
theorem d_Lo_order_0 : decode prog_1_method_15_code 0 = .ok (.aload_n 0, 1) := by decide +kernel
theorem d_Lo_order_1 : decode prog_1_method_15_code 1 = .ok (.iload_n 1, 1) := by decide +kernel
theorem d_Lo_order_2 : decode prog_1_method_15_code 2 = .ok (.invokevirtual 120, 3) := by decide +kernel
theorem d_Lo_order_5 : decode prog_1_method_15_code 5 = .ok (.istore_n 3, 1) := by decide +kernel
theorem d_Lo_order_6 : decode prog_1_method_15_code 6 = .ok (.iload_n 3, 1) := by decide +kernel
theorem d_Lo_order_7 : decode prog_1_method_15_code 7 = .ok (.ifCond .eq 5, 3) := by decide +kernel
theorem d_Lo_order_10 : decode prog_1_method_15_code 10 = .ok (.iload_n 3, 1) := by decide +kernel
theorem d_Lo_order_11 : decode prog_1_method_15_code 11 = .ok (.ireturn, 1) := by decide +kernel
theorem d_Lo_order_12 : decode prog_1_method_15_code 12 = .ok (.aload_n 0, 1) := by decide +kernel
theorem d_Lo_order_13 : decode prog_1_method_15_code 13 = .ok (.getfield 18, 3) := by decide +kernel
theorem d_Lo_order_16 : decode prog_1_method_15_code 16 = .ok (.iload_n 1, 1) := by decide +kernel
theorem d_Lo_order_17 : decode prog_1_method_15_code 17 = .ok (.aaload, 1) := by decide +kernel
theorem d_Lo_order_18 : decode prog_1_method_15_code 18 = .ok (.astore 4, 2) := by decide +kernel
theorem d_Lo_order_20 : decode prog_1_method_15_code 20 = .ok (.iload_n 2, 1) := by decide +kernel
theorem d_Lo_order_21 : decode prog_1_method_15_code 21 = .ok (.ifCond .lt 22, 3) := by decide +kernel
theorem d_Lo_order_24 : decode prog_1_method_15_code 24 = .ok (.iload_n 2, 1) := by decide +kernel
theorem d_Lo_order_25 : decode prog_1_method_15_code 25 = .ok (.aload 4, 2) := by decide +kernel
theorem d_Lo_order_27 : decode prog_1_method_15_code 27 = .ok (.getfield 157, 3) := by decide +kernel
theorem d_Lo_order_30 : decode prog_1_method_15_code 30 = .ok (.if_icmp .ge 13, 3) := by decide +kernel
theorem d_Lo_order_33 : decode prog_1_method_15_code 33 = .ok (.aload 4, 2) := by decide +kernel
theorem d_Lo_order_35 : decode prog_1_method_15_code 35 = .ok (.getfield 158, 3) := by decide +kernel
theorem d_Lo_order_38 : decode prog_1_method_15_code 38 = .ok (.iload_n 2, 1) := by decide +kernel
theorem d_Lo_order_39 : decode prog_1_method_15_code 39 = .ok (.iaload, 1) := by decide +kernel
theorem d_Lo_order_40 : decode prog_1_method_15_code 40 = .ok (.goto 5, 3) := by decide +kernel
theorem d_Lo_order_43 : decode prog_1_method_15_code 43 = .ok (.bipush (-9), 2) := by decide +kernel
theorem d_Lo_order_45 : decode prog_1_method_15_code 45 = .ok (.ireturn, 1) := by decide +kernel
set_option maxHeartbeats 4000000 in
set_option maxRecDepth 20000 in
theorem tC_order {g : GG} (G : Gok g) {σ : AH} {S : Sp} (hS : RelC S σ) (x y : Int32) : TerI g 2 m_Lo_order [rV 0, iV x, iV y] σ (fun r τ => r = (sp_order S x y).1 ∧ RelC (sp_order S x y).2 τ ∧ frC σ τ) := by
  refine TerI.mk G (by decide +kernel) rfl (Nat.le_of_ble_eq_true rfl) (fun K B Rt => ?_)
  have B : Cx g K prog_1_method_15_code 5 R_Lo 2 := B
  have Rt : RetI g K prog_1_method_15_code 5 (fun r τ => r = (sp_order S x y).1 ∧ RelC (sp_order S x y).2 τ ∧ frC σ τ) := Rt
  show AW g K 5 0 [(0, rV 0), (1, iV x), (2, iV y)] [] σ
  refine a_aload_n B d_Lo_order_0 rfl rfl ?_
  refine a_iload_n B d_Lo_order_1 rfl rfl ?_
  refine a_callVI (ci := 6) B (t_Lo_treeRefused G hS x) d_Lo_order_2 ok_Lo_treeRefused ml_Lo_120 ly_0 rfl rfl (by decide) (by decide) rfl (Nat.le_of_ble_eq_true rfl) (fun r_2 τ_2 h_2 => ?_)
  rcases h_2 with ⟨q, hq, hr9, hR9, hF9⟩ | ⟨t, hq, hr9, hs9⟩
  · skip
    subst hr9
    refine a_istore_n (lv1 := [(0, _), (1, _), (2, _), (3, _)]) B d_Lo_order_5 rfl (by decide) rfl ?_
    refine a_iload_n B d_Lo_order_6 rfl rfl ?_
    refine a_if_eq B 12 d_Lo_order_7 rfl (fun c9 => absurd c9 (neg_nz (trQ_neg hq)).1) (fun _ => ?_)
    refine a_iload_n B d_Lo_order_10 rfl rfl ?_
    exact Rt _ _ _ _ d_Lo_order_11 (by have e : sp_order S x y = q := (by rw [sp_order, hq]); rw [e]; exact ⟨rfl, hR9, hF9⟩)
  · skip
    subst hr9
    replace hs9 := hs9.symm
    subst hs9
    obtain ⟨ht, rfl, hn⟩ := trQ_ok hq
    obtain ⟨t11, tW, tA, tB, tP⟩ := TrC_in (hS.2.1 t ht) hn
    have w1 := tW.1
    have w10 := tW.2.1
    have h58 : tI t = 58 + 12 * t := rfl
    refine a_istore_n (lv1 := [(0, _), (1, _), (2, _), (3, _)]) B d_Lo_order_5 rfl (by decide) rfl ?_
    refine a_iload_n B d_Lo_order_6 rfl rfl ?_
    refine a_if_eq B 12 d_Lo_order_7 rfl (fun _ => ?_) (fun c9 => absurd nI_0 c9)
    refine a_aload_n B d_Lo_order_12 rfl rfl ?_
    refine gf_Lo_trees B d_Lo_order_13 fl_Lo_18 ?_
    refine a_iload_n B d_Lo_order_16 rfl rfl ?_
    refine al_tr B _ rfl (by first | assumption | omega) d_Lo_order_17 ?_
    refine a_astore (lv1 := [(0, _), (1, _), (2, _), (3, _), (4, _)]) B d_Lo_order_18 (by decide) rfl ?_
    refine a_iload_n B d_Lo_order_20 rfl rfl ?_
    refine a_if_lt B 43 d_Lo_order_21 rfl (fun c_21 => ?_) (fun c_21 => ?_)
    · skip
      refine a_bipush B d_Lo_order_43 cb_m9 ?_
      exact Rt _ _ _ _ d_Lo_order_45 (by first | exact (by have e : sp_order S (nI t) (nI i) = (nI (ordT (sT S t) i), S) := (by rw [sp_order, hq]; show (match rngQ (tN (sT S t)) (nI i) with | none => (-9 : Int32) | some i => nI (ordT (sT S t) i), S) = _; rw [hqi]); rw [e]; exact ⟨rfl, hS, (fun _ _ => rfl)⟩) | exact (by have e : sp_order S (nI t) y = (-9, S) := (by rw [sp_order, hq]; show (match rngQ (tN (sT S t)) y with | none => (-9 : Int32) | some i => nI (ordT (sT S t) i), S) = _; rw [isS_f (rng_lo c_21)]); rw [e]; exact ⟨rfl, hS, (fun _ _ => rfl)⟩) | exact (by have e : sp_order S (nI t) y = (-9, S) := (by rw [sp_order, hq]; show (match rngQ (tN (sT S t)) y with | none => (-9 : Int32) | some i => nI (ordT (sT S t) i), S) = _; rw [isS_f (rng_hi c_30)]); rw [e]; exact ⟨rfl, hS, (fun _ _ => rfl)⟩))
    refine a_iload_n B d_Lo_order_24 rfl rfl ?_
    refine a_aload B d_Lo_order_25 rfl ?_
    refine gf_Tr_leafCount B (by first | assumption | omega) d_Lo_order_27 fl_Lo_157 ?_
    rw [tA.1]
    first | refine b_icmp_ge B 43 d_Lo_order_30 rfl (by omega) (by omega) (fun c_30 => ?_) (fun c_30 => ?_) | refine a_icmp_ge B 43 d_Lo_order_30 rfl (fun c_30 => ?_) (fun c_30 => ?_)
    · skip
      refine a_bipush B d_Lo_order_43 cb_m9 ?_
      exact Rt _ _ _ _ d_Lo_order_45 (by first | exact (by have e : sp_order S (nI t) (nI i) = (nI (ordT (sT S t) i), S) := (by rw [sp_order, hq]; show (match rngQ (tN (sT S t)) (nI i) with | none => (-9 : Int32) | some i => nI (ordT (sT S t) i), S) = _; rw [hqi]); rw [e]; exact ⟨rfl, hS, (fun _ _ => rfl)⟩) | exact (by have e : sp_order S (nI t) y = (-9, S) := (by rw [sp_order, hq]; show (match rngQ (tN (sT S t)) y with | none => (-9 : Int32) | some i => nI (ordT (sT S t) i), S) = _; rw [isS_f (rng_lo c_21)]); rw [e]; exact ⟨rfl, hS, (fun _ _ => rfl)⟩) | exact (by have e : sp_order S (nI t) y = (-9, S) := (by rw [sp_order, hq]; show (match rngQ (tN (sT S t)) y with | none => (-9 : Int32) | some i => nI (ordT (sT S t) i), S) = _; rw [isS_f (rng_hi c_30)]); rw [e]; exact ⟨rfl, hS, (fun _ _ => rfl)⟩))
    obtain ⟨i, hqi⟩ := isS_t (rng_in (Int32.not_lt.mp c_21) (Int32.not_le.mp c_30))
    obtain ⟨hi, rfl⟩ := rngQ_some (by omega) hqi
    refine a_aload B d_Lo_order_33 rfl ?_
    refine gf_Tr_leafAt B (by first | assumption | omega) d_Lo_order_35 fl_Lo_158 ?_
    refine a_iload_n B d_Lo_order_38 rfl rfl ?_
    refine a_iald B (ly_T_leafAt (by first | assumption | omega)) _ rfl (by first | assumption | omega) d_Lo_order_39 ?_
    rw [ord_at tW tP i hi]
    refine a_goto B 45 d_Lo_order_40 rfl ?_
    exact Rt _ _ _ _ d_Lo_order_45 (by first | exact (by have e : sp_order S (nI t) (nI i) = (nI (ordT (sT S t) i), S) := (by rw [sp_order, hq]; show (match rngQ (tN (sT S t)) (nI i) with | none => (-9 : Int32) | some i => nI (ordT (sT S t) i), S) = _; rw [hqi]); rw [e]; exact ⟨rfl, hS, (fun _ _ => rfl)⟩) | exact (by have e : sp_order S (nI t) y = (-9, S) := (by rw [sp_order, hq]; show (match rngQ (tN (sT S t)) y with | none => (-9 : Int32) | some i => nI (ordT (sT S t) i), S) = _; rw [isS_f (rng_lo c_21)]); rw [e]; exact ⟨rfl, hS, (fun _ _ => rfl)⟩) | exact (by have e : sp_order S (nI t) y = (-9, S) := (by rw [sp_order, hq]; show (match rngQ (tN (sT S t)) y with | none => (-9 : Int32) | some i => nI (ordT (sT S t) i), S) = _; rw [isS_f (rng_hi c_30)]); rw [e]; exact ⟨rfl, hS, (fun _ _ => rfl)⟩))
theorem d_Lo_price_0 : decode prog_1_method_16_code 0 = .ok (.aload_n 0, 1) := by decide +kernel
theorem d_Lo_price_1 : decode prog_1_method_16_code 1 = .ok (.iload_n 1, 1) := by decide +kernel
theorem d_Lo_price_2 : decode prog_1_method_16_code 2 = .ok (.invokevirtual 120, 3) := by decide +kernel
theorem d_Lo_price_5 : decode prog_1_method_16_code 5 = .ok (.istore_n 2, 1) := by decide +kernel
theorem d_Lo_price_6 : decode prog_1_method_16_code 6 = .ok (.iload_n 2, 1) := by decide +kernel
theorem d_Lo_price_7 : decode prog_1_method_16_code 7 = .ok (.ifCond .eq 5, 3) := by decide +kernel
theorem d_Lo_price_10 : decode prog_1_method_16_code 10 = .ok (.iload_n 2, 1) := by decide +kernel
theorem d_Lo_price_11 : decode prog_1_method_16_code 11 = .ok (.ireturn, 1) := by decide +kernel
theorem d_Lo_price_12 : decode prog_1_method_16_code 12 = .ok (.aload_n 0, 1) := by decide +kernel
theorem d_Lo_price_13 : decode prog_1_method_16_code 13 = .ok (.aload_n 0, 1) := by decide +kernel
theorem d_Lo_price_14 : decode prog_1_method_16_code 14 = .ok (.getfield 18, 3) := by decide +kernel
theorem d_Lo_price_17 : decode prog_1_method_16_code 17 = .ok (.iload_n 1, 1) := by decide +kernel
theorem d_Lo_price_18 : decode prog_1_method_16_code 18 = .ok (.aaload, 1) := by decide +kernel
theorem d_Lo_price_19 : decode prog_1_method_16_code 19 = .ok (.aload_n 0, 1) := by decide +kernel
theorem d_Lo_price_20 : decode prog_1_method_16_code 20 = .ok (.getfield 12, 3) := by decide +kernel
theorem d_Lo_price_23 : decode prog_1_method_16_code 23 = .ok (.invokevirtual 161, 3) := by decide +kernel
theorem d_Lo_price_26 : decode prog_1_method_16_code 26 = .ok (.putfield 71, 3) := by decide +kernel
theorem d_Lo_price_29 : decode prog_1_method_16_code 29 = .ok (.iconst 1, 1) := by decide +kernel
theorem d_Lo_price_30 : decode prog_1_method_16_code 30 = .ok (.ireturn, 1) := by decide +kernel
set_option maxHeartbeats 4000000 in
set_option maxRecDepth 20000 in
theorem tC_price {g : GG} (G : Gok g) {σ : AH} {S : Sp} (hS : RelC S σ) (x : Int32) : TerI g 3 m_Lo_price [rV 0, iV x] σ (fun r τ => r = (sp_price S x).1 ∧ RelC (sp_price S x).2 τ ∧ frC σ τ) := by
  refine TerI.mk G (by decide +kernel) rfl (Nat.le_of_ble_eq_true rfl) (fun K B Rt => ?_)
  have B : Cx g K prog_1_method_16_code 3 R_Lo 3 := B
  have Rt : RetI g K prog_1_method_16_code 3 (fun r τ => r = (sp_price S x).1 ∧ RelC (sp_price S x).2 τ ∧ frC σ τ) := Rt
  show AW g K 3 0 [(0, rV 0), (1, iV x)] [] σ
  refine a_aload_n B d_Lo_price_0 rfl rfl ?_
  refine a_iload_n B d_Lo_price_1 rfl rfl ?_
  refine a_callVI (ci := 6) B (t_Lo_treeRefused G hS x) d_Lo_price_2 ok_Lo_treeRefused ml_Lo_120 ly_0 rfl rfl (by decide) (by decide) rfl (Nat.le_of_ble_eq_true rfl) (fun r_2 τ_2 h_2 => ?_)
  rcases h_2 with ⟨q, hq, hr9, hR9, hF9⟩ | ⟨t, hq, hr9, hs9⟩
  · skip
    subst hr9
    refine a_istore_n (lv1 := [(0, _), (1, _), (2, _)]) B d_Lo_price_5 rfl (by decide) rfl ?_
    refine a_iload_n B d_Lo_price_6 rfl rfl ?_
    refine a_if_eq B 12 d_Lo_price_7 rfl (fun c9 => absurd c9 (neg_nz (trQ_neg hq)).1) (fun _ => ?_)
    refine a_iload_n B d_Lo_price_10 rfl rfl ?_
    exact Rt _ _ _ _ d_Lo_price_11 (by have e : sp_price S x = q := (by rw [sp_price, hq]); rw [e]; exact ⟨rfl, hR9, hF9⟩)
  · skip
    subst hr9
    replace hs9 := hs9.symm
    subst hs9
    obtain ⟨ht, rfl, hn⟩ := trQ_ok hq
    obtain ⟨t11, tW, tA, tB, tP⟩ := TrC_in (hS.2.1 t ht) hn
    have w1 := tW.1
    have w10 := tW.2.1
    have h58 : tI t = 58 + 12 * t := rfl
    refine a_istore_n (lv1 := [(0, _), (1, _), (2, _)]) B d_Lo_price_5 rfl (by decide) rfl ?_
    refine a_iload_n B d_Lo_price_6 rfl rfl ?_
    refine a_if_eq B 12 d_Lo_price_7 rfl (fun _ => ?_) (fun c9 => absurd nI_0 c9)
    refine a_aload_n B d_Lo_price_12 rfl rfl ?_
    refine a_aload_n B d_Lo_price_13 rfl rfl ?_
    refine gf_Lo_trees B d_Lo_price_14 fl_Lo_18 ?_
    refine a_iload_n B d_Lo_price_17 rfl rfl ?_
    refine al_tr B _ rfl (by first | assumption | omega) d_Lo_price_18 ?_
    refine a_aload_n B d_Lo_price_19 rfl rfl ?_
    refine gf_Lo_rows B d_Lo_price_20 fl_Lo_12 ?_
    refine a_callVI (ci := 5) B (t_Tr_costOfOrder G ht tW tA tP hS.1) d_Lo_price_23 ok_Tr_costOfOrder ml_Lo_161 (ly_T (by first | assumption | omega)) rfl rfl (by decide) (by decide) rfl (Nat.le_of_ble_eq_true rfl) (fun r_23 τ_23 h_23 => ?_)
    obtain ⟨hr_23, hs_23⟩ := h_23
    subst hr_23
    replace hs_23 := hs_23.symm
    subst hs_23
    refine pf_Lo_latestAsked B d_Lo_price_26 fl_Lo_71 ?_
    refine a_iconst B d_Lo_price_29 ci_1 ?_
    exact Rt _ _ _ _ d_Lo_price_30 (by have e : sp_price S (nI t) = (1, pA S (nI (priceT (uS S) (sT S t)))) := (by rw [sp_price, hq]); rw [e]; exact ⟨rfl, RelC_asked hS, fun k hk => up1_o (by omega)⟩)
theorem d_Lo_group_0 : decode prog_1_method_25_code 0 = .ok (.iload_n 1, 1) := by decide +kernel
theorem d_Lo_group_1 : decode prog_1_method_25_code 1 = .ok (.ifCond .lt 18, 3) := by decide +kernel
theorem d_Lo_group_4 : decode prog_1_method_25_code 4 = .ok (.iload_n 1, 1) := by decide +kernel
theorem d_Lo_group_5 : decode prog_1_method_25_code 5 = .ok (.bipush 10, 2) := by decide +kernel
theorem d_Lo_group_7 : decode prog_1_method_25_code 7 = .ok (.if_icmp .ge 12, 3) := by decide +kernel
theorem d_Lo_group_10 : decode prog_1_method_25_code 10 = .ok (.aload_n 0, 1) := by decide +kernel
theorem d_Lo_group_11 : decode prog_1_method_25_code 11 = .ok (.getfield 51, 3) := by decide +kernel
theorem d_Lo_group_14 : decode prog_1_method_25_code 14 = .ok (.iload_n 1, 1) := by decide +kernel
theorem d_Lo_group_15 : decode prog_1_method_25_code 15 = .ok (.iaload, 1) := by decide +kernel
theorem d_Lo_group_16 : decode prog_1_method_25_code 16 = .ok (.goto 5, 3) := by decide +kernel
theorem d_Lo_group_19 : decode prog_1_method_25_code 19 = .ok (.bipush (-9), 2) := by decide +kernel
theorem d_Lo_group_21 : decode prog_1_method_25_code 21 = .ok (.ireturn, 1) := by decide +kernel
set_option maxHeartbeats 4000000 in
set_option maxRecDepth 20000 in
theorem tC_group {g : GG} (G : Gok g) {σ : AH} {S : Sp} (hS : RelC S σ) (x : Int32) : TerI g 0 m_Lo_group [rV 0, iV x] σ (fun r τ => r = (sp_group S x).1 ∧ RelC (sp_group S x).2 τ ∧ frC σ τ) := by
  refine TerI.mk G (by decide +kernel) rfl (Nat.le_of_ble_eq_true rfl) (fun K B Rt => ?_)
  have B : Cx g K prog_1_method_25_code 2 R_Lo 0 := B
  have Rt : RetI g K prog_1_method_25_code 2 (fun r τ => r = (sp_group S x).1 ∧ RelC (sp_group S x).2 τ ∧ frC σ τ) := Rt
  show AW g K 2 0 [(0, rV 0), (1, iV x)] [] σ
  refine a_iload_n B d_Lo_group_0 rfl rfl ?_
  refine a_if_lt B 19 d_Lo_group_1 rfl (fun c_1 => ?_) (fun c_1 => ?_)
  · skip
    refine a_bipush B d_Lo_group_19 cb_m9 ?_
    exact Rt _ _ _ _ d_Lo_group_21 (by first | exact (by have e : sp_group S (nI i) = (sGr S i, S) := (by rw [sp_group, hqi]); rw [e]; exact ⟨rfl, hS, (fun _ _ => rfl)⟩) | exact (by have e : sp_group S x = (-9, S) := (by rw [sp_group, isS_f (rng_lo c_1)]); rw [e]; exact ⟨rfl, hS, (fun _ _ => rfl)⟩) | exact (by have e : sp_group S x = (-9, S) := (by rw [sp_group, isS_f (rng_hi c_7)]); rw [e]; exact ⟨rfl, hS, (fun _ _ => rfl)⟩))
  refine a_iload_n B d_Lo_group_4 rfl rfl ?_
  refine a_bipush B d_Lo_group_5 cb_10 ?_
  first | refine b_icmp_ge B 19 d_Lo_group_7 rfl (by omega) (by omega) (fun c_7 => ?_) (fun c_7 => ?_) | refine a_icmp_ge B 19 d_Lo_group_7 rfl (fun c_7 => ?_) (fun c_7 => ?_)
  · skip
    refine a_bipush B d_Lo_group_19 cb_m9 ?_
    exact Rt _ _ _ _ d_Lo_group_21 (by first | exact (by have e : sp_group S (nI i) = (sGr S i, S) := (by rw [sp_group, hqi]); rw [e]; exact ⟨rfl, hS, (fun _ _ => rfl)⟩) | exact (by have e : sp_group S x = (-9, S) := (by rw [sp_group, isS_f (rng_lo c_1)]); rw [e]; exact ⟨rfl, hS, (fun _ _ => rfl)⟩) | exact (by have e : sp_group S x = (-9, S) := (by rw [sp_group, isS_f (rng_hi c_7)]); rw [e]; exact ⟨rfl, hS, (fun _ _ => rfl)⟩))
  obtain ⟨i, hqi⟩ := isS_t (rng_in (Int32.not_lt.mp c_1) (Int32.not_le.mp c_7))
  obtain ⟨hi, rfl⟩ := rngQ_some (by omega) hqi
  refine a_aload_n B d_Lo_group_10 rfl rfl ?_
  refine gf_Lo_groups B d_Lo_group_11 fl_Lo_51 ?_
  refine a_iload_n B d_Lo_group_14 rfl rfl ?_
  refine a_iald B ly_17 _ rfl (by first | assumption | omega) d_Lo_group_15 ?_
  rw [hS.2.2.1.2.2.2.2.2.2.1 i hi]
  refine a_goto B 21 d_Lo_group_16 rfl ?_
  exact Rt _ _ _ _ d_Lo_group_21 (by first | exact (by have e : sp_group S (nI i) = (sGr S i, S) := (by rw [sp_group, hqi]); rw [e]; exact ⟨rfl, hS, (fun _ _ => rfl)⟩) | exact (by have e : sp_group S x = (-9, S) := (by rw [sp_group, isS_f (rng_lo c_1)]); rw [e]; exact ⟨rfl, hS, (fun _ _ => rfl)⟩) | exact (by have e : sp_group S x = (-9, S) := (by rw [sp_group, isS_f (rng_hi c_7)]); rw [e]; exact ⟨rfl, hS, (fun _ _ => rfl)⟩))
theorem d_Lo_axis_0 : decode prog_1_method_30_code 0 = .ok (.iload_n 1, 1) := by decide +kernel
theorem d_Lo_axis_1 : decode prog_1_method_30_code 1 = .ok (.ifCond .lt 26, 3) := by decide +kernel
theorem d_Lo_axis_4 : decode prog_1_method_30_code 4 = .ok (.iload_n 1, 1) := by decide +kernel
theorem d_Lo_axis_5 : decode prog_1_method_30_code 5 = .ok (.aload_n 0, 1) := by decide +kernel
theorem d_Lo_axis_6 : decode prog_1_method_30_code 6 = .ok (.getfield 40, 3) := by decide +kernel
theorem d_Lo_axis_9 : decode prog_1_method_30_code 9 = .ok (.getfield 216, 3) := by decide +kernel
theorem d_Lo_axis_12 : decode prog_1_method_30_code 12 = .ok (.if_icmp .ge 15, 3) := by decide +kernel
theorem d_Lo_axis_15 : decode prog_1_method_30_code 15 = .ok (.aload_n 0, 1) := by decide +kernel
theorem d_Lo_axis_16 : decode prog_1_method_30_code 16 = .ok (.getfield 40, 3) := by decide +kernel
theorem d_Lo_axis_19 : decode prog_1_method_30_code 19 = .ok (.getfield 219, 3) := by decide +kernel
theorem d_Lo_axis_22 : decode prog_1_method_30_code 22 = .ok (.iload_n 1, 1) := by decide +kernel
theorem d_Lo_axis_23 : decode prog_1_method_30_code 23 = .ok (.iaload, 1) := by decide +kernel
theorem d_Lo_axis_24 : decode prog_1_method_30_code 24 = .ok (.goto 5, 3) := by decide +kernel
theorem d_Lo_axis_27 : decode prog_1_method_30_code 27 = .ok (.bipush (-9), 2) := by decide +kernel
theorem d_Lo_axis_29 : decode prog_1_method_30_code 29 = .ok (.ireturn, 1) := by decide +kernel
set_option maxHeartbeats 4000000 in
set_option maxRecDepth 20000 in
theorem tC_axis {g : GG} (G : Gok g) {σ : AH} {S : Sp} (hS : RelC S σ) (x : Int32) : TerI g 0 m_Lo_axis [rV 0, iV x] σ (fun r τ => r = (sp_axis S x).1 ∧ RelC (sp_axis S x).2 τ ∧ frC σ τ) := by
  refine TerI.mk G (by decide +kernel) rfl (Nat.le_of_ble_eq_true rfl) (fun K B Rt => ?_)
  have B : Cx g K prog_1_method_30_code 2 R_Lo 0 := B
  have Rt : RetI g K prog_1_method_30_code 2 (fun r τ => r = (sp_axis S x).1 ∧ RelC (sp_axis S x).2 τ ∧ frC σ τ) := Rt
  show AW g K 2 0 [(0, rV 0), (1, iV x)] [] σ
  obtain ⟨m1, m2, m3, m4, m5, m6, m7, m8, m9, m10, m11⟩ := id hS.2.2.1
  refine a_iload_n B d_Lo_axis_0 rfl rfl ?_
  refine a_if_lt B 27 d_Lo_axis_1 rfl (fun c_1 => ?_) (fun c_1 => ?_)
  · skip
    refine a_bipush B d_Lo_axis_27 cb_m9 ?_
    exact Rt _ _ _ _ d_Lo_axis_29 (by first | exact (by have e : sp_axis S (nI i) = (nI (sLd S i), S) := (by rw [sp_axis, hqi]); rw [e]; exact ⟨rfl, hS, (fun _ _ => rfl)⟩) | exact (by have e : sp_axis S x = (-9, S) := (by rw [sp_axis, isS_f (rng_lo c_1)]); rw [e]; exact ⟨rfl, hS, (fun _ _ => rfl)⟩) | exact (by have e : sp_axis S x = (-9, S) := (by rw [sp_axis, isS_f (rng_hi c_12)]); rw [e]; exact ⟨rfl, hS, (fun _ _ => rfl)⟩))
  refine a_iload_n B d_Lo_axis_4 rfl rfl ?_
  refine a_aload_n B d_Lo_axis_5 rfl rfl ?_
  refine gf_Lo_axesLaid B d_Lo_axis_6 fl_Lo_40 ?_
  refine gf_Ax_laidCount B d_Lo_axis_9 fl_Lo_216 ?_
  rw [m8]
  first | refine b_icmp_ge B 27 d_Lo_axis_12 rfl (by omega) (by omega) (fun c_12 => ?_) (fun c_12 => ?_) | refine a_icmp_ge B 27 d_Lo_axis_12 rfl (fun c_12 => ?_) (fun c_12 => ?_)
  · skip
    refine a_bipush B d_Lo_axis_27 cb_m9 ?_
    exact Rt _ _ _ _ d_Lo_axis_29 (by first | exact (by have e : sp_axis S (nI i) = (nI (sLd S i), S) := (by rw [sp_axis, hqi]); rw [e]; exact ⟨rfl, hS, (fun _ _ => rfl)⟩) | exact (by have e : sp_axis S x = (-9, S) := (by rw [sp_axis, isS_f (rng_lo c_1)]); rw [e]; exact ⟨rfl, hS, (fun _ _ => rfl)⟩) | exact (by have e : sp_axis S x = (-9, S) := (by rw [sp_axis, isS_f (rng_hi c_12)]); rw [e]; exact ⟨rfl, hS, (fun _ _ => rfl)⟩))
  obtain ⟨i, hqi⟩ := isS_t (rng_in (Int32.not_lt.mp c_1) (Int32.not_le.mp c_12))
  obtain ⟨hi, rfl⟩ := rngQ_some (by omega) hqi
  refine a_aload_n B d_Lo_axis_15 rfl rfl ?_
  refine gf_Lo_axesLaid B d_Lo_axis_16 fl_Lo_40 ?_
  refine gf_Ax_laid B d_Lo_axis_19 fl_Lo_219 ?_
  refine a_iload_n B d_Lo_axis_22 rfl rfl ?_
  refine a_iald B ly_14 _ rfl (by first | assumption | omega) d_Lo_axis_23 ?_
  rw [m10 i hi]
  refine a_goto B 29 d_Lo_axis_24 rfl ?_
  exact Rt _ _ _ _ d_Lo_axis_29 (by first | exact (by have e : sp_axis S (nI i) = (nI (sLd S i), S) := (by rw [sp_axis, hqi]); rw [e]; exact ⟨rfl, hS, (fun _ _ => rfl)⟩) | exact (by have e : sp_axis S x = (-9, S) := (by rw [sp_axis, isS_f (rng_lo c_1)]); rw [e]; exact ⟨rfl, hS, (fun _ _ => rfl)⟩) | exact (by have e : sp_axis S x = (-9, S) := (by rw [sp_axis, isS_f (rng_hi c_12)]); rw [e]; exact ⟨rfl, hS, (fun _ _ => rfl)⟩))
theorem d_Lo_asked_0 : decode prog_1_method_31_code 0 = .ok (.aload_n 0, 1) := by decide +kernel
theorem d_Lo_asked_1 : decode prog_1_method_31_code 1 = .ok (.getfield 71, 3) := by decide +kernel
theorem d_Lo_asked_4 : decode prog_1_method_31_code 4 = .ok (.ireturn, 1) := by decide +kernel
set_option maxHeartbeats 4000000 in
set_option maxRecDepth 20000 in
theorem tC_asked {g : GG} (G : Gok g) {σ : AH} {S : Sp} (hS : RelC S σ) : TerI g 0 m_Lo_asked [rV 0] σ (fun r τ => r = sAs S ∧ τ = σ) := by
  refine TerI.mk G (by decide +kernel) rfl (Nat.le_of_ble_eq_true rfl) (fun K B Rt => ?_)
  have B : Cx g K prog_1_method_31_code 1 R_Lo 0 := B
  have Rt : RetI g K prog_1_method_31_code 1 (fun r τ => r = sAs S ∧ τ = σ) := Rt
  show AW g K 1 0 [(0, rV 0)] [] σ
  refine a_aload_n B d_Lo_asked_0 rfl rfl ?_
  refine gf_Lo_latestAsked B d_Lo_asked_1 fl_Lo_71 ?_
  rw [hS.2.2.1.1]
  exact Rt _ _ _ _ d_Lo_asked_4 ⟨rfl, rfl⟩
theorem d_Lo_finding_0 : decode prog_1_method_33_code 0 = .ok (.aload_n 0, 1) := by decide +kernel
theorem d_Lo_finding_1 : decode prog_1_method_33_code 1 = .ok (.getfield 47, 3) := by decide +kernel
theorem d_Lo_finding_4 : decode prog_1_method_33_code 4 = .ok (.getfield 231, 3) := by decide +kernel
theorem d_Lo_finding_7 : decode prog_1_method_33_code 7 = .ok (.ireturn, 1) := by decide +kernel
set_option maxHeartbeats 4000000 in
set_option maxRecDepth 20000 in
theorem tC_finding {g : GG} (G : Gok g) {σ : AH} {S : Sp} (hS : RelC S σ) : TerI g 0 m_Lo_finding [rV 0] σ (fun r τ => r = nI (sFi S) ∧ τ = σ) := by
  refine TerI.mk G (by decide +kernel) rfl (Nat.le_of_ble_eq_true rfl) (fun K B Rt => ?_)
  have B : Cx g K prog_1_method_33_code 1 R_Lo 0 := B
  have Rt : RetI g K prog_1_method_33_code 1 (fun r τ => r = nI (sFi S) ∧ τ = σ) := Rt
  show AW g K 1 0 [(0, rV 0)] [] σ
  refine a_aload_n B d_Lo_finding_0 rfl rfl ?_
  refine gf_Lo_found B d_Lo_finding_1 fl_Lo_47 ?_
  refine gf_Fi_latest B d_Lo_finding_4 fl_Lo_231 ?_
  rw [hS.2.2.1.2.1]
  exact Rt _ _ _ _ d_Lo_finding_7 ⟨rfl, rfl⟩
theorem tnc_5 {v : Int32} (h1 : ¬ v < nI 1) (h2 : ¬ nI 5 < v) : ∃ k, 1 ≤ k ∧ k ≤ 5 ∧ v = nI k ∧ v.toNatClampNeg = k := by
  have q1 : 1 ≤ v.toInt := by have := Int32.le_iff_toInt_le.mp (Int32.not_lt.mp h1); rw [nI_toInt (by decide)] at this; exact this
  have q2 : v.toInt ≤ 5 := by have := Int32.le_iff_toInt_le.mp (Int32.not_lt.mp h2); rw [nI_toInt (by decide)] at this; exact this
  have e : v.toNatClampNeg = v.toInt.toNat := rfl
  refine ⟨v.toInt.toNat, by omega, by omega, Int32.toInt_inj.mp ?_, e⟩
  rw [nI_toInt (by omega)]
  omega
theorem d_Lo_findings_0 : decode prog_1_method_34_code 0 = .ok (.iload_n 1, 1) := by decide +kernel
theorem d_Lo_findings_1 : decode prog_1_method_34_code 1 = .ok (.iconst 1, 1) := by decide +kernel
theorem d_Lo_findings_2 : decode prog_1_method_34_code 2 = .ok (.if_icmp .lt 20, 3) := by decide +kernel
theorem d_Lo_findings_5 : decode prog_1_method_34_code 5 = .ok (.iload_n 1, 1) := by decide +kernel
theorem d_Lo_findings_6 : decode prog_1_method_34_code 6 = .ok (.iconst 5, 1) := by decide +kernel
theorem d_Lo_findings_7 : decode prog_1_method_34_code 7 = .ok (.if_icmp .gt 15, 3) := by decide +kernel
theorem d_Lo_findings_10 : decode prog_1_method_34_code 10 = .ok (.aload_n 0, 1) := by decide +kernel
theorem d_Lo_findings_11 : decode prog_1_method_34_code 11 = .ok (.getfield 47, 3) := by decide +kernel
theorem d_Lo_findings_14 : decode prog_1_method_34_code 14 = .ok (.getfield 234, 3) := by decide +kernel
theorem d_Lo_findings_17 : decode prog_1_method_34_code 17 = .ok (.iload_n 1, 1) := by decide +kernel
theorem d_Lo_findings_18 : decode prog_1_method_34_code 18 = .ok (.iaload, 1) := by decide +kernel
theorem d_Lo_findings_19 : decode prog_1_method_34_code 19 = .ok (.goto 4, 3) := by decide +kernel
theorem d_Lo_findings_22 : decode prog_1_method_34_code 22 = .ok (.iconst (-1), 1) := by decide +kernel
theorem d_Lo_findings_23 : decode prog_1_method_34_code 23 = .ok (.ireturn, 1) := by decide +kernel
set_option maxHeartbeats 4000000 in
set_option maxRecDepth 20000 in
theorem tC_findings {g : GG} (G : Gok g) {σ : AH} {S : Sp} (hS : RelC S σ) (x : Int32) : TerI g 0 m_Lo_findings [rV 0, iV x] σ (fun r τ => r = (sp_findings S x).1 ∧ RelC (sp_findings S x).2 τ ∧ frC σ τ) := by
  refine TerI.mk G (by decide +kernel) rfl (Nat.le_of_ble_eq_true rfl) (fun K B Rt => ?_)
  have B : Cx g K prog_1_method_34_code 2 R_Lo 0 := B
  have Rt : RetI g K prog_1_method_34_code 2 (fun r τ => r = (sp_findings S x).1 ∧ RelC (sp_findings S x).2 τ ∧ frC σ τ) := Rt
  show AW g K 2 0 [(0, rV 0), (1, iV x)] [] σ
  refine a_iload_n B d_Lo_findings_0 rfl rfl ?_
  refine a_iconst B d_Lo_findings_1 ci_1 ?_
  first | refine b_icmp_lt B 22 d_Lo_findings_2 rfl (by omega) (by omega) (fun c_2 => ?_) (fun c_2 => ?_) | refine a_icmp_lt B 22 d_Lo_findings_2 rfl (fun c_2 => ?_) (fun c_2 => ?_)
  · skip
    refine a_iconst B d_Lo_findings_22 ci_m1 ?_
    exact Rt _ _ _ _ d_Lo_findings_23 (by first | exact (by have e : sp_findings S (nI k) = (sFs S k, S) := (by rw [sp_findings, if_pos ⟨Int32.not_lt.mp c_2, Int32.not_lt.mp c_7⟩, hxk]); rw [e]; exact ⟨rfl, hS, (fun _ _ => rfl)⟩) | exact (by have e : sp_findings S x = (-1, S) := (by rw [sp_findings, if_neg (fun q => absurd q.1 (Int32.not_le.mpr c_2))]); rw [e]; exact ⟨rfl, hS, (fun _ _ => rfl)⟩) | exact (by have e : sp_findings S x = (-1, S) := (by rw [sp_findings, if_neg (fun q => absurd q.2 (Int32.not_le.mpr c_7))]); rw [e]; exact ⟨rfl, hS, (fun _ _ => rfl)⟩))
  refine a_iload_n B d_Lo_findings_5 rfl rfl ?_
  refine a_iconst B d_Lo_findings_6 ci_5 ?_
  first | refine b_icmp_gt B 22 d_Lo_findings_7 rfl (by omega) (by omega) (fun c_7 => ?_) (fun c_7 => ?_) | refine a_icmp_gt B 22 d_Lo_findings_7 rfl (fun c_7 => ?_) (fun c_7 => ?_)
  · skip
    refine a_iconst B d_Lo_findings_22 ci_m1 ?_
    exact Rt _ _ _ _ d_Lo_findings_23 (by first | exact (by have e : sp_findings S (nI k) = (sFs S k, S) := (by rw [sp_findings, if_pos ⟨Int32.not_lt.mp c_2, Int32.not_lt.mp c_7⟩, hxk]); rw [e]; exact ⟨rfl, hS, (fun _ _ => rfl)⟩) | exact (by have e : sp_findings S x = (-1, S) := (by rw [sp_findings, if_neg (fun q => absurd q.1 (Int32.not_le.mpr c_2))]); rw [e]; exact ⟨rfl, hS, (fun _ _ => rfl)⟩) | exact (by have e : sp_findings S x = (-1, S) := (by rw [sp_findings, if_neg (fun q => absurd q.2 (Int32.not_le.mpr c_7))]); rw [e]; exact ⟨rfl, hS, (fun _ _ => rfl)⟩))
  obtain ⟨k, hk1, hk5, hxe, hxk⟩ := tnc_5 c_2 c_7
  subst hxe
  refine a_aload_n B d_Lo_findings_10 rfl rfl ?_
  refine gf_Lo_found B d_Lo_findings_11 fl_Lo_47 ?_
  refine gf_Fi_counts B d_Lo_findings_14 fl_Lo_234 ?_
  refine a_iload_n B d_Lo_findings_17 rfl rfl ?_
  refine a_iald B ly_16 _ rfl (by first | assumption | omega) d_Lo_findings_18 ?_
  rw [hS.2.2.1.2.2.1 k (by omega)]
  refine a_goto B 23 d_Lo_findings_19 rfl ?_
  exact Rt _ _ _ _ d_Lo_findings_23 (by first | exact (by have e : sp_findings S (nI k) = (sFs S k, S) := (by rw [sp_findings, if_pos ⟨Int32.not_lt.mp c_2, Int32.not_lt.mp c_7⟩, hxk]); rw [e]; exact ⟨rfl, hS, (fun _ _ => rfl)⟩) | exact (by have e : sp_findings S x = (-1, S) := (by rw [sp_findings, if_neg (fun q => absurd q.1 (Int32.not_le.mpr c_2))]); rw [e]; exact ⟨rfl, hS, (fun _ _ => rfl)⟩) | exact (by have e : sp_findings S x = (-1, S) := (by rw [sp_findings, if_neg (fun q => absurd q.2 (Int32.not_le.mpr c_7))]); rw [e]; exact ⟨rfl, hS, (fun _ _ => rfl)⟩))
theorem RelC_axes {S : Sp} {σ τ : AH} {m : Nat} {W : Nat → Nat → Int} (h : RelC S σ) (hA : AxC τ m W) (e : ∀ k, k ≠ 11 → (k < 50 ∨ 58 ≤ k) → τ.1 k = σ.1 k) (e4 : τ.1 11 4 = σ.1 11 4) : RelC (pX S m W) τ := by
  obtain ⟨h1, h2, h3, h4⟩ := h
  refine ⟨h1.of (e _ (by decide) (by decide)) (e _ (by decide) (by decide)) (fun i hi => e _ (by omega) (by omega)), fun t ht => TrC_of (h2 t ht) (fun k q1 q2 => e k (by have : 58 ≤ tI t := Nat.le_add_right _ _; omega) (by have : 58 ≤ tI t := Nat.le_add_right _ _; omega)), ?_, hA⟩
  show MiC τ S
  unfold MiC at h3 ⊢
  rw [e 0 (by decide) (by decide), e 14 (by decide) (by decide), e 15 (by decide) (by decide), e 16 (by decide) (by decide), e 17 (by decide) (by decide), e 18 (by decide) (by decide), e4]
  exact h3
theorem rng_le {n : Nat} {x : Int32} (hn : n < 100000) (h1 : ¬ x < 0) (h2 : x ≤ nI n) : ∃ k, rngQ (n + 1) x = some k := isS_t (rng_in (Int32.not_lt.mp h1) (by rw [Int32.lt_iff_toInt_lt, nI_toInt (by omega)]; have := Int32.le_iff_toInt_le.mp h2; rw [nI_toInt (by omega)] at this; omega))
theorem rng_nle {n : Nat} {x : Int32} (hn : n < 100000) (h : ¬ x ≤ nI n) : rngQ (n + 1) x = none := isS_f (rng_hi (by rw [Int32.le_iff_toInt_le, nI_toInt (by omega)]; have := mt Int32.le_iff_toInt_le.mpr h; rw [nI_toInt (by omega)] at this; omega))
theorem d_Lo_axes_0 : decode prog_1_method_27_code 0 = .ok (.iload_n 1, 1) := by decide +kernel
theorem d_Lo_axes_1 : decode prog_1_method_27_code 1 = .ok (.ifCond .lt 9, 3) := by decide +kernel
theorem d_Lo_axes_4 : decode prog_1_method_27_code 4 = .ok (.iload_n 1, 1) := by decide +kernel
theorem d_Lo_axes_5 : decode prog_1_method_27_code 5 = .ok (.bipush 8, 2) := by decide +kernel
theorem d_Lo_axes_7 : decode prog_1_method_27_code 7 = .ok (.if_icmp .le 5, 3) := by decide +kernel
theorem d_Lo_axes_10 : decode prog_1_method_27_code 10 = .ok (.iconst (-1), 1) := by decide +kernel
theorem d_Lo_axes_11 : decode prog_1_method_27_code 11 = .ok (.ireturn, 1) := by decide +kernel
theorem d_Lo_axes_12 : decode prog_1_method_27_code 12 = .ok (.aload_n 0, 1) := by decide +kernel
theorem d_Lo_axes_13 : decode prog_1_method_27_code 13 = .ok (.getfield 40, 3) := by decide +kernel
theorem d_Lo_axes_16 : decode prog_1_method_27_code 16 = .ok (.iload_n 1, 1) := by decide +kernel
theorem d_Lo_axes_17 : decode prog_1_method_27_code 17 = .ok (.invokevirtual 200, 3) := by decide +kernel
theorem d_Lo_axes_20 : decode prog_1_method_27_code 20 = .ok (.iload_n 1, 1) := by decide +kernel
theorem d_Lo_axes_21 : decode prog_1_method_27_code 21 = .ok (.ireturn, 1) := by decide +kernel
set_option maxHeartbeats 4000000 in
set_option maxRecDepth 20000 in
theorem tC_axes {g : GG} (G : Gok g) {σ : AH} {S : Sp} (hS : RelC S σ) (x : Int32) : TerI g 2 m_Lo_axes [rV 0, iV x] σ (fun r τ => r = (sp_axes S x).1 ∧ RelC (sp_axes S x).2 τ ∧ frC σ τ) := by
  refine TerI.mk G (by decide +kernel) rfl (Nat.le_of_ble_eq_true rfl) (fun K B Rt => ?_)
  have B : Cx g K prog_1_method_27_code 2 R_Lo 2 := B
  have Rt : RetI g K prog_1_method_27_code 2 (fun r τ => r = (sp_axes S x).1 ∧ RelC (sp_axes S x).2 τ ∧ frC σ τ) := Rt
  show AW g K 2 0 [(0, rV 0), (1, iV x)] [] σ
  refine a_iload_n B d_Lo_axes_0 rfl rfl ?_
  refine a_if_lt B 10 d_Lo_axes_1 rfl (fun c_1 => ?_) (fun c_1 => ?_)
  · skip
    refine a_iconst B d_Lo_axes_10 ci_m1 ?_
    exact Rt _ _ _ _ d_Lo_axes_11 (by first | exact (by have e : sp_axes S x = RB S := (by rw [sp_axes, isS_f (rng_lo c_1)]); rw [e]; exact ⟨rfl, hS, (fun _ _ => rfl)⟩) | exact (by have e : sp_axes S x = RB S := (by rw [sp_axes, rng_nle (by decide) c_7]); rw [e]; exact ⟨rfl, hS, (fun _ _ => rfl)⟩))
  refine a_iload_n B d_Lo_axes_4 rfl rfl ?_
  refine a_bipush B d_Lo_axes_5 cb_8 ?_
  first | refine b_icmp_le B 12 d_Lo_axes_7 rfl (by omega) (by omega) (fun c_7 => ?_) (fun c_7 => ?_) | refine a_icmp_le B 12 d_Lo_axes_7 rfl (fun c_7 => ?_) (fun c_7 => ?_)
  · skip
    obtain ⟨k, hqk⟩ := rng_le (by decide) c_1 c_7
    obtain ⟨hk, rfl⟩ := rngQ_some (by decide) hqk
    refine a_aload_n B d_Lo_axes_12 rfl rfl ?_
    refine gf_Lo_axesLaid B d_Lo_axes_13 fl_Lo_40 ?_
    refine a_iload_n B d_Lo_axes_16 rfl rfl ?_
    refine a_callVV (ci := 0) B (t_Ax_begin G (m := k) (by omega)) d_Lo_axes_17 ok_Ax_begin ml_Lo_200 ly_11 rfl rfl (by decide) (by decide) rfl (Nat.le_of_ble_eq_true rfl) (fun τ_17 h_17 => ?_)
    obtain ⟨z1, z2, z3, z4⟩ := h_17
    refine a_iload_n B d_Lo_axes_20 rfl rfl ?_
    exact Rt _ _ _ _ d_Lo_axes_21 (by have e : sp_axes S (nI k) = (nI k, pX S k (fun _ _ => 0)) := (by rw [sp_axes, hqk]); rw [e]; exact ⟨rfl, RelC_axes hS ⟨by rw [z2, upd_s], by omega, fun a b ha hb => z3 a ha b hb, fun a b => ⟨by show (-1000 : Int) ≤ 0; decide, by show (0 : Int) ≤ 1000; decide⟩⟩ z4 (by rw [z2, upd_o (by decide)]), fun k9 hk9 => z4 k9 (by omega) (by omega)⟩)
  refine a_iconst B d_Lo_axes_10 ci_m1 ?_
  exact Rt _ _ _ _ d_Lo_axes_11 (by first | exact (by have e : sp_axes S x = RB S := (by rw [sp_axes, isS_f (rng_lo c_1)]); rw [e]; exact ⟨rfl, hS, (fun _ _ => rfl)⟩) | exact (by have e : sp_axes S x = RB S := (by rw [sp_axes, rng_nle (by decide) c_7]); rw [e]; exact ⟨rfl, hS, (fun _ _ => rfl)⟩))
theorem tnc_w {v : Int32} (h1 : ¬ v < -1000) (h2 : v ≤ nI 1000) : -1000 ≤ v.toInt ∧ v.toInt ≤ 1000 ∧ v = zI v.toInt := by
  have q1 : -1000 ≤ v.toInt := by have := Int32.le_iff_toInt_le.mp (Int32.not_lt.mp h1); rw [show (-1000 : Int32).toInt = -1000 from by decide] at this; exact this
  have q2 : v.toInt ≤ 1000 := by have := Int32.le_iff_toInt_le.mp h2; rw [nI_toInt (by decide)] at this; exact this
  exact ⟨q1, q2, Int32.toInt_inj.mp (by rw [zI_toInt (by omega) (by omega)])⟩
theorem AxC_worth {σ : AH} {m a b : Nat} {v : Int} {W : Nat → Nat → Int} (h : AxC σ m W) (ha : a < 8) (hb : b < 8) (hv1 : -1000 ≤ v) (hv2 : v ≤ 1000) (τ : AH) (e11 : τ.1 11 = σ.1 11) (e : ∀ x, x < 8 → τ.1 (50 + x) = if x = b then upd ((if x = a then upd (σ.1 (50 + x)) b (zI v) else σ.1 (50 + x))) a (zI v) else if x = a then upd (σ.1 (50 + x)) b (zI v) else σ.1 (50 + x)) : AxC τ m (setW W a b v) := by
  obtain ⟨h1, h2, h3, h4⟩ := h
  refine ⟨by rw [e11]; exact h1, h2, fun x y hx hy => ?_, fun x y => ?_⟩
  · rw [e x hx]
    unfold setW
    by_cases e1 : x = b
    · rw [if_pos e1]
      by_cases e2 : y = a
      · rw [e2, upd_s, if_pos (Or.inr ⟨e1, rfl⟩)]
      · rw [upd_o e2]
        by_cases e3 : x = a
        · rw [if_pos e3]
          by_cases e4 : y = b
          · rw [e4, upd_s, if_pos (Or.inl ⟨e3, rfl⟩)]
          · rw [upd_o e4, if_neg (fun q => q.elim (fun q => e4 q.2) (fun q => e2 q.2))]; exact h3 x y hx hy
        · rw [if_neg e3, if_neg (fun q => q.elim (fun q => e3 q.1) (fun q => e2 q.2))]; exact h3 x y hx hy
    · rw [if_neg e1]
      by_cases e3 : x = a
      · rw [if_pos e3]
        by_cases e4 : y = b
        · rw [e4, upd_s, if_pos (Or.inl ⟨e3, rfl⟩)]
        · rw [upd_o e4, if_neg (fun q => q.elim (fun q => e4 q.2) (fun q => e1 q.1))]; exact h3 x y hx hy
      · rw [if_neg e3, if_neg (fun q => q.elim (fun q => e3 q.1) (fun q => e1 q.1))]; exact h3 x y hx hy
  · unfold setW
    by_cases q : (x = a ∧ y = b) ∨ (x = b ∧ y = a)
    · rw [if_pos q]; exact ⟨hv1, hv2⟩
    · rw [if_neg q]; exact h4 x y
theorem d_Lo_worth_0 : decode prog_1_method_28_code 0 = .ok (.aload_n 0, 1) := by decide +kernel
theorem d_Lo_worth_1 : decode prog_1_method_28_code 1 = .ok (.iload_n 1, 1) := by decide +kernel
theorem d_Lo_worth_2 : decode prog_1_method_28_code 2 = .ok (.invokevirtual 203, 3) := by decide +kernel
theorem d_Lo_worth_5 : decode prog_1_method_28_code 5 = .ok (.ifCond .eq 30, 3) := by decide +kernel
theorem d_Lo_worth_8 : decode prog_1_method_28_code 8 = .ok (.aload_n 0, 1) := by decide +kernel
theorem d_Lo_worth_9 : decode prog_1_method_28_code 9 = .ok (.iload_n 2, 1) := by decide +kernel
theorem d_Lo_worth_10 : decode prog_1_method_28_code 10 = .ok (.invokevirtual 203, 3) := by decide +kernel
theorem d_Lo_worth_13 : decode prog_1_method_28_code 13 = .ok (.ifCond .eq 22, 3) := by decide +kernel
theorem d_Lo_worth_16 : decode prog_1_method_28_code 16 = .ok (.iload_n 1, 1) := by decide +kernel
theorem d_Lo_worth_17 : decode prog_1_method_28_code 17 = .ok (.iload_n 2, 1) := by decide +kernel
theorem d_Lo_worth_18 : decode prog_1_method_28_code 18 = .ok (.if_icmp .eq 17, 3) := by decide +kernel
theorem d_Lo_worth_21 : decode prog_1_method_28_code 21 = .ok (.iload_n 3, 1) := by decide +kernel
theorem d_Lo_worth_22 : decode prog_1_method_28_code 22 = .ok (.sipush (-1000), 3) := by decide +kernel
theorem d_Lo_worth_25 : decode prog_1_method_28_code 25 = .ok (.if_icmp .lt 10, 3) := by decide +kernel
theorem d_Lo_worth_28 : decode prog_1_method_28_code 28 = .ok (.iload_n 3, 1) := by decide +kernel
theorem d_Lo_worth_29 : decode prog_1_method_28_code 29 = .ok (.sipush 1000, 3) := by decide +kernel
theorem d_Lo_worth_32 : decode prog_1_method_28_code 32 = .ok (.if_icmp .le 5, 3) := by decide +kernel
theorem d_Lo_worth_35 : decode prog_1_method_28_code 35 = .ok (.iconst (-1), 1) := by decide +kernel
theorem d_Lo_worth_36 : decode prog_1_method_28_code 36 = .ok (.ireturn, 1) := by decide +kernel
theorem d_Lo_worth_37 : decode prog_1_method_28_code 37 = .ok (.aload_n 0, 1) := by decide +kernel
theorem d_Lo_worth_38 : decode prog_1_method_28_code 38 = .ok (.aload_n 0, 1) := by decide +kernel
theorem d_Lo_worth_39 : decode prog_1_method_28_code 39 = .ok (.getfield 40, 3) := by decide +kernel
theorem d_Lo_worth_42 : decode prog_1_method_28_code 42 = .ok (.getfield 206, 3) := by decide +kernel
theorem d_Lo_worth_45 : decode prog_1_method_28_code 45 = .ok (.iload_n 1, 1) := by decide +kernel
theorem d_Lo_worth_46 : decode prog_1_method_28_code 46 = .ok (.aaload, 1) := by decide +kernel
theorem d_Lo_worth_47 : decode prog_1_method_28_code 47 = .ok (.iload_n 2, 1) := by decide +kernel
theorem d_Lo_worth_48 : decode prog_1_method_28_code 48 = .ok (.iaload, 1) := by decide +kernel
theorem d_Lo_worth_49 : decode prog_1_method_28_code 49 = .ok (.putfield 71, 3) := by decide +kernel
theorem d_Lo_worth_52 : decode prog_1_method_28_code 52 = .ok (.aload_n 0, 1) := by decide +kernel
theorem d_Lo_worth_53 : decode prog_1_method_28_code 53 = .ok (.getfield 40, 3) := by decide +kernel
theorem d_Lo_worth_56 : decode prog_1_method_28_code 56 = .ok (.getfield 206, 3) := by decide +kernel
theorem d_Lo_worth_59 : decode prog_1_method_28_code 59 = .ok (.iload_n 1, 1) := by decide +kernel
theorem d_Lo_worth_60 : decode prog_1_method_28_code 60 = .ok (.aaload, 1) := by decide +kernel
theorem d_Lo_worth_61 : decode prog_1_method_28_code 61 = .ok (.iload_n 2, 1) := by decide +kernel
theorem d_Lo_worth_62 : decode prog_1_method_28_code 62 = .ok (.iload_n 3, 1) := by decide +kernel
theorem d_Lo_worth_63 : decode prog_1_method_28_code 63 = .ok (.iastore, 1) := by decide +kernel
theorem d_Lo_worth_64 : decode prog_1_method_28_code 64 = .ok (.aload_n 0, 1) := by decide +kernel
theorem d_Lo_worth_65 : decode prog_1_method_28_code 65 = .ok (.getfield 40, 3) := by decide +kernel
theorem d_Lo_worth_68 : decode prog_1_method_28_code 68 = .ok (.getfield 206, 3) := by decide +kernel
theorem d_Lo_worth_71 : decode prog_1_method_28_code 71 = .ok (.iload_n 2, 1) := by decide +kernel
theorem d_Lo_worth_72 : decode prog_1_method_28_code 72 = .ok (.aaload, 1) := by decide +kernel
theorem d_Lo_worth_73 : decode prog_1_method_28_code 73 = .ok (.iload_n 1, 1) := by decide +kernel
theorem d_Lo_worth_74 : decode prog_1_method_28_code 74 = .ok (.iload_n 3, 1) := by decide +kernel
theorem d_Lo_worth_75 : decode prog_1_method_28_code 75 = .ok (.iastore, 1) := by decide +kernel
theorem d_Lo_worth_76 : decode prog_1_method_28_code 76 = .ok (.iconst 1, 1) := by decide +kernel
theorem d_Lo_worth_77 : decode prog_1_method_28_code 77 = .ok (.ireturn, 1) := by decide +kernel
set_option maxHeartbeats 4000000 in
set_option maxRecDepth 20000 in
theorem tC_worth {g : GG} (G : Gok g) {σ : AH} {S : Sp} (hS : RelC S σ) (x y v : Int32) : TerI g 2 m_Lo_worth [rV 0, iV x, iV y, iV v] σ (fun r τ => r = (sp_worth S x y v).1 ∧ RelC (sp_worth S x y v).2 τ ∧ frC σ τ) := by
  refine TerI.mk G (by decide +kernel) rfl (Nat.le_of_ble_eq_true rfl) (fun K B Rt => ?_)
  have B : Cx g K prog_1_method_28_code 4 R_Lo 2 := B
  have Rt : RetI g K prog_1_method_28_code 4 (fun r τ => r = (sp_worth S x y v).1 ∧ RelC (sp_worth S x y v).2 τ ∧ frC σ τ) := Rt
  show AW g K 4 0 [(0, rV 0), (1, iV x), (2, iV y), (3, iV v)] [] σ
  have hm8 := hS.2.2.2.2.1
  refine a_aload_n B d_Lo_worth_0 rfl rfl ?_
  refine a_iload_n B d_Lo_worth_1 rfl rfl ?_
  refine a_callVI (ci := 6) B (t_Lo_isAxis G hS x) d_Lo_worth_2 ok_Lo_isAxis ml_Lo_203 ly_0 rfl rfl (by decide) (by decide) rfl (Nat.le_of_ble_eq_true rfl) (fun r_2 τ_2 h_2 => ?_)
  obtain ⟨hr_2, hs_2⟩ := h_2
  subst hr_2
  replace hs_2 := hs_2.symm
  subst hs_2
  first | refine b_if_eq_b B 35 d_Lo_worth_5 rfl (fun c_5 => ?_) (fun c_5 => ?_) | refine a_if_eq B 35 d_Lo_worth_5 rfl (fun c_5 => ?_) (fun c_5 => ?_)
  · skip
    have hqa := isS_f c_5
    refine a_iconst B d_Lo_worth_35 ci_m1 ?_
    exact Rt _ _ _ _ d_Lo_worth_36 (by first | exact (by have e : sp_worth S x y v = RB S := (by rw [sp_worth, hqa]); rw [e]; exact ⟨rfl, hS, (fun _ _ => rfl)⟩) | exact (by have e : sp_worth S (nI a) y v = RB S := (by rw [sp_worth, hqa, hqb]); rw [e]; exact ⟨rfl, hS, (fun _ _ => rfl)⟩) | exact (by have e : sp_worth S (nI a) (nI b) v = RB S := (by rw [sp_worth, hqa, hqb]; show (if _ then _ else _) = _; exact if_pos (Or.inl c_18)); rw [e]; exact ⟨rfl, hS, (fun _ _ => rfl)⟩) | exact (by have e : sp_worth S (nI a) (nI b) v = RB S := (by rw [sp_worth, hqa, hqb]; show (if _ then _ else _) = _; exact if_pos (Or.inr (Or.inl c_25))); rw [e]; exact ⟨rfl, hS, (fun _ _ => rfl)⟩) | exact (by have e : sp_worth S (nI a) (nI b) v = RB S := (by rw [sp_worth, hqa, hqb]; show (if _ then _ else _) = _; exact if_pos (Or.inr (Or.inr (Int32.not_le.mp c_32)))); rw [e]; exact ⟨rfl, hS, (fun _ _ => rfl)⟩))
  obtain ⟨a, hqa⟩ := isS_t c_5
  obtain ⟨ha, rfl⟩ := rngQ_some (by omega) hqa
  refine a_aload_n B d_Lo_worth_8 rfl rfl ?_
  refine a_iload_n B d_Lo_worth_9 rfl rfl ?_
  refine a_callVI (ci := 6) B (t_Lo_isAxis G hS y) d_Lo_worth_10 ok_Lo_isAxis ml_Lo_203 ly_0 rfl rfl (by decide) (by decide) rfl (Nat.le_of_ble_eq_true rfl) (fun r_10 τ_10 h_10 => ?_)
  obtain ⟨hr_10, hs_10⟩ := h_10
  subst hr_10
  replace hs_10 := hs_10.symm
  subst hs_10
  first | refine b_if_eq_b B 35 d_Lo_worth_13 rfl (fun c_13 => ?_) (fun c_13 => ?_) | refine a_if_eq B 35 d_Lo_worth_13 rfl (fun c_13 => ?_) (fun c_13 => ?_)
  · skip
    have hqb := isS_f c_13
    refine a_iconst B d_Lo_worth_35 ci_m1 ?_
    exact Rt _ _ _ _ d_Lo_worth_36 (by first | exact (by have e : sp_worth S x y v = RB S := (by rw [sp_worth, hqa]); rw [e]; exact ⟨rfl, hS, (fun _ _ => rfl)⟩) | exact (by have e : sp_worth S (nI a) y v = RB S := (by rw [sp_worth, hqa, hqb]); rw [e]; exact ⟨rfl, hS, (fun _ _ => rfl)⟩) | exact (by have e : sp_worth S (nI a) (nI b) v = RB S := (by rw [sp_worth, hqa, hqb]; show (if _ then _ else _) = _; exact if_pos (Or.inl c_18)); rw [e]; exact ⟨rfl, hS, (fun _ _ => rfl)⟩) | exact (by have e : sp_worth S (nI a) (nI b) v = RB S := (by rw [sp_worth, hqa, hqb]; show (if _ then _ else _) = _; exact if_pos (Or.inr (Or.inl c_25))); rw [e]; exact ⟨rfl, hS, (fun _ _ => rfl)⟩) | exact (by have e : sp_worth S (nI a) (nI b) v = RB S := (by rw [sp_worth, hqa, hqb]; show (if _ then _ else _) = _; exact if_pos (Or.inr (Or.inr (Int32.not_le.mp c_32)))); rw [e]; exact ⟨rfl, hS, (fun _ _ => rfl)⟩))
  obtain ⟨b, hqb⟩ := isS_t c_13
  obtain ⟨hb, rfl⟩ := rngQ_some (by omega) hqb
  refine a_iload_n B d_Lo_worth_16 rfl rfl ?_
  refine a_iload_n B d_Lo_worth_17 rfl rfl ?_
  first | refine b_icmp_eq B 35 d_Lo_worth_18 rfl (by omega) (by omega) (fun c_18 => ?_) (fun c_18 => ?_) | refine a_icmp_eq B 35 d_Lo_worth_18 rfl (fun c_18 => ?_) (fun c_18 => ?_)
  · skip
    refine a_iconst B d_Lo_worth_35 ci_m1 ?_
    exact Rt _ _ _ _ d_Lo_worth_36 (by first | exact (by have e : sp_worth S x y v = RB S := (by rw [sp_worth, hqa]); rw [e]; exact ⟨rfl, hS, (fun _ _ => rfl)⟩) | exact (by have e : sp_worth S (nI a) y v = RB S := (by rw [sp_worth, hqa, hqb]); rw [e]; exact ⟨rfl, hS, (fun _ _ => rfl)⟩) | exact (by have e : sp_worth S (nI a) (nI b) v = RB S := (by rw [sp_worth, hqa, hqb]; show (if _ then _ else _) = _; exact if_pos (Or.inl c_18)); rw [e]; exact ⟨rfl, hS, (fun _ _ => rfl)⟩) | exact (by have e : sp_worth S (nI a) (nI b) v = RB S := (by rw [sp_worth, hqa, hqb]; show (if _ then _ else _) = _; exact if_pos (Or.inr (Or.inl c_25))); rw [e]; exact ⟨rfl, hS, (fun _ _ => rfl)⟩) | exact (by have e : sp_worth S (nI a) (nI b) v = RB S := (by rw [sp_worth, hqa, hqb]; show (if _ then _ else _) = _; exact if_pos (Or.inr (Or.inr (Int32.not_le.mp c_32)))); rw [e]; exact ⟨rfl, hS, (fun _ _ => rfl)⟩))
  refine a_iload_n B d_Lo_worth_21 rfl rfl ?_
  refine a_sipush B d_Lo_worth_22 cs_m1000 ?_
  first | refine b_icmp_lt B 35 d_Lo_worth_25 rfl (by omega) (by omega) (fun c_25 => ?_) (fun c_25 => ?_) | refine a_icmp_lt B 35 d_Lo_worth_25 rfl (fun c_25 => ?_) (fun c_25 => ?_)
  · skip
    refine a_iconst B d_Lo_worth_35 ci_m1 ?_
    exact Rt _ _ _ _ d_Lo_worth_36 (by first | exact (by have e : sp_worth S x y v = RB S := (by rw [sp_worth, hqa]); rw [e]; exact ⟨rfl, hS, (fun _ _ => rfl)⟩) | exact (by have e : sp_worth S (nI a) y v = RB S := (by rw [sp_worth, hqa, hqb]); rw [e]; exact ⟨rfl, hS, (fun _ _ => rfl)⟩) | exact (by have e : sp_worth S (nI a) (nI b) v = RB S := (by rw [sp_worth, hqa, hqb]; show (if _ then _ else _) = _; exact if_pos (Or.inl c_18)); rw [e]; exact ⟨rfl, hS, (fun _ _ => rfl)⟩) | exact (by have e : sp_worth S (nI a) (nI b) v = RB S := (by rw [sp_worth, hqa, hqb]; show (if _ then _ else _) = _; exact if_pos (Or.inr (Or.inl c_25))); rw [e]; exact ⟨rfl, hS, (fun _ _ => rfl)⟩) | exact (by have e : sp_worth S (nI a) (nI b) v = RB S := (by rw [sp_worth, hqa, hqb]; show (if _ then _ else _) = _; exact if_pos (Or.inr (Or.inr (Int32.not_le.mp c_32)))); rw [e]; exact ⟨rfl, hS, (fun _ _ => rfl)⟩))
  refine a_iload_n B d_Lo_worth_28 rfl rfl ?_
  refine a_sipush B d_Lo_worth_29 cs_1000 ?_
  first | refine b_icmp_le B 37 d_Lo_worth_32 rfl (by omega) (by omega) (fun c_32 => ?_) (fun c_32 => ?_) | refine a_icmp_le B 37 d_Lo_worth_32 rfl (fun c_32 => ?_) (fun c_32 => ?_)
  · skip
    obtain ⟨v1, v2, v3⟩ := tnc_w c_25 c_32
    refine a_aload_n B d_Lo_worth_37 rfl rfl ?_
    refine a_aload_n B d_Lo_worth_38 rfl rfl ?_
    refine gf_Lo_axesLaid B d_Lo_worth_39 fl_Lo_40 ?_
    refine gf_Ax_worths B d_Lo_worth_42 fl_Lo_206 ?_
    refine a_iload_n B d_Lo_worth_45 rfl rfl ?_
    refine al_wo B _ rfl (by first | assumption | omega) d_Lo_worth_46 ?_
    refine a_iload_n B d_Lo_worth_47 rfl rfl ?_
    refine a_iald B (ly_wo (by first | assumption | omega)) _ rfl (by first | assumption | omega) d_Lo_worth_48 ?_
    refine pf_Lo_latestAsked B d_Lo_worth_49 fl_Lo_71 ?_
    have hA9 := RelC_asked (v := σ.1 (50 + a) b) hS
    refine a_aload_n B d_Lo_worth_52 rfl rfl ?_
    refine gf_Lo_axesLaid B d_Lo_worth_53 fl_Lo_40 ?_
    refine gf_Ax_worths B d_Lo_worth_56 fl_Lo_206 ?_
    refine a_iload_n B d_Lo_worth_59 rfl rfl ?_
    refine al_wo B _ rfl (by first | assumption | omega) d_Lo_worth_60 ?_
    refine a_iload_n B d_Lo_worth_61 rfl rfl ?_
    refine a_iload_n B d_Lo_worth_62 rfl rfl ?_
    refine a_iast B (ly_wo (by first | assumption | omega)) _ rfl (by first | assumption | omega) d_Lo_worth_63 ?_
    refine a_aload_n B d_Lo_worth_64 rfl rfl ?_
    refine gf_Lo_axesLaid B d_Lo_worth_65 fl_Lo_40 ?_
    refine gf_Ax_worths B d_Lo_worth_68 fl_Lo_206 ?_
    refine a_iload_n B d_Lo_worth_71 rfl rfl ?_
    refine al_wo B _ rfl (by first | assumption | omega) d_Lo_worth_72 ?_
    refine a_iload_n B d_Lo_worth_73 rfl rfl ?_
    refine a_iload_n B d_Lo_worth_74 rfl rfl ?_
    refine a_iast B (ly_wo (by first | assumption | omega)) _ rfl (by first | assumption | omega) d_Lo_worth_75 ?_
    refine a_iconst B d_Lo_worth_76 ci_1 ?_
    exact Rt _ _ _ _ d_Lo_worth_77 (by have e : sp_worth S (nI a) (nI b) v = (1, pA (pX S (sMx S) (setW (sWo S) a b v.toInt)) (zI (sWo S a b))) := (by rw [sp_worth, hqa, hqb]; show (if _ then _ else _) = _; exact if_neg (fun q => q.elim c_18 (fun q => q.elim c_25 (Int32.not_lt.mpr c_32)))); rw [e]; exact ⟨rfl, RelC_axes (S := pA S (zI (sWo S a b))) (by rw [← hS.2.2.2.2.2.1 a b (by omega) (by omega)]; exact hA9) (AxC_worth hA9.2.2.2 (by omega) (by omega) v1 v2 _ (by rw [up1_o (by omega), up1_o (by omega)]) (fun z hz => by (by_cases e1 : z = b; rw [if_pos e1, if_neg (fun q => c_18 (q.symm.trans e1)), e1, up1_s, up1_o (by omega), up1_o (by omega), ← v3]; by_cases e2 : z = a; rw [if_neg e1, if_pos e2, up1_o (show 50 + z ≠ 50 + b by omega), e2, up1_s, ← v3]; rw [if_neg e1, if_neg e2, up1_o (show 50 + z ≠ 50 + b by omega), up1_o (show 50 + z ≠ 50 + a by omega)]))) (fun k q1 q2 => by rw [up1_o (by omega), up1_o (by omega)]) (by rw [up1_o (by omega), up1_o (by omega)]), fun k hk => by rw [up1_o (by omega), up1_o (by omega), up1_o (by omega)]⟩)
  refine a_iconst B d_Lo_worth_35 ci_m1 ?_
  exact Rt _ _ _ _ d_Lo_worth_36 (by first | exact (by have e : sp_worth S x y v = RB S := (by rw [sp_worth, hqa]); rw [e]; exact ⟨rfl, hS, (fun _ _ => rfl)⟩) | exact (by have e : sp_worth S (nI a) y v = RB S := (by rw [sp_worth, hqa, hqb]); rw [e]; exact ⟨rfl, hS, (fun _ _ => rfl)⟩) | exact (by have e : sp_worth S (nI a) (nI b) v = RB S := (by rw [sp_worth, hqa, hqb]; show (if _ then _ else _) = _; exact if_pos (Or.inl c_18)); rw [e]; exact ⟨rfl, hS, (fun _ _ => rfl)⟩) | exact (by have e : sp_worth S (nI a) (nI b) v = RB S := (by rw [sp_worth, hqa, hqb]; show (if _ then _ else _) = _; exact if_pos (Or.inr (Or.inl c_25))); rw [e]; exact ⟨rfl, hS, (fun _ _ => rfl)⟩) | exact (by have e : sp_worth S (nI a) (nI b) v = RB S := (by rw [sp_worth, hqa, hqb]; show (if _ then _ else _) = _; exact if_pos (Or.inr (Or.inr (Int32.not_le.mp c_32)))); rw [e]; exact ⟨rfl, hS, (fun _ _ => rfl)⟩))
theorem RelC_lay {S : Sp} {σ τ : AH} (h : RelC S σ) (e11 : τ.1 11 = upd (σ.1 11) 4 (nI (sMx S))) (e14 : ∀ j, j < sMx S → τ.1 14 j = nI ((lyS (sWo S) (sMx S) (sMx S)).1 j)) (e : ∀ k, k ≠ 11 → k ≠ 13 → k ≠ 14 → τ.1 k = σ.1 k) : RelC (pL S (sMx S) (lyS (sWo S) (sMx S) (sMx S)).1) τ := by
  obtain ⟨h1, h2, h3, h4⟩ := h
  refine ⟨h1.of (e _ (by decide) (by decide) (by decide)) (e _ (by decide) (by decide) (by decide)) (fun i hi => e _ (by omega) (by omega) (by omega)), fun t ht => TrC_of (h2 t ht) (fun k q1 q2 => e k (by have : 58 ≤ tI t := Nat.le_add_right _ _; omega) (by have : 58 ≤ tI t := Nat.le_add_right _ _; omega) (by have : 58 ≤ tI t := Nat.le_add_right _ _; omega)), ?_, ⟨by rw [e11, upd_o (by decide)]; exact h4.1, h4.2.1, fun a b ha hb => by rw [e _ (by omega) (by omega) (by omega)]; exact h4.2.2.1 a b ha hb, h4.2.2.2⟩⟩
  obtain ⟨m1, m2, m3, m4, m5, m6, m7, m8, m9, m10, m11⟩ := h3
  have hm := h4.2.1
  refine ⟨by rw [e _ (by decide) (by decide) (by decide)]; exact m1, by rw [e _ (by decide) (by decide) (by decide)]; exact m2, by rw [e _ (by decide) (by decide) (by decide)]; exact m3, by rw [e _ (by decide) (by decide) (by decide)]; exact m4, m5, by rw [e _ (by decide) (by decide) (by decide)]; exact m6, by rw [e _ (by decide) (by decide) (by decide)]; exact m7, by rw [e11, upd_s]; rfl, hm, e14, fun i hi => ?_⟩
  have := (lyS_ok (W := sWo S) hm (sMx S) (Nat.le_refl _)).2.2 i hi
  show (lyS (sWo S) (sMx S) (sMx S)).1 i < 8
  omega
theorem d_Lo_laying_0 : decode prog_1_method_29_code 0 = .ok (.aload_n 0, 1) := by decide +kernel
theorem d_Lo_laying_1 : decode prog_1_method_29_code 1 = .ok (.aload_n 0, 1) := by decide +kernel
theorem d_Lo_laying_2 : decode prog_1_method_29_code 2 = .ok (.getfield 40, 3) := by decide +kernel
theorem d_Lo_laying_5 : decode prog_1_method_29_code 5 = .ok (.invokevirtual 209, 3) := by decide +kernel
theorem d_Lo_laying_8 : decode prog_1_method_29_code 8 = .ok (.putfield 71, 3) := by decide +kernel
theorem d_Lo_laying_11 : decode prog_1_method_29_code 11 = .ok (.aload_n 0, 1) := by decide +kernel
theorem d_Lo_laying_12 : decode prog_1_method_29_code 12 = .ok (.getfield 40, 3) := by decide +kernel
theorem d_Lo_laying_15 : decode prog_1_method_29_code 15 = .ok (.getfield 213, 3) := by decide +kernel
theorem d_Lo_laying_18 : decode prog_1_method_29_code 18 = .ok (.ireturn, 1) := by decide +kernel
set_option maxHeartbeats 4000000 in
set_option maxRecDepth 20000 in
theorem tC_laying {g : GG} (G : Gok g) {σ : AH} {S : Sp} (hS : RelC S σ) : TerI g 4 m_Lo_laying [rV 0] σ (fun r τ => r = (sp_laying S).1 ∧ RelC (sp_laying S).2 τ ∧ frC σ τ) := by
  refine TerI.mk G (by decide +kernel) rfl (Nat.le_of_ble_eq_true rfl) (fun K B Rt => ?_)
  have B : Cx g K prog_1_method_29_code 1 R_Lo 4 := B
  have Rt : RetI g K prog_1_method_29_code 1 (fun r τ => r = (sp_laying S).1 ∧ RelC (sp_laying S).2 τ ∧ frC σ τ) := Rt
  show AW g K 1 0 [(0, rV 0)] [] σ
  refine a_aload_n B d_Lo_laying_0 rfl rfl ?_
  refine a_aload_n B d_Lo_laying_1 rfl rfl ?_
  refine gf_Lo_axesLaid B d_Lo_laying_2 fl_Lo_40 ?_
  refine a_callVI (ci := 0) B (t_Ax_layBest G hS.2.2.2) d_Lo_laying_5 ok_Ax_layBest ml_Lo_209 ly_11 rfl rfl (by decide) (by decide) rfl (Nat.le_of_ble_eq_true rfl) (fun r_5 τ_5 h_5 => ?_)
  obtain ⟨rfl, z1, z2, z3, z4⟩ := h_5
  refine pf_Lo_latestAsked B d_Lo_laying_8 fl_Lo_71 ?_
  refine a_aload_n B d_Lo_laying_11 rfl rfl ?_
  refine gf_Lo_axesLaid B d_Lo_laying_12 fl_Lo_40 ?_
  refine gf_Ax_axisCount B d_Lo_laying_15 fl_Lo_213 ?_
  rw [up1_o (by decide), z2, upd_o (by decide), hS.2.2.2.1]
  exact Rt _ _ _ _ d_Lo_laying_18 ⟨rfl, RelC_asked (RelC_lay hS z2 z3 z4), fun k hk => by rw [up1_o (by omega)]; exact z4 k (by omega) (by omega) (by omega)⟩
