/-! turning -/
/-- some joins turned; counted, or not -/
def flipsBy (T : TT) (f : Nat → Bool) : TT := (tN T, fun v => if f v then tR T v else tL T v, fun v => if f v then tL T v else tR T v, tU T, tM T, tH T, fun v => if f v then tC T v + 1 else tC T v, tD T)
def turnBy (T : TT) (f : Nat → Bool) : TT := (tN T, fun v => if f v then tR T v else tL T v, fun v => if f v then tL T v else tR T v, tU T, tM T, tH T, tC T, tD T)
theorem Wf_of {T T' : TT} (hW : Wf T) (h1 : tN T' = tN T) (h2 : tU T' = tU T) (h3 : tM T' = tM T) (h4 : tH T' = tH T) (h5 : ∀ v, (tL T' v = tL T v ∧ tR T' v = tR T v) ∨ (tL T' v = tR T v ∧ tR T' v = tL T v)) : Wf T' := by
  obtain ⟨w1, w10, wj, wu, wl, wm, wt, wb, wh⟩ := hW
  unfold Wf
  rw [h1, h2, h3, h4]
  refine ⟨w1, w10, fun j a b => ?_, fun v hv => ?_, wl, fun j a b => ?_, wt, wb, wh⟩
  · obtain ⟨q1, q2, q3, q4, q5⟩ := wj j a b
    rcases h5 j with ⟨e1, e2⟩ | ⟨e1, e2⟩
    · rw [e1, e2]; exact ⟨q1, q2, q3, q4, q5⟩
    · rw [e1, e2]; exact ⟨q2, q1, fun q => q3 q.symm, q5, q4⟩
  · obtain ⟨q1, q2, q3, q4⟩ := wu v hv
    refine ⟨q1, q2, q3, ?_⟩
    rcases h5 (tU T v) with ⟨e1, e2⟩ | ⟨e1, e2⟩
    · rw [e1, e2]; exact q4
    · rw [e1, e2]; exact q4.symm
  · obtain ⟨q1, q2⟩ := wm j a b
    rcases h5 j with ⟨e1, e2⟩ | ⟨e1, e2⟩
    · rw [e1, e2]; exact ⟨q1, q2⟩
    · rw [e1, e2]; exact ⟨by rw [q1, Nat.or_comm], by rw [Nat.and_comm]; exact q2⟩
theorem fl_sides {T : TT} {f : Nat → Bool} (v : Nat) : (tL (flipsBy T f) v = tL T v ∧ tR (flipsBy T f) v = tR T v) ∨ (tL (flipsBy T f) v = tR T v ∧ tR (flipsBy T f) v = tL T v) := by
  show ((if f v then tR T v else tL T v) = tL T v ∧ (if f v then tL T v else tR T v) = tR T v) ∨ ((if f v then tR T v else tL T v) = tR T v ∧ (if f v then tL T v else tR T v) = tL T v)
  cases f v <;> simp
theorem Wf_flips {T : TT} {f : Nat → Bool} (hW : Wf T) : Wf (flipsBy T f) := Wf_of hW rfl rfl rfl rfl fl_sides
theorem Wf_turn {T : TT} {f : Nat → Bool} (hW : Wf T) : Wf (turnBy T f) := Wf_of hW rfl rfl rfl rfl (fl_sides (f := f))
theorem turnBy_no {T : TT} {f : Nat → Bool} (h : ∀ v, f v = false) : turnBy T f = T := by
  obtain ⟨a1, a2, a3, a4, a5, a6, a7, a8⟩ := T
  unfold turnBy tN tL tR tU tM tH tC tD
  simp only [h]
  rfl
theorem flipsBy_no {T : TT} {f : Nat → Bool} (h : ∀ v, f v = false) : flipsBy T f = T := by
  obtain ⟨a1, a2, a3, a4, a5, a6, a7, a8⟩ := T
  unfold flipsBy tN tL tR tU tM tH tC tD
  simp only [h]
  rfl
def swapH (σ : AH) (t j : Nat) : AH := up1 (up1 (up1 σ (tI t + 1) (upd (σ.1 (tI t + 1)) j (σ.1 (tI t + 2) j))) (tI t + 2) (upd (σ.1 (tI t + 2)) j (σ.1 (tI t + 1) j))) (tI t + 7) (upd (σ.1 (tI t + 7)) j (σ.1 (tI t + 7) j + 1))
theorem swapH_o {σ : AH} {t j k : Nat} (h1 : k ≠ tI t + 1) (h2 : k ≠ tI t + 2) (h7 : k ≠ tI t + 7) : (swapH σ t j).1 k = σ.1 k := by
  unfold swapH
  rw [up1_o h7, up1_o h2, up1_o h1]
theorem swapH_l {σ : AH} {t j : Nat} : (swapH σ t j).2 = σ.2 := rfl
theorem swapH_1 {σ : AH} {t j : Nat} : (swapH σ t j).1 (tI t + 1) = upd (σ.1 (tI t + 1)) j (σ.1 (tI t + 2) j) := by
  unfold swapH
  rw [up1_o (by omega), up1_o (by omega), up1_s]
theorem swapH_2 {σ : AH} {t j : Nat} : (swapH σ t j).1 (tI t + 2) = upd (σ.1 (tI t + 2)) j (σ.1 (tI t + 1) j) := by
  unfold swapH
  rw [up1_o (by omega), up1_s]
theorem swapH_7 {σ : AH} {t j : Nat} : (swapH σ t j).1 (tI t + 7) = upd (σ.1 (tI t + 7)) j (σ.1 (tI t + 7) j + 1) := by
  unfold swapH
  rw [up1_s]
/-- a join turned that was not: the cells follow -/
theorem RtB_swap {σ : AH} {t j : Nat} {T : TT} {f f' : Nat → Bool} (hB : RtB σ t (flipsBy T f)) (h1 : tN T ≤ j) (h2 : j < 2 * tN T - 1) (hf : f j = false) (hj : f' j = true) (ho : ∀ v, v ≠ j → f' v = f v) : RtB (swapH σ t j) t (flipsBy T f') := by
  obtain ⟨b0, b1, b7⟩ := hB
  refine ⟨fun l hl => ?_, fun v hv hv2 => ?_, fun v hv => ?_⟩
  · have hl' : l < tN T := hl
    rw [swapH_1, swapH_2, upd_o (by omega), upd_o (by omega)]
    exact b0 l hl
  · have hv' : tN T ≤ v := hv
    have hv2' : v < 2 * tN T - 1 := hv2
    rw [swapH_1, swapH_2]
    by_cases e : v = j
    · subst e
      rw [upd_s, upd_s, (b1 v hv hv2).1, (b1 v hv hv2).2]
      show nI (if f v then _ else _) = nI (if f' v then _ else _) ∧ nI (if f v then _ else _) = nI (if f' v then _ else _)
      rw [hf, hj]
      exact ⟨rfl, rfl⟩
    · rw [upd_o e, upd_o e, (b1 v hv hv2).1, (b1 v hv hv2).2]
      show nI (if f v then _ else _) = nI (if f' v then _ else _) ∧ nI (if f v then _ else _) = nI (if f' v then _ else _)
      rw [ho v e]
      exact ⟨rfl, rfl⟩
  · rw [swapH_7]
    by_cases e : v = j
    · subst e
      rw [upd_s, b7 v hv]
      show (if f v then _ else _) + 1 = (if f' v then _ else _)
      rw [hf, hj]
      rfl
    · rw [upd_o e, b7 v hv]
      show (if f v then _ else _) = (if f' v then _ else _)
      rw [ho v e]
theorem RtA.of {σ τ : AH} {t : Nat} {T T' : TT} (h : RtA σ t T) (h1 : tN T' = tN T) (h2 : tU T' = tU T) (h3 : tM T' = tM T) (h4 : tH T' = tH T) (h5 : tD T' = tD T) (e0 : τ.1 (tI t) = σ.1 (tI t)) (e3 : τ.1 (tI t + 3) = σ.1 (tI t + 3)) (e4 : τ.1 (tI t + 4) = σ.1 (tI t + 4)) (e5 : τ.1 (tI t + 5) = σ.1 (tI t + 5)) (e6 : τ.1 (tI t + 6) = σ.1 (tI t + 6)) (e8 : τ.1 (tI t + 8) = σ.1 (tI t + 8)) : RtA τ t T' := by
  unfold RtA at h ⊢
  rw [h1, h2, h3, h4, h5, e0, e3, e4, e5, e6, e8]
  exact h
theorem RtB.of {σ τ : AH} {t : Nat} {T : TT} (h : RtB σ t T) (e1 : τ.1 (tI t + 1) = σ.1 (tI t + 1)) (e2 : τ.1 (tI t + 2) = σ.1 (tI t + 2)) (e7 : τ.1 (tI t + 7) = σ.1 (tI t + 7)) : RtB τ t T := by
  unfold RtB at h ⊢
  rw [e1, e2, e7]
  exact h
theorem RtP.of {σ τ : AH} {t : Nat} {T : TT} (h : RtP σ t T) (e9 : τ.1 (tI t + 9) = σ.1 (tI t + 9)) (e10 : τ.1 (tI t + 10) = σ.1 (tI t + 10)) : RtP τ t T := by
  unfold RtP at h ⊢
  rw [e9, e10]
  exact h
theorem ord_at {σ : AH} {t : Nat} {T : TT} (hW : Wf T) (hP : RtP σ t T) : ∀ i, i < tN T → σ.1 (tI t + 10) i = nI (ordT T i) := fun i hi => by
  have h := hP.2 _ (pos_ord hW hi).1
  rw [(pos_ord hW hi).2] at h
  exact h
/-- which joins look better turned -/
def turnsAt (T : TT) (pl : Nat → Int32) (v : Nat) : Bool := decide (tN T ≤ v) && (decide (v < 2 * tN T - 1) && (!tD T v && decide (pa (tM T (tL T v)) (tM T (tR T v)) pl < pa (tM T (tR T v)) (tM T (tL T v)) pl)))
def lookT (T : TT) (pl : Nat → Int32) : TT := flipsBy T (turnsAt T pl)
def looksN (T : TT) (pl : Nat → Int32) : Nat := cntB (fun i => turnsAt T pl (tN T + i)) (tN T - 1)
/-- what a turning of tree t may change -/
def frT (t : Nat) (σ τ : AH) : Prop := τ.2 = σ.2 ∧ ∀ k, k ≠ tI t + 1 → k ≠ tI t + 2 → k ≠ tI t + 7 → k ≠ tI t + 9 → k ≠ tI t + 10 → τ.1 k = σ.1 k
theorem d_Tr_costOfOrder_0 : decode prog_7_method_14_code 0 = .ok (.iconst 0, 1) := by decide +kernel
theorem d_Tr_costOfOrder_1 : decode prog_7_method_14_code 1 = .ok (.istore_n 2, 1) := by decide +kernel
theorem d_Tr_costOfOrder_2 : decode prog_7_method_14_code 2 = .ok (.iconst 1, 1) := by decide +kernel
theorem d_Tr_costOfOrder_3 : decode prog_7_method_14_code 3 = .ok (.istore_n 3, 1) := by decide +kernel
theorem d_Tr_costOfOrder_4 : decode prog_7_method_14_code 4 = .ok (.iload_n 3, 1) := by decide +kernel
theorem d_Tr_costOfOrder_5 : decode prog_7_method_14_code 5 = .ok (.aload_n 0, 1) := by decide +kernel
theorem d_Tr_costOfOrder_6 : decode prog_7_method_14_code 6 = .ok (.getfield 50, 3) := by decide +kernel
theorem d_Tr_costOfOrder_9 : decode prog_7_method_14_code 9 = .ok (.if_icmp .ge 30, 3) := by decide +kernel
theorem d_Tr_costOfOrder_12 : decode prog_7_method_14_code 12 = .ok (.iload_n 2, 1) := by decide +kernel
theorem d_Tr_costOfOrder_13 : decode prog_7_method_14_code 13 = .ok (.aload_n 1, 1) := by decide +kernel
theorem d_Tr_costOfOrder_14 : decode prog_7_method_14_code 14 = .ok (.aload_n 0, 1) := by decide +kernel
theorem d_Tr_costOfOrder_15 : decode prog_7_method_14_code 15 = .ok (.getfield 40, 3) := by decide +kernel
theorem d_Tr_costOfOrder_18 : decode prog_7_method_14_code 18 = .ok (.iload_n 3, 1) := by decide +kernel
theorem d_Tr_costOfOrder_19 : decode prog_7_method_14_code 19 = .ok (.iconst 1, 1) := by decide +kernel
theorem d_Tr_costOfOrder_20 : decode prog_7_method_14_code 20 = .ok (.isub, 1) := by decide +kernel
theorem d_Tr_costOfOrder_21 : decode prog_7_method_14_code 21 = .ok (.iaload, 1) := by decide +kernel
theorem d_Tr_costOfOrder_22 : decode prog_7_method_14_code 22 = .ok (.aload_n 0, 1) := by decide +kernel
theorem d_Tr_costOfOrder_23 : decode prog_7_method_14_code 23 = .ok (.getfield 40, 3) := by decide +kernel
theorem d_Tr_costOfOrder_26 : decode prog_7_method_14_code 26 = .ok (.iload_n 3, 1) := by decide +kernel
theorem d_Tr_costOfOrder_27 : decode prog_7_method_14_code 27 = .ok (.iaload, 1) := by decide +kernel
theorem d_Tr_costOfOrder_28 : decode prog_7_method_14_code 28 = .ok (.invokevirtual 71, 3) := by decide +kernel
theorem d_Tr_costOfOrder_31 : decode prog_7_method_14_code 31 = .ok (.iadd, 1) := by decide +kernel
theorem d_Tr_costOfOrder_32 : decode prog_7_method_14_code 32 = .ok (.istore_n 2, 1) := by decide +kernel
theorem d_Tr_costOfOrder_33 : decode prog_7_method_14_code 33 = .ok (.iinc 3 1, 3) := by decide +kernel
theorem d_Tr_costOfOrder_36 : decode prog_7_method_14_code 36 = .ok (.goto (-32), 3) := by decide +kernel
theorem d_Tr_costOfOrder_39 : decode prog_7_method_14_code 39 = .ok (.iload_n 2, 1) := by decide +kernel
theorem d_Tr_costOfOrder_40 : decode prog_7_method_14_code 40 = .ok (.ireturn, 1) := by decide +kernel
set_option maxRecDepth 20000 in
theorem t_Tr_costOfOrder {g : GG} (G : Gok g) {σ : AH} {t : Nat} {T : TT} (ht : t < 4) (hW : Wf T) (hA : RtA σ t T) (hP : RtP σ t T) {n0 : Nat} {th : Nat → Bool} {pl : Nat → Nat → Nat} (hR : RoC σ n0 th pl) : TerI g 2 m_Tr_costOfOrder [rV (tI t), rV 1] σ (fun r τ => r = nI (priceT (unl n0 th pl) T) ∧ τ = σ) := by
  refine TerI.mk G (by decide +kernel) rfl (Nat.le_of_ble_eq_true rfl) (fun K B Rt => ?_)
  have B : Cx g K prog_7_method_14_code 4 R_Tr 2 := B
  have Rt : RetI g K prog_7_method_14_code 4 (fun r τ => r = nI (priceT (unl n0 th pl) T) ∧ τ = σ) := Rt
  show AW g K 4 0 [(0, rV (tI t)), (1, rV 1)] [] σ
  obtain ⟨a12, a13, a3, a3t, a4, a5, a6, a8⟩ := hA
  obtain ⟨w1, w10, wj, wu, wl, wm, wt, wb, wh⟩ := id hW
  have q10 := ord_at hW hP
  refine a_iconst B d_Tr_costOfOrder_0 ci_0 ?_
  refine a_istore_n (lv1 := [(0, _), (1, _), (2, _)]) B d_Tr_costOfOrder_1 rfl (by decide) rfl ?_
  refine a_iconst B d_Tr_costOfOrder_2 ci_1 ?_
  refine a_istore_n (lv1 := [(0, _), (1, _), (2, _), (3, _)]) B d_Tr_costOfOrder_3 rfl (by decide) rfl ?_
  refine a_for (lf := fun i => [(0, rV (tI t)), (1, rV 1), (2, iV (nI (sumTo (fun i => unl n0 th pl (ordT T i) (ordT T (i + 1))) i))), (3, iV (nI (i + 1)))]) (τ := fun i => σ) (tN T - 1) (fun i hi ihi => ?_) ?_ 0 (Nat.zero_le _)
  · skip
    refine a_iload_n B d_Tr_costOfOrder_4 rfl rfl ?_
    refine a_aload_n B d_Tr_costOfOrder_5 rfl rfl ?_
    refine gf_Tr_leafCount B (by first | assumption | omega) d_Tr_costOfOrder_6 fl_Tr_50 ?_
    rw [a12]
    first | refine b_icmp_ge B 39 d_Tr_costOfOrder_9 rfl (by omega) (by omega) (fun c_9 => ?_) (fun c_9 => ?_) | refine a_icmp_ge B 39 d_Tr_costOfOrder_9 rfl (fun c_9 => ?_) (fun c_9 => ?_)
    · skip
      exact absurd c_9 (by omega)
    refine a_iload_n B d_Tr_costOfOrder_12 rfl rfl ?_
    refine a_aload_n B d_Tr_costOfOrder_13 rfl rfl ?_
    refine a_aload_n B d_Tr_costOfOrder_14 rfl rfl ?_
    refine gf_Tr_leafAt B (by first | assumption | omega) d_Tr_costOfOrder_15 fl_Tr_40 ?_
    refine a_iload_n B d_Tr_costOfOrder_18 rfl rfl ?_
    refine a_iconst B d_Tr_costOfOrder_19 ci_1 ?_
    first | refine b_isub B (by omega) d_Tr_costOfOrder_20 ?_ | refine a_isub B d_Tr_costOfOrder_20 ?_
    rw [show i + 1 - 1 = i by omega]
    refine a_iald B (ly_T_leafAt (by first | assumption | omega)) _ rfl (by first | assumption | omega) d_Tr_costOfOrder_21 ?_
    rw [q10 _ (by omega)]
    refine a_aload_n B d_Tr_costOfOrder_22 rfl rfl ?_
    refine gf_Tr_leafAt B (by first | assumption | omega) d_Tr_costOfOrder_23 fl_Tr_40 ?_
    refine a_iload_n B d_Tr_costOfOrder_26 rfl rfl ?_
    refine a_iald B (ly_T_leafAt (by first | assumption | omega)) _ rfl (by first | assumption | omega) d_Tr_costOfOrder_27 ?_
    rw [q10 _ (by omega)]
    refine a_callVI (ci := 4) B (t_Ro_unlikeness G hR (by have := (pos_ord hW (show i < tN T by omega)).1; omega) (by have := (pos_ord hW (show i + 1 < tN T by omega)).1; omega)) d_Tr_costOfOrder_28 ok_Ro_unlikeness ml_Tr_71 ly_1 rfl rfl (by decide) (by decide) rfl (Nat.le_of_ble_eq_true rfl) (fun r_28 τ_28 h_28 => ?_)
    obtain ⟨hr_28, hs_28⟩ := h_28
    subst hr_28
    replace hs_28 := hs_28.symm
    subst hs_28
    first | refine b_iadd B d_Tr_costOfOrder_31 ?_ | refine a_iadd B d_Tr_costOfOrder_31 ?_
    refine a_istore_n (lv1 := [(0, _), (1, _), (2, _), (3, _)]) B d_Tr_costOfOrder_32 rfl (by decide) rfl ?_
    first | refine b_iinc (lv1 := [(0, _), (1, _), (2, _), (3, _)]) B d_Tr_costOfOrder_33 rfl ci_1 (by decide) rfl ?_ | refine a_iinc (lv1 := [(0, _), (1, _), (2, _), (3, _)]) B d_Tr_costOfOrder_33 rfl rfl (by decide) rfl ?_
    refine a_goto B 4 d_Tr_costOfOrder_36 rfl ?_
    exact ihi
  · skip
    refine a_iload_n B d_Tr_costOfOrder_4 rfl rfl ?_
    refine a_aload_n B d_Tr_costOfOrder_5 rfl rfl ?_
    refine gf_Tr_leafCount B (by first | assumption | omega) d_Tr_costOfOrder_6 fl_Tr_50 ?_
    rw [a12]
    first | refine b_icmp_ge B 39 d_Tr_costOfOrder_9 rfl (by omega) (by omega) (fun c_9 => ?_) (fun c_9 => ?_) | refine a_icmp_ge B 39 d_Tr_costOfOrder_9 rfl (fun c_9 => ?_) (fun c_9 => ?_)
    · skip
      refine a_iload_n B d_Tr_costOfOrder_39 rfl rfl ?_
      exact Rt _ _ _ _ d_Tr_costOfOrder_40 ⟨rfl, rfl⟩
    exact absurd c_9 (by omega)
theorem d_Tr_crossingsWith_0 : decode prog_7_method_17_code 0 = .ok (.iconst 0, 1) := by decide +kernel
theorem d_Tr_crossingsWith_1 : decode prog_7_method_17_code 1 = .ok (.istore_n 2, 1) := by decide +kernel
theorem d_Tr_crossingsWith_2 : decode prog_7_method_17_code 2 = .ok (.aload_n 0, 1) := by decide +kernel
theorem d_Tr_crossingsWith_3 : decode prog_7_method_17_code 3 = .ok (.getfield 50, 3) := by decide +kernel
theorem d_Tr_crossingsWith_6 : decode prog_7_method_17_code 6 = .ok (.istore_n 3, 1) := by decide +kernel
theorem d_Tr_crossingsWith_7 : decode prog_7_method_17_code 7 = .ok (.iload_n 3, 1) := by decide +kernel
theorem d_Tr_crossingsWith_8 : decode prog_7_method_17_code 8 = .ok (.aload_n 0, 1) := by decide +kernel
theorem d_Tr_crossingsWith_9 : decode prog_7_method_17_code 9 = .ok (.getfield 54, 3) := by decide +kernel
theorem d_Tr_crossingsWith_12 : decode prog_7_method_17_code 12 = .ok (.if_icmp .ge 29, 3) := by decide +kernel
theorem d_Tr_crossingsWith_15 : decode prog_7_method_17_code 15 = .ok (.iload_n 2, 1) := by decide +kernel
theorem d_Tr_crossingsWith_16 : decode prog_7_method_17_code 16 = .ok (.aload_n 0, 1) := by decide +kernel
theorem d_Tr_crossingsWith_17 : decode prog_7_method_17_code 17 = .ok (.aload_n 0, 1) := by decide +kernel
theorem d_Tr_crossingsWith_18 : decode prog_7_method_17_code 18 = .ok (.getfield 15, 3) := by decide +kernel
theorem d_Tr_crossingsWith_21 : decode prog_7_method_17_code 21 = .ok (.iload_n 3, 1) := by decide +kernel
theorem d_Tr_crossingsWith_22 : decode prog_7_method_17_code 22 = .ok (.iaload, 1) := by decide +kernel
theorem d_Tr_crossingsWith_23 : decode prog_7_method_17_code 23 = .ok (.aload_n 0, 1) := by decide +kernel
theorem d_Tr_crossingsWith_24 : decode prog_7_method_17_code 24 = .ok (.getfield 9, 3) := by decide +kernel
theorem d_Tr_crossingsWith_27 : decode prog_7_method_17_code 27 = .ok (.iload_n 3, 1) := by decide +kernel
theorem d_Tr_crossingsWith_28 : decode prog_7_method_17_code 28 = .ok (.iaload, 1) := by decide +kernel
theorem d_Tr_crossingsWith_29 : decode prog_7_method_17_code 29 = .ok (.aload_n 1, 1) := by decide +kernel
theorem d_Tr_crossingsWith_30 : decode prog_7_method_17_code 30 = .ok (.invokevirtual 81, 3) := by decide +kernel
theorem d_Tr_crossingsWith_33 : decode prog_7_method_17_code 33 = .ok (.iadd, 1) := by decide +kernel
theorem d_Tr_crossingsWith_34 : decode prog_7_method_17_code 34 = .ok (.istore_n 2, 1) := by decide +kernel
theorem d_Tr_crossingsWith_35 : decode prog_7_method_17_code 35 = .ok (.iinc 3 1, 3) := by decide +kernel
theorem d_Tr_crossingsWith_38 : decode prog_7_method_17_code 38 = .ok (.goto (-31), 3) := by decide +kernel
theorem d_Tr_crossingsWith_41 : decode prog_7_method_17_code 41 = .ok (.iload_n 2, 1) := by decide +kernel
theorem d_Tr_crossingsWith_42 : decode prog_7_method_17_code 42 = .ok (.ireturn, 1) := by decide +kernel
set_option maxRecDepth 20000 in
theorem t_Tr_crossingsWith {g : GG} (G : Gok g) {σ : AH} {t : Nat} {T : TT} (ht : t < 4) (hW : Wf T) (hA : RtA σ t T) (hB : RtB σ t T) {k len : Nat} {rs : List (Option Nat)} (hk : layT[k]? = some (0, len, rs)) (hlen : 10 ≤ len) : TerI g 2 m_Tr_crossingsWith [rV (tI t), rV k] σ (fun r τ => r = nI (crossT T (σ.1 k)) ∧ τ = σ) := by
  refine TerI.mk G (by decide +kernel) rfl (Nat.le_of_ble_eq_true rfl) (fun K B Rt => ?_)
  have B : Cx g K prog_7_method_17_code 4 R_Tr 2 := B
  have Rt : RetI g K prog_7_method_17_code 4 (fun r τ => r = nI (crossT T (σ.1 k)) ∧ τ = σ) := Rt
  show AW g K 4 0 [(0, rV (tI t)), (1, rV k)] [] σ
  have hA0 := hA
  obtain ⟨a12, a13, a3, a3t, a4, a5, a6, a8⟩ := hA
  obtain ⟨b0, b1, b7⟩ := hB
  obtain ⟨w1, w10, wj, wu, wl, wm, wt, wb, wh⟩ := id hW
  refine a_iconst B d_Tr_crossingsWith_0 ci_0 ?_
  refine a_istore_n (lv1 := [(0, _), (1, _), (2, _)]) B d_Tr_crossingsWith_1 rfl (by decide) rfl ?_
  refine a_aload_n B d_Tr_crossingsWith_2 rfl rfl ?_
  refine gf_Tr_leafCount B (by first | assumption | omega) d_Tr_crossingsWith_3 fl_Tr_50 ?_
  rw [a12]
  refine a_istore_n (lv1 := [(0, _), (1, _), (2, _), (3, _)]) B d_Tr_crossingsWith_6 rfl (by decide) rfl ?_
  refine a_for (lf := fun i => [(0, rV (tI t)), (1, rV k), (2, iV (nI (sumTo (fun k_1 => pa (tM T (tR T (tN T + k_1))) (tM T (tL T (tN T + k_1))) (σ.1 k)) i))), (3, iV (nI (tN T + i)))]) (τ := fun i => σ) (tN T - 1) (fun i hi ihi => ?_) ?_ 0 (Nat.zero_le _)
  · skip
    refine a_iload_n B d_Tr_crossingsWith_7 rfl rfl ?_
    refine a_aload_n B d_Tr_crossingsWith_8 rfl rfl ?_
    refine gf_Tr_nodeCount B (by first | assumption | omega) d_Tr_crossingsWith_9 fl_Tr_54 ?_
    rw [a13]
    first | refine b_icmp_ge B 41 d_Tr_crossingsWith_12 rfl (by omega) (by omega) (fun c_12 => ?_) (fun c_12 => ?_) | refine a_icmp_ge B 41 d_Tr_crossingsWith_12 rfl (fun c_12 => ?_) (fun c_12 => ?_)
    · skip
      exact absurd c_12 (by omega)
    have qj := wj (tN T + i) (by omega) (by omega)
    refine a_iload_n B d_Tr_crossingsWith_15 rfl rfl ?_
    refine a_aload_n B d_Tr_crossingsWith_16 rfl rfl ?_
    refine a_aload_n B d_Tr_crossingsWith_17 rfl rfl ?_
    refine gf_Tr_right B (by first | assumption | omega) d_Tr_crossingsWith_18 fl_Tr_15 ?_
    refine a_iload_n B d_Tr_crossingsWith_21 rfl rfl ?_
    refine a_iald B (ly_T_right (by first | assumption | omega)) _ rfl (by first | assumption | omega) d_Tr_crossingsWith_22 ?_
    rw [(b1 _ (by omega) (by omega)).2]
    refine a_aload_n B d_Tr_crossingsWith_23 rfl rfl ?_
    refine gf_Tr_left B (by first | assumption | omega) d_Tr_crossingsWith_24 fl_Tr_9 ?_
    refine a_iload_n B d_Tr_crossingsWith_27 rfl rfl ?_
    refine a_iald B (ly_T_left (by first | assumption | omega)) _ rfl (by first | assumption | omega) d_Tr_crossingsWith_28 ?_
    rw [(b1 _ (by omega) (by omega)).1]
    refine a_aload_n B d_Tr_crossingsWith_29 rfl rfl ?_
    refine a_callVI (ci := 5) B (t_Tr_pairsAhead G ht hW hA0 hk hlen (by omega) (by omega)) d_Tr_crossingsWith_30 ok_Tr_pairsAhead ml_Tr_81 (ly_T (by first | assumption | omega)) rfl rfl (by decide) (by decide) rfl (Nat.le_of_ble_eq_true rfl) (fun r_30 τ_30 h_30 => ?_)
    obtain ⟨hr_30, hs_30⟩ := h_30
    subst hr_30
    replace hs_30 := hs_30.symm
    subst hs_30
    first | refine b_iadd B d_Tr_crossingsWith_33 ?_ | refine a_iadd B d_Tr_crossingsWith_33 ?_
    refine a_istore_n (lv1 := [(0, _), (1, _), (2, _), (3, _)]) B d_Tr_crossingsWith_34 rfl (by decide) rfl ?_
    first | refine b_iinc (lv1 := [(0, _), (1, _), (2, _), (3, _)]) B d_Tr_crossingsWith_35 rfl ci_1 (by decide) rfl ?_ | refine a_iinc (lv1 := [(0, _), (1, _), (2, _), (3, _)]) B d_Tr_crossingsWith_35 rfl rfl (by decide) rfl ?_
    refine a_goto B 7 d_Tr_crossingsWith_38 rfl ?_
    exact ihi
  · skip
    refine a_iload_n B d_Tr_crossingsWith_7 rfl rfl ?_
    refine a_aload_n B d_Tr_crossingsWith_8 rfl rfl ?_
    refine gf_Tr_nodeCount B (by first | assumption | omega) d_Tr_crossingsWith_9 fl_Tr_54 ?_
    rw [a13]
    first | refine b_icmp_ge B 41 d_Tr_crossingsWith_12 rfl (by omega) (by omega) (fun c_12 => ?_) (fun c_12 => ?_) | refine a_icmp_ge B 41 d_Tr_crossingsWith_12 rfl (fun c_12 => ?_) (fun c_12 => ?_)
    · skip
      refine a_iload_n B d_Tr_crossingsWith_41 rfl rfl ?_
      exact Rt _ _ _ _ d_Tr_crossingsWith_42 ⟨rfl, rfl⟩
    exact absurd c_12 (by omega)
theorem d_Tr_leastCrossingsWith_0 : decode prog_7_method_18_code 0 = .ok (.iconst 0, 1) := by decide +kernel
theorem d_Tr_leastCrossingsWith_1 : decode prog_7_method_18_code 1 = .ok (.istore_n 2, 1) := by decide +kernel
theorem d_Tr_leastCrossingsWith_2 : decode prog_7_method_18_code 2 = .ok (.aload_n 0, 1) := by decide +kernel
theorem d_Tr_leastCrossingsWith_3 : decode prog_7_method_18_code 3 = .ok (.getfield 50, 3) := by decide +kernel
theorem d_Tr_leastCrossingsWith_6 : decode prog_7_method_18_code 6 = .ok (.istore_n 3, 1) := by decide +kernel
theorem d_Tr_leastCrossingsWith_7 : decode prog_7_method_18_code 7 = .ok (.iload_n 3, 1) := by decide +kernel
theorem d_Tr_leastCrossingsWith_8 : decode prog_7_method_18_code 8 = .ok (.aload_n 0, 1) := by decide +kernel
theorem d_Tr_leastCrossingsWith_9 : decode prog_7_method_18_code 9 = .ok (.getfield 54, 3) := by decide +kernel
theorem d_Tr_leastCrossingsWith_12 : decode prog_7_method_18_code 12 = .ok (.if_icmp .ge 71, 3) := by decide +kernel
theorem d_Tr_leastCrossingsWith_15 : decode prog_7_method_18_code 15 = .ok (.aload_n 0, 1) := by decide +kernel
theorem d_Tr_leastCrossingsWith_16 : decode prog_7_method_18_code 16 = .ok (.aload_n 0, 1) := by decide +kernel
theorem d_Tr_leastCrossingsWith_17 : decode prog_7_method_18_code 17 = .ok (.getfield 15, 3) := by decide +kernel
theorem d_Tr_leastCrossingsWith_20 : decode prog_7_method_18_code 20 = .ok (.iload_n 3, 1) := by decide +kernel
theorem d_Tr_leastCrossingsWith_21 : decode prog_7_method_18_code 21 = .ok (.iaload, 1) := by decide +kernel
theorem d_Tr_leastCrossingsWith_22 : decode prog_7_method_18_code 22 = .ok (.aload_n 0, 1) := by decide +kernel
theorem d_Tr_leastCrossingsWith_23 : decode prog_7_method_18_code 23 = .ok (.getfield 9, 3) := by decide +kernel
theorem d_Tr_leastCrossingsWith_26 : decode prog_7_method_18_code 26 = .ok (.iload_n 3, 1) := by decide +kernel
theorem d_Tr_leastCrossingsWith_27 : decode prog_7_method_18_code 27 = .ok (.iaload, 1) := by decide +kernel
theorem d_Tr_leastCrossingsWith_28 : decode prog_7_method_18_code 28 = .ok (.aload_n 1, 1) := by decide +kernel
theorem d_Tr_leastCrossingsWith_29 : decode prog_7_method_18_code 29 = .ok (.invokevirtual 81, 3) := by decide +kernel
theorem d_Tr_leastCrossingsWith_32 : decode prog_7_method_18_code 32 = .ok (.istore 4, 2) := by decide +kernel
theorem d_Tr_leastCrossingsWith_34 : decode prog_7_method_18_code 34 = .ok (.aload_n 0, 1) := by decide +kernel
theorem d_Tr_leastCrossingsWith_35 : decode prog_7_method_18_code 35 = .ok (.aload_n 0, 1) := by decide +kernel
theorem d_Tr_leastCrossingsWith_36 : decode prog_7_method_18_code 36 = .ok (.getfield 9, 3) := by decide +kernel
theorem d_Tr_leastCrossingsWith_39 : decode prog_7_method_18_code 39 = .ok (.iload_n 3, 1) := by decide +kernel
theorem d_Tr_leastCrossingsWith_40 : decode prog_7_method_18_code 40 = .ok (.iaload, 1) := by decide +kernel
theorem d_Tr_leastCrossingsWith_41 : decode prog_7_method_18_code 41 = .ok (.aload_n 0, 1) := by decide +kernel
theorem d_Tr_leastCrossingsWith_42 : decode prog_7_method_18_code 42 = .ok (.getfield 15, 3) := by decide +kernel
theorem d_Tr_leastCrossingsWith_45 : decode prog_7_method_18_code 45 = .ok (.iload_n 3, 1) := by decide +kernel
theorem d_Tr_leastCrossingsWith_46 : decode prog_7_method_18_code 46 = .ok (.iaload, 1) := by decide +kernel
theorem d_Tr_leastCrossingsWith_47 : decode prog_7_method_18_code 47 = .ok (.aload_n 1, 1) := by decide +kernel
theorem d_Tr_leastCrossingsWith_48 : decode prog_7_method_18_code 48 = .ok (.invokevirtual 81, 3) := by decide +kernel
theorem d_Tr_leastCrossingsWith_51 : decode prog_7_method_18_code 51 = .ok (.istore 5, 2) := by decide +kernel
theorem d_Tr_leastCrossingsWith_53 : decode prog_7_method_18_code 53 = .ok (.iload_n 2, 1) := by decide +kernel
theorem d_Tr_leastCrossingsWith_54 : decode prog_7_method_18_code 54 = .ok (.aload_n 0, 1) := by decide +kernel
theorem d_Tr_leastCrossingsWith_55 : decode prog_7_method_18_code 55 = .ok (.getfield 33, 3) := by decide +kernel
theorem d_Tr_leastCrossingsWith_58 : decode prog_7_method_18_code 58 = .ok (.iload_n 3, 1) := by decide +kernel
theorem d_Tr_leastCrossingsWith_59 : decode prog_7_method_18_code 59 = .ok (.baload, 1) := by decide +kernel
theorem d_Tr_leastCrossingsWith_60 : decode prog_7_method_18_code 60 = .ok (.ifCond .eq 8, 3) := by decide +kernel
theorem d_Tr_leastCrossingsWith_63 : decode prog_7_method_18_code 63 = .ok (.iload 4, 2) := by decide +kernel
theorem d_Tr_leastCrossingsWith_65 : decode prog_7_method_18_code 65 = .ok (.goto 10, 3) := by decide +kernel
theorem d_Tr_leastCrossingsWith_68 : decode prog_7_method_18_code 68 = .ok (.iload 4, 2) := by decide +kernel
theorem d_Tr_leastCrossingsWith_70 : decode prog_7_method_18_code 70 = .ok (.iload 5, 2) := by decide +kernel
theorem d_Tr_leastCrossingsWith_72 : decode prog_7_method_18_code 72 = .ok (.invokestatic 92, 3) := by decide +kernel
theorem d_Tr_leastCrossingsWith_75 : decode prog_7_method_18_code 75 = .ok (.iadd, 1) := by decide +kernel
theorem d_Tr_leastCrossingsWith_76 : decode prog_7_method_18_code 76 = .ok (.istore_n 2, 1) := by decide +kernel
theorem d_Tr_leastCrossingsWith_77 : decode prog_7_method_18_code 77 = .ok (.iinc 3 1, 3) := by decide +kernel
theorem d_Tr_leastCrossingsWith_80 : decode prog_7_method_18_code 80 = .ok (.goto (-73), 3) := by decide +kernel
theorem d_Tr_leastCrossingsWith_83 : decode prog_7_method_18_code 83 = .ok (.iload_n 2, 1) := by decide +kernel
theorem d_Tr_leastCrossingsWith_84 : decode prog_7_method_18_code 84 = .ok (.ireturn, 1) := by decide +kernel
set_option maxRecDepth 20000 in
theorem t_Tr_leastCrossingsWith {g : GG} (G : Gok g) {σ : AH} {t : Nat} {T : TT} (ht : t < 4) (hW : Wf T) (hA : RtA σ t T) (hB : RtB σ t T) {k len : Nat} {rs : List (Option Nat)} (hk : layT[k]? = some (0, len, rs)) (hlen : 10 ≤ len) : TerI g 2 m_Tr_leastCrossingsWith [rV (tI t), rV k] σ (fun r τ => r = nI (leastT T (σ.1 k)) ∧ τ = σ) := by
  refine TerI.mk G (by decide +kernel) rfl (Nat.le_of_ble_eq_true rfl) (fun K B Rt => ?_)
  have B : Cx g K prog_7_method_18_code 6 R_Tr 2 := B
  have Rt : RetI g K prog_7_method_18_code 6 (fun r τ => r = nI (leastT T (σ.1 k)) ∧ τ = σ) := Rt
  show AW g K 6 0 [(0, rV (tI t)), (1, rV k)] [] σ
  have hA0 := hA
  obtain ⟨a12, a13, a3, a3t, a4, a5, a6, a8⟩ := hA
  obtain ⟨b0, b1, b7⟩ := hB
  obtain ⟨w1, w10, wj, wu, wl, wm, wt, wb, wh⟩ := id hW
  refine a_iconst B d_Tr_leastCrossingsWith_0 ci_0 ?_
  refine a_istore_n (lv1 := [(0, _), (1, _), (2, _)]) B d_Tr_leastCrossingsWith_1 rfl (by decide) rfl ?_
  refine a_aload_n B d_Tr_leastCrossingsWith_2 rfl rfl ?_
  refine gf_Tr_leafCount B (by first | assumption | omega) d_Tr_leastCrossingsWith_3 fl_Tr_50 ?_
  rw [a12]
  refine a_istore_n (lv1 := [(0, _), (1, _), (2, _), (3, _)]) B d_Tr_leastCrossingsWith_6 rfl (by decide) rfl ?_
  refine a_for (lf := fun i => [(0, rV (tI t)), (1, rV k), (2, iV (nI (sumTo (fun k_1 => if tD T (tN T + k_1) then pa (tM T (tR T (tN T + k_1))) (tM T (tL T (tN T + k_1))) (σ.1 k) else min (pa (tM T (tR T (tN T + k_1))) (tM T (tL T (tN T + k_1))) (σ.1 k)) (pa (tM T (tL T (tN T + k_1))) (tM T (tR T (tN T + k_1))) (σ.1 k))) i))), (3, iV (nI (tN T + i)))]) (τ := fun i => σ) (tN T - 1) (fun i hi ihi => ?_) ?_ 0 (Nat.zero_le _)
  · skip
    refine a_iload_n B d_Tr_leastCrossingsWith_7 rfl rfl ?_
    refine a_aload_n B d_Tr_leastCrossingsWith_8 rfl rfl ?_
    refine gf_Tr_nodeCount B (by first | assumption | omega) d_Tr_leastCrossingsWith_9 fl_Tr_54 ?_
    rw [a13]
    first | refine b_icmp_ge B 83 d_Tr_leastCrossingsWith_12 rfl (by omega) (by omega) (fun c_12 => ?_) (fun c_12 => ?_) | refine a_icmp_ge B 83 d_Tr_leastCrossingsWith_12 rfl (fun c_12 => ?_) (fun c_12 => ?_)
    · skip
      exact absurd c_12 (by omega)
    have qj := wj (tN T + i) (by omega) (by omega)
    refine a_aload_n B d_Tr_leastCrossingsWith_15 rfl rfl ?_
    refine a_aload_n B d_Tr_leastCrossingsWith_16 rfl rfl ?_
    refine gf_Tr_right B (by first | assumption | omega) d_Tr_leastCrossingsWith_17 fl_Tr_15 ?_
    refine a_iload_n B d_Tr_leastCrossingsWith_20 rfl rfl ?_
    refine a_iald B (ly_T_right (by first | assumption | omega)) _ rfl (by first | assumption | omega) d_Tr_leastCrossingsWith_21 ?_
    rw [(b1 _ (by omega) (by omega)).2]
    refine a_aload_n B d_Tr_leastCrossingsWith_22 rfl rfl ?_
    refine gf_Tr_left B (by first | assumption | omega) d_Tr_leastCrossingsWith_23 fl_Tr_9 ?_
    refine a_iload_n B d_Tr_leastCrossingsWith_26 rfl rfl ?_
    refine a_iald B (ly_T_left (by first | assumption | omega)) _ rfl (by first | assumption | omega) d_Tr_leastCrossingsWith_27 ?_
    rw [(b1 _ (by omega) (by omega)).1]
    refine a_aload_n B d_Tr_leastCrossingsWith_28 rfl rfl ?_
    refine a_callVI (ci := 5) B (t_Tr_pairsAhead G ht hW hA0 hk hlen (by omega) (by omega)) d_Tr_leastCrossingsWith_29 ok_Tr_pairsAhead ml_Tr_81 (ly_T (by first | assumption | omega)) rfl rfl (by decide) (by decide) rfl (Nat.le_of_ble_eq_true rfl) (fun r_29 τ_29 h_29 => ?_)
    obtain ⟨hr_29, hs_29⟩ := h_29
    subst hr_29
    replace hs_29 := hs_29.symm
    subst hs_29
    refine a_istore (lv1 := [(0, _), (1, _), (2, _), (3, _), (4, _)]) B d_Tr_leastCrossingsWith_32 (by decide) rfl ?_
    refine a_aload_n B d_Tr_leastCrossingsWith_34 rfl rfl ?_
    refine a_aload_n B d_Tr_leastCrossingsWith_35 rfl rfl ?_
    refine gf_Tr_left B (by first | assumption | omega) d_Tr_leastCrossingsWith_36 fl_Tr_9 ?_
    refine a_iload_n B d_Tr_leastCrossingsWith_39 rfl rfl ?_
    refine a_iald B (ly_T_left (by first | assumption | omega)) _ rfl (by first | assumption | omega) d_Tr_leastCrossingsWith_40 ?_
    rw [(b1 _ (by omega) (by omega)).1]
    refine a_aload_n B d_Tr_leastCrossingsWith_41 rfl rfl ?_
    refine gf_Tr_right B (by first | assumption | omega) d_Tr_leastCrossingsWith_42 fl_Tr_15 ?_
    refine a_iload_n B d_Tr_leastCrossingsWith_45 rfl rfl ?_
    refine a_iald B (ly_T_right (by first | assumption | omega)) _ rfl (by first | assumption | omega) d_Tr_leastCrossingsWith_46 ?_
    rw [(b1 _ (by omega) (by omega)).2]
    refine a_aload_n B d_Tr_leastCrossingsWith_47 rfl rfl ?_
    refine a_callVI (ci := 5) B (t_Tr_pairsAhead G ht hW hA0 hk hlen (by omega) (by omega)) d_Tr_leastCrossingsWith_48 ok_Tr_pairsAhead ml_Tr_81 (ly_T (by first | assumption | omega)) rfl rfl (by decide) (by decide) rfl (Nat.le_of_ble_eq_true rfl) (fun r_48 τ_48 h_48 => ?_)
    obtain ⟨hr_48, hs_48⟩ := h_48
    subst hr_48
    replace hs_48 := hs_48.symm
    subst hs_48
    refine a_istore (lv1 := [(0, _), (1, _), (2, _), (3, _), (4, _), (5, _)]) B d_Tr_leastCrossingsWith_51 (by decide) rfl ?_
    refine a_iload_n B d_Tr_leastCrossingsWith_53 rfl rfl ?_
    refine a_aload_n B d_Tr_leastCrossingsWith_54 rfl rfl ?_
    refine gf_Tr_held B (by first | assumption | omega) d_Tr_leastCrossingsWith_55 fl_Tr_33 ?_
    refine a_iload_n B d_Tr_leastCrossingsWith_58 rfl rfl ?_
    refine a_zald B (ly_T_held (by first | assumption | omega)) _ rfl (by first | assumption | omega) d_Tr_leastCrossingsWith_59 ?_
    rw [a8 _ (by omega)]
    first | refine b_if_eq_b B 68 d_Tr_leastCrossingsWith_60 rfl (fun c_60 => ?_) (fun c_60 => ?_) | refine a_if_eq B 68 d_Tr_leastCrossingsWith_60 rfl (fun c_60 => ?_) (fun c_60 => ?_)
    · skip
      refine a_iload B d_Tr_leastCrossingsWith_68 rfl ?_
      refine a_iload B d_Tr_leastCrossingsWith_70 rfl ?_
      refine a_mmin B (by decide) (Nat.le_of_ble_eq_true rfl) d_Tr_leastCrossingsWith_72 ml_Tr_92 ?_
      rw [nI_min (by have := pa_le (tM T (tR T (tN T + i))) (tM T (tL T (tN T + i))) (σ.1 k); omega) (by have := pa_le (tM T (tL T (tN T + i))) (tM T (tR T (tN T + i))) (σ.1 k); omega)]
      first | refine b_iadd B d_Tr_leastCrossingsWith_75 ?_ | refine a_iadd B d_Tr_leastCrossingsWith_75 ?_
      refine a_istore_n (lv1 := [(0, _), (1, _), (2, _), (3, _), (4, _), (5, _)]) B d_Tr_leastCrossingsWith_76 rfl (by decide) rfl ?_
      first | refine b_iinc (lv1 := [(0, _), (1, _), (2, _), (3, _), (4, _), (5, _)]) B d_Tr_leastCrossingsWith_77 rfl ci_1 (by decide) rfl ?_ | refine a_iinc (lv1 := [(0, _), (1, _), (2, _), (3, _), (4, _), (5, _)]) B d_Tr_leastCrossingsWith_77 rfl rfl (by decide) rfl ?_
      refine a_goto B 7 d_Tr_leastCrossingsWith_80 rfl ?_
      refine a_sub (lv1 := [(0, _), (1, _), (2, _), (3, _)]) rfl ?_
      rw [sumTo_succ] at ihi
      simp only [c_60] at ihi
      exact ihi
    refine a_iload B d_Tr_leastCrossingsWith_63 rfl ?_
    refine a_goto B 75 d_Tr_leastCrossingsWith_65 rfl ?_
    first | refine b_iadd B d_Tr_leastCrossingsWith_75 ?_ | refine a_iadd B d_Tr_leastCrossingsWith_75 ?_
    refine a_istore_n (lv1 := [(0, _), (1, _), (2, _), (3, _), (4, _), (5, _)]) B d_Tr_leastCrossingsWith_76 rfl (by decide) rfl ?_
    first | refine b_iinc (lv1 := [(0, _), (1, _), (2, _), (3, _), (4, _), (5, _)]) B d_Tr_leastCrossingsWith_77 rfl ci_1 (by decide) rfl ?_ | refine a_iinc (lv1 := [(0, _), (1, _), (2, _), (3, _), (4, _), (5, _)]) B d_Tr_leastCrossingsWith_77 rfl rfl (by decide) rfl ?_
    refine a_goto B 7 d_Tr_leastCrossingsWith_80 rfl ?_
    refine a_sub (lv1 := [(0, _), (1, _), (2, _), (3, _)]) rfl ?_
    rw [sumTo_succ] at ihi
    simp only [c_60] at ihi
    exact ihi
  · skip
    refine a_iload_n B d_Tr_leastCrossingsWith_7 rfl rfl ?_
    refine a_aload_n B d_Tr_leastCrossingsWith_8 rfl rfl ?_
    refine gf_Tr_nodeCount B (by first | assumption | omega) d_Tr_leastCrossingsWith_9 fl_Tr_54 ?_
    rw [a13]
    first | refine b_icmp_ge B 83 d_Tr_leastCrossingsWith_12 rfl (by omega) (by omega) (fun c_12 => ?_) (fun c_12 => ?_) | refine a_icmp_ge B 83 d_Tr_leastCrossingsWith_12 rfl (fun c_12 => ?_) (fun c_12 => ?_)
    · skip
      refine a_iload_n B d_Tr_leastCrossingsWith_83 rfl rfl ?_
      exact Rt _ _ _ _ d_Tr_leastCrossingsWith_84 ⟨rfl, rfl⟩
    exact absurd c_12 (by omega)
theorem d_Tr_swap_0 : decode prog_7_method_8_code 0 = .ok (.aload_n 0, 1) := by decide +kernel
theorem d_Tr_swap_1 : decode prog_7_method_8_code 1 = .ok (.getfield 9, 3) := by decide +kernel
theorem d_Tr_swap_4 : decode prog_7_method_8_code 4 = .ok (.iload_n 1, 1) := by decide +kernel
theorem d_Tr_swap_5 : decode prog_7_method_8_code 5 = .ok (.iaload, 1) := by decide +kernel
theorem d_Tr_swap_6 : decode prog_7_method_8_code 6 = .ok (.istore_n 2, 1) := by decide +kernel
theorem d_Tr_swap_7 : decode prog_7_method_8_code 7 = .ok (.aload_n 0, 1) := by decide +kernel
theorem d_Tr_swap_8 : decode prog_7_method_8_code 8 = .ok (.getfield 9, 3) := by decide +kernel
theorem d_Tr_swap_11 : decode prog_7_method_8_code 11 = .ok (.iload_n 1, 1) := by decide +kernel
theorem d_Tr_swap_12 : decode prog_7_method_8_code 12 = .ok (.aload_n 0, 1) := by decide +kernel
theorem d_Tr_swap_13 : decode prog_7_method_8_code 13 = .ok (.getfield 15, 3) := by decide +kernel
theorem d_Tr_swap_16 : decode prog_7_method_8_code 16 = .ok (.iload_n 1, 1) := by decide +kernel
theorem d_Tr_swap_17 : decode prog_7_method_8_code 17 = .ok (.iaload, 1) := by decide +kernel
theorem d_Tr_swap_18 : decode prog_7_method_8_code 18 = .ok (.iastore, 1) := by decide +kernel
theorem d_Tr_swap_19 : decode prog_7_method_8_code 19 = .ok (.aload_n 0, 1) := by decide +kernel
theorem d_Tr_swap_20 : decode prog_7_method_8_code 20 = .ok (.getfield 15, 3) := by decide +kernel
theorem d_Tr_swap_23 : decode prog_7_method_8_code 23 = .ok (.iload_n 1, 1) := by decide +kernel
theorem d_Tr_swap_24 : decode prog_7_method_8_code 24 = .ok (.iload_n 2, 1) := by decide +kernel
theorem d_Tr_swap_25 : decode prog_7_method_8_code 25 = .ok (.iastore, 1) := by decide +kernel
theorem d_Tr_swap_26 : decode prog_7_method_8_code 26 = .ok (.aload_n 0, 1) := by decide +kernel
theorem d_Tr_swap_27 : decode prog_7_method_8_code 27 = .ok (.getfield 30, 3) := by decide +kernel
theorem d_Tr_swap_30 : decode prog_7_method_8_code 30 = .ok (.iload_n 1, 1) := by decide +kernel
theorem d_Tr_swap_31 : decode prog_7_method_8_code 31 = .ok (.dup2, 1) := by decide +kernel
theorem d_Tr_swap_32 : decode prog_7_method_8_code 32 = .ok (.iaload, 1) := by decide +kernel
theorem d_Tr_swap_33 : decode prog_7_method_8_code 33 = .ok (.iconst 1, 1) := by decide +kernel
theorem d_Tr_swap_34 : decode prog_7_method_8_code 34 = .ok (.iadd, 1) := by decide +kernel
theorem d_Tr_swap_35 : decode prog_7_method_8_code 35 = .ok (.iastore, 1) := by decide +kernel
theorem d_Tr_swap_36 : decode prog_7_method_8_code 36 = .ok (.return_, 1) := by decide +kernel
set_option maxRecDepth 20000 in
theorem t_Tr_swap {g : GG} (G : Gok g) {σ : AH} {t j : Nat} (ht : t < 4) (hj : j < 19) : TerV g 0 m_Tr_swap [rV (tI t), iV (nI j)] σ (fun τ => τ = swapH σ t j) := by
  refine TerV.mk G (by decide +kernel) rfl (Nat.le_of_ble_eq_true rfl) (fun K B Rt => ?_)
  have B : Cx g K prog_7_method_8_code 3 R_Tr 0 := B
  have Rt : RetV g K prog_7_method_8_code 3 (fun τ => τ = swapH σ t j) := Rt
  show AW g K 3 0 [(0, rV (tI t)), (1, iV (nI j))] [] σ
  refine a_aload_n B d_Tr_swap_0 rfl rfl ?_
  refine gf_Tr_left B (by first | assumption | omega) d_Tr_swap_1 fl_Tr_9 ?_
  refine a_iload_n B d_Tr_swap_4 rfl rfl ?_
  refine a_iald B (ly_T_left (by first | assumption | omega)) _ rfl (by first | assumption | omega) d_Tr_swap_5 ?_
  refine a_istore_n (lv1 := [(0, _), (1, _), (2, _)]) B d_Tr_swap_6 rfl (by decide) rfl ?_
  refine a_aload_n B d_Tr_swap_7 rfl rfl ?_
  refine gf_Tr_left B (by first | assumption | omega) d_Tr_swap_8 fl_Tr_9 ?_
  refine a_iload_n B d_Tr_swap_11 rfl rfl ?_
  refine a_aload_n B d_Tr_swap_12 rfl rfl ?_
  refine gf_Tr_right B (by first | assumption | omega) d_Tr_swap_13 fl_Tr_15 ?_
  refine a_iload_n B d_Tr_swap_16 rfl rfl ?_
  refine a_iald B (ly_T_right (by first | assumption | omega)) _ rfl (by first | assumption | omega) d_Tr_swap_17 ?_
  refine a_iast B (ly_T_left (by first | assumption | omega)) _ rfl (by first | assumption | omega) d_Tr_swap_18 ?_
  refine a_aload_n B d_Tr_swap_19 rfl rfl ?_
  refine gf_Tr_right B (by first | assumption | omega) d_Tr_swap_20 fl_Tr_15 ?_
  refine a_iload_n B d_Tr_swap_23 rfl rfl ?_
  refine a_iload_n B d_Tr_swap_24 rfl rfl ?_
  refine a_iast B (ly_T_right (by first | assumption | omega)) _ rfl (by first | assumption | omega) d_Tr_swap_25 ?_
  refine a_aload_n B d_Tr_swap_26 rfl rfl ?_
  refine gf_Tr_turned B (by first | assumption | omega) d_Tr_swap_27 fl_Tr_30 ?_
  refine a_iload_n B d_Tr_swap_30 rfl rfl ?_
  refine a_dup2 B d_Tr_swap_31 rfl rfl ?_
  refine a_iald B (ly_T_turned (by first | assumption | omega)) _ rfl (by first | assumption | omega) d_Tr_swap_32 ?_
  refine a_iconst B d_Tr_swap_33 ci_1 ?_
  first | refine b_iadd B d_Tr_swap_34 ?_ | refine a_iadd B d_Tr_swap_34 ?_
  refine a_iast B (ly_T_turned (by first | assumption | omega)) _ rfl (by first | assumption | omega) d_Tr_swap_35 ?_
  exact Rt _ _ _ d_Tr_swap_36 (by unfold swapH; simp only [up1_s, up1_o (show tI t + 2 ≠ tI t + 1 by omega), up1_o (show tI t + 7 ≠ tI t + 2 by omega), up1_o (show tI t + 7 ≠ tI t + 1 by omega)]; rfl)
