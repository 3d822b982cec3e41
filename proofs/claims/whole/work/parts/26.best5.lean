/-! the best turns: the class's leastOfTop, readPlaces, find -/
def dnJ (n i : Nat) : Int32 := if i < n then nI (n - 1 - i) else -1
theorem dnJ_lt {n i : Nat} (h : i < n) : dnJ n i = nI (n - 1 - i) := if_pos h
theorem dnJ_end {n : Nat} : dnJ n n = -1 := if_neg (by omega)
theorem dnJ_step {n i : Nat} (h : i < n) : nI (n - 1 - i) + (-1) = dnJ n (i + 1) := by
  by_cases h2 : i + 1 < n
  · rw [dnJ_lt h2, sb_m1 (by omega), Nat.sub_sub]
  · unfold dnJ
    rw [if_neg h2, show n - 1 - i = 0 by omega]
    decide
/-- places read out of an order's number -/
def rdF (f : Nat → Int32) (k n : Nat) : Nat → Nat → Int32
  | 0 => fillF f 10 (-9)
  | i + 1 => if k / 16 ^ i % 16 < 10 then upd (rdF f k n i) (k / 16 ^ i % 16) (nI (n - 1 - i)) else rdF f k n i
theorem d_Bt_leastOfTop_0 : decode prog_3_method_8_code 0 = .ok (.aload_n 1, 1) := by decide +kernel
theorem d_Bt_leastOfTop_1 : decode prog_3_method_8_code 1 = .ok (.getfield 34, 3) := by decide +kernel
theorem d_Bt_leastOfTop_4 : decode prog_3_method_8_code 4 = .ok (.iconst 1, 1) := by decide +kernel
theorem d_Bt_leastOfTop_5 : decode prog_3_method_8_code 5 = .ok (.isub, 1) := by decide +kernel
theorem d_Bt_leastOfTop_6 : decode prog_3_method_8_code 6 = .ok (.istore_n 2, 1) := by decide +kernel
theorem d_Bt_leastOfTop_7 : decode prog_3_method_8_code 7 = .ok (.ldc2_w 20, 3) := by decide +kernel
theorem d_Bt_leastOfTop_10 : decode prog_3_method_8_code 10 = .ok (.lstore_n 3, 1) := by decide +kernel
theorem d_Bt_leastOfTop_11 : decode prog_3_method_8_code 11 = .ok (.iconst 0, 1) := by decide +kernel
theorem d_Bt_leastOfTop_12 : decode prog_3_method_8_code 12 = .ok (.istore 5, 2) := by decide +kernel
theorem d_Bt_leastOfTop_14 : decode prog_3_method_8_code 14 = .ok (.iload 5, 2) := by decide +kernel
theorem d_Bt_leastOfTop_16 : decode prog_3_method_8_code 16 = .ok (.aload_n 1, 1) := by decide +kernel
theorem d_Bt_leastOfTop_17 : decode prog_3_method_8_code 17 = .ok (.getfield 28, 3) := by decide +kernel
theorem d_Bt_leastOfTop_20 : decode prog_3_method_8_code 20 = .ok (.if_icmp .ge 62, 3) := by decide +kernel
theorem d_Bt_leastOfTop_23 : decode prog_3_method_8_code 23 = .ok (.aload_n 1, 1) := by decide +kernel
theorem d_Bt_leastOfTop_24 : decode prog_3_method_8_code 24 = .ok (.iload_n 2, 1) := by decide +kernel
theorem d_Bt_leastOfTop_25 : decode prog_3_method_8_code 25 = .ok (.iload 5, 2) := by decide +kernel
theorem d_Bt_leastOfTop_27 : decode prog_3_method_8_code 27 = .ok (.invokestatic 67, 3) := by decide +kernel
theorem d_Bt_leastOfTop_30 : decode prog_3_method_8_code 30 = .ok (.istore 6, 2) := by decide +kernel
theorem d_Bt_leastOfTop_32 : decode prog_3_method_8_code 32 = .ok (.iconst 0, 1) := by decide +kernel
theorem d_Bt_leastOfTop_33 : decode prog_3_method_8_code 33 = .ok (.istore 7, 2) := by decide +kernel
theorem d_Bt_leastOfTop_35 : decode prog_3_method_8_code 35 = .ok (.iload 7, 2) := by decide +kernel
theorem d_Bt_leastOfTop_37 : decode prog_3_method_8_code 37 = .ok (.aload_n 1, 1) := by decide +kernel
theorem d_Bt_leastOfTop_38 : decode prog_3_method_8_code 38 = .ok (.getfield 28, 3) := by decide +kernel
theorem d_Bt_leastOfTop_41 : decode prog_3_method_8_code 41 = .ok (.if_icmp .ge 35, 3) := by decide +kernel
theorem d_Bt_leastOfTop_44 : decode prog_3_method_8_code 44 = .ok (.iload 6, 2) := by decide +kernel
theorem d_Bt_leastOfTop_46 : decode prog_3_method_8_code 46 = .ok (.iload 7, 2) := by decide +kernel
theorem d_Bt_leastOfTop_48 : decode prog_3_method_8_code 48 = .ok (.ishr, 1) := by decide +kernel
theorem d_Bt_leastOfTop_49 : decode prog_3_method_8_code 49 = .ok (.iconst 1, 1) := by decide +kernel
theorem d_Bt_leastOfTop_50 : decode prog_3_method_8_code 50 = .ok (.iand, 1) := by decide +kernel
theorem d_Bt_leastOfTop_51 : decode prog_3_method_8_code 51 = .ok (.iconst 1, 1) := by decide +kernel
theorem d_Bt_leastOfTop_52 : decode prog_3_method_8_code 52 = .ok (.if_icmp .ne 18, 3) := by decide +kernel
theorem d_Bt_leastOfTop_55 : decode prog_3_method_8_code 55 = .ok (.lload_n 3, 1) := by decide +kernel
theorem d_Bt_leastOfTop_56 : decode prog_3_method_8_code 56 = .ok (.aload_n 0, 1) := by decide +kernel
theorem d_Bt_leastOfTop_57 : decode prog_3_method_8_code 57 = .ok (.getfield 13, 3) := by decide +kernel
theorem d_Bt_leastOfTop_60 : decode prog_3_method_8_code 60 = .ok (.iload 5, 2) := by decide +kernel
theorem d_Bt_leastOfTop_62 : decode prog_3_method_8_code 62 = .ok (.aaload, 1) := by decide +kernel
theorem d_Bt_leastOfTop_63 : decode prog_3_method_8_code 63 = .ok (.iload 7, 2) := by decide +kernel
theorem d_Bt_leastOfTop_65 : decode prog_3_method_8_code 65 = .ok (.laload, 1) := by decide +kernel
theorem d_Bt_leastOfTop_66 : decode prog_3_method_8_code 66 = .ok (.invokestatic 84, 3) := by decide +kernel
theorem d_Bt_leastOfTop_69 : decode prog_3_method_8_code 69 = .ok (.lstore_n 3, 1) := by decide +kernel
theorem d_Bt_leastOfTop_70 : decode prog_3_method_8_code 70 = .ok (.iinc 7 1, 3) := by decide +kernel
theorem d_Bt_leastOfTop_73 : decode prog_3_method_8_code 73 = .ok (.goto (-38), 3) := by decide +kernel
theorem d_Bt_leastOfTop_76 : decode prog_3_method_8_code 76 = .ok (.iinc 5 1, 3) := by decide +kernel
theorem d_Bt_leastOfTop_79 : decode prog_3_method_8_code 79 = .ok (.goto (-65), 3) := by decide +kernel
theorem d_Bt_leastOfTop_82 : decode prog_3_method_8_code 82 = .ok (.lload_n 3, 1) := by decide +kernel
theorem d_Bt_leastOfTop_83 : decode prog_3_method_8_code 83 = .ok (.lreturn, 1) := by decide +kernel
set_option maxHeartbeats 4000000 in
set_option maxRecDepth 20000 in
theorem t_Bt_leastOfTop {g : GG} (G : Gok g) {σ : AH} {t : Nat} {T : TT} (ht : t < 4) (hW : Wf T) (hA : RtA σ t T) (hB : RtB σ t T) {Kf : KF} (hK : KyC σ Kf) (hk : ∀ a b, a < tN T → (farE T (2 * tN T - 2) a).testBit b = true → okO (tN T) (Kf a b)) : TerL g 2 m_Bt_leastOfTop [rV 8, rV (tI t)] σ (fun r τ => r = oL (ltO T Kf (tN T)) ∧ τ = σ) := by
  refine TerL.mk G (by decide +kernel) rfl (Nat.le_of_ble_eq_true rfl) (fun K B Rt => ?_)
  have B : Cx g K prog_3_method_8_code 8 R_Bt 2 := B
  have Rt : RetL g K prog_3_method_8_code 8 (fun r τ => r = oL (ltO T Kf (tN T)) ∧ τ = σ) := Rt
  show AW g K 8 0 [(0, rV 8), (1, rV (tI t))] [] σ
  have hA0 := hA
  obtain ⟨a12, a13, a3, a3t, a4, a5, a6, a8⟩ := hA
  obtain ⟨w1, w10, wj, wu, wl, wm, wt, wb, wh⟩ := id hW
  refine a_aload_n B d_Bt_leastOfTop_0 rfl rfl ?_
  refine gf_Tr_nodeCount B (by first | assumption | omega) d_Bt_leastOfTop_1 fl_Bt_34 ?_
  rw [a13]
  refine a_iconst B d_Bt_leastOfTop_4 ci_1 ?_
  first | refine b_isub B (by omega) d_Bt_leastOfTop_5 ?_ | refine a_isub B d_Bt_leastOfTop_5 ?_
  rw [show 2 * tN T - 1 - 1 = 2 * tN T - 2 by omega]
  refine a_istore_n (lv1 := [(0, _), (1, _), (2, _)]) B d_Bt_leastOfTop_6 rfl (by decide) rfl ?_
  refine a_ldc2 B d_Bt_leastOfTop_7 kl_Bt_20 ?_
  refine a_lstore_n (lv1 := [(0, _), (1, _), (2, _), (3, _)]) B d_Bt_leastOfTop_10 rfl (by decide) rfl ?_
  refine a_iconst B d_Bt_leastOfTop_11 ci_0 ?_
  refine a_istore (lv1 := [(0, _), (1, _), (2, _), (3, _), (5, _)]) B d_Bt_leastOfTop_12 (by decide) rfl ?_
  refine a_for (lf := fun i => [(0, rV 8), (1, rV (tI t)), (2, iV (nI (2 * tN T - 2))), (3, lV (oL (ltO T Kf i))), (5, iV (nI i))]) (τ := fun i => σ) (tN T) (fun i hi ihi => ?_) ?_ 0 (Nat.zero_le _)
  · skip
    refine a_iload B d_Bt_leastOfTop_14 rfl ?_
    refine a_aload_n B d_Bt_leastOfTop_16 rfl rfl ?_
    refine gf_Tr_leafCount B (by first | assumption | omega) d_Bt_leastOfTop_17 fl_Bt_28 ?_
    rw [a12]
    first | refine b_icmp_ge B 82 d_Bt_leastOfTop_20 rfl (by omega) (by omega) (fun c_20 => ?_) (fun c_20 => ?_) | refine a_icmp_ge B 82 d_Bt_leastOfTop_20 rfl (fun c_20 => ?_) (fun c_20 => ?_)
    · skip
      exact absurd c_20 (by omega)
    refine a_aload_n B d_Bt_leastOfTop_23 rfl rfl ?_
    refine a_iload_n B d_Bt_leastOfTop_24 rfl rfl ?_
    refine a_iload B d_Bt_leastOfTop_25 rfl ?_
    refine a_callSI B (t_Bt_farEnds G ht hW hA0 hB (by omega) (by omega)) d_Bt_leastOfTop_27 ok_Bt_farEnds ml_Bt_67 rfl (by decide) (by decide) rfl (Nat.le_of_ble_eq_true rfl) (fun r_27 τ_27 h_27 => ?_)
    obtain ⟨hr_27, hs_27⟩ := h_27
    subst hr_27
    replace hs_27 := hs_27.symm
    subst hs_27
    refine a_istore (lv1 := [(0, _), (1, _), (2, _), (3, _), (5, _), (6, _)]) B d_Bt_leastOfTop_30 (by decide) rfl ?_
    refine a_iconst B d_Bt_leastOfTop_32 ci_0 ?_
    refine a_istore (lv1 := [(0, _), (1, _), (2, _), (3, _), (5, _), (6, _), (7, _)]) B d_Bt_leastOfTop_33 (by decide) rfl ?_
    refine a_for (lf := fun j => [(0, rV 8), (1, rV (tI t)), (2, iV (nI (2 * tN T - 2))), (3, lV (oL (ltI Kf (farE T (2 * tN T - 2) i) i j (ltO T Kf i)))), (5, iV (nI i)), (6, iV (nI (farE T (2 * tN T - 2) i))), (7, iV (nI j))]) (τ := fun j => σ) (tN T) (fun j hj ihj => ?_) ?_ 0 (Nat.zero_le _)
    · skip
      refine a_iload B d_Bt_leastOfTop_35 rfl ?_
      refine a_aload_n B d_Bt_leastOfTop_37 rfl rfl ?_
      refine gf_Tr_leafCount B (by first | assumption | omega) d_Bt_leastOfTop_38 fl_Bt_28 ?_
      rw [a12]
      first | refine b_icmp_ge B 76 d_Bt_leastOfTop_41 rfl (by omega) (by omega) (fun c_41 => ?_) (fun c_41 => ?_) | refine a_icmp_ge B 76 d_Bt_leastOfTop_41 rfl (fun c_41 => ?_) (fun c_41 => ?_)
      · skip
        exact absurd c_41 (by omega)
      refine a_iload B d_Bt_leastOfTop_44 rfl ?_
      refine a_iload B d_Bt_leastOfTop_46 rfl ?_
      refine a_ishr B d_Bt_leastOfTop_48 ?_
      refine a_iconst B d_Bt_leastOfTop_49 ci_1 ?_
      refine a_iand B d_Bt_leastOfTop_50 ?_
      rw [bit_atN (farE_lt hW (by omega)) (by omega)]
      refine a_iconst B d_Bt_leastOfTop_51 ci_1 ?_
      first | refine b_icmp_ne B 70 d_Bt_leastOfTop_52 rfl (by omega) (by omega) (fun c_52 => ?_) (fun c_52 => ?_) | refine a_icmp_ne B 70 d_Bt_leastOfTop_52 rfl (fun c_52 => ?_) (fun c_52 => ?_)
      · skip
        first | refine b_iinc (lv1 := [(0, _), (1, _), (2, _), (3, _), (5, _), (6, _), (7, _)]) B d_Bt_leastOfTop_70 rfl ci_1 (by decide) rfl ?_ | refine a_iinc (lv1 := [(0, _), (1, _), (2, _), (3, _), (5, _), (6, _), (7, _)]) B d_Bt_leastOfTop_70 rfl rfl (by decide) rfl ?_
        refine a_goto B 35 d_Bt_leastOfTop_73 rfl ?_
        first | (have hst : ltI Kf (farE T (2 * tN T - 2) i) i (j + 1) (ltO T Kf i) = (ltI Kf (farE T (2 * tN T - 2) i) i j (ltO T Kf i)) := (by rw [ltI, if_neg (by rw [tb_0 c_52]; decide)])) | (have hst : ltI Kf (farE T (2 * tN T - 2) i) i (j + 1) (ltO T Kf i) = omin (ltI Kf (farE T (2 * tN T - 2) i) i j (ltO T Kf i)) (Kf i j) := (by rw [ltI, if_pos (tb_1 c_52)]))
        rw [hst] at ihj
        exact ihj
      refine a_lload_n B d_Bt_leastOfTop_55 rfl rfl ?_
      refine a_aload_n B d_Bt_leastOfTop_56 rfl rfl ?_
      refine gf_Bt_keys B d_Bt_leastOfTop_57 fl_Bt_13 ?_
      refine a_iload B d_Bt_leastOfTop_60 rfl ?_
      refine al_ke B _ rfl (by omega) d_Bt_leastOfTop_62 ?_
      refine a_iload B d_Bt_leastOfTop_63 rfl ?_
      refine a_lald B (ly_ke (by first | assumption | omega)) _ rfl (by omega) d_Bt_leastOfTop_65 ?_
      rw [hK i j (by omega) (by omega)]
      refine a_callSL B (t_Bt_lesser G (fun x hx => by have := okKey_lt (ltI_ok (fun b hb => hk i b (by omega) hb) (ltO_ok hk i (by omega)) j x hx) (by omega); omega) (fun x hx => by have := okKey_lt (hk i j (by omega) (tb_1 c_52) x hx) (by omega); omega)) d_Bt_leastOfTop_66 ok_Bt_lesser ml_Bt_84 rfl (by decide) (by decide) rfl (Nat.le_of_ble_eq_true rfl) (fun r_66 τ_66 h_66 => ?_)
      obtain ⟨hr_66, hs_66⟩ := h_66
      subst hr_66
      replace hs_66 := hs_66.symm
      subst hs_66
      refine a_lstore_n (lv1 := [(0, _), (1, _), (2, _), (3, _), (5, _), (6, _), (7, _)]) B d_Bt_leastOfTop_69 rfl (by decide) rfl ?_
      first | refine b_iinc (lv1 := [(0, _), (1, _), (2, _), (3, _), (5, _), (6, _), (7, _)]) B d_Bt_leastOfTop_70 rfl ci_1 (by decide) rfl ?_ | refine a_iinc (lv1 := [(0, _), (1, _), (2, _), (3, _), (5, _), (6, _), (7, _)]) B d_Bt_leastOfTop_70 rfl rfl (by decide) rfl ?_
      refine a_goto B 35 d_Bt_leastOfTop_73 rfl ?_
      first | (have hst : ltI Kf (farE T (2 * tN T - 2) i) i (j + 1) (ltO T Kf i) = (ltI Kf (farE T (2 * tN T - 2) i) i j (ltO T Kf i)) := (by rw [ltI, if_neg (by rw [tb_0 c_52]; decide)])) | (have hst : ltI Kf (farE T (2 * tN T - 2) i) i (j + 1) (ltO T Kf i) = omin (ltI Kf (farE T (2 * tN T - 2) i) i j (ltO T Kf i)) (Kf i j) := (by rw [ltI, if_pos (tb_1 c_52)]))
      rw [hst] at ihj
      exact ihj
    · skip
      refine a_iload B d_Bt_leastOfTop_35 rfl ?_
      refine a_aload_n B d_Bt_leastOfTop_37 rfl rfl ?_
      refine gf_Tr_leafCount B (by first | assumption | omega) d_Bt_leastOfTop_38 fl_Bt_28 ?_
      rw [a12]
      first | refine b_icmp_ge B 76 d_Bt_leastOfTop_41 rfl (by omega) (by omega) (fun c_41 => ?_) (fun c_41 => ?_) | refine a_icmp_ge B 76 d_Bt_leastOfTop_41 rfl (fun c_41 => ?_) (fun c_41 => ?_)
      · skip
        first | refine b_iinc (lv1 := [(0, _), (1, _), (2, _), (3, _), (5, _), (6, _), (7, _)]) B d_Bt_leastOfTop_76 rfl ci_1 (by decide) rfl ?_ | refine a_iinc (lv1 := [(0, _), (1, _), (2, _), (3, _), (5, _), (6, _), (7, _)]) B d_Bt_leastOfTop_76 rfl rfl (by decide) rfl ?_
        refine a_goto B 14 d_Bt_leastOfTop_79 rfl ?_
        refine a_sub (lv1 := [(0, _), (1, _), (2, _), (3, _), (5, _)]) rfl ?_
        exact ihi
      exact absurd c_41 (by omega)
  · skip
    refine a_iload B d_Bt_leastOfTop_14 rfl ?_
    refine a_aload_n B d_Bt_leastOfTop_16 rfl rfl ?_
    refine gf_Tr_leafCount B (by first | assumption | omega) d_Bt_leastOfTop_17 fl_Bt_28 ?_
    rw [a12]
    first | refine b_icmp_ge B 82 d_Bt_leastOfTop_20 rfl (by omega) (by omega) (fun c_20 => ?_) (fun c_20 => ?_) | refine a_icmp_ge B 82 d_Bt_leastOfTop_20 rfl (fun c_20 => ?_) (fun c_20 => ?_)
    · skip
      refine a_lload_n B d_Bt_leastOfTop_82 rfl rfl ?_
      exact Rt _ _ _ _ d_Bt_leastOfTop_83 ⟨rfl, rfl⟩
    exact absurd c_20 (by omega)
theorem d_Bt_readPlaces_0 : decode prog_3_method_9_code 0 = .ok (.aload_n 0, 1) := by decide +kernel
theorem d_Bt_readPlaces_1 : decode prog_3_method_9_code 1 = .ok (.getfield 16, 3) := by decide +kernel
theorem d_Bt_readPlaces_4 : decode prog_3_method_9_code 4 = .ok (.bipush (-9), 2) := by decide +kernel
theorem d_Bt_readPlaces_6 : decode prog_3_method_9_code 6 = .ok (.invokestatic 98, 3) := by decide +kernel
theorem d_Bt_readPlaces_9 : decode prog_3_method_9_code 9 = .ok (.lload_n 1, 1) := by decide +kernel
theorem d_Bt_readPlaces_10 : decode prog_3_method_9_code 10 = .ok (.lstore 4, 2) := by decide +kernel
theorem d_Bt_readPlaces_12 : decode prog_3_method_9_code 12 = .ok (.iload_n 3, 1) := by decide +kernel
theorem d_Bt_readPlaces_13 : decode prog_3_method_9_code 13 = .ok (.iconst 1, 1) := by decide +kernel
theorem d_Bt_readPlaces_14 : decode prog_3_method_9_code 14 = .ok (.isub, 1) := by decide +kernel
theorem d_Bt_readPlaces_15 : decode prog_3_method_9_code 15 = .ok (.istore 6, 2) := by decide +kernel
theorem d_Bt_readPlaces_17 : decode prog_3_method_9_code 17 = .ok (.iload 6, 2) := by decide +kernel
theorem d_Bt_readPlaces_19 : decode prog_3_method_9_code 19 = .ok (.ifCond .lt 40, 3) := by decide +kernel
theorem d_Bt_readPlaces_22 : decode prog_3_method_9_code 22 = .ok (.lload 4, 2) := by decide +kernel
theorem d_Bt_readPlaces_24 : decode prog_3_method_9_code 24 = .ok (.ldc2_w 101, 3) := by decide +kernel
theorem d_Bt_readPlaces_27 : decode prog_3_method_9_code 27 = .ok (.land, 1) := by decide +kernel
theorem d_Bt_readPlaces_28 : decode prog_3_method_9_code 28 = .ok (.l2i, 1) := by decide +kernel
theorem d_Bt_readPlaces_29 : decode prog_3_method_9_code 29 = .ok (.istore 7, 2) := by decide +kernel
theorem d_Bt_readPlaces_31 : decode prog_3_method_9_code 31 = .ok (.iload 7, 2) := by decide +kernel
theorem d_Bt_readPlaces_33 : decode prog_3_method_9_code 33 = .ok (.bipush 10, 2) := by decide +kernel
theorem d_Bt_readPlaces_35 : decode prog_3_method_9_code 35 = .ok (.if_icmp .ge 12, 3) := by decide +kernel
theorem d_Bt_readPlaces_38 : decode prog_3_method_9_code 38 = .ok (.aload_n 0, 1) := by decide +kernel
theorem d_Bt_readPlaces_39 : decode prog_3_method_9_code 39 = .ok (.getfield 16, 3) := by decide +kernel
theorem d_Bt_readPlaces_42 : decode prog_3_method_9_code 42 = .ok (.iload 7, 2) := by decide +kernel
theorem d_Bt_readPlaces_44 : decode prog_3_method_9_code 44 = .ok (.iload 6, 2) := by decide +kernel
theorem d_Bt_readPlaces_46 : decode prog_3_method_9_code 46 = .ok (.iastore, 1) := by decide +kernel
theorem d_Bt_readPlaces_47 : decode prog_3_method_9_code 47 = .ok (.lload 4, 2) := by decide +kernel
theorem d_Bt_readPlaces_49 : decode prog_3_method_9_code 49 = .ok (.iconst 4, 1) := by decide +kernel
theorem d_Bt_readPlaces_50 : decode prog_3_method_9_code 50 = .ok (.lshr, 1) := by decide +kernel
theorem d_Bt_readPlaces_51 : decode prog_3_method_9_code 51 = .ok (.lstore 4, 2) := by decide +kernel
theorem d_Bt_readPlaces_53 : decode prog_3_method_9_code 53 = .ok (.iinc 6 (-1), 3) := by decide +kernel
theorem d_Bt_readPlaces_56 : decode prog_3_method_9_code 56 = .ok (.goto (-39), 3) := by decide +kernel
theorem d_Bt_readPlaces_59 : decode prog_3_method_9_code 59 = .ok (.return_, 1) := by decide +kernel
set_option maxHeartbeats 4000000 in
set_option maxRecDepth 20000 in
theorem t_Bt_readPlaces {g : GG} (G : Gok g) {σ : AH} {k n : Nat} (hk : k < 2 ^ 60) (hn : 1 ≤ n) (hn2 : n ≤ 10) : TerV g 1 m_Bt_readPlaces [rV 8, lV (lN k), iV (nI n)] σ (fun τ => τ = up1 σ 10 (rdF (σ.1 10) k n n)) := by
  refine TerV.mk G (by decide +kernel) rfl (Nat.le_of_ble_eq_true rfl) (fun K B Rt => ?_)
  have B : Cx g K prog_3_method_9_code 8 R_Bt 1 := B
  have Rt : RetV g K prog_3_method_9_code 8 (fun τ => τ = up1 σ 10 (rdF (σ.1 10) k n n)) := Rt
  show AW g K 8 0 [(0, rV 8), (1, lV (lN k)), (3, iV (nI n))] [] σ
  refine a_aload_n B d_Bt_readPlaces_0 rfl rfl ?_
  refine gf_Bt_places B d_Bt_readPlaces_1 fl_Bt_16 ?_
  refine a_bipush B d_Bt_readPlaces_4 cb_m9 ?_
  refine a_callSV B (t_Ar_fillI G ly_10 (-9)) d_Bt_readPlaces_6 ok_Ar_fill_IIV ml_Bt_98 rfl (by decide) (by decide) rfl (Nat.le_of_ble_eq_true rfl) (fun τ_6 h_6 => ?_)
  subst h_6
  refine a_lload_n B d_Bt_readPlaces_9 rfl rfl ?_
  refine a_lstore (lv1 := [(0, _), (1, _), (3, _), (4, _)]) B d_Bt_readPlaces_10 (by decide) rfl ?_
  refine a_iload_n B d_Bt_readPlaces_12 rfl rfl ?_
  refine a_iconst B d_Bt_readPlaces_13 ci_1 ?_
  first | refine b_isub B (by omega) d_Bt_readPlaces_14 ?_ | refine a_isub B d_Bt_readPlaces_14 ?_
  refine a_istore (lv1 := [(0, _), (1, _), (3, _), (4, _), (6, _)]) B d_Bt_readPlaces_15 (by decide) rfl ?_
  refine a_forR n (fun i lv τ => lv = [(0, rV 8), (1, lV (lN k)), (3, iV (nI n)), (4, lV (lN (k / 16 ^ i))), (6, iV (dnJ n i))] ∧ τ = up1 σ 10 (rdF (σ.1 10) k n i)) (fun i lv τ hi hI ihi => ?_) (fun lv τ hI => ?_) 0 (Nat.zero_le _) _ _ ⟨by rw [dnJ_lt (by omega), Nat.pow_zero, Nat.div_one]; rfl, rfl⟩
  · skip
    obtain ⟨rfl, rfl⟩ := hI
    rw [dnJ_lt hi]
    refine a_iload B d_Bt_readPlaces_17 rfl ?_
    refine b_if_lt B 59 d_Bt_readPlaces_19 rfl (by first | assumption | omega) ?_
    refine a_lload B d_Bt_readPlaces_22 rfl ?_
    refine a_ldc2 B d_Bt_readPlaces_24 kl_Bt_101 ?_
    refine a_land B d_Bt_readPlaces_27 ?_
    rw [show (15 : Int64) = lN (2 ^ 4 - 1) from by decide, g_mask (s := 4) rfl (by decide) (by have := Nat.div_le_self k (16 ^ i); omega)]
    refine a_l2i B d_Bt_readPlaces_28 ?_
    rw [lN_i]
    refine a_istore (lv1 := [(0, _), (1, _), (3, _), (4, _), (6, _), (7, _)]) B d_Bt_readPlaces_29 (by decide) rfl ?_
    refine a_iload B d_Bt_readPlaces_31 rfl ?_
    refine a_bipush B d_Bt_readPlaces_33 cb_10 ?_
    first | refine b_icmp_ge B 47 d_Bt_readPlaces_35 rfl (by omega) (by omega) (fun c_35 => ?_) (fun c_35 => ?_) | refine a_icmp_ge B 47 d_Bt_readPlaces_35 rfl (fun c_35 => ?_) (fun c_35 => ?_)
    · skip
      refine a_lload B d_Bt_readPlaces_47 rfl ?_
      refine a_iconst B d_Bt_readPlaces_49 ci_4 ?_
      refine a_lshr B d_Bt_readPlaces_50 ?_
      rw [pf_shr (d := 4) (by decide) (by have := Nat.div_le_self k (16 ^ i); omega), Nat.div_div_eq_div_mul, show 16 ^ i * 2 ^ 4 = 16 ^ (i + 1) from (Nat.pow_succ 16 i).symm]
      refine a_lstore (lv1 := [(0, _), (1, _), (3, _), (4, _), (6, _), (7, _)]) B d_Bt_readPlaces_51 (by decide) rfl ?_
      refine a_iinc (lv1 := [(0, _), (1, _), (3, _), (4, _), (6, _), (7, _)]) B d_Bt_readPlaces_53 rfl (by rw [ci_m1]) (by decide) rfl ?_
      refine a_goto B 17 d_Bt_readPlaces_56 rfl ?_
      refine a_sub (lv1 := [(0, _), (1, _), (3, _), (4, _), (6, _)]) rfl ?_
      first | exact ihi _ _ ⟨by rw [dnJ_step hi], by rw [rdF, if_neg (by omega)]⟩ | exact ihi _ _ ⟨by rw [dnJ_step hi], by rw [rdF, if_pos c_35]⟩
    refine a_aload_n B d_Bt_readPlaces_38 rfl rfl ?_
    refine gf_Bt_places B d_Bt_readPlaces_39 fl_Bt_16 ?_
    refine a_iload B d_Bt_readPlaces_42 rfl ?_
    refine a_iload B d_Bt_readPlaces_44 rfl ?_
    refine a_iast B ly_10 _ rfl (by first | assumption | omega) d_Bt_readPlaces_46 ?_
    rw [up1_s, up1_up1]
    refine a_lload B d_Bt_readPlaces_47 rfl ?_
    refine a_iconst B d_Bt_readPlaces_49 ci_4 ?_
    refine a_lshr B d_Bt_readPlaces_50 ?_
    rw [pf_shr (d := 4) (by decide) (by have := Nat.div_le_self k (16 ^ i); omega), Nat.div_div_eq_div_mul, show 16 ^ i * 2 ^ 4 = 16 ^ (i + 1) from (Nat.pow_succ 16 i).symm]
    refine a_lstore (lv1 := [(0, _), (1, _), (3, _), (4, _), (6, _), (7, _)]) B d_Bt_readPlaces_51 (by decide) rfl ?_
    refine a_iinc (lv1 := [(0, _), (1, _), (3, _), (4, _), (6, _), (7, _)]) B d_Bt_readPlaces_53 rfl (by rw [ci_m1]) (by decide) rfl ?_
    refine a_goto B 17 d_Bt_readPlaces_56 rfl ?_
    refine a_sub (lv1 := [(0, _), (1, _), (3, _), (4, _), (6, _)]) rfl ?_
    first | exact ihi _ _ ⟨by rw [dnJ_step hi], by rw [rdF, if_neg (by omega)]⟩ | exact ihi _ _ ⟨by rw [dnJ_step hi], by rw [rdF, if_pos c_35]⟩
  · skip
    obtain ⟨rfl, rfl⟩ := hI
    rw [dnJ_end]
    refine a_iload B d_Bt_readPlaces_17 rfl ?_
    refine a_if_lt B 59 d_Bt_readPlaces_19 rfl (fun c_19 => ?_) (fun c_19 => ?_)
    · skip
      exact Rt _ _ _ d_Bt_readPlaces_59 rfl
    · exact absurd (by decide) c_19
theorem sideK_okO {T : TT} (hW : Wf T) {u : Nat → Nat → Nat} {Kf : KF} {j : Nat} (hj : tN T ≤ j) (hj2 : j < 2 * tN T - 1) (h : ∀ a c, hasL T (tR T j) a = true → (farE T (tR T j) a).testBit c = true → okO (cB (tM T (tR T j))) (Kf a c)) : ∀ a c, hasL T (tR T j) a = true → (farE T (tR T j) a).testBit c = true → okO (cB (tM T (tR T j))) (sideK T u Kf (tL T j) (tR T j) a c) := fun a c ha hc => by
  rw [sideK_off (fun q => hasL_dis hW hj hj2 ⟨q.1, ha⟩)]
  exact h a c ha hc
theorem sideK_okO2 {T : TT} (hW : Wf T) {u : Nat → Nat → Nat} {Kf : KF} {j : Nat} (hj : tN T ≤ j) (hj2 : j < 2 * tN T - 1) (h : ∀ b d, hasL T (tL T j) b = true → (farE T (tL T j) b).testBit d = true → okO (cB (tM T (tL T j))) (Kf d b)) : ∀ b d, hasL T (tL T j) b = true → (farE T (tL T j) b).testBit d = true → okO (cB (tM T (tL T j))) (sideK T u Kf (tL T j) (tR T j) d b) := fun b d hb hd => by
  rw [sideK_off (fun q => hasL_dis hW hj hj2 ⟨hb, q.2⟩)]
  exact h b d hb hd
theorem d_Bt_find_0 : decode prog_3_method_2_code 0 = .ok (.iconst 0, 1) := by decide +kernel
theorem d_Bt_find_1 : decode prog_3_method_2_code 1 = .ok (.istore_n 3, 1) := by decide +kernel
theorem d_Bt_find_2 : decode prog_3_method_2_code 2 = .ok (.iload_n 3, 1) := by decide +kernel
theorem d_Bt_find_3 : decode prog_3_method_2_code 3 = .ok (.bipush 10, 2) := by decide +kernel
theorem d_Bt_find_5 : decode prog_3_method_2_code 5 = .ok (.if_icmp .ge 31, 3) := by decide +kernel
theorem d_Bt_find_8 : decode prog_3_method_2_code 8 = .ok (.aload_n 0, 1) := by decide +kernel
theorem d_Bt_find_9 : decode prog_3_method_2_code 9 = .ok (.getfield 13, 3) := by decide +kernel
theorem d_Bt_find_12 : decode prog_3_method_2_code 12 = .ok (.iload_n 3, 1) := by decide +kernel
theorem d_Bt_find_13 : decode prog_3_method_2_code 13 = .ok (.aaload, 1) := by decide +kernel
theorem d_Bt_find_14 : decode prog_3_method_2_code 14 = .ok (.ldc2_w 20, 3) := by decide +kernel
theorem d_Bt_find_17 : decode prog_3_method_2_code 17 = .ok (.invokestatic 22, 3) := by decide +kernel
theorem d_Bt_find_20 : decode prog_3_method_2_code 20 = .ok (.aload_n 0, 1) := by decide +kernel
theorem d_Bt_find_21 : decode prog_3_method_2_code 21 = .ok (.getfield 13, 3) := by decide +kernel
theorem d_Bt_find_24 : decode prog_3_method_2_code 24 = .ok (.iload_n 3, 1) := by decide +kernel
theorem d_Bt_find_25 : decode prog_3_method_2_code 25 = .ok (.aaload, 1) := by decide +kernel
theorem d_Bt_find_26 : decode prog_3_method_2_code 26 = .ok (.iload_n 3, 1) := by decide +kernel
theorem d_Bt_find_27 : decode prog_3_method_2_code 27 = .ok (.iload_n 3, 1) := by decide +kernel
theorem d_Bt_find_28 : decode prog_3_method_2_code 28 = .ok (.i2l, 1) := by decide +kernel
theorem d_Bt_find_29 : decode prog_3_method_2_code 29 = .ok (.lastore, 1) := by decide +kernel
theorem d_Bt_find_30 : decode prog_3_method_2_code 30 = .ok (.iinc 3 1, 3) := by decide +kernel
theorem d_Bt_find_33 : decode prog_3_method_2_code 33 = .ok (.goto (-31), 3) := by decide +kernel
theorem d_Bt_find_36 : decode prog_3_method_2_code 36 = .ok (.aload_n 1, 1) := by decide +kernel
theorem d_Bt_find_37 : decode prog_3_method_2_code 37 = .ok (.getfield 28, 3) := by decide +kernel
theorem d_Bt_find_40 : decode prog_3_method_2_code 40 = .ok (.istore_n 3, 1) := by decide +kernel
theorem d_Bt_find_41 : decode prog_3_method_2_code 41 = .ok (.iload_n 3, 1) := by decide +kernel
theorem d_Bt_find_42 : decode prog_3_method_2_code 42 = .ok (.aload_n 1, 1) := by decide +kernel
theorem d_Bt_find_43 : decode prog_3_method_2_code 43 = .ok (.getfield 34, 3) := by decide +kernel
theorem d_Bt_find_46 : decode prog_3_method_2_code 46 = .ok (.if_icmp .ge 54, 3) := by decide +kernel
theorem d_Bt_find_49 : decode prog_3_method_2_code 49 = .ok (.aload_n 0, 1) := by decide +kernel
theorem d_Bt_find_50 : decode prog_3_method_2_code 50 = .ok (.aload_n 1, 1) := by decide +kernel
theorem d_Bt_find_51 : decode prog_3_method_2_code 51 = .ok (.aload_n 2, 1) := by decide +kernel
theorem d_Bt_find_52 : decode prog_3_method_2_code 52 = .ok (.aload_n 1, 1) := by decide +kernel
theorem d_Bt_find_53 : decode prog_3_method_2_code 53 = .ok (.getfield 37, 3) := by decide +kernel
theorem d_Bt_find_56 : decode prog_3_method_2_code 56 = .ok (.iload_n 3, 1) := by decide +kernel
theorem d_Bt_find_57 : decode prog_3_method_2_code 57 = .ok (.iaload, 1) := by decide +kernel
theorem d_Bt_find_58 : decode prog_3_method_2_code 58 = .ok (.aload_n 1, 1) := by decide +kernel
theorem d_Bt_find_59 : decode prog_3_method_2_code 59 = .ok (.getfield 40, 3) := by decide +kernel
theorem d_Bt_find_62 : decode prog_3_method_2_code 62 = .ok (.iload_n 3, 1) := by decide +kernel
theorem d_Bt_find_63 : decode prog_3_method_2_code 63 = .ok (.iaload, 1) := by decide +kernel
theorem d_Bt_find_64 : decode prog_3_method_2_code 64 = .ok (.invokevirtual 43, 3) := by decide +kernel
theorem d_Bt_find_67 : decode prog_3_method_2_code 67 = .ok (.aload_n 1, 1) := by decide +kernel
theorem d_Bt_find_68 : decode prog_3_method_2_code 68 = .ok (.getfield 47, 3) := by decide +kernel
theorem d_Bt_find_71 : decode prog_3_method_2_code 71 = .ok (.iload_n 3, 1) := by decide +kernel
theorem d_Bt_find_72 : decode prog_3_method_2_code 72 = .ok (.baload, 1) := by decide +kernel
theorem d_Bt_find_73 : decode prog_3_method_2_code 73 = .ok (.ifCond .ne 21, 3) := by decide +kernel
theorem d_Bt_find_76 : decode prog_3_method_2_code 76 = .ok (.aload_n 0, 1) := by decide +kernel
theorem d_Bt_find_77 : decode prog_3_method_2_code 77 = .ok (.aload_n 1, 1) := by decide +kernel
theorem d_Bt_find_78 : decode prog_3_method_2_code 78 = .ok (.aload_n 2, 1) := by decide +kernel
theorem d_Bt_find_79 : decode prog_3_method_2_code 79 = .ok (.aload_n 1, 1) := by decide +kernel
theorem d_Bt_find_80 : decode prog_3_method_2_code 80 = .ok (.getfield 40, 3) := by decide +kernel
theorem d_Bt_find_83 : decode prog_3_method_2_code 83 = .ok (.iload_n 3, 1) := by decide +kernel
theorem d_Bt_find_84 : decode prog_3_method_2_code 84 = .ok (.iaload, 1) := by decide +kernel
theorem d_Bt_find_85 : decode prog_3_method_2_code 85 = .ok (.aload_n 1, 1) := by decide +kernel
theorem d_Bt_find_86 : decode prog_3_method_2_code 86 = .ok (.getfield 37, 3) := by decide +kernel
theorem d_Bt_find_89 : decode prog_3_method_2_code 89 = .ok (.iload_n 3, 1) := by decide +kernel
theorem d_Bt_find_90 : decode prog_3_method_2_code 90 = .ok (.iaload, 1) := by decide +kernel
theorem d_Bt_find_91 : decode prog_3_method_2_code 91 = .ok (.invokevirtual 43, 3) := by decide +kernel
theorem d_Bt_find_94 : decode prog_3_method_2_code 94 = .ok (.iinc 3 1, 3) := by decide +kernel
theorem d_Bt_find_97 : decode prog_3_method_2_code 97 = .ok (.goto (-56), 3) := by decide +kernel
theorem d_Bt_find_100 : decode prog_3_method_2_code 100 = .ok (.aload_n 0, 1) := by decide +kernel
theorem d_Bt_find_101 : decode prog_3_method_2_code 101 = .ok (.aload_n 0, 1) := by decide +kernel
theorem d_Bt_find_102 : decode prog_3_method_2_code 102 = .ok (.aload_n 1, 1) := by decide +kernel
theorem d_Bt_find_103 : decode prog_3_method_2_code 103 = .ok (.invokevirtual 51, 3) := by decide +kernel
theorem d_Bt_find_106 : decode prog_3_method_2_code 106 = .ok (.aload_n 1, 1) := by decide +kernel
theorem d_Bt_find_107 : decode prog_3_method_2_code 107 = .ok (.getfield 28, 3) := by decide +kernel
theorem d_Bt_find_110 : decode prog_3_method_2_code 110 = .ok (.invokevirtual 55, 3) := by decide +kernel
theorem d_Bt_find_113 : decode prog_3_method_2_code 113 = .ok (.return_, 1) := by decide +kernel
set_option maxHeartbeats 4000000 in
set_option maxRecDepth 20000 in
theorem t_Bt_find {g : GG} (G : Gok g) {σ : AH} {t : Nat} {T : TT} (ht : t < 4) (hW : Wf T) (hA : RtA σ t T) (hB : RtB σ t T) {n0 : Nat} {th : Nat → Bool} {pl : Nat → Nat → Nat} (hR : RoC σ n0 th pl) : TerV g 4 m_Bt_find [rV 8, rV (tI t), rV 1] σ (fun τ => ∃ l, VT T (2 * tN T - 2) l ∧ (∀ m, VT T (2 * tN T - 2) m → keyL (unl n0 th pl) l ≤ keyL (unl n0 th pl) m) ∧ τ.1 = (up1 σ 10 (rdF (σ.1 10) (keyL (unl n0 th pl) l) (tN T) (tN T))).1 ∧ ∀ k, (k < 40 ∨ 50 ≤ k) → τ.2 k = σ.2 k) := by
  refine TerV.mk G (by decide +kernel) rfl (Nat.le_of_ble_eq_true rfl) (fun K B Rt => ?_)
  have B : Cx g K prog_3_method_2_code 4 R_Bt 4 := B
  have Rt : RetV g K prog_3_method_2_code 4 (fun τ => ∃ l, VT T (2 * tN T - 2) l ∧ (∀ m, VT T (2 * tN T - 2) m → keyL (unl n0 th pl) l ≤ keyL (unl n0 th pl) m) ∧ τ.1 = (up1 σ 10 (rdF (σ.1 10) (keyL (unl n0 th pl) l) (tN T) (tN T))).1 ∧ ∀ k, (k < 40 ∨ 50 ≤ k) → τ.2 k = σ.2 k) := Rt
  show AW g K 4 0 [(0, rV 8), (1, rV (tI t)), (2, rV 1)] [] σ
  have hA0 := hA
  obtain ⟨a12, a13, a3, a3t, a4, a5, a6, a8⟩ := hA
  obtain ⟨b0, b1, b7⟩ := id hB
  obtain ⟨w1, w10, wj, wu, wl, wm, wt, wb, wh⟩ := id hW
  have hu : ∀ a b, (unl n0 th pl) a b ≤ 10000 := unl_le hR.2.2.2.2
  refine a_iconst B d_Bt_find_0 ci_0 ?_
  refine a_istore_n (lv1 := [(0, _), (1, _), (2, _), (3, _)]) B d_Bt_find_1 rfl (by decide) rfl ?_
  refine a_forR 10 (fun i lv τ => lv = [(0, rV 8), (1, rV (tI t)), (2, rV 1), (3, iV (nI i))] ∧ τ.1 = σ.1 ∧ (∀ k, (k < 40 ∨ 50 ≤ k) → τ.2 k = σ.2 k) ∧ ∀ a b, a < i → b < 10 → τ.2 (40 + a) b = oL (initK a b)) (fun i lv τ hi hI ihi => ?_) (fun lv τ hI => ?_) 0 (Nat.zero_le _) _ _ ⟨rfl, rfl, fun _ _ => rfl, fun a b ha => absurd ha (Nat.not_lt_zero a)⟩
  · skip
    obtain ⟨rfl, e1, hO, hF⟩ := hI
    refine a_iload_n B d_Bt_find_2 rfl rfl ?_
    refine a_bipush B d_Bt_find_3 cb_10 ?_
    first | refine b_icmp_ge B 36 d_Bt_find_5 rfl (by omega) (by omega) (fun c_5 => ?_) (fun c_5 => ?_) | refine a_icmp_ge B 36 d_Bt_find_5 rfl (fun c_5 => ?_) (fun c_5 => ?_)
    · skip
      exact absurd c_5 (by omega)
    refine a_aload_n B d_Bt_find_8 rfl rfl ?_
    refine gf_Bt_keys B d_Bt_find_9 fl_Bt_13 ?_
    refine a_iload_n B d_Bt_find_12 rfl rfl ?_
    refine al_ke B _ rfl (by first | assumption | omega) d_Bt_find_13 ?_
    refine a_ldc2 B d_Bt_find_14 kl_Bt_20 ?_
    refine a_callSV B (t_Ar_fillL G (ly_ke hi) (-1)) d_Bt_find_17 ok_Ar_fill_JJV ml_Bt_22 rfl (by decide) (by decide) rfl (Nat.le_of_ble_eq_true rfl) (fun τ_17 h_17 => ?_)
    subst h_17
    refine a_aload_n B d_Bt_find_20 rfl rfl ?_
    refine gf_Bt_keys B d_Bt_find_21 fl_Bt_13 ?_
    refine a_iload_n B d_Bt_find_24 rfl rfl ?_
    refine al_ke B _ rfl (by first | assumption | omega) d_Bt_find_25 ?_
    refine a_iload_n B d_Bt_find_26 rfl rfl ?_
    refine a_iload_n B d_Bt_find_27 rfl rfl ?_
    refine a_i2l B d_Bt_find_28 ?_
    rw [nI_l (by omega)]
    refine a_last B (ly_ke (by first | assumption | omega)) _ rfl (by first | assumption | omega) d_Bt_find_29 ?_
    rw [up2_s, up2_up2]
    first | refine b_iinc (lv1 := [(0, _), (1, _), (2, _), (3, _)]) B d_Bt_find_30 rfl ci_1 (by decide) rfl ?_ | refine a_iinc (lv1 := [(0, _), (1, _), (2, _), (3, _)]) B d_Bt_find_30 rfl rfl (by decide) rfl ?_
    refine a_goto B 2 d_Bt_find_33 rfl ?_
    refine ihi _ _ ⟨rfl, e1, fun k q => by rw [up2_o (by omega)]; exact hO k q, fun a b ha hb => ?_⟩
    by_cases e : a = i
    · subst e
      rw [up2_s]
      unfold initK
      by_cases e2 : a = b
      · subst e2; rw [if_pos rfl]; simp [vp_updL]; rfl
      · have e3 : ¬ b = a := fun q => e2 q.symm
        rw [if_neg e2]; simp [vp_updL, e3, fillF, hb]; rfl
    · rw [up2_o (by omega)]; exact hF a b (by omega) hb
  · skip
    obtain ⟨rfl, e1, hO, hF⟩ := hI
    refine a_iload_n B d_Bt_find_2 rfl rfl ?_
    refine a_bipush B d_Bt_find_3 cb_10 ?_
    first | refine b_icmp_ge B 36 d_Bt_find_5 rfl (by omega) (by omega) (fun c_5 => ?_) (fun c_5 => ?_) | refine a_icmp_ge B 36 d_Bt_find_5 rfl (fun c_5 => ?_) (fun c_5 => ?_)
    · skip
      refine a_aload_n B d_Bt_find_36 rfl rfl ?_
      refine gf_Tr_leafCount B (by first | assumption | omega) d_Bt_find_37 fl_Bt_28 ?_
      rw [e1, a12]
      refine a_istore_n (lv1 := [(0, _), (1, _), (2, _), (3, _)]) B d_Bt_find_40 rfl (by decide) rfl ?_
      refine a_forR (tN T - 1) (fun i lv τ => lv = [(0, rV 8), (1, rV (tI t)), (2, rV 1), (3, iV (nI (tN T + i)))] ∧ τ.1 = σ.1 ∧ (∀ k, (k < 40 ∨ 50 ≤ k) → τ.2 k = σ.2 k) ∧ KyC τ (bkS T (unl n0 th pl) i)) (fun i lv τ hi hI ihi => ?_) (fun lv τ hI => ?_) 0 (Nat.zero_le _) _ _ ⟨rfl, e1, hO, fun a b ha hb => hF a b ha hb⟩
      · skip
        obtain ⟨rfl, e1, hO, hKi⟩ := hI
        refine a_iload_n B d_Bt_find_41 rfl rfl ?_
        refine a_aload_n B d_Bt_find_42 rfl rfl ?_
        refine gf_Tr_nodeCount B (by first | assumption | omega) d_Bt_find_43 fl_Bt_34 ?_
        rw [e1, a13]
        first | refine b_icmp_ge B 100 d_Bt_find_46 rfl (by omega) (by omega) (fun c_46 => ?_) (fun c_46 => ?_) | refine a_icmp_ge B 100 d_Bt_find_46 rfl (fun c_46 => ?_) (fun c_46 => ?_)
        · skip
          exact absurd c_46 (by omega)
        have qj := wj (tN T + i) (by omega) (by omega)
        have dis := fun x => hasL_dis hW (x := x) (j := tN T + i) (by omega) (by omega)
        have hs : cB (tM T (tL T (tN T + i))) + cB (tM T (tR T (tN T + i))) ≤ 10 := by rw [← cB_join hW (by omega) (by omega)]; exact cB_le _
        have hKI := bkS_inv hW (unl n0 th pl) i (by omega)
        have okA : ∀ ch, ch < tN T + i → ch < 2 * tN T - 1 → ∀ a c, hasL T ch a = true → (farE T ch a).testBit c = true → okO (cB (tM T ch)) (bkS T (unl n0 th pl) i a c) := fun ch h1 h2 a c h3 h4 => KInv_okO hW hu hKI h1 h2 h3 h4
        have okB : ∀ ch, ch < tN T + i → ch < 2 * tN T - 1 → ∀ b d, hasL T ch b = true → (farE T ch b).testBit d = true → okO (cB (tM T ch)) (bkS T (unl n0 th pl) i d b) := fun ch h1 h2 b d h3 h4 => by obtain ⟨q1, q2⟩ := far_sym hW h2 h3 h4; exact okA ch h1 h2 d b q1 q2
        refine a_aload_n B d_Bt_find_49 rfl rfl ?_
        refine a_aload_n B d_Bt_find_50 rfl rfl ?_
        refine a_aload_n B d_Bt_find_51 rfl rfl ?_
        refine a_aload_n B d_Bt_find_52 rfl rfl ?_
        refine gf_Tr_left B (by first | assumption | omega) d_Bt_find_53 fl_Bt_37 ?_
        refine a_iload_n B d_Bt_find_56 rfl rfl ?_
        refine a_iald B (ly_T_left (by first | assumption | omega)) _ rfl (by first | assumption | omega) d_Bt_find_57 ?_
        rw [e1, (b1 _ (by omega) (by omega)).1]
        refine a_aload_n B d_Bt_find_58 rfl rfl ?_
        refine gf_Tr_right B (by first | assumption | omega) d_Bt_find_59 fl_Bt_40 ?_
        refine a_iload_n B d_Bt_find_62 rfl rfl ?_
        refine a_iald B (ly_T_right (by first | assumption | omega)) _ rfl (by first | assumption | omega) d_Bt_find_63 ?_
        rw [e1, (b1 _ (by omega) (by omega)).2]
        refine a_callVV (ci := 1) B (t_Bt_setSide (v := tL T (tN T + i)) (w := tR T (tN T + i)) (s1 := cB (tM T (tL T (tN T + i)))) G ht hW (hA0.h e1) (hB.h e1) (hR.h e1) hKi (by omega) (by omega) dis (okA _ qj.1 (by omega)) (okB _ qj.2.1 (by omega)) hs) d_Bt_find_64 ok_Bt_setSide ml_Bt_43 ly_8 rfl rfl (by decide) (by decide) rfl (Nat.le_of_ble_eq_true rfl) (fun τ_64 h_64 => ?_)
        obtain ⟨f1, f2, f3⟩ := h_64
        replace f1 := f1.trans e1
        refine a_aload_n B d_Bt_find_67 rfl rfl ?_
        refine gf_Tr_held B (by first | assumption | omega) d_Bt_find_68 fl_Bt_47 ?_
        refine a_iload_n B d_Bt_find_71 rfl rfl ?_
        refine a_zald B (ly_T_held (by first | assumption | omega)) _ rfl (by first | assumption | omega) d_Bt_find_72 ?_
        rw [f1, a8 _ (by omega)]
        first | refine b_if_ne_b B 94 d_Bt_find_73 rfl (fun c_73 => ?_) (fun c_73 => ?_) | refine a_if_ne B 94 d_Bt_find_73 rfl (fun c_73 => ?_) (fun c_73 => ?_)
        · skip
          first | refine b_iinc (lv1 := [(0, _), (1, _), (2, _), (3, _)]) B d_Bt_find_94 rfl ci_1 (by decide) rfl ?_ | refine a_iinc (lv1 := [(0, _), (1, _), (2, _), (3, _)]) B d_Bt_find_94 rfl rfl (by decide) rfl ?_
          refine a_goto B 41 d_Bt_find_97 rfl ?_
          first | exact ihi _ _ ⟨rfl, f1, fun k q => by rw [f2 k q]; exact hO k q, by rw [bkS, stepK, if_pos c_73]; exact f3⟩ | exact ihi _ _ ⟨rfl, g1.trans f1, fun k q => by rw [g2 k q, f2 k q]; exact hO k q, by rw [bkS, stepK, if_neg (by rw [c_73]; decide)]; exact g3⟩
        refine a_aload_n B d_Bt_find_76 rfl rfl ?_
        refine a_aload_n B d_Bt_find_77 rfl rfl ?_
        refine a_aload_n B d_Bt_find_78 rfl rfl ?_
        refine a_aload_n B d_Bt_find_79 rfl rfl ?_
        refine gf_Tr_right B (by first | assumption | omega) d_Bt_find_80 fl_Bt_40 ?_
        refine a_iload_n B d_Bt_find_83 rfl rfl ?_
        refine a_iald B (ly_T_right (by first | assumption | omega)) _ rfl (by first | assumption | omega) d_Bt_find_84 ?_
        rw [f1, (b1 _ (by omega) (by omega)).2]
        refine a_aload_n B d_Bt_find_85 rfl rfl ?_
        refine gf_Tr_left B (by first | assumption | omega) d_Bt_find_86 fl_Bt_37 ?_
        refine a_iload_n B d_Bt_find_89 rfl rfl ?_
        refine a_iald B (ly_T_left (by first | assumption | omega)) _ rfl (by first | assumption | omega) d_Bt_find_90 ?_
        rw [f1, (b1 _ (by omega) (by omega)).1]
        refine a_callVV (ci := 1) B (t_Bt_setSide (v := tR T (tN T + i)) (w := tL T (tN T + i)) (s1 := cB (tM T (tR T (tN T + i)))) G ht hW (hA0.h f1) (hB.h f1) (hR.h f1) f3 (by omega) (by omega) (fun x q => dis x ⟨q.2, q.1⟩) (sideK_okO hW (by omega) (by omega) (okA _ qj.2.1 (by omega))) (sideK_okO2 hW (by omega) (by omega) (okB _ qj.1 (by omega))) (by omega)) d_Bt_find_91 ok_Bt_setSide ml_Bt_43 ly_8 rfl rfl (by decide) (by decide) rfl (Nat.le_of_ble_eq_true rfl) (fun τ_91 h_91 => ?_)
        obtain ⟨g1, g2, g3⟩ := h_91
        first | refine b_iinc (lv1 := [(0, _), (1, _), (2, _), (3, _)]) B d_Bt_find_94 rfl ci_1 (by decide) rfl ?_ | refine a_iinc (lv1 := [(0, _), (1, _), (2, _), (3, _)]) B d_Bt_find_94 rfl rfl (by decide) rfl ?_
        refine a_goto B 41 d_Bt_find_97 rfl ?_
        first | exact ihi _ _ ⟨rfl, f1, fun k q => by rw [f2 k q]; exact hO k q, by rw [bkS, stepK, if_pos c_73]; exact f3⟩ | exact ihi _ _ ⟨rfl, g1.trans f1, fun k q => by rw [g2 k q, f2 k q]; exact hO k q, by rw [bkS, stepK, if_neg (by rw [c_73]; decide)]; exact g3⟩
      · skip
        obtain ⟨rfl, e1, hO, hKi⟩ := hI
        refine a_iload_n B d_Bt_find_41 rfl rfl ?_
        refine a_aload_n B d_Bt_find_42 rfl rfl ?_
        refine gf_Tr_nodeCount B (by first | assumption | omega) d_Bt_find_43 fl_Bt_34 ?_
        rw [e1, a13]
        first | refine b_icmp_ge B 100 d_Bt_find_46 rfl (by omega) (by omega) (fun c_46 => ?_) (fun c_46 => ?_) | refine a_icmp_ge B 100 d_Bt_find_46 rfl (fun c_46 => ?_) (fun c_46 => ?_)
        · skip
          obtain ⟨l, hl1, hl2, hl3⟩ := top_some hW (unl n0 th pl)
          have hKI := bkS_inv hW (unl n0 th pl) (tN T - 1) (Nat.le_refl _)
          rw [show tN T + (tN T - 1) = 2 * tN T - 1 by omega] at hKI
          have hok : ∀ a b, a < tN T → (farE T (2 * tN T - 2) a).testBit b = true → okO (tN T) (bkS T (unl n0 th pl) (tN T - 1) a b) := fun a b ha hb => by
            have h9 := KInv_okO hW hu hKI (v := 2 * tN T - 2) (by omega) (by omega) (a := a) (c := b) (by rw [hasL_top hW]; exact decide_eq_true ha) hb
            rw [wt, cB_full w10] at h9
            exact h9
          refine a_aload_n B d_Bt_find_100 rfl rfl ?_
          refine a_aload_n B d_Bt_find_101 rfl rfl ?_
          refine a_aload_n B d_Bt_find_102 rfl rfl ?_
          refine a_callVL (ci := 1) B (t_Bt_leastOfTop G ht hW (hA0.h e1) (hB.h e1) hKi hok) d_Bt_find_103 ok_Bt_leastOfTop ml_Bt_51 ly_8 rfl rfl (by decide) (by decide) rfl (Nat.le_of_ble_eq_true rfl) (fun r_103 τ_103 h_103 => ?_)
          obtain ⟨hr_103, hs_103⟩ := h_103
          subst hr_103
          replace hs_103 := hs_103.symm
          subst hs_103
          rw [hl2]
          have hk9 := okKey_lt (ltO_ok hok (tN T) (Nat.le_refl _) _ hl2) w10
          show AW g K 4 _ _ (lV (lN (keyL (unl n0 th pl) l)) :: _) _
          refine a_aload_n B d_Bt_find_106 rfl rfl ?_
          refine gf_Tr_leafCount B (by first | assumption | omega) d_Bt_find_107 fl_Bt_28 ?_
          rw [e1, a12]
          refine a_callVV (ci := 1) B (t_Bt_readPlaces G (by omega) w1 w10) d_Bt_find_110 ok_Bt_readPlaces ml_Bt_55 ly_8 rfl rfl (by decide) (by decide) rfl (Nat.le_of_ble_eq_true rfl) (fun τ_110 h_110 => ?_)
          subst h_110
          exact Rt _ _ _ d_Bt_find_113 ⟨l, hl1, hl3, by show va_up τ.1 10 (rdF (τ.1 10) (keyL (unl n0 th pl) l) (tN T) (tN T)) = va_up σ.1 10 (rdF (σ.1 10) (keyL (unl n0 th pl) l) (tN T) (tN T)); rw [e1], hO⟩
        exact absurd c_46 (by omega)
    exact absurd c_5 (by omega)
