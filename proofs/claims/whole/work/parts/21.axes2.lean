/-! axes: the class -/
theorem d_Ax_begin_0 : decode prog_2_method_2_code 0 = .ok (.aload_n 0, 1) := by decide +kernel
theorem d_Ax_begin_1 : decode prog_2_method_2_code 1 = .ok (.iload_n 1, 1) := by decide +kernel
theorem d_Ax_begin_2 : decode prog_2_method_2_code 2 = .ok (.putfield 23, 3) := by decide +kernel
theorem d_Ax_begin_5 : decode prog_2_method_2_code 5 = .ok (.iconst 0, 1) := by decide +kernel
theorem d_Ax_begin_6 : decode prog_2_method_2_code 6 = .ok (.istore_n 2, 1) := by decide +kernel
theorem d_Ax_begin_7 : decode prog_2_method_2_code 7 = .ok (.iload_n 2, 1) := by decide +kernel
theorem d_Ax_begin_8 : decode prog_2_method_2_code 8 = .ok (.bipush 8, 2) := by decide +kernel
theorem d_Ax_begin_10 : decode prog_2_method_2_code 10 = .ok (.if_icmp .ge 19, 3) := by decide +kernel
theorem d_Ax_begin_13 : decode prog_2_method_2_code 13 = .ok (.aload_n 0, 1) := by decide +kernel
theorem d_Ax_begin_14 : decode prog_2_method_2_code 14 = .ok (.getfield 11, 3) := by decide +kernel
theorem d_Ax_begin_17 : decode prog_2_method_2_code 17 = .ok (.iload_n 2, 1) := by decide +kernel
theorem d_Ax_begin_18 : decode prog_2_method_2_code 18 = .ok (.aaload, 1) := by decide +kernel
theorem d_Ax_begin_19 : decode prog_2_method_2_code 19 = .ok (.iconst 0, 1) := by decide +kernel
theorem d_Ax_begin_20 : decode prog_2_method_2_code 20 = .ok (.invokestatic 30, 3) := by decide +kernel
theorem d_Ax_begin_23 : decode prog_2_method_2_code 23 = .ok (.iinc 2 1, 3) := by decide +kernel
theorem d_Ax_begin_26 : decode prog_2_method_2_code 26 = .ok (.goto (-19), 3) := by decide +kernel
theorem d_Ax_begin_29 : decode prog_2_method_2_code 29 = .ok (.return_, 1) := by decide +kernel
set_option maxHeartbeats 4000000 in
set_option maxRecDepth 20000 in
theorem t_Ax_begin {g : GG} (G : Gok g) {σ : AH} {m : Nat} (hm : m ≤ 8) : TerV g 1 m_Ax_begin [rV 11, iV (nI m)] σ (fun τ => τ.2 = σ.2 ∧ τ.1 11 = upd (σ.1 11) 3 (nI m) ∧ (∀ a, a < 8 → ∀ b, b < 8 → τ.1 (50 + a) b = nI 0) ∧ ∀ k, k ≠ 11 → (k < 50 ∨ 58 ≤ k) → τ.1 k = σ.1 k) := by
  refine TerV.mk G (by decide +kernel) rfl (Nat.le_of_ble_eq_true rfl) (fun K B Rt => ?_)
  have B : Cx g K prog_2_method_2_code 3 R_Ax 1 := B
  have Rt : RetV g K prog_2_method_2_code 3 (fun τ => τ.2 = σ.2 ∧ τ.1 11 = upd (σ.1 11) 3 (nI m) ∧ (∀ a, a < 8 → ∀ b, b < 8 → τ.1 (50 + a) b = nI 0) ∧ ∀ k, k ≠ 11 → (k < 50 ∨ 58 ≤ k) → τ.1 k = σ.1 k) := Rt
  show AW g K 3 0 [(0, rV 11), (1, iV (nI m))] [] σ
  refine a_aload_n B d_Ax_begin_0 rfl rfl ?_
  refine a_iload_n B d_Ax_begin_1 rfl rfl ?_
  refine pf_Ax_axisCount B d_Ax_begin_2 fl_Ax_23 ?_
  refine a_iconst B d_Ax_begin_5 ci_0 ?_
  refine a_istore_n (lv1 := [(0, _), (1, _), (2, _)]) B d_Ax_begin_6 rfl (by decide) rfl ?_
  refine a_forR 8 (fun i lv τ => lv = [(0, rV 11), (1, iV (nI m)), (2, iV (nI i))] ∧ τ.2 = σ.2 ∧ τ.1 11 = upd (σ.1 11) 3 (nI m) ∧ (∀ a, a < i → ∀ b, b < 8 → τ.1 (50 + a) b = nI 0) ∧ ∀ k, k ≠ 11 → (k < 50 ∨ 58 ≤ k) → τ.1 k = σ.1 k) (fun i lv τ hi hI ihi => ?_) (fun lv τ hI => ?_) 0 (Nat.zero_le _) _ _ ⟨rfl, rfl, by rw [up1_s], fun a ha => absurd ha (Nat.not_lt_zero a), fun k q1 q2 => by rw [up1_o q1]⟩
  · skip
    obtain ⟨rfl, e2, h11, hF, hO⟩ := hI
    refine a_iload_n B d_Ax_begin_7 rfl rfl ?_
    refine a_bipush B d_Ax_begin_8 cb_8 ?_
    first | refine b_icmp_ge B 29 d_Ax_begin_10 rfl (by omega) (by omega) (fun c_10 => ?_) (fun c_10 => ?_) | refine a_icmp_ge B 29 d_Ax_begin_10 rfl (fun c_10 => ?_) (fun c_10 => ?_)
    · skip
      exact absurd c_10 (by omega)
    refine a_aload_n B d_Ax_begin_13 rfl rfl ?_
    refine gf_Ax_worths B d_Ax_begin_14 fl_Ax_11 ?_
    refine a_iload_n B d_Ax_begin_17 rfl rfl ?_
    refine al_wo B _ rfl (by first | assumption | omega) d_Ax_begin_18 ?_
    refine a_iconst B d_Ax_begin_19 ci_0 ?_
    refine a_callSV B (t_Ar_fillI G (ly_wo hi) (nI 0)) d_Ax_begin_20 ok_Ar_fill_IIV ml_Ax_30 rfl (by decide) (by decide) rfl (Nat.le_of_ble_eq_true rfl) (fun τ_20 h_20 => ?_)
    subst h_20
    first | refine b_iinc (lv1 := [(0, _), (1, _), (2, _)]) B d_Ax_begin_23 rfl ci_1 (by decide) rfl ?_ | refine a_iinc (lv1 := [(0, _), (1, _), (2, _)]) B d_Ax_begin_23 rfl rfl (by decide) rfl ?_
    refine a_goto B 7 d_Ax_begin_26 rfl ?_
    refine ihi _ _ ⟨rfl, e2, by rw [up1_o (by omega)]; exact h11, fun a ha b hb => ?_, fun k q1 q2 => by rw [up1_o (by omega)]; exact hO k q1 q2⟩
    by_cases e : a = i
    · rw [e, up1_s]; simp [fillF, hb]
    · rw [up1_o (by omega)]; exact hF a (by omega) b hb
  · skip
    obtain ⟨rfl, e2, h11, hF, hO⟩ := hI
    refine a_iload_n B d_Ax_begin_7 rfl rfl ?_
    refine a_bipush B d_Ax_begin_8 cb_8 ?_
    first | refine b_icmp_ge B 29 d_Ax_begin_10 rfl (by omega) (by omega) (fun c_10 => ?_) (fun c_10 => ?_) | refine a_icmp_ge B 29 d_Ax_begin_10 rfl (fun c_10 => ?_) (fun c_10 => ?_)
    · skip
      exact Rt _ _ _ d_Ax_begin_29 ⟨e2, h11, hF, hO⟩
    exact absurd c_10 (by omega)
theorem d_Ax_worthBeside_0 : decode prog_2_method_6_code 0 = .ok (.iload_n 1, 1) := by decide +kernel
theorem d_Ax_worthBeside_1 : decode prog_2_method_6_code 1 = .ok (.ifCond .ge 7, 3) := by decide +kernel
theorem d_Ax_worthBeside_4 : decode prog_2_method_6_code 4 = .ok (.iconst 0, 1) := by decide +kernel
theorem d_Ax_worthBeside_5 : decode prog_2_method_6_code 5 = .ok (.goto 11, 3) := by decide +kernel
theorem d_Ax_worthBeside_8 : decode prog_2_method_6_code 8 = .ok (.aload_n 0, 1) := by decide +kernel
theorem d_Ax_worthBeside_9 : decode prog_2_method_6_code 9 = .ok (.getfield 11, 3) := by decide +kernel
theorem d_Ax_worthBeside_12 : decode prog_2_method_6_code 12 = .ok (.iload_n 1, 1) := by decide +kernel
theorem d_Ax_worthBeside_13 : decode prog_2_method_6_code 13 = .ok (.aaload, 1) := by decide +kernel
theorem d_Ax_worthBeside_14 : decode prog_2_method_6_code 14 = .ok (.iload_n 2, 1) := by decide +kernel
theorem d_Ax_worthBeside_15 : decode prog_2_method_6_code 15 = .ok (.iaload, 1) := by decide +kernel
theorem d_Ax_worthBeside_16 : decode prog_2_method_6_code 16 = .ok (.ireturn, 1) := by decide +kernel
set_option maxHeartbeats 4000000 in
set_option maxRecDepth 20000 in
theorem t_Ax_worthBeside {g : GG} (G : Gok g) {σ : AH} {m : Nat} {W : Nat → Nat → Int} (hA : AxC σ m W) {p : Option Nat} {b : Nat} (hp : ∀ a, p = some a → a < 8) (hb : b < 8) : TerI g 0 m_Ax_worthBeside [rV 11, iV (oI p), iV (nI b)] σ (fun r τ => r = zI (wbV W p b) ∧ τ = σ) := by
  refine TerI.mk G (by decide +kernel) rfl (Nat.le_of_ble_eq_true rfl) (fun K B Rt => ?_)
  have B : Cx g K prog_2_method_6_code 3 R_Ax 0 := B
  have Rt : RetI g K prog_2_method_6_code 3 (fun r τ => r = zI (wbV W p b) ∧ τ = σ) := Rt
  show AW g K 3 0 [(0, rV 11), (1, iV (oI p)), (2, iV (nI b))] [] σ
  obtain ⟨hN, hm, hw, hW⟩ := id hA
  cases hq : p
  · skip
    refine a_iload_n B d_Ax_worthBeside_0 rfl rfl ?_
    refine a_if_ge B 8 d_Ax_worthBeside_1 rfl (fun c9 => absurd c9 (by decide)) (fun _ => ?_)
    refine a_iconst B d_Ax_worthBeside_4 ci_0 ?_
    refine a_goto B 16 d_Ax_worthBeside_5 rfl ?_
    exact Rt _ _ _ _ d_Ax_worthBeside_16 ⟨by first | (rw [hq]; rfl) | (rw [hw _ _ (by omega) (by omega), hq]; rfl), rfl⟩
  · skip
    rename_i a
    have ha := hp a hq
    show AW g K 3 0 [(0, rV 11), (1, iV (nI a)), (2, iV (nI b))] [] σ
    refine a_iload_n B d_Ax_worthBeside_0 rfl rfl ?_
    refine b_if_ge B 8 d_Ax_worthBeside_1 rfl (by first | assumption | omega) ?_
    refine a_aload_n B d_Ax_worthBeside_8 rfl rfl ?_
    refine gf_Ax_worths B d_Ax_worthBeside_9 fl_Ax_11 ?_
    refine a_iload_n B d_Ax_worthBeside_12 rfl rfl ?_
    refine al_wo B _ rfl (by first | assumption | omega) d_Ax_worthBeside_13 ?_
    refine a_iload_n B d_Ax_worthBeside_14 rfl rfl ?_
    refine a_iald B (ly_wo (by first | assumption | omega)) _ rfl (by first | assumption | omega) d_Ax_worthBeside_15 ?_
    exact Rt _ _ _ _ d_Ax_worthBeside_16 ⟨by first | (rw [hq]; rfl) | (rw [hw _ _ (by omega) (by omega), hq]; rfl), rfl⟩
theorem bnS_no {val : Nat → Int} {s b : Nat} (h : s.testBit b = false) : bnS val s (b + 1) = bnS val s b := by
  show (if s.testBit b then _ else _) = _
  rw [h]
  rfl
theorem bnS_first {val : Nat → Int} {s b : Nat} (h : s.testBit b = true) (hn : bnS val s b = none) : bnS val s (b + 1) = some (b, val b) := by
  show (if s.testBit b then _ else _) = _
  rw [if_pos h, hn]
theorem bnS_more {val : Nat → Int} {s b : Nat} {z : Nat × Int} (h : s.testBit b = true) (hz : bnS val s b = some z) (hl : z.2 < val b) : bnS val s (b + 1) = some (b, val b) := by
  show (if s.testBit b then _ else _) = _
  rw [if_pos h, hz]
  exact if_pos hl
theorem bnS_keep {val : Nat → Int} {s b : Nat} {z : Nat × Int} (h : s.testBit b = true) (hz : bnS val s b = some z) (hl : val b ≤ z.2) : bnS val s (b + 1) = some z := by
  show (if s.testBit b then _ else _) = _
  rw [if_pos h, hz]
  exact if_neg (by omega)
theorem wbV_bd {W : Nat → Nat → Int} (hW : okW W) (p : Option Nat) (b : Nat) : -1000 ≤ wbV W p b ∧ wbV W p b ≤ 1000 := by
  cases p with
  | none => show -1000 ≤ (0 : Int) ∧ (0 : Int) ≤ 1000; omega
  | some a => exact hW a b
theorem d_Ax_bestNext_0 : decode prog_2_method_5_code 0 = .ok (.bipush (-9), 2) := by decide +kernel
theorem d_Ax_bestNext_2 : decode prog_2_method_5_code 2 = .ok (.istore_n 3, 1) := by decide +kernel
theorem d_Ax_bestNext_3 : decode prog_2_method_5_code 3 = .ok (.iconst 0, 1) := by decide +kernel
theorem d_Ax_bestNext_4 : decode prog_2_method_5_code 4 = .ok (.istore 4, 2) := by decide +kernel
theorem d_Ax_bestNext_6 : decode prog_2_method_5_code 6 = .ok (.iconst 0, 1) := by decide +kernel
theorem d_Ax_bestNext_7 : decode prog_2_method_5_code 7 = .ok (.istore 5, 2) := by decide +kernel
theorem d_Ax_bestNext_9 : decode prog_2_method_5_code 9 = .ok (.iload 5, 2) := by decide +kernel
theorem d_Ax_bestNext_11 : decode prog_2_method_5_code 11 = .ok (.aload_n 0, 1) := by decide +kernel
theorem d_Ax_bestNext_12 : decode prog_2_method_5_code 12 = .ok (.getfield 23, 3) := by decide +kernel
theorem d_Ax_bestNext_15 : decode prog_2_method_5_code 15 = .ok (.if_icmp .ge 61, 3) := by decide +kernel
theorem d_Ax_bestNext_18 : decode prog_2_method_5_code 18 = .ok (.iload_n 2, 1) := by decide +kernel
theorem d_Ax_bestNext_19 : decode prog_2_method_5_code 19 = .ok (.iload 5, 2) := by decide +kernel
theorem d_Ax_bestNext_21 : decode prog_2_method_5_code 21 = .ok (.ishr, 1) := by decide +kernel
theorem d_Ax_bestNext_22 : decode prog_2_method_5_code 22 = .ok (.iconst 1, 1) := by decide +kernel
theorem d_Ax_bestNext_23 : decode prog_2_method_5_code 23 = .ok (.iand, 1) := by decide +kernel
theorem d_Ax_bestNext_24 : decode prog_2_method_5_code 24 = .ok (.ifCond .ne 6, 3) := by decide +kernel
theorem d_Ax_bestNext_27 : decode prog_2_method_5_code 27 = .ok (.goto 43, 3) := by decide +kernel
theorem d_Ax_bestNext_30 : decode prog_2_method_5_code 30 = .ok (.aload_n 0, 1) := by decide +kernel
theorem d_Ax_bestNext_31 : decode prog_2_method_5_code 31 = .ok (.iload_n 1, 1) := by decide +kernel
theorem d_Ax_bestNext_32 : decode prog_2_method_5_code 32 = .ok (.iload 5, 2) := by decide +kernel
theorem d_Ax_bestNext_34 : decode prog_2_method_5_code 34 = .ok (.invokevirtual 43, 3) := by decide +kernel
theorem d_Ax_bestNext_37 : decode prog_2_method_5_code 37 = .ok (.aload_n 0, 1) := by decide +kernel
theorem d_Ax_bestNext_38 : decode prog_2_method_5_code 38 = .ok (.getfield 16, 3) := by decide +kernel
theorem d_Ax_bestNext_41 : decode prog_2_method_5_code 41 = .ok (.iload_n 2, 1) := by decide +kernel
theorem d_Ax_bestNext_42 : decode prog_2_method_5_code 42 = .ok (.bipush 8, 2) := by decide +kernel
theorem d_Ax_bestNext_44 : decode prog_2_method_5_code 44 = .ok (.imul, 1) := by decide +kernel
theorem d_Ax_bestNext_45 : decode prog_2_method_5_code 45 = .ok (.iload 5, 2) := by decide +kernel
theorem d_Ax_bestNext_47 : decode prog_2_method_5_code 47 = .ok (.iadd, 1) := by decide +kernel
theorem d_Ax_bestNext_48 : decode prog_2_method_5_code 48 = .ok (.iaload, 1) := by decide +kernel
theorem d_Ax_bestNext_49 : decode prog_2_method_5_code 49 = .ok (.iadd, 1) := by decide +kernel
theorem d_Ax_bestNext_50 : decode prog_2_method_5_code 50 = .ok (.istore 6, 2) := by decide +kernel
theorem d_Ax_bestNext_52 : decode prog_2_method_5_code 52 = .ok (.iload_n 3, 1) := by decide +kernel
theorem d_Ax_bestNext_53 : decode prog_2_method_5_code 53 = .ok (.ifCond .lt 10, 3) := by decide +kernel
theorem d_Ax_bestNext_56 : decode prog_2_method_5_code 56 = .ok (.iload 6, 2) := by decide +kernel
theorem d_Ax_bestNext_58 : decode prog_2_method_5_code 58 = .ok (.iload 4, 2) := by decide +kernel
theorem d_Ax_bestNext_60 : decode prog_2_method_5_code 60 = .ok (.if_icmp .le 10, 3) := by decide +kernel
theorem d_Ax_bestNext_63 : decode prog_2_method_5_code 63 = .ok (.iload 5, 2) := by decide +kernel
theorem d_Ax_bestNext_65 : decode prog_2_method_5_code 65 = .ok (.istore_n 3, 1) := by decide +kernel
theorem d_Ax_bestNext_66 : decode prog_2_method_5_code 66 = .ok (.iload 6, 2) := by decide +kernel
theorem d_Ax_bestNext_68 : decode prog_2_method_5_code 68 = .ok (.istore 4, 2) := by decide +kernel
theorem d_Ax_bestNext_70 : decode prog_2_method_5_code 70 = .ok (.iinc 5 1, 3) := by decide +kernel
theorem d_Ax_bestNext_73 : decode prog_2_method_5_code 73 = .ok (.goto (-64), 3) := by decide +kernel
theorem d_Ax_bestNext_76 : decode prog_2_method_5_code 76 = .ok (.iload_n 3, 1) := by decide +kernel
theorem d_Ax_bestNext_77 : decode prog_2_method_5_code 77 = .ok (.ireturn, 1) := by decide +kernel
set_option maxHeartbeats 4000000 in
set_option maxRecDepth 20000 in
theorem t_Ax_bestNext {g : GG} (G : Gok g) {σ : AH} {m : Nat} {W : Nat → Nat → Int} (hA : AxC σ m W) {p : Option Nat} {s : Nat} {G0 : Nat → Int} (hp : ∀ a, p = some a → a < 8) (hs : s < 256) (hG : ∀ b, b < m → s.testBit b = true → σ.1 13 (s * 8 + b) = zI (G0 b) ∧ -10000 ≤ G0 b ∧ G0 b ≤ 10000) : TerI g 1 m_Ax_bestNext [rV 11, iV (oI p), iV (nI s)] σ (fun r τ => r = bA (bnS (fun b => wbV W p b + G0 b) s m) ∧ τ = σ) := by
  refine TerI.mk G (by decide +kernel) rfl (Nat.le_of_ble_eq_true rfl) (fun K B Rt => ?_)
  have B : Cx g K prog_2_method_5_code 7 R_Ax 1 := B
  have Rt : RetI g K prog_2_method_5_code 7 (fun r τ => r = bA (bnS (fun b => wbV W p b + G0 b) s m) ∧ τ = σ) := Rt
  show AW g K 7 0 [(0, rV 11), (1, iV (oI p)), (2, iV (nI s))] [] σ
  obtain ⟨hN, hm, hw, hW⟩ := id hA
  refine a_bipush B d_Ax_bestNext_0 cb_m9 ?_
  refine a_istore_n (lv1 := [(0, _), (1, _), (2, _), (3, _)]) B d_Ax_bestNext_2 rfl (by decide) rfl ?_
  refine a_iconst B d_Ax_bestNext_3 ci_0 ?_
  refine a_istore (lv1 := [(0, _), (1, _), (2, _), (3, _), (4, _)]) B d_Ax_bestNext_4 (by decide) rfl ?_
  refine a_iconst B d_Ax_bestNext_6 ci_0 ?_
  refine a_istore (lv1 := [(0, _), (1, _), (2, _), (3, _), (4, _), (5, _)]) B d_Ax_bestNext_7 (by decide) rfl ?_
  refine a_for (lf := fun i => [(0, rV 11), (1, iV (oI p)), (2, iV (nI s)), (3, iV (bA (bnS (fun b => wbV W p b + G0 b) s i))), (4, iV (zI (bV (bnS (fun b => wbV W p b + G0 b) s i)))), (5, iV (nI i))]) (τ := fun i => σ) m (fun i hi ihi => ?_) ?_ 0 (Nat.zero_le _)
  · skip
    refine a_iload B d_Ax_bestNext_9 rfl ?_
    refine a_aload_n B d_Ax_bestNext_11 rfl rfl ?_
    refine gf_Ax_axisCount B d_Ax_bestNext_12 fl_Ax_23 ?_
    rw [hN]
    first | refine b_icmp_ge B 76 d_Ax_bestNext_15 rfl (by omega) (by omega) (fun c_15 => ?_) (fun c_15 => ?_) | refine a_icmp_ge B 76 d_Ax_bestNext_15 rfl (fun c_15 => ?_) (fun c_15 => ?_)
    · skip
      exact absurd c_15 (by omega)
    refine a_iload_n B d_Ax_bestNext_18 rfl rfl ?_
    refine a_iload B d_Ax_bestNext_19 rfl ?_
    refine a_ishr B d_Ax_bestNext_21 ?_
    refine a_iconst B d_Ax_bestNext_22 ci_1 ?_
    refine a_iand B d_Ax_bestNext_23 ?_
    rw [bit_atN (by omega) (by omega)]
    first | refine b_if_ne_b B 30 d_Ax_bestNext_24 rfl (fun c_24 => ?_) (fun c_24 => ?_) | refine a_if_ne B 30 d_Ax_bestNext_24 rfl (fun c_24 => ?_) (fun c_24 => ?_)
    · skip
      have ht : s.testBit i = true := by
        cases q : s.testBit i with
        | true => rfl
        | false => exfalso; apply c_24; rw [bit_tb, q]; exact nI_0
      refine a_aload_n B d_Ax_bestNext_30 rfl rfl ?_
      refine a_iload_n B d_Ax_bestNext_31 rfl rfl ?_
      refine a_iload B d_Ax_bestNext_32 rfl ?_
      refine a_callVI (ci := 0) B (t_Ax_worthBeside G hA hp (by omega)) d_Ax_bestNext_34 ok_Ax_worthBeside ml_Ax_43 ly_11 rfl rfl (by decide) (by decide) rfl (Nat.le_of_ble_eq_true rfl) (fun r_34 τ_34 h_34 => ?_)
      obtain ⟨hr_34, hs_34⟩ := h_34
      subst hr_34
      replace hs_34 := hs_34.symm
      subst hs_34
      refine a_aload_n B d_Ax_bestNext_37 rfl rfl ?_
      refine gf_Ax_greatest B d_Ax_bestNext_38 fl_Ax_16 ?_
      refine a_iload_n B d_Ax_bestNext_41 rfl rfl ?_
      refine a_bipush B d_Ax_bestNext_42 cb_8 ?_
      first | refine b_imul B d_Ax_bestNext_44 ?_ | refine a_imul B d_Ax_bestNext_44 ?_
      refine a_iload B d_Ax_bestNext_45 rfl ?_
      first | refine b_iadd B d_Ax_bestNext_47 ?_ | refine a_iadd B d_Ax_bestNext_47 ?_
      refine a_iald B ly_13 _ rfl (by first | assumption | omega) d_Ax_bestNext_48 ?_
      rw [(hG i hi ht).1]
      first | refine b_iadd B d_Ax_bestNext_49 ?_ | refine a_iadd B d_Ax_bestNext_49 ?_
      rw [zI_add]
      refine a_istore (lv1 := [(0, _), (1, _), (2, _), (3, _), (4, _), (5, _), (6, _)]) B d_Ax_bestNext_50 (by decide) rfl ?_
      cases hq : (bnS (fun b => wbV W p b + G0 b) s i)
      · skip
        have hst := bnS_first (val := (fun b => wbV W p b + G0 b)) ht hq
        refine a_iload_n B d_Ax_bestNext_52 rfl rfl ?_
        refine a_if_lt B 63 d_Ax_bestNext_53 rfl (fun _ => ?_) (fun c9 => absurd (by decide) c9)
        refine a_iload B d_Ax_bestNext_63 rfl ?_
        refine a_istore_n (lv1 := [(0, _), (1, _), (2, _), (3, _), (4, _), (5, _), (6, _)]) B d_Ax_bestNext_65 rfl (by decide) rfl ?_
        refine a_iload B d_Ax_bestNext_66 rfl ?_
        refine a_istore (lv1 := [(0, _), (1, _), (2, _), (3, _), (4, _), (5, _), (6, _)]) B d_Ax_bestNext_68 (by decide) rfl ?_
        first | refine b_iinc (lv1 := [(0, _), (1, _), (2, _), (3, _), (4, _), (5, _), (6, _)]) B d_Ax_bestNext_70 rfl ci_1 (by decide) rfl ?_ | refine a_iinc (lv1 := [(0, _), (1, _), (2, _), (3, _), (4, _), (5, _), (6, _)]) B d_Ax_bestNext_70 rfl rfl (by decide) rfl ?_
        refine a_goto B 9 d_Ax_bestNext_73 rfl ?_
        refine a_sub (lv1 := [(0, _), (1, _), (2, _), (3, _), (4, _), (5, _)]) rfl ?_
        rw [hst] at ihi
        exact ihi
      · skip
        rename_i z
        have hz := bnS_ok hq
        have hz1 : z.1 < 2 ^ 31 := by have := hz.1; omega
        refine a_iload_n B d_Ax_bestNext_52 rfl rfl ?_
        refine b_if_lt B 63 d_Ax_bestNext_53 rfl (by first | assumption | omega) ?_
        refine a_iload B d_Ax_bestNext_56 rfl ?_
        refine a_iload B d_Ax_bestNext_58 rfl ?_
        first | refine b_icmp_le B 70 d_Ax_bestNext_60 rfl (by omega) (by omega) (fun c_60 => ?_) (fun c_60 => ?_) | refine a_icmp_le B 70 d_Ax_bestNext_60 rfl (fun c_60 => ?_) (fun c_60 => ?_)
        · skip
          have hst := bnS_keep (val := (fun b => wbV W p b + G0 b)) ht hq ((zI_le (a := wbV W p i + G0 i) (b := z.2) (by have := hG i hi ht; have := wbV_bd hW p i; omega) (by rw [hz.2.2]; have := hG _ (by omega) hz.2.1; have := wbV_bd hW p z.1; omega)).mp c_60)
          first | refine b_iinc (lv1 := [(0, _), (1, _), (2, _), (3, _), (4, _), (5, _), (6, _)]) B d_Ax_bestNext_70 rfl ci_1 (by decide) rfl ?_ | refine a_iinc (lv1 := [(0, _), (1, _), (2, _), (3, _), (4, _), (5, _), (6, _)]) B d_Ax_bestNext_70 rfl rfl (by decide) rfl ?_
          refine a_goto B 9 d_Ax_bestNext_73 rfl ?_
          refine a_sub (lv1 := [(0, _), (1, _), (2, _), (3, _), (4, _), (5, _)]) rfl ?_
          rw [hst] at ihi
          exact ihi
        have hst := bnS_more (val := (fun b => wbV W p b + G0 b)) ht hq (by have c9 := Int32.not_le.mp c_60; exact (zI_lt (a := z.2) (b := wbV W p i + G0 i) (by rw [hz.2.2]; have := hG _ (by omega) hz.2.1; have := wbV_bd hW p z.1; omega) (by have := hG i hi ht; have := wbV_bd hW p i; omega)).mp c9)
        refine a_iload B d_Ax_bestNext_63 rfl ?_
        refine a_istore_n (lv1 := [(0, _), (1, _), (2, _), (3, _), (4, _), (5, _), (6, _)]) B d_Ax_bestNext_65 rfl (by decide) rfl ?_
        refine a_iload B d_Ax_bestNext_66 rfl ?_
        refine a_istore (lv1 := [(0, _), (1, _), (2, _), (3, _), (4, _), (5, _), (6, _)]) B d_Ax_bestNext_68 (by decide) rfl ?_
        first | refine b_iinc (lv1 := [(0, _), (1, _), (2, _), (3, _), (4, _), (5, _), (6, _)]) B d_Ax_bestNext_70 rfl ci_1 (by decide) rfl ?_ | refine a_iinc (lv1 := [(0, _), (1, _), (2, _), (3, _), (4, _), (5, _), (6, _)]) B d_Ax_bestNext_70 rfl rfl (by decide) rfl ?_
        refine a_goto B 9 d_Ax_bestNext_73 rfl ?_
        refine a_sub (lv1 := [(0, _), (1, _), (2, _), (3, _), (4, _), (5, _)]) rfl ?_
        rw [hst] at ihi
        exact ihi
    have ht : s.testBit i = false := tb_0 (fun q => by rw [q] at c_24; exact absurd c_24 (by decide))
    have hst := bnS_no (val := (fun b => wbV W p b + G0 b)) ht
    refine a_goto B 70 d_Ax_bestNext_27 rfl ?_
    first | refine b_iinc (lv1 := [(0, _), (1, _), (2, _), (3, _), (4, _), (5, _)]) B d_Ax_bestNext_70 rfl ci_1 (by decide) rfl ?_ | refine a_iinc (lv1 := [(0, _), (1, _), (2, _), (3, _), (4, _), (5, _)]) B d_Ax_bestNext_70 rfl rfl (by decide) rfl ?_
    refine a_goto B 9 d_Ax_bestNext_73 rfl ?_
    refine a_sub (lv1 := [(0, _), (1, _), (2, _), (3, _), (4, _), (5, _)]) rfl ?_
    rw [hst] at ihi
    exact ihi
  · skip
    refine a_iload B d_Ax_bestNext_9 rfl ?_
    refine a_aload_n B d_Ax_bestNext_11 rfl rfl ?_
    refine gf_Ax_axisCount B d_Ax_bestNext_12 fl_Ax_23 ?_
    rw [hN]
    first | refine b_icmp_ge B 76 d_Ax_bestNext_15 rfl (by omega) (by omega) (fun c_15 => ?_) (fun c_15 => ?_) | refine a_icmp_ge B 76 d_Ax_bestNext_15 rfl (fun c_15 => ?_) (fun c_15 => ?_)
    · skip
      refine a_iload_n B d_Ax_bestNext_76 rfl rfl ?_
      exact Rt _ _ _ _ d_Ax_bestNext_77 ⟨rfl, rfl⟩
    exact absurd c_15 (by omega)
theorem d_Ax_greatestFrom_0 : decode prog_2_method_4_code 0 = .ok (.iload_n 1, 1) := by decide +kernel
theorem d_Ax_greatestFrom_1 : decode prog_2_method_4_code 1 = .ok (.iconst 1, 1) := by decide +kernel
theorem d_Ax_greatestFrom_2 : decode prog_2_method_4_code 2 = .ok (.iload_n 2, 1) := by decide +kernel
theorem d_Ax_greatestFrom_3 : decode prog_2_method_4_code 3 = .ok (.ishl, 1) := by decide +kernel
theorem d_Ax_greatestFrom_4 : decode prog_2_method_4_code 4 = .ok (.iconst (-1), 1) := by decide +kernel
theorem d_Ax_greatestFrom_5 : decode prog_2_method_4_code 5 = .ok (.ixor, 1) := by decide +kernel
theorem d_Ax_greatestFrom_6 : decode prog_2_method_4_code 6 = .ok (.iand, 1) := by decide +kernel
theorem d_Ax_greatestFrom_7 : decode prog_2_method_4_code 7 = .ok (.istore_n 3, 1) := by decide +kernel
theorem d_Ax_greatestFrom_8 : decode prog_2_method_4_code 8 = .ok (.aload_n 0, 1) := by decide +kernel
theorem d_Ax_greatestFrom_9 : decode prog_2_method_4_code 9 = .ok (.iload_n 2, 1) := by decide +kernel
theorem d_Ax_greatestFrom_10 : decode prog_2_method_4_code 10 = .ok (.iload_n 3, 1) := by decide +kernel
theorem d_Ax_greatestFrom_11 : decode prog_2_method_4_code 11 = .ok (.invokevirtual 40, 3) := by decide +kernel
theorem d_Ax_greatestFrom_14 : decode prog_2_method_4_code 14 = .ok (.istore 4, 2) := by decide +kernel
theorem d_Ax_greatestFrom_16 : decode prog_2_method_4_code 16 = .ok (.iload 4, 2) := by decide +kernel
theorem d_Ax_greatestFrom_18 : decode prog_2_method_4_code 18 = .ok (.ifCond .ge 7, 3) := by decide +kernel
theorem d_Ax_greatestFrom_21 : decode prog_2_method_4_code 21 = .ok (.iconst 0, 1) := by decide +kernel
theorem d_Ax_greatestFrom_22 : decode prog_2_method_4_code 22 = .ok (.goto 25, 3) := by decide +kernel
theorem d_Ax_greatestFrom_25 : decode prog_2_method_4_code 25 = .ok (.aload_n 0, 1) := by decide +kernel
theorem d_Ax_greatestFrom_26 : decode prog_2_method_4_code 26 = .ok (.getfield 11, 3) := by decide +kernel
theorem d_Ax_greatestFrom_29 : decode prog_2_method_4_code 29 = .ok (.iload_n 2, 1) := by decide +kernel
theorem d_Ax_greatestFrom_30 : decode prog_2_method_4_code 30 = .ok (.aaload, 1) := by decide +kernel
theorem d_Ax_greatestFrom_31 : decode prog_2_method_4_code 31 = .ok (.iload 4, 2) := by decide +kernel
theorem d_Ax_greatestFrom_33 : decode prog_2_method_4_code 33 = .ok (.iaload, 1) := by decide +kernel
theorem d_Ax_greatestFrom_34 : decode prog_2_method_4_code 34 = .ok (.aload_n 0, 1) := by decide +kernel
theorem d_Ax_greatestFrom_35 : decode prog_2_method_4_code 35 = .ok (.getfield 16, 3) := by decide +kernel
theorem d_Ax_greatestFrom_38 : decode prog_2_method_4_code 38 = .ok (.iload_n 3, 1) := by decide +kernel
theorem d_Ax_greatestFrom_39 : decode prog_2_method_4_code 39 = .ok (.bipush 8, 2) := by decide +kernel
theorem d_Ax_greatestFrom_41 : decode prog_2_method_4_code 41 = .ok (.imul, 1) := by decide +kernel
theorem d_Ax_greatestFrom_42 : decode prog_2_method_4_code 42 = .ok (.iload 4, 2) := by decide +kernel
theorem d_Ax_greatestFrom_44 : decode prog_2_method_4_code 44 = .ok (.iadd, 1) := by decide +kernel
theorem d_Ax_greatestFrom_45 : decode prog_2_method_4_code 45 = .ok (.iaload, 1) := by decide +kernel
theorem d_Ax_greatestFrom_46 : decode prog_2_method_4_code 46 = .ok (.iadd, 1) := by decide +kernel
theorem d_Ax_greatestFrom_47 : decode prog_2_method_4_code 47 = .ok (.ireturn, 1) := by decide +kernel
set_option maxHeartbeats 4000000 in
set_option maxRecDepth 20000 in
theorem t_Ax_greatestFrom {g : GG} (G : Gok g) {σ : AH} {m : Nat} {W : Nat → Nat → Int} (hA : AxC σ m W) {s a : Nat} (hs : s < 256) (ha : a < m) (hG : ∀ b, b < m → (del s a).testBit b = true → σ.1 13 (del s a * 8 + b) = zI (ahV W m (del (del s a) b) b)) : TerI g 2 m_Ax_greatestFrom [rV 11, iV (nI s), iV (nI a)] σ (fun r τ => r = zI (ahV W m (del s a) a) ∧ τ = σ) := by
  refine TerI.mk G (by decide +kernel) rfl (Nat.le_of_ble_eq_true rfl) (fun K B Rt => ?_)
  have B : Cx g K prog_2_method_4_code 5 R_Ax 2 := B
  have Rt : RetI g K prog_2_method_4_code 5 (fun r τ => r = zI (ahV W m (del s a) a) ∧ τ = σ) := Rt
  show AW g K 5 0 [(0, rV 11), (1, iV (nI s)), (2, iV (nI a))] [] σ
  obtain ⟨hN, hm, hw, hW⟩ := id hA
  have hds := del_lt256 (a := a) hs
  refine a_iload_n B d_Ax_greatestFrom_0 rfl rfl ?_
  refine a_iconst B d_Ax_greatestFrom_1 ci_1 ?_
  refine a_iload_n B d_Ax_greatestFrom_2 rfl rfl ?_
  refine a_ishl B d_Ax_greatestFrom_3 ?_
  refine a_iconst B d_Ax_greatestFrom_4 ci_m1 ?_
  refine a_ixor B d_Ax_greatestFrom_5 ?_
  refine a_iand B d_Ax_greatestFrom_6 ?_
  rw [del_jvm hs (by omega)]
  refine a_istore_n (lv1 := [(0, _), (1, _), (2, _), (3, _)]) B d_Ax_greatestFrom_7 rfl (by decide) rfl ?_
  refine a_aload_n B d_Ax_greatestFrom_8 rfl rfl ?_
  refine a_iload_n B d_Ax_greatestFrom_9 rfl rfl ?_
  refine a_iload_n B d_Ax_greatestFrom_10 rfl rfl ?_
  refine a_callVI (ci := 0) B (t_Ax_bestNext (p := some a) (G0 := fun b => ahV W m (del (del s a) b) b) G hA (fun q hq => by cases hq; omega) hds (fun b hb ht => ⟨hG b hb ht, (ahV_bd hm hW (del_lt256 hds)).1, (ahV_bd hm hW (del_lt256 hds)).2⟩)) d_Ax_greatestFrom_11 ok_Ax_bestNext ml_Ax_40 ly_11 rfl rfl (by decide) (by decide) rfl (Nat.le_of_ble_eq_true rfl) (fun r_11 τ_11 h_11 => ?_)
  obtain ⟨hr_11, hs_11⟩ := h_11
  subst hr_11
  replace hs_11 := hs_11.symm
  subst hs_11
  refine a_istore (lv1 := [(0, _), (1, _), (2, _), (3, _), (4, _)]) B d_Ax_greatestFrom_14 (by decide) rfl ?_
  cases hq : bnS (fun b => wbV W (some a) b + ahV W m (del (del s a) b) b) (del s a) m
  · skip
    refine a_iload B d_Ax_greatestFrom_16 rfl ?_
    refine a_if_ge B 25 d_Ax_greatestFrom_18 rfl (fun c9 => absurd c9 (by decide)) (fun _ => ?_)
    refine a_iconst B d_Ax_greatestFrom_21 ci_0 ?_
    refine a_goto B 47 d_Ax_greatestFrom_22 rfl ?_
    exact Rt _ _ _ _ d_Ax_greatestFrom_47 ⟨by rw [ahV_eq hm hds]; have hq9 : bnS (fun b => W a b + ahV W m (del (del s a) b) b) (del s a) m = _ := hq; rw [hq9]; first | rfl | (show _ = zI z.2; rw [hz.2.2]; rfl), rfl⟩
  · skip
    rename_i z
    have hz := bnS_ok hq
    have hz1 : z.1 < 2 ^ 31 := by have := hz.1; omega
    show AW g K 5 _ [(0, rV 11), (1, iV (nI s)), (2, iV (nI a)), (3, iV (nI (del s a))), (4, iV (nI z.1))] [] σ
    refine a_iload B d_Ax_greatestFrom_16 rfl ?_
    refine b_if_ge B 25 d_Ax_greatestFrom_18 rfl (by first | assumption | omega) ?_
    refine a_aload_n B d_Ax_greatestFrom_25 rfl rfl ?_
    refine gf_Ax_worths B d_Ax_greatestFrom_26 fl_Ax_11 ?_
    refine a_iload_n B d_Ax_greatestFrom_29 rfl rfl ?_
    refine al_wo B _ rfl (by first | assumption | omega) d_Ax_greatestFrom_30 ?_
    refine a_iload B d_Ax_greatestFrom_31 rfl ?_
    refine a_iald B (ly_wo (by first | assumption | omega)) _ rfl (by have := hz.1; omega) d_Ax_greatestFrom_33 ?_
    rw [hw _ _ (by omega) (by omega)]
    refine a_aload_n B d_Ax_greatestFrom_34 rfl rfl ?_
    refine gf_Ax_greatest B d_Ax_greatestFrom_35 fl_Ax_16 ?_
    refine a_iload_n B d_Ax_greatestFrom_38 rfl rfl ?_
    refine a_bipush B d_Ax_greatestFrom_39 cb_8 ?_
    first | refine b_imul B d_Ax_greatestFrom_41 ?_ | refine a_imul B d_Ax_greatestFrom_41 ?_
    refine a_iload B d_Ax_greatestFrom_42 rfl ?_
    first | refine b_iadd B d_Ax_greatestFrom_44 ?_ | refine a_iadd B d_Ax_greatestFrom_44 ?_
    refine a_iald B ly_13 _ rfl (by have := hz.1; omega) d_Ax_greatestFrom_45 ?_
    rw [hG _ hz.1 hz.2.1]
    first | refine b_iadd B d_Ax_greatestFrom_46 ?_ | refine a_iadd B d_Ax_greatestFrom_46 ?_
    rw [zI_add]
    exact Rt _ _ _ _ d_Ax_greatestFrom_47 ⟨by rw [ahV_eq hm hds]; have hq9 : bnS (fun b => W a b + ahV W m (del (del s a) b) b) (del s a) m = _ := hq; rw [hq9]; first | rfl | (show _ = zI z.2; rw [hz.2.2]; rfl), rfl⟩
theorem AxC.of {σ τ : AH} {m : Nat} {W : Nat → Nat → Int} (h : AxC σ m W) (h11 : τ.1 11 = σ.1 11) (h50 : ∀ a, a < 8 → τ.1 (50 + a) = σ.1 (50 + a)) : AxC τ m W := by
  obtain ⟨a, b, c, d⟩ := h
  exact ⟨by rw [h11]; exact a, b, fun x y hx hy => by rw [h50 x hx]; exact c x y hx hy, d⟩
theorem lyS_lt {W : Nat → Nat → Int} {m : Nat} : ∀ i, (lyS W m i).2.1 ≤ 2 ^ m - 1
  | 0 => Nat.le_refl _
  | i + 1 => by
    have ih := lyS_lt (W := W) (m := m) i
    unfold lyS
    split
    · exact ih
    · exact Nat.le_trans Nat.and_le_left ih
theorem nI_pow' {l : Nat} (h : l ≤ 8) : nI 1 <<< (nI l &&& 31) = nI (2 ^ l) := nI_pow (by omega)
theorem AxC.up {σ τ : AH} {m : Nat} {W : Nat → Nat → Int} (h : AxC σ m W) (h11 : τ.1 11 = upd (σ.1 11) 4 (nI m)) (h50 : ∀ a, a < 8 → τ.1 (50 + a) = σ.1 (50 + a)) : AxC τ m W := by
  obtain ⟨a, b, c, d⟩ := h
  exact ⟨by rw [h11, upd_o (by decide)]; exact a, b, fun x y hx hy => by rw [h50 x hx]; exact c x y hx hy, d⟩
theorem d_Ax_layBest_0 : decode prog_2_method_3_code 0 = .ok (.iconst 1, 1) := by decide +kernel
theorem d_Ax_layBest_1 : decode prog_2_method_3_code 1 = .ok (.aload_n 0, 1) := by decide +kernel
theorem d_Ax_layBest_2 : decode prog_2_method_3_code 2 = .ok (.getfield 23, 3) := by decide +kernel
theorem d_Ax_layBest_5 : decode prog_2_method_3_code 5 = .ok (.ishl, 1) := by decide +kernel
theorem d_Ax_layBest_6 : decode prog_2_method_3_code 6 = .ok (.istore_n 1, 1) := by decide +kernel
theorem d_Ax_layBest_7 : decode prog_2_method_3_code 7 = .ok (.iconst 1, 1) := by decide +kernel
theorem d_Ax_layBest_8 : decode prog_2_method_3_code 8 = .ok (.istore_n 2, 1) := by decide +kernel
theorem d_Ax_layBest_9 : decode prog_2_method_3_code 9 = .ok (.iload_n 2, 1) := by decide +kernel
theorem d_Ax_layBest_10 : decode prog_2_method_3_code 10 = .ok (.iload_n 1, 1) := by decide +kernel
theorem d_Ax_layBest_11 : decode prog_2_method_3_code 11 = .ok (.if_icmp .ge 51, 3) := by decide +kernel
theorem d_Ax_layBest_14 : decode prog_2_method_3_code 14 = .ok (.iconst 0, 1) := by decide +kernel
theorem d_Ax_layBest_15 : decode prog_2_method_3_code 15 = .ok (.istore_n 3, 1) := by decide +kernel
theorem d_Ax_layBest_16 : decode prog_2_method_3_code 16 = .ok (.iload_n 3, 1) := by decide +kernel
theorem d_Ax_layBest_17 : decode prog_2_method_3_code 17 = .ok (.aload_n 0, 1) := by decide +kernel
theorem d_Ax_layBest_18 : decode prog_2_method_3_code 18 = .ok (.getfield 23, 3) := by decide +kernel
theorem d_Ax_layBest_21 : decode prog_2_method_3_code 21 = .ok (.if_icmp .ge 35, 3) := by decide +kernel
theorem d_Ax_layBest_24 : decode prog_2_method_3_code 24 = .ok (.iload_n 2, 1) := by decide +kernel
theorem d_Ax_layBest_25 : decode prog_2_method_3_code 25 = .ok (.iload_n 3, 1) := by decide +kernel
theorem d_Ax_layBest_26 : decode prog_2_method_3_code 26 = .ok (.ishr, 1) := by decide +kernel
theorem d_Ax_layBest_27 : decode prog_2_method_3_code 27 = .ok (.iconst 1, 1) := by decide +kernel
theorem d_Ax_layBest_28 : decode prog_2_method_3_code 28 = .ok (.iand, 1) := by decide +kernel
theorem d_Ax_layBest_29 : decode prog_2_method_3_code 29 = .ok (.iconst 1, 1) := by decide +kernel
theorem d_Ax_layBest_30 : decode prog_2_method_3_code 30 = .ok (.if_icmp .ne 20, 3) := by decide +kernel
theorem d_Ax_layBest_33 : decode prog_2_method_3_code 33 = .ok (.aload_n 0, 1) := by decide +kernel
theorem d_Ax_layBest_34 : decode prog_2_method_3_code 34 = .ok (.getfield 16, 3) := by decide +kernel
theorem d_Ax_layBest_37 : decode prog_2_method_3_code 37 = .ok (.iload_n 2, 1) := by decide +kernel
theorem d_Ax_layBest_38 : decode prog_2_method_3_code 38 = .ok (.bipush 8, 2) := by decide +kernel
theorem d_Ax_layBest_40 : decode prog_2_method_3_code 40 = .ok (.imul, 1) := by decide +kernel
theorem d_Ax_layBest_41 : decode prog_2_method_3_code 41 = .ok (.iload_n 3, 1) := by decide +kernel
theorem d_Ax_layBest_42 : decode prog_2_method_3_code 42 = .ok (.iadd, 1) := by decide +kernel
theorem d_Ax_layBest_43 : decode prog_2_method_3_code 43 = .ok (.aload_n 0, 1) := by decide +kernel
theorem d_Ax_layBest_44 : decode prog_2_method_3_code 44 = .ok (.iload_n 2, 1) := by decide +kernel
theorem d_Ax_layBest_45 : decode prog_2_method_3_code 45 = .ok (.iload_n 3, 1) := by decide +kernel
theorem d_Ax_layBest_46 : decode prog_2_method_3_code 46 = .ok (.invokevirtual 36, 3) := by decide +kernel
theorem d_Ax_layBest_49 : decode prog_2_method_3_code 49 = .ok (.iastore, 1) := by decide +kernel
theorem d_Ax_layBest_50 : decode prog_2_method_3_code 50 = .ok (.iinc 3 1, 3) := by decide +kernel
theorem d_Ax_layBest_53 : decode prog_2_method_3_code 53 = .ok (.goto (-37), 3) := by decide +kernel
theorem d_Ax_layBest_56 : decode prog_2_method_3_code 56 = .ok (.iinc 2 1, 3) := by decide +kernel
theorem d_Ax_layBest_59 : decode prog_2_method_3_code 59 = .ok (.goto (-50), 3) := by decide +kernel
theorem d_Ax_layBest_62 : decode prog_2_method_3_code 62 = .ok (.aload_n 0, 1) := by decide +kernel
theorem d_Ax_layBest_63 : decode prog_2_method_3_code 63 = .ok (.aload_n 0, 1) := by decide +kernel
theorem d_Ax_layBest_64 : decode prog_2_method_3_code 64 = .ok (.getfield 23, 3) := by decide +kernel
theorem d_Ax_layBest_67 : decode prog_2_method_3_code 67 = .ok (.putfield 27, 3) := by decide +kernel
theorem d_Ax_layBest_70 : decode prog_2_method_3_code 70 = .ok (.iload_n 1, 1) := by decide +kernel
theorem d_Ax_layBest_71 : decode prog_2_method_3_code 71 = .ok (.iconst 1, 1) := by decide +kernel
theorem d_Ax_layBest_72 : decode prog_2_method_3_code 72 = .ok (.isub, 1) := by decide +kernel
theorem d_Ax_layBest_73 : decode prog_2_method_3_code 73 = .ok (.istore_n 2, 1) := by decide +kernel
theorem d_Ax_layBest_74 : decode prog_2_method_3_code 74 = .ok (.iconst 0, 1) := by decide +kernel
theorem d_Ax_layBest_75 : decode prog_2_method_3_code 75 = .ok (.istore_n 3, 1) := by decide +kernel
theorem d_Ax_layBest_76 : decode prog_2_method_3_code 76 = .ok (.iconst 0, 1) := by decide +kernel
theorem d_Ax_layBest_77 : decode prog_2_method_3_code 77 = .ok (.istore 4, 2) := by decide +kernel
theorem d_Ax_layBest_79 : decode prog_2_method_3_code 79 = .ok (.iload 4, 2) := by decide +kernel
theorem d_Ax_layBest_81 : decode prog_2_method_3_code 81 = .ok (.aload_n 0, 1) := by decide +kernel
theorem d_Ax_layBest_82 : decode prog_2_method_3_code 82 = .ok (.getfield 23, 3) := by decide +kernel
theorem d_Ax_layBest_85 : decode prog_2_method_3_code 85 = .ok (.if_icmp .ge 76, 3) := by decide +kernel
theorem d_Ax_layBest_88 : decode prog_2_method_3_code 88 = .ok (.iload 4, 2) := by decide +kernel
theorem d_Ax_layBest_90 : decode prog_2_method_3_code 90 = .ok (.ifCond .ne 8, 3) := by decide +kernel
theorem d_Ax_layBest_93 : decode prog_2_method_3_code 93 = .ok (.bipush (-9), 2) := by decide +kernel
theorem d_Ax_layBest_95 : decode prog_2_method_3_code 95 = .ok (.goto 12, 3) := by decide +kernel
theorem d_Ax_layBest_98 : decode prog_2_method_3_code 98 = .ok (.aload_n 0, 1) := by decide +kernel
theorem d_Ax_layBest_99 : decode prog_2_method_3_code 99 = .ok (.getfield 20, 3) := by decide +kernel
theorem d_Ax_layBest_102 : decode prog_2_method_3_code 102 = .ok (.iload 4, 2) := by decide +kernel
theorem d_Ax_layBest_104 : decode prog_2_method_3_code 104 = .ok (.iconst 1, 1) := by decide +kernel
theorem d_Ax_layBest_105 : decode prog_2_method_3_code 105 = .ok (.isub, 1) := by decide +kernel
theorem d_Ax_layBest_106 : decode prog_2_method_3_code 106 = .ok (.iaload, 1) := by decide +kernel
theorem d_Ax_layBest_107 : decode prog_2_method_3_code 107 = .ok (.istore 5, 2) := by decide +kernel
theorem d_Ax_layBest_109 : decode prog_2_method_3_code 109 = .ok (.aload_n 0, 1) := by decide +kernel
theorem d_Ax_layBest_110 : decode prog_2_method_3_code 110 = .ok (.iload 5, 2) := by decide +kernel
theorem d_Ax_layBest_112 : decode prog_2_method_3_code 112 = .ok (.iload_n 2, 1) := by decide +kernel
theorem d_Ax_layBest_113 : decode prog_2_method_3_code 113 = .ok (.invokevirtual 40, 3) := by decide +kernel
theorem d_Ax_layBest_116 : decode prog_2_method_3_code 116 = .ok (.istore 6, 2) := by decide +kernel
theorem d_Ax_layBest_118 : decode prog_2_method_3_code 118 = .ok (.iload 6, 2) := by decide +kernel
theorem d_Ax_layBest_120 : decode prog_2_method_3_code 120 = .ok (.ifCond .ge 6, 3) := by decide +kernel
theorem d_Ax_layBest_123 : decode prog_2_method_3_code 123 = .ok (.goto 38, 3) := by decide +kernel
theorem d_Ax_layBest_126 : decode prog_2_method_3_code 126 = .ok (.aload_n 0, 1) := by decide +kernel
theorem d_Ax_layBest_127 : decode prog_2_method_3_code 127 = .ok (.getfield 20, 3) := by decide +kernel
theorem d_Ax_layBest_130 : decode prog_2_method_3_code 130 = .ok (.iload 4, 2) := by decide +kernel
theorem d_Ax_layBest_132 : decode prog_2_method_3_code 132 = .ok (.iload 6, 2) := by decide +kernel
theorem d_Ax_layBest_134 : decode prog_2_method_3_code 134 = .ok (.iastore, 1) := by decide +kernel
theorem d_Ax_layBest_135 : decode prog_2_method_3_code 135 = .ok (.iload_n 3, 1) := by decide +kernel
theorem d_Ax_layBest_136 : decode prog_2_method_3_code 136 = .ok (.aload_n 0, 1) := by decide +kernel
theorem d_Ax_layBest_137 : decode prog_2_method_3_code 137 = .ok (.iload 5, 2) := by decide +kernel
theorem d_Ax_layBest_139 : decode prog_2_method_3_code 139 = .ok (.iload 6, 2) := by decide +kernel
theorem d_Ax_layBest_141 : decode prog_2_method_3_code 141 = .ok (.invokevirtual 43, 3) := by decide +kernel
theorem d_Ax_layBest_144 : decode prog_2_method_3_code 144 = .ok (.iadd, 1) := by decide +kernel
theorem d_Ax_layBest_145 : decode prog_2_method_3_code 145 = .ok (.istore_n 3, 1) := by decide +kernel
theorem d_Ax_layBest_146 : decode prog_2_method_3_code 146 = .ok (.iload_n 2, 1) := by decide +kernel
theorem d_Ax_layBest_147 : decode prog_2_method_3_code 147 = .ok (.iconst 1, 1) := by decide +kernel
theorem d_Ax_layBest_148 : decode prog_2_method_3_code 148 = .ok (.iload 6, 2) := by decide +kernel
theorem d_Ax_layBest_150 : decode prog_2_method_3_code 150 = .ok (.ishl, 1) := by decide +kernel
theorem d_Ax_layBest_151 : decode prog_2_method_3_code 151 = .ok (.iconst (-1), 1) := by decide +kernel
theorem d_Ax_layBest_152 : decode prog_2_method_3_code 152 = .ok (.ixor, 1) := by decide +kernel
theorem d_Ax_layBest_153 : decode prog_2_method_3_code 153 = .ok (.iand, 1) := by decide +kernel
theorem d_Ax_layBest_154 : decode prog_2_method_3_code 154 = .ok (.istore_n 2, 1) := by decide +kernel
theorem d_Ax_layBest_155 : decode prog_2_method_3_code 155 = .ok (.iinc 4 1, 3) := by decide +kernel
theorem d_Ax_layBest_158 : decode prog_2_method_3_code 158 = .ok (.goto (-79), 3) := by decide +kernel
theorem d_Ax_layBest_161 : decode prog_2_method_3_code 161 = .ok (.iload_n 3, 1) := by decide +kernel
theorem d_Ax_layBest_162 : decode prog_2_method_3_code 162 = .ok (.ireturn, 1) := by decide +kernel
set_option maxHeartbeats 4000000 in
set_option maxRecDepth 20000 in
theorem t_Ax_layBest {g : GG} (G : Gok g) {σ : AH} {m : Nat} {W : Nat → Nat → Int} (hA : AxC σ m W) : TerI g 3 m_Ax_layBest [rV 11] σ (fun r τ => r = zI (lyG W m) ∧ τ.2 = σ.2 ∧ τ.1 11 = upd (σ.1 11) 4 (nI m) ∧ (∀ j, j < m → τ.1 14 j = nI ((lyS W m m).1 j)) ∧ (∀ k, k ≠ 11 → k ≠ 13 → k ≠ 14 → τ.1 k = σ.1 k)) := by
  refine TerI.mk G (by decide +kernel) rfl (Nat.le_of_ble_eq_true rfl) (fun K B Rt => ?_)
  have B : Cx g K prog_2_method_3_code 7 R_Ax 3 := B
  have Rt : RetI g K prog_2_method_3_code 7 (fun r τ => r = zI (lyG W m) ∧ τ.2 = σ.2 ∧ τ.1 11 = upd (σ.1 11) 4 (nI m) ∧ (∀ j, j < m → τ.1 14 j = nI ((lyS W m m).1 j)) ∧ (∀ k, k ≠ 11 → k ≠ 13 → k ≠ 14 → τ.1 k = σ.1 k)) := Rt
  show AW g K 7 0 [(0, rV 11)] [] σ
  obtain ⟨hN, hm, hw, hW⟩ := id hA
  have hp2 : 1 ≤ 2 ^ m ∧ 2 ^ m ≤ 256 := by have key : ∀ m, m ≤ 8 → 1 ≤ 2 ^ m ∧ 2 ^ m ≤ 256 := (by decide); exact key m hm
  refine a_iconst B d_Ax_layBest_0 ci_1 ?_
  refine a_aload_n B d_Ax_layBest_1 rfl rfl ?_
  refine gf_Ax_axisCount B d_Ax_layBest_2 fl_Ax_23 ?_
  rw [hN]
  refine a_ishl B d_Ax_layBest_5 ?_
  rw [nI_pow' hm]
  refine a_istore_n (lv1 := [(0, _), (1, _)]) B d_Ax_layBest_6 rfl (by decide) rfl ?_
  refine a_iconst B d_Ax_layBest_7 ci_1 ?_
  refine a_istore_n (lv1 := [(0, _), (1, _), (2, _)]) B d_Ax_layBest_8 rfl (by decide) rfl ?_
  refine a_forR (2 ^ m - 1) (fun i lv τ => lv = [(0, rV 11), (1, iV (nI (2 ^ m))), (2, iV (nI (i + 1)))] ∧ τ.2 = σ.2 ∧ (∀ k, k ≠ 13 → τ.1 k = σ.1 k) ∧ (∀ s, s < i + 1 → ∀ a, a < m → s.testBit a = true → τ.1 13 (s * 8 + a) = zI (ahV W m (del s a) a))) (fun i lv τ hi hI ihi => ?_) (fun lv τ hI => ?_) 0 (Nat.zero_le _) _ _ ⟨rfl, rfl, fun _ _ => rfl, fun s hs a ha ht => by rw [show s = 0 by omega, Nat.zero_testBit] at ht; cases ht⟩
  · skip
    obtain ⟨rfl, e2, hO, hG⟩ := hI
    refine a_iload_n B d_Ax_layBest_9 rfl rfl ?_
    refine a_iload_n B d_Ax_layBest_10 rfl rfl ?_
    first | refine b_icmp_ge B 62 d_Ax_layBest_11 rfl (by omega) (by omega) (fun c_11 => ?_) (fun c_11 => ?_) | refine a_icmp_ge B 62 d_Ax_layBest_11 rfl (fun c_11 => ?_) (fun c_11 => ?_)
    · skip
      exact absurd c_11 (by omega)
    refine a_iconst B d_Ax_layBest_14 ci_0 ?_
    refine a_istore_n (lv1 := [(0, _), (1, _), (2, _), (3, _)]) B d_Ax_layBest_15 rfl (by decide) rfl ?_
    refine a_forR m (fun j lv τ => lv = [(0, rV 11), (1, iV (nI (2 ^ m))), (2, iV (nI (i + 1))), (3, iV (nI j))] ∧ τ.2 = σ.2 ∧ (∀ k, k ≠ 13 → τ.1 k = σ.1 k) ∧ (∀ s, s < i + 1 → ∀ a, a < m → s.testBit a = true → τ.1 13 (s * 8 + a) = zI (ahV W m (del s a) a)) ∧ (∀ a, a < j → (i + 1).testBit a = true → τ.1 13 ((i + 1) * 8 + a) = zI (ahV W m (del (i + 1) a) a))) (fun j lv τ hj hI ihj => ?_) (fun lv τ hI => ?_) 0 (Nat.zero_le _) _ _ ⟨rfl, e2, hO, hG, fun a ha => absurd ha (Nat.not_lt_zero a)⟩
    · skip
      obtain ⟨rfl, e2, hO, hG, hH⟩ := hI
      refine a_iload_n B d_Ax_layBest_16 rfl rfl ?_
      refine a_aload_n B d_Ax_layBest_17 rfl rfl ?_
      refine gf_Ax_axisCount B d_Ax_layBest_18 fl_Ax_23 ?_
      rw [hO 11 (by omega), hN]
      first | refine b_icmp_ge B 56 d_Ax_layBest_21 rfl (by omega) (by omega) (fun c_21 => ?_) (fun c_21 => ?_) | refine a_icmp_ge B 56 d_Ax_layBest_21 rfl (fun c_21 => ?_) (fun c_21 => ?_)
      · skip
        exact absurd c_21 (by omega)
      refine a_iload_n B d_Ax_layBest_24 rfl rfl ?_
      refine a_iload_n B d_Ax_layBest_25 rfl rfl ?_
      refine a_ishr B d_Ax_layBest_26 ?_
      refine a_iconst B d_Ax_layBest_27 ci_1 ?_
      refine a_iand B d_Ax_layBest_28 ?_
      rw [bit_atN (by omega) (by omega)]
      refine a_iconst B d_Ax_layBest_29 ci_1 ?_
      first | refine b_icmp_ne B 50 d_Ax_layBest_30 rfl (by omega) (by omega) (fun c_30 => ?_) (fun c_30 => ?_) | refine a_icmp_ne B 50 d_Ax_layBest_30 rfl (fun c_30 => ?_) (fun c_30 => ?_)
      · skip
        first | refine b_iinc (lv1 := [(0, _), (1, _), (2, _), (3, _)]) B d_Ax_layBest_50 rfl ci_1 (by decide) rfl ?_ | refine a_iinc (lv1 := [(0, _), (1, _), (2, _), (3, _)]) B d_Ax_layBest_50 rfl rfl (by decide) rfl ?_
        refine a_goto B 16 d_Ax_layBest_53 rfl ?_
        first | refine ihj _ _ ⟨rfl, e2, hO, hG, fun a ha ht => ?_⟩ | refine ihj _ _ ⟨rfl, e2, fun k q => by rw [up1_o q]; exact hO k q, fun s hs a ha ht => by rw [up1_s, upd_o (by omega)]; exact hG s hs a ha ht, fun a ha ht => ?_⟩
        · by_cases e : a = j
          · subst e; first | (rw [tb_0 c_30] at ht; cases ht) | (rw [up1_s, upd_s])
          · first | (rw [up1_s, upd_o (by omega)]; exact hH a (by omega) ht) | exact hH a (by omega) ht
      refine a_aload_n B d_Ax_layBest_33 rfl rfl ?_
      refine gf_Ax_greatest B d_Ax_layBest_34 fl_Ax_16 ?_
      refine a_iload_n B d_Ax_layBest_37 rfl rfl ?_
      refine a_bipush B d_Ax_layBest_38 cb_8 ?_
      first | refine b_imul B d_Ax_layBest_40 ?_ | refine a_imul B d_Ax_layBest_40 ?_
      refine a_iload_n B d_Ax_layBest_41 rfl rfl ?_
      first | refine b_iadd B d_Ax_layBest_42 ?_ | refine a_iadd B d_Ax_layBest_42 ?_
      refine a_aload_n B d_Ax_layBest_43 rfl rfl ?_
      refine a_iload_n B d_Ax_layBest_44 rfl rfl ?_
      refine a_iload_n B d_Ax_layBest_45 rfl rfl ?_
      refine a_callVI (ci := 0) B (t_Ax_greatestFrom G (hA.of (hO 11 (by omega)) (fun a ha => hO (50 + a) (by omega))) (by omega) hj (fun b hb ht => hG _ (del_lt (by omega) (by omega) (tb_1 c_30)) b hb ht)) d_Ax_layBest_46 ok_Ax_greatestFrom ml_Ax_36 ly_11 rfl rfl (by decide) (by decide) rfl (Nat.le_of_ble_eq_true rfl) (fun r_46 τ_46 h_46 => ?_)
      obtain ⟨hr_46, hs_46⟩ := h_46
      subst hr_46
      replace hs_46 := hs_46.symm
      subst hs_46
      refine a_iast B ly_13 _ rfl (by omega) d_Ax_layBest_49 ?_
      first | refine b_iinc (lv1 := [(0, _), (1, _), (2, _), (3, _)]) B d_Ax_layBest_50 rfl ci_1 (by decide) rfl ?_ | refine a_iinc (lv1 := [(0, _), (1, _), (2, _), (3, _)]) B d_Ax_layBest_50 rfl rfl (by decide) rfl ?_
      refine a_goto B 16 d_Ax_layBest_53 rfl ?_
      first | refine ihj _ _ ⟨rfl, e2, hO, hG, fun a ha ht => ?_⟩ | refine ihj _ _ ⟨rfl, e2, fun k q => by rw [up1_o q]; exact hO k q, fun s hs a ha ht => by rw [up1_s, upd_o (by omega)]; exact hG s hs a ha ht, fun a ha ht => ?_⟩
      · by_cases e : a = j
        · subst e; first | (rw [tb_0 c_30] at ht; cases ht) | (rw [up1_s, upd_s])
        · first | (rw [up1_s, upd_o (by omega)]; exact hH a (by omega) ht) | exact hH a (by omega) ht
    · skip
      obtain ⟨rfl, e2, hO, hG, hH⟩ := hI
      refine a_iload_n B d_Ax_layBest_16 rfl rfl ?_
      refine a_aload_n B d_Ax_layBest_17 rfl rfl ?_
      refine gf_Ax_axisCount B d_Ax_layBest_18 fl_Ax_23 ?_
      rw [hO 11 (by omega), hN]
      first | refine b_icmp_ge B 56 d_Ax_layBest_21 rfl (by omega) (by omega) (fun c_21 => ?_) (fun c_21 => ?_) | refine a_icmp_ge B 56 d_Ax_layBest_21 rfl (fun c_21 => ?_) (fun c_21 => ?_)
      · skip
        first | refine b_iinc (lv1 := [(0, _), (1, _), (2, _), (3, _)]) B d_Ax_layBest_56 rfl ci_1 (by decide) rfl ?_ | refine a_iinc (lv1 := [(0, _), (1, _), (2, _), (3, _)]) B d_Ax_layBest_56 rfl rfl (by decide) rfl ?_
        refine a_goto B 9 d_Ax_layBest_59 rfl ?_
        refine a_sub (lv1 := [(0, _), (1, _), (2, _)]) rfl ?_
        refine ihi _ _ ⟨rfl, e2, hO, fun s hs a ha ht => ?_⟩
        by_cases e : s = i + 1
        · rw [e] at ht ⊢; exact hH a ha ht
        · exact hG s (by omega) a ha ht
      exact absurd c_21 (by omega)
  · skip
    obtain ⟨rfl, e2, hO, hG⟩ := hI
    refine a_iload_n B d_Ax_layBest_9 rfl rfl ?_
    refine a_iload_n B d_Ax_layBest_10 rfl rfl ?_
    first | refine b_icmp_ge B 62 d_Ax_layBest_11 rfl (by omega) (by omega) (fun c_11 => ?_) (fun c_11 => ?_) | refine a_icmp_ge B 62 d_Ax_layBest_11 rfl (fun c_11 => ?_) (fun c_11 => ?_)
    · skip
      refine a_aload_n B d_Ax_layBest_62 rfl rfl ?_
      refine a_aload_n B d_Ax_layBest_63 rfl rfl ?_
      refine gf_Ax_axisCount B d_Ax_layBest_64 fl_Ax_23 ?_
      rw [hO 11 (by omega), hN]
      refine pf_Ax_laidCount B d_Ax_layBest_67 fl_Ax_27 ?_
      refine a_iload_n B d_Ax_layBest_70 rfl rfl ?_
      refine a_iconst B d_Ax_layBest_71 ci_1 ?_
      first | refine b_isub B (by omega) d_Ax_layBest_72 ?_ | refine a_isub B d_Ax_layBest_72 ?_
      refine a_istore_n (lv1 := [(0, _), (1, _), (2, _)]) B d_Ax_layBest_73 rfl (by decide) rfl ?_
      refine a_iconst B d_Ax_layBest_74 ci_0 ?_
      refine a_istore_n (lv1 := [(0, _), (1, _), (2, _), (3, _)]) B d_Ax_layBest_75 rfl (by decide) rfl ?_
      refine a_iconst B d_Ax_layBest_76 ci_0 ?_
      refine a_istore (lv1 := [(0, _), (1, _), (2, _), (3, _), (4, _)]) B d_Ax_layBest_77 (by decide) rfl ?_
      refine a_forR m (fun i lv τ => lv = [(0, rV 11), (1, iV (nI (2 ^ m))), (2, iV (nI (lyS W m i).2.1)), (3, iV (zI (lyS W m i).2.2)), (4, iV (nI i))] ∧ τ.2 = σ.2 ∧ (∀ j, j < i → τ.1 14 j = nI ((lyS W m i).1 j)) ∧ τ.1 11 = upd (σ.1 11) 4 (nI m) ∧ (∀ k, k ≠ 11 → k ≠ 13 → k ≠ 14 → τ.1 k = σ.1 k) ∧ (∀ s, s < 2 ^ m → ∀ a, a < m → s.testBit a = true → τ.1 13 (s * 8 + a) = zI (ahV W m (del s a) a))) (fun i lv τ hi hI ihi => ?_) (fun lv τ hI => ?_) 0 (Nat.zero_le _) _ _ ⟨by rw [show (lyS W m 0).2.1 = 2 ^ m - 1 from rfl]; rfl, e2, fun j hj => absurd hj (Nat.not_lt_zero j), by rw [up1_s, hO 11 (by omega)], fun k q1 q2 q3 => by rw [up1_o q1]; exact hO k q2, fun s hs a ha ht => by rw [up1_o (by omega)]; exact hG s (by omega) a ha ht⟩
      · skip
        obtain ⟨rfl, e2, hF, h11, hO, hG⟩ := hI
        refine a_iload B d_Ax_layBest_79 rfl ?_
        refine a_aload_n B d_Ax_layBest_81 rfl rfl ?_
        refine gf_Ax_axisCount B d_Ax_layBest_82 fl_Ax_23 ?_
        rw [h11, upd_o (by decide), hN]
        first | refine b_icmp_ge B 161 d_Ax_layBest_85 rfl (by omega) (by omega) (fun c_85 => ?_) (fun c_85 => ?_) | refine a_icmp_ge B 161 d_Ax_layBest_85 rfl (fun c_85 => ?_) (fun c_85 => ?_)
        · skip
          exact absurd c_85 (by omega)
        obtain ⟨q1, q2, q3⟩ := lyS_ok (W := W) hm i (by omega)
        have qlt := lyS_lt (W := W) (m := m) i
        obtain ⟨z, hz, hl⟩ := lyS_next (W := W) hm hi
        have zok := bnS_ok hz
        have hpp : ∀ a, (if i = 0 then none else some ((lyS W m i).1 (i - 1))) = some a → a < 8 := fun a h9 => by
          by_cases e : i = 0
          · rw [if_pos e] at h9; cases h9
          · rw [if_neg e] at h9; cases h9; have := q3 (i - 1) (by omega); omega
        refine a_iload B d_Ax_layBest_88 rfl ?_
        first | refine b_if_ne_b B 98 d_Ax_layBest_90 rfl (fun c_90 => ?_) (fun c_90 => ?_) | refine a_if_ne B 98 d_Ax_layBest_90 rfl (fun c_90 => ?_) (fun c_90 => ?_)
        · skip
          have hi0 : ¬ i = 0 := fun q => c_90 (by rw [q]; exact nI_0)
          refine a_aload_n B d_Ax_layBest_98 rfl rfl ?_
          refine gf_Ax_laid B d_Ax_layBest_99 fl_Ax_20 ?_
          refine a_iload B d_Ax_layBest_102 rfl ?_
          refine a_iconst B d_Ax_layBest_104 ci_1 ?_
          first | refine b_isub B (by omega) d_Ax_layBest_105 ?_ | refine a_isub B d_Ax_layBest_105 ?_
          refine a_iald B ly_14 _ rfl (by first | assumption | omega) d_Ax_layBest_106 ?_
          rw [hF _ (by omega), show nI ((lyS W m i).1 (i - 1)) = oI (if i = 0 then none else some ((lyS W m i).1 (i - 1))) from by rw [if_neg hi0]; rfl]
          refine a_istore (lv1 := [(0, _), (1, _), (2, _), (3, _), (4, _), (5, _)]) B d_Ax_layBest_107 (by decide) rfl ?_
          refine a_aload_n B d_Ax_layBest_109 rfl rfl ?_
          refine a_iload B d_Ax_layBest_110 rfl ?_
          refine a_iload_n B d_Ax_layBest_112 rfl rfl ?_
          refine a_callVI (ci := 0) B (t_Ax_bestNext (p := (if i = 0 then none else some ((lyS W m i).1 (i - 1)))) (G0 := fun b => ahV W m (del (lyS W m i).2.1 b) b) G (hA.up h11 (fun a ha => hO (50 + a) (by omega) (by omega) (by omega))) hpp q1 (fun b hb ht => ⟨hG _ (by omega) b hb ht, (ahV_bd hm hW (del_lt256 q1)).1, (ahV_bd hm hW (del_lt256 q1)).2⟩)) d_Ax_layBest_113 ok_Ax_bestNext ml_Ax_40 ly_11 rfl rfl (by decide) (by decide) rfl (Nat.le_of_ble_eq_true rfl) (fun r_113 τ_113 h_113 => ?_)
          obtain ⟨hr_113, hs_113⟩ := h_113
          subst hr_113
          replace hs_113 := hs_113.symm
          subst hs_113
          have hz2 : bnS (fun b => wbV W (if i = 0 then none else some ((lyS W m i).1 (i - 1))) b + ahV W m (del (lyS W m i).2.1 b) b) (lyS W m i).2.1 m = some z := hz
          rw [hz2]
          show AW g K 7 _ _ [iV (nI z.1)] _
          refine a_istore (lv1 := [(0, _), (1, _), (2, _), (3, _), (4, _), (5, _), (6, _)]) B d_Ax_layBest_116 (by decide) rfl ?_
          skip
          · skip
            have hz1 : z.1 < 2 ^ 31 := by have := zok.1; omega
            refine a_iload B d_Ax_layBest_118 rfl ?_
            refine b_if_ge B 126 d_Ax_layBest_120 rfl (by first | assumption | omega) ?_
            refine a_aload_n B d_Ax_layBest_126 rfl rfl ?_
            refine gf_Ax_laid B d_Ax_layBest_127 fl_Ax_20 ?_
            refine a_iload B d_Ax_layBest_130 rfl ?_
            refine a_iload B d_Ax_layBest_132 rfl ?_
            refine a_iast B ly_14 _ rfl (by omega) d_Ax_layBest_134 ?_
            refine a_iload_n B d_Ax_layBest_135 rfl rfl ?_
            refine a_aload_n B d_Ax_layBest_136 rfl rfl ?_
            refine a_iload B d_Ax_layBest_137 rfl ?_
            refine a_iload B d_Ax_layBest_139 rfl ?_
            refine a_callVI (ci := 0) B (t_Ax_worthBeside (p := (if i = 0 then none else some ((lyS W m i).1 (i - 1)))) G (hA.up (by rw [up1_o (by omega)]; exact h11) (fun a ha => by rw [up1_o (by omega)]; exact hO (50 + a) (by omega) (by omega) (by omega))) hpp (by omega)) d_Ax_layBest_141 ok_Ax_worthBeside ml_Ax_43 ly_11 rfl rfl (by decide) (by decide) rfl (Nat.le_of_ble_eq_true rfl) (fun r_141 τ_141 h_141 => ?_)
            obtain ⟨hr_141, hs_141⟩ := h_141
            subst hr_141
            replace hs_141 := hs_141.symm
            subst hs_141
            first | refine b_iadd B d_Ax_layBest_144 ?_ | refine a_iadd B d_Ax_layBest_144 ?_
            rw [zI_add]
            refine a_istore_n (lv1 := [(0, _), (1, _), (2, _), (3, _), (4, _), (5, _), (6, _)]) B d_Ax_layBest_145 rfl (by decide) rfl ?_
            refine a_iload_n B d_Ax_layBest_146 rfl rfl ?_
            refine a_iconst B d_Ax_layBest_147 ci_1 ?_
            refine a_iload B d_Ax_layBest_148 rfl ?_
            refine a_ishl B d_Ax_layBest_150 ?_
            refine a_iconst B d_Ax_layBest_151 ci_m1 ?_
            refine a_ixor B d_Ax_layBest_152 ?_
            refine a_iand B d_Ax_layBest_153 ?_
            rw [del_jvm q1 (by omega)]
            refine a_istore_n (lv1 := [(0, _), (1, _), (2, _), (3, _), (4, _), (5, _), (6, _)]) B d_Ax_layBest_154 rfl (by decide) rfl ?_
            first | refine b_iinc (lv1 := [(0, _), (1, _), (2, _), (3, _), (4, _), (5, _), (6, _)]) B d_Ax_layBest_155 rfl ci_1 (by decide) rfl ?_ | refine a_iinc (lv1 := [(0, _), (1, _), (2, _), (3, _), (4, _), (5, _), (6, _)]) B d_Ax_layBest_155 rfl rfl (by decide) rfl ?_
            refine a_goto B 79 d_Ax_layBest_158 rfl ?_
            refine a_sub (lv1 := [(0, _), (1, _), (2, _), (3, _), (4, _)]) rfl ?_
            refine ihi _ _ ⟨by rw [hl], e2, fun j hj => ?_, by rw [up1_o (by omega)]; exact h11, fun k q1 q2 q3 => by rw [up1_o q3]; exact hO k q1 q2 q3, fun s hs a ha ht => by rw [up1_o (by omega)]; exact hG s hs a ha ht⟩
            rw [up1_s, hl]
            show _ = nI (va_up _ i z.1 j)
            by_cases e : j = i
            · rw [e, upd_s, va_up_s]
            · rw [upd_o e, va_up_o e]; exact hF j (by omega)
        have hi0 : i = 0 := nI_z (by omega) c_90
        refine a_bipush B d_Ax_layBest_93 cb_m9 ?_
        rw [show (-9 : Int32) = oI (if i = 0 then none else some ((lyS W m i).1 (i - 1))) from by rw [if_pos hi0]; rfl]
        refine a_goto B 107 d_Ax_layBest_95 rfl ?_
        refine a_istore (lv1 := [(0, _), (1, _), (2, _), (3, _), (4, _), (5, _)]) B d_Ax_layBest_107 (by decide) rfl ?_
        refine a_aload_n B d_Ax_layBest_109 rfl rfl ?_
        refine a_iload B d_Ax_layBest_110 rfl ?_
        refine a_iload_n B d_Ax_layBest_112 rfl rfl ?_
        refine a_callVI (ci := 0) B (t_Ax_bestNext (p := (if i = 0 then none else some ((lyS W m i).1 (i - 1)))) (G0 := fun b => ahV W m (del (lyS W m i).2.1 b) b) G (hA.up h11 (fun a ha => hO (50 + a) (by omega) (by omega) (by omega))) hpp q1 (fun b hb ht => ⟨hG _ (by omega) b hb ht, (ahV_bd hm hW (del_lt256 q1)).1, (ahV_bd hm hW (del_lt256 q1)).2⟩)) d_Ax_layBest_113 ok_Ax_bestNext ml_Ax_40 ly_11 rfl rfl (by decide) (by decide) rfl (Nat.le_of_ble_eq_true rfl) (fun r_113 τ_113 h_113 => ?_)
        obtain ⟨hr_113, hs_113⟩ := h_113
        subst hr_113
        replace hs_113 := hs_113.symm
        subst hs_113
        have hz2 : bnS (fun b => wbV W (if i = 0 then none else some ((lyS W m i).1 (i - 1))) b + ahV W m (del (lyS W m i).2.1 b) b) (lyS W m i).2.1 m = some z := hz
        rw [hz2]
        show AW g K 7 _ _ [iV (nI z.1)] _
        refine a_istore (lv1 := [(0, _), (1, _), (2, _), (3, _), (4, _), (5, _), (6, _)]) B d_Ax_layBest_116 (by decide) rfl ?_
        skip
        · skip
          have hz1 : z.1 < 2 ^ 31 := by have := zok.1; omega
          refine a_iload B d_Ax_layBest_118 rfl ?_
          refine b_if_ge B 126 d_Ax_layBest_120 rfl (by first | assumption | omega) ?_
          refine a_aload_n B d_Ax_layBest_126 rfl rfl ?_
          refine gf_Ax_laid B d_Ax_layBest_127 fl_Ax_20 ?_
          refine a_iload B d_Ax_layBest_130 rfl ?_
          refine a_iload B d_Ax_layBest_132 rfl ?_
          refine a_iast B ly_14 _ rfl (by omega) d_Ax_layBest_134 ?_
          refine a_iload_n B d_Ax_layBest_135 rfl rfl ?_
          refine a_aload_n B d_Ax_layBest_136 rfl rfl ?_
          refine a_iload B d_Ax_layBest_137 rfl ?_
          refine a_iload B d_Ax_layBest_139 rfl ?_
          refine a_callVI (ci := 0) B (t_Ax_worthBeside (p := (if i = 0 then none else some ((lyS W m i).1 (i - 1)))) G (hA.up (by rw [up1_o (by omega)]; exact h11) (fun a ha => by rw [up1_o (by omega)]; exact hO (50 + a) (by omega) (by omega) (by omega))) hpp (by omega)) d_Ax_layBest_141 ok_Ax_worthBeside ml_Ax_43 ly_11 rfl rfl (by decide) (by decide) rfl (Nat.le_of_ble_eq_true rfl) (fun r_141 τ_141 h_141 => ?_)
          obtain ⟨hr_141, hs_141⟩ := h_141
          subst hr_141
          replace hs_141 := hs_141.symm
          subst hs_141
          first | refine b_iadd B d_Ax_layBest_144 ?_ | refine a_iadd B d_Ax_layBest_144 ?_
          rw [zI_add]
          refine a_istore_n (lv1 := [(0, _), (1, _), (2, _), (3, _), (4, _), (5, _), (6, _)]) B d_Ax_layBest_145 rfl (by decide) rfl ?_
          refine a_iload_n B d_Ax_layBest_146 rfl rfl ?_
          refine a_iconst B d_Ax_layBest_147 ci_1 ?_
          refine a_iload B d_Ax_layBest_148 rfl ?_
          refine a_ishl B d_Ax_layBest_150 ?_
          refine a_iconst B d_Ax_layBest_151 ci_m1 ?_
          refine a_ixor B d_Ax_layBest_152 ?_
          refine a_iand B d_Ax_layBest_153 ?_
          rw [del_jvm q1 (by omega)]
          refine a_istore_n (lv1 := [(0, _), (1, _), (2, _), (3, _), (4, _), (5, _), (6, _)]) B d_Ax_layBest_154 rfl (by decide) rfl ?_
          first | refine b_iinc (lv1 := [(0, _), (1, _), (2, _), (3, _), (4, _), (5, _), (6, _)]) B d_Ax_layBest_155 rfl ci_1 (by decide) rfl ?_ | refine a_iinc (lv1 := [(0, _), (1, _), (2, _), (3, _), (4, _), (5, _), (6, _)]) B d_Ax_layBest_155 rfl rfl (by decide) rfl ?_
          refine a_goto B 79 d_Ax_layBest_158 rfl ?_
          refine a_sub (lv1 := [(0, _), (1, _), (2, _), (3, _), (4, _)]) rfl ?_
          refine ihi _ _ ⟨by rw [hl], e2, fun j hj => ?_, by rw [up1_o (by omega)]; exact h11, fun k q1 q2 q3 => by rw [up1_o q3]; exact hO k q1 q2 q3, fun s hs a ha ht => by rw [up1_o (by omega)]; exact hG s hs a ha ht⟩
          rw [up1_s, hl]
          show _ = nI (va_up _ i z.1 j)
          by_cases e : j = i
          · rw [e, upd_s, va_up_s]
          · rw [upd_o e, va_up_o e]; exact hF j (by omega)
      · skip
        obtain ⟨rfl, e2, hF, h11, hO, hG⟩ := hI
        refine a_iload B d_Ax_layBest_79 rfl ?_
        refine a_aload_n B d_Ax_layBest_81 rfl rfl ?_
        refine gf_Ax_axisCount B d_Ax_layBest_82 fl_Ax_23 ?_
        rw [h11, upd_o (by decide), hN]
        first | refine b_icmp_ge B 161 d_Ax_layBest_85 rfl (by omega) (by omega) (fun c_85 => ?_) (fun c_85 => ?_) | refine a_icmp_ge B 161 d_Ax_layBest_85 rfl (fun c_85 => ?_) (fun c_85 => ?_)
        · skip
          refine a_iload_n B d_Ax_layBest_161 rfl rfl ?_
          exact Rt _ _ _ _ d_Ax_layBest_162 ⟨by rw [lyS_worth hm], e2, h11, hF, hO⟩
        exact absurd c_85 (by omega)
    exact absurd c_11 (by omega)
theorem d_Ax_digestFrom_0 : decode prog_2_method_7_code 0 = .ok (.lload_n 1, 1) := by decide +kernel
theorem d_Ax_digestFrom_1 : decode prog_2_method_7_code 1 = .ok (.lstore_n 3, 1) := by decide +kernel
theorem d_Ax_digestFrom_2 : decode prog_2_method_7_code 2 = .ok (.iconst 0, 1) := by decide +kernel
theorem d_Ax_digestFrom_3 : decode prog_2_method_7_code 3 = .ok (.istore 5, 2) := by decide +kernel
theorem d_Ax_digestFrom_5 : decode prog_2_method_7_code 5 = .ok (.iload 5, 2) := by decide +kernel
theorem d_Ax_digestFrom_7 : decode prog_2_method_7_code 7 = .ok (.aload_n 0, 1) := by decide +kernel
theorem d_Ax_digestFrom_8 : decode prog_2_method_7_code 8 = .ok (.getfield 23, 3) := by decide +kernel
theorem d_Ax_digestFrom_11 : decode prog_2_method_7_code 11 = .ok (.if_icmp .ge 48, 3) := by decide +kernel
theorem d_Ax_digestFrom_14 : decode prog_2_method_7_code 14 = .ok (.iload 5, 2) := by decide +kernel
theorem d_Ax_digestFrom_16 : decode prog_2_method_7_code 16 = .ok (.iconst 1, 1) := by decide +kernel
theorem d_Ax_digestFrom_17 : decode prog_2_method_7_code 17 = .ok (.iadd, 1) := by decide +kernel
theorem d_Ax_digestFrom_18 : decode prog_2_method_7_code 18 = .ok (.istore 6, 2) := by decide +kernel
theorem d_Ax_digestFrom_20 : decode prog_2_method_7_code 20 = .ok (.iload 6, 2) := by decide +kernel
theorem d_Ax_digestFrom_22 : decode prog_2_method_7_code 22 = .ok (.aload_n 0, 1) := by decide +kernel
theorem d_Ax_digestFrom_23 : decode prog_2_method_7_code 23 = .ok (.getfield 23, 3) := by decide +kernel
theorem d_Ax_digestFrom_26 : decode prog_2_method_7_code 26 = .ok (.if_icmp .ge 27, 3) := by decide +kernel
theorem d_Ax_digestFrom_29 : decode prog_2_method_7_code 29 = .ok (.ldc2_w 46, 3) := by decide +kernel
theorem d_Ax_digestFrom_32 : decode prog_2_method_7_code 32 = .ok (.lload_n 3, 1) := by decide +kernel
theorem d_Ax_digestFrom_33 : decode prog_2_method_7_code 33 = .ok (.lmul, 1) := by decide +kernel
theorem d_Ax_digestFrom_34 : decode prog_2_method_7_code 34 = .ok (.aload_n 0, 1) := by decide +kernel
theorem d_Ax_digestFrom_35 : decode prog_2_method_7_code 35 = .ok (.getfield 11, 3) := by decide +kernel
theorem d_Ax_digestFrom_38 : decode prog_2_method_7_code 38 = .ok (.iload 5, 2) := by decide +kernel
theorem d_Ax_digestFrom_40 : decode prog_2_method_7_code 40 = .ok (.aaload, 1) := by decide +kernel
theorem d_Ax_digestFrom_41 : decode prog_2_method_7_code 41 = .ok (.iload 6, 2) := by decide +kernel
theorem d_Ax_digestFrom_43 : decode prog_2_method_7_code 43 = .ok (.iaload, 1) := by decide +kernel
theorem d_Ax_digestFrom_44 : decode prog_2_method_7_code 44 = .ok (.i2l, 1) := by decide +kernel
theorem d_Ax_digestFrom_45 : decode prog_2_method_7_code 45 = .ok (.ladd, 1) := by decide +kernel
theorem d_Ax_digestFrom_46 : decode prog_2_method_7_code 46 = .ok (.lstore_n 3, 1) := by decide +kernel
theorem d_Ax_digestFrom_47 : decode prog_2_method_7_code 47 = .ok (.iinc 6 1, 3) := by decide +kernel
theorem d_Ax_digestFrom_50 : decode prog_2_method_7_code 50 = .ok (.goto (-30), 3) := by decide +kernel
theorem d_Ax_digestFrom_53 : decode prog_2_method_7_code 53 = .ok (.iinc 5 1, 3) := by decide +kernel
theorem d_Ax_digestFrom_56 : decode prog_2_method_7_code 56 = .ok (.goto (-51), 3) := by decide +kernel
theorem d_Ax_digestFrom_59 : decode prog_2_method_7_code 59 = .ok (.lload_n 3, 1) := by decide +kernel
theorem d_Ax_digestFrom_60 : decode prog_2_method_7_code 60 = .ok (.lreturn, 1) := by decide +kernel
set_option maxHeartbeats 4000000 in
set_option maxRecDepth 20000 in
theorem t_Ax_digestFrom {g : GG} (G : Gok g) {σ : AH} {m : Nat} {W : Nat → Nat → Int} (hA : AxC σ m W) (h : Int64) : TerL g 0 m_Ax_digestFrom [rV 11, lV h] σ (fun r τ => r = dgW W m m h ∧ τ = σ) := by
  refine TerL.mk G (by decide +kernel) rfl (Nat.le_of_ble_eq_true rfl) (fun K B Rt => ?_)
  have B : Cx g K prog_2_method_7_code 7 R_Ax 0 := B
  have Rt : RetL g K prog_2_method_7_code 7 (fun r τ => r = dgW W m m h ∧ τ = σ) := Rt
  show AW g K 7 0 [(0, rV 11), (1, lV h)] [] σ
  obtain ⟨hN, hm, hw, hW⟩ := id hA
  refine a_lload_n B d_Ax_digestFrom_0 rfl rfl ?_
  refine a_lstore_n (lv1 := [(0, _), (1, _), (3, _)]) B d_Ax_digestFrom_1 rfl (by decide) rfl ?_
  refine a_iconst B d_Ax_digestFrom_2 ci_0 ?_
  refine a_istore (lv1 := [(0, _), (1, _), (3, _), (5, _)]) B d_Ax_digestFrom_3 (by decide) rfl ?_
  refine a_for (lf := fun i => [(0, rV 11), (1, lV h), (3, lV (dgW W m i h)), (5, iV (nI i))]) (τ := fun i => σ) m (fun i hi ihi => ?_) ?_ 0 (Nat.zero_le _)
  · skip
    refine a_iload B d_Ax_digestFrom_5 rfl ?_
    refine a_aload_n B d_Ax_digestFrom_7 rfl rfl ?_
    refine gf_Ax_axisCount B d_Ax_digestFrom_8 fl_Ax_23 ?_
    rw [hN]
    first | refine b_icmp_ge B 59 d_Ax_digestFrom_11 rfl (by omega) (by omega) (fun c_11 => ?_) (fun c_11 => ?_) | refine a_icmp_ge B 59 d_Ax_digestFrom_11 rfl (fun c_11 => ?_) (fun c_11 => ?_)
    · skip
      exact absurd c_11 (by omega)
    refine a_iload B d_Ax_digestFrom_14 rfl ?_
    refine a_iconst B d_Ax_digestFrom_16 ci_1 ?_
    first | refine b_iadd B d_Ax_digestFrom_17 ?_ | refine a_iadd B d_Ax_digestFrom_17 ?_
    refine a_istore (lv1 := [(0, _), (1, _), (3, _), (5, _), (6, _)]) B d_Ax_digestFrom_18 (by decide) rfl ?_
    refine a_for (lf := fun j => [(0, rV 11), (1, lV h), (3, lV (dgWrow (fun b => zI (W i b)) i j (dgW W m i h))), (5, iV (nI i)), (6, iV (nI (i + 1 + j)))]) (τ := fun j => σ) (m - (i + 1)) (fun j hj ihj => ?_) ?_ 0 (Nat.zero_le _)
    · skip
      refine a_iload B d_Ax_digestFrom_20 rfl ?_
      refine a_aload_n B d_Ax_digestFrom_22 rfl rfl ?_
      refine gf_Ax_axisCount B d_Ax_digestFrom_23 fl_Ax_23 ?_
      rw [hN]
      first | refine b_icmp_ge B 53 d_Ax_digestFrom_26 rfl (by omega) (by omega) (fun c_26 => ?_) (fun c_26 => ?_) | refine a_icmp_ge B 53 d_Ax_digestFrom_26 rfl (fun c_26 => ?_) (fun c_26 => ?_)
      · skip
        exact absurd c_26 (by omega)
      refine a_ldc2 B d_Ax_digestFrom_29 kl_Ax_46 ?_
      refine a_lload_n B d_Ax_digestFrom_32 rfl rfl ?_
      refine a_lmul B d_Ax_digestFrom_33 ?_
      refine a_aload_n B d_Ax_digestFrom_34 rfl rfl ?_
      refine gf_Ax_worths B d_Ax_digestFrom_35 fl_Ax_11 ?_
      refine a_iload B d_Ax_digestFrom_38 rfl ?_
      refine al_wo B _ rfl (by first | assumption | omega) d_Ax_digestFrom_40 ?_
      refine a_iload B d_Ax_digestFrom_41 rfl ?_
      refine a_iald B (ly_wo (by first | assumption | omega)) _ rfl (by omega) d_Ax_digestFrom_43 ?_
      rw [hw _ _ (by omega) (by omega)]
      refine a_i2l B d_Ax_digestFrom_44 ?_
      refine a_ladd B d_Ax_digestFrom_45 ?_
      refine a_lstore_n (lv1 := [(0, _), (1, _), (3, _), (5, _), (6, _)]) B d_Ax_digestFrom_46 rfl (by decide) rfl ?_
      first | refine b_iinc (lv1 := [(0, _), (1, _), (3, _), (5, _), (6, _)]) B d_Ax_digestFrom_47 rfl ci_1 (by decide) rfl ?_ | refine a_iinc (lv1 := [(0, _), (1, _), (3, _), (5, _), (6, _)]) B d_Ax_digestFrom_47 rfl rfl (by decide) rfl ?_
      refine a_goto B 20 d_Ax_digestFrom_50 rfl ?_
      exact ihj
    · skip
      refine a_iload B d_Ax_digestFrom_20 rfl ?_
      refine a_aload_n B d_Ax_digestFrom_22 rfl rfl ?_
      refine gf_Ax_axisCount B d_Ax_digestFrom_23 fl_Ax_23 ?_
      rw [hN]
      first | refine b_icmp_ge B 53 d_Ax_digestFrom_26 rfl (by omega) (by omega) (fun c_26 => ?_) (fun c_26 => ?_) | refine a_icmp_ge B 53 d_Ax_digestFrom_26 rfl (fun c_26 => ?_) (fun c_26 => ?_)
      · skip
        first | refine b_iinc (lv1 := [(0, _), (1, _), (3, _), (5, _), (6, _)]) B d_Ax_digestFrom_53 rfl ci_1 (by decide) rfl ?_ | refine a_iinc (lv1 := [(0, _), (1, _), (3, _), (5, _), (6, _)]) B d_Ax_digestFrom_53 rfl rfl (by decide) rfl ?_
        refine a_goto B 5 d_Ax_digestFrom_56 rfl ?_
        refine a_sub (lv1 := [(0, _), (1, _), (3, _), (5, _)]) rfl ?_
        exact ihi
      exact absurd c_26 (by omega)
  · skip
    refine a_iload B d_Ax_digestFrom_5 rfl ?_
    refine a_aload_n B d_Ax_digestFrom_7 rfl rfl ?_
    refine gf_Ax_axisCount B d_Ax_digestFrom_8 fl_Ax_23 ?_
    rw [hN]
    first | refine b_icmp_ge B 59 d_Ax_digestFrom_11 rfl (by omega) (by omega) (fun c_11 => ?_) (fun c_11 => ?_) | refine a_icmp_ge B 59 d_Ax_digestFrom_11 rfl (fun c_11 => ?_) (fun c_11 => ?_)
    · skip
      refine a_lload_n B d_Ax_digestFrom_59 rfl rfl ?_
      exact Rt _ _ _ _ d_Ax_digestFrom_60 ⟨rfl, rfl⟩
    exact absurd c_11 (by omega)
