/-! spread, arrange, lookAt -/
theorem posT_of {T T' : TT} (h1 : tN T' = tN T) (h2 : tU T' = tU T) (h3 : tM T' = tM T) (h4 : tL T' = tL T) (h5 : tR T' = tR T) (v : Nat) : posT T' v = posT T v := by
  have key : ∀ f v, posF T' f v = posF T f v := by
    intro f
    induction f with
    | zero => intro v; rfl
    | succ f ih =>
      intro v
      show (if v < 2 * tN T' - 2 then posF T' f (tU T' v) + (if tR T' (tU T' v) = v then cB (tM T' (tL T' (tU T' v))) else 0) else 0) = (if v < 2 * tN T - 2 then posF T f (tU T v) + (if tR T (tU T v) = v then cB (tM T (tL T (tU T v))) else 0) else 0)
      rw [ih, h1, h2, h3, h4, h5]
  exact key 20 v
/-- the joins of a set of bits turned -/
def setT (T : TT) (s : Nat) : TT := turnBy T (fun v => s.testBit (v - tN T))
theorem setT_L {T : TT} {s v : Nat} : tL (setT T s) v = if s.testBit (v - tN T) then tR T v else tL T v := rfl
theorem setT_R {T : TT} {s v : Nat} : tR (setT T s) v = if s.testBit (v - tN T) then tL T v else tR T v := rfl
theorem setT_0 {T : TT} : setT T 0 = T := turnBy_no (fun v => Nat.zero_testBit _)
theorem upd_2 {f : Nat → Int32} {a b : Nat} {x y : Int32} {v : Nat} (h1 : v ≠ a) (h2 : v ≠ b) : upd (upd f a x) b y v = f v := by rw [upd_o h2, upd_o h1]
theorem spread_step {T : TT} {f : Nat → Int32} {P : Nat → Nat} {j v a b c : Nat} (hF : ∀ v, v < 2 * tN T - 1 → (v = 2 * tN T - 2 ∨ j < tU T v) → f v = nI (P v)) (hv : v < 2 * tN T - 1) (h : v = 2 * tN T - 2 ∨ j - 1 < tU T v) (hj : tN T ≤ j ∧ j < 2 * tN T - 1) (qj : tL T j < j ∧ tR T j < j ∧ tL T j ≠ tR T j ∧ tU T (tL T j) = j ∧ tU T (tR T j) = j) (wu : v < 2 * tN T - 2 → tN T ≤ tU T v ∧ v < tU T v ∧ tU T v < 2 * tN T - 1 ∧ (tL T (tU T v) = v ∨ tR T (tU T v) = v)) (hab : (a = tL T j ∧ b = tR T j) ∨ (a = tR T j ∧ b = tL T j)) (pL : P a = P j) (pR : P b = P j + c) : upd (upd f a (nI (P j))) b (nI (P j + c)) v = nI (P v) := by
  by_cases e2 : v = b
  · rw [e2, upd_s, pR]
  rw [upd_o e2]
  by_cases e1 : v = a
  · rw [e1, upd_s, pL]
  rw [upd_o e1]
  refine hF v hv ?_
  by_cases ht : v = 2 * tN T - 2
  · exact Or.inl ht
  · right
    have hu := wu (by omega)
    rcases h with h | h
    · exact absurd h ht
    · by_cases e3 : tU T v = j
      · rw [e3] at hu
        rcases hab with ⟨rfl, rfl⟩ | ⟨rfl, rfl⟩ <;> rcases hu.2.2.2 with q | q <;> first | exact absurd q.symm e1 | exact absurd q.symm e2
      · omega
theorem d_Tr_spread_0 : decode prog_7_method_9_code 0 = .ok (.aload_n 2, 1) := by decide +kernel
theorem d_Tr_spread_1 : decode prog_7_method_9_code 1 = .ok (.aload_n 0, 1) := by decide +kernel
theorem d_Tr_spread_2 : decode prog_7_method_9_code 2 = .ok (.getfield 54, 3) := by decide +kernel
theorem d_Tr_spread_5 : decode prog_7_method_9_code 5 = .ok (.iconst 1, 1) := by decide +kernel
theorem d_Tr_spread_6 : decode prog_7_method_9_code 6 = .ok (.isub, 1) := by decide +kernel
theorem d_Tr_spread_7 : decode prog_7_method_9_code 7 = .ok (.iconst 0, 1) := by decide +kernel
theorem d_Tr_spread_8 : decode prog_7_method_9_code 8 = .ok (.iastore, 1) := by decide +kernel
theorem d_Tr_spread_9 : decode prog_7_method_9_code 9 = .ok (.aload_n 0, 1) := by decide +kernel
theorem d_Tr_spread_10 : decode prog_7_method_9_code 10 = .ok (.getfield 54, 3) := by decide +kernel
theorem d_Tr_spread_13 : decode prog_7_method_9_code 13 = .ok (.iconst 1, 1) := by decide +kernel
theorem d_Tr_spread_14 : decode prog_7_method_9_code 14 = .ok (.isub, 1) := by decide +kernel
theorem d_Tr_spread_15 : decode prog_7_method_9_code 15 = .ok (.istore_n 3, 1) := by decide +kernel
theorem d_Tr_spread_16 : decode prog_7_method_9_code 16 = .ok (.iload_n 3, 1) := by decide +kernel
theorem d_Tr_spread_17 : decode prog_7_method_9_code 17 = .ok (.aload_n 0, 1) := by decide +kernel
theorem d_Tr_spread_18 : decode prog_7_method_9_code 18 = .ok (.getfield 50, 3) := by decide +kernel
theorem d_Tr_spread_21 : decode prog_7_method_9_code 21 = .ok (.if_icmp .lt 96, 3) := by decide +kernel
theorem d_Tr_spread_24 : decode prog_7_method_9_code 24 = .ok (.iload_n 1, 1) := by decide +kernel
theorem d_Tr_spread_25 : decode prog_7_method_9_code 25 = .ok (.iload_n 3, 1) := by decide +kernel
theorem d_Tr_spread_26 : decode prog_7_method_9_code 26 = .ok (.aload_n 0, 1) := by decide +kernel
theorem d_Tr_spread_27 : decode prog_7_method_9_code 27 = .ok (.getfield 50, 3) := by decide +kernel
theorem d_Tr_spread_30 : decode prog_7_method_9_code 30 = .ok (.isub, 1) := by decide +kernel
theorem d_Tr_spread_31 : decode prog_7_method_9_code 31 = .ok (.ishr, 1) := by decide +kernel
theorem d_Tr_spread_32 : decode prog_7_method_9_code 32 = .ok (.iconst 1, 1) := by decide +kernel
theorem d_Tr_spread_33 : decode prog_7_method_9_code 33 = .ok (.iand, 1) := by decide +kernel
theorem d_Tr_spread_34 : decode prog_7_method_9_code 34 = .ok (.iconst 1, 1) := by decide +kernel
theorem d_Tr_spread_35 : decode prog_7_method_9_code 35 = .ok (.if_icmp .ne 7, 3) := by decide +kernel
theorem d_Tr_spread_38 : decode prog_7_method_9_code 38 = .ok (.iconst 1, 1) := by decide +kernel
theorem d_Tr_spread_39 : decode prog_7_method_9_code 39 = .ok (.goto 4, 3) := by decide +kernel
theorem d_Tr_spread_42 : decode prog_7_method_9_code 42 = .ok (.iconst 0, 1) := by decide +kernel
theorem d_Tr_spread_43 : decode prog_7_method_9_code 43 = .ok (.istore 4, 2) := by decide +kernel
theorem d_Tr_spread_45 : decode prog_7_method_9_code 45 = .ok (.iload 4, 2) := by decide +kernel
theorem d_Tr_spread_47 : decode prog_7_method_9_code 47 = .ok (.ifCond .eq 12, 3) := by decide +kernel
theorem d_Tr_spread_50 : decode prog_7_method_9_code 50 = .ok (.aload_n 0, 1) := by decide +kernel
theorem d_Tr_spread_51 : decode prog_7_method_9_code 51 = .ok (.getfield 15, 3) := by decide +kernel
theorem d_Tr_spread_54 : decode prog_7_method_9_code 54 = .ok (.iload_n 3, 1) := by decide +kernel
theorem d_Tr_spread_55 : decode prog_7_method_9_code 55 = .ok (.iaload, 1) := by decide +kernel
theorem d_Tr_spread_56 : decode prog_7_method_9_code 56 = .ok (.goto 9, 3) := by decide +kernel
theorem d_Tr_spread_59 : decode prog_7_method_9_code 59 = .ok (.aload_n 0, 1) := by decide +kernel
theorem d_Tr_spread_60 : decode prog_7_method_9_code 60 = .ok (.getfield 9, 3) := by decide +kernel
theorem d_Tr_spread_63 : decode prog_7_method_9_code 63 = .ok (.iload_n 3, 1) := by decide +kernel
theorem d_Tr_spread_64 : decode prog_7_method_9_code 64 = .ok (.iaload, 1) := by decide +kernel
theorem d_Tr_spread_65 : decode prog_7_method_9_code 65 = .ok (.istore 5, 2) := by decide +kernel
theorem d_Tr_spread_67 : decode prog_7_method_9_code 67 = .ok (.iload 4, 2) := by decide +kernel
theorem d_Tr_spread_69 : decode prog_7_method_9_code 69 = .ok (.ifCond .eq 12, 3) := by decide +kernel
theorem d_Tr_spread_72 : decode prog_7_method_9_code 72 = .ok (.aload_n 0, 1) := by decide +kernel
theorem d_Tr_spread_73 : decode prog_7_method_9_code 73 = .ok (.getfield 9, 3) := by decide +kernel
theorem d_Tr_spread_76 : decode prog_7_method_9_code 76 = .ok (.iload_n 3, 1) := by decide +kernel
theorem d_Tr_spread_77 : decode prog_7_method_9_code 77 = .ok (.iaload, 1) := by decide +kernel
theorem d_Tr_spread_78 : decode prog_7_method_9_code 78 = .ok (.goto 9, 3) := by decide +kernel
theorem d_Tr_spread_81 : decode prog_7_method_9_code 81 = .ok (.aload_n 0, 1) := by decide +kernel
theorem d_Tr_spread_82 : decode prog_7_method_9_code 82 = .ok (.getfield 15, 3) := by decide +kernel
theorem d_Tr_spread_85 : decode prog_7_method_9_code 85 = .ok (.iload_n 3, 1) := by decide +kernel
theorem d_Tr_spread_86 : decode prog_7_method_9_code 86 = .ok (.iaload, 1) := by decide +kernel
theorem d_Tr_spread_87 : decode prog_7_method_9_code 87 = .ok (.istore 6, 2) := by decide +kernel
theorem d_Tr_spread_89 : decode prog_7_method_9_code 89 = .ok (.aload_n 2, 1) := by decide +kernel
theorem d_Tr_spread_90 : decode prog_7_method_9_code 90 = .ok (.iload 5, 2) := by decide +kernel
theorem d_Tr_spread_92 : decode prog_7_method_9_code 92 = .ok (.aload_n 2, 1) := by decide +kernel
theorem d_Tr_spread_93 : decode prog_7_method_9_code 93 = .ok (.iload_n 3, 1) := by decide +kernel
theorem d_Tr_spread_94 : decode prog_7_method_9_code 94 = .ok (.iaload, 1) := by decide +kernel
theorem d_Tr_spread_95 : decode prog_7_method_9_code 95 = .ok (.iastore, 1) := by decide +kernel
theorem d_Tr_spread_96 : decode prog_7_method_9_code 96 = .ok (.aload_n 2, 1) := by decide +kernel
theorem d_Tr_spread_97 : decode prog_7_method_9_code 97 = .ok (.iload 6, 2) := by decide +kernel
theorem d_Tr_spread_99 : decode prog_7_method_9_code 99 = .ok (.aload_n 2, 1) := by decide +kernel
theorem d_Tr_spread_100 : decode prog_7_method_9_code 100 = .ok (.iload_n 3, 1) := by decide +kernel
theorem d_Tr_spread_101 : decode prog_7_method_9_code 101 = .ok (.iaload, 1) := by decide +kernel
theorem d_Tr_spread_102 : decode prog_7_method_9_code 102 = .ok (.aload_n 0, 1) := by decide +kernel
theorem d_Tr_spread_103 : decode prog_7_method_9_code 103 = .ok (.getfield 24, 3) := by decide +kernel
theorem d_Tr_spread_106 : decode prog_7_method_9_code 106 = .ok (.iload 5, 2) := by decide +kernel
theorem d_Tr_spread_108 : decode prog_7_method_9_code 108 = .ok (.iaload, 1) := by decide +kernel
theorem d_Tr_spread_109 : decode prog_7_method_9_code 109 = .ok (.iadd, 1) := by decide +kernel
theorem d_Tr_spread_110 : decode prog_7_method_9_code 110 = .ok (.iastore, 1) := by decide +kernel
theorem d_Tr_spread_111 : decode prog_7_method_9_code 111 = .ok (.iinc 3 (-1), 3) := by decide +kernel
theorem d_Tr_spread_114 : decode prog_7_method_9_code 114 = .ok (.goto (-98), 3) := by decide +kernel
theorem d_Tr_spread_117 : decode prog_7_method_9_code 117 = .ok (.return_, 1) := by decide +kernel
set_option maxRecDepth 20000 in
theorem t_Tr_spread {g : GG} (G : Gok g) {σ : AH} {t : Nat} {T : TT} (ht : t < 4) (hW : Wf T) (hA : RtA σ t T) (hB : RtB σ t T) {k s : Nat} {rs : List (Option Nat)} (hk : layT[k]? = some (0, 19, rs)) (hks : k = tI t + 9 ∨ k = 19) (hs : s < 1024) : TerV g 0 m_Tr_spread [rV (tI t), iV (nI s), rV k] σ (fun τ => ∃ f, τ = up1 σ k f ∧ ∀ v, v < 2 * tN T - 1 → f v = nI (posT (setT T s) v)) := by
  refine TerV.mk G (by decide +kernel) rfl (Nat.le_of_ble_eq_true rfl) (fun K B Rt => ?_)
  have B : Cx g K prog_7_method_9_code 7 R_Tr 0 := B
  have Rt : RetV g K prog_7_method_9_code 7 (fun τ => ∃ f, τ = up1 σ k f ∧ ∀ v, v < 2 * tN T - 1 → f v = nI (posT (setT T s) v)) := Rt
  show AW g K 7 0 [(0, rV (tI t)), (1, iV (nI s)), (2, rV k)] [] σ
  obtain ⟨a12, a13, a3, a3t, a4, a5, a6, a8⟩ := hA
  obtain ⟨b0, b1, b7⟩ := hB
  obtain ⟨w1, w10, wj, wu, wl, wm, wt, wb, wh⟩ := id hW
  have h58 : 58 ≤ tI t := Nat.le_add_right _ _
  have hW2 : Wf (setT T s) := Wf_turn hW
  refine a_aload_n B d_Tr_spread_0 rfl rfl ?_
  refine a_aload_n B d_Tr_spread_1 rfl rfl ?_
  refine gf_Tr_nodeCount B (by first | assumption | omega) d_Tr_spread_2 fl_Tr_54 ?_
  rw [a13]
  refine a_iconst B d_Tr_spread_5 ci_1 ?_
  first | refine b_isub B (by omega) d_Tr_spread_6 ?_ | refine a_isub B d_Tr_spread_6 ?_
  refine a_iconst B d_Tr_spread_7 ci_0 ?_
  refine a_iast B hk _ rfl (by first | assumption | omega) d_Tr_spread_8 ?_
  refine a_aload_n B d_Tr_spread_9 rfl rfl ?_
  refine gf_Tr_nodeCount B (by first | assumption | omega) d_Tr_spread_10 fl_Tr_54 ?_
  rw [up1_o (show tI t ≠ k by omega)]
  rw [a13]
  refine a_iconst B d_Tr_spread_13 ci_1 ?_
  first | refine b_isub B (by omega) d_Tr_spread_14 ?_ | refine a_isub B d_Tr_spread_14 ?_
  rw [show 2 * tN T - 1 - 1 = 2 * tN T - 2 - 0 by omega]
  refine a_istore_n (lv1 := [(0, _), (1, _), (2, _), (3, _)]) B d_Tr_spread_15 rfl (by decide) rfl ?_
  refine a_forR (tN T - 1) (fun i lv τ => lv = [(0, rV (tI t)), (1, iV (nI s)), (2, rV k), (3, iV (nI (2 * tN T - 2 - i)))] ∧ ∃ f, τ = up1 σ k f ∧ ∀ v, v < 2 * tN T - 1 → (v = 2 * tN T - 2 ∨ 2 * tN T - 2 - i < tU T v) → f v = nI (posT (setT T s) v)) (fun i lv τ hi hI ihi => ?_) (fun lv τ hI => ?_) 0 (Nat.zero_le _) _ _ ⟨rfl, _, rfl, fun v hv h => by have e : v = 2 * tN T - 2 := (by rcases h with h | h; exact h; (by_cases q : v = 2 * tN T - 2; exact q; have := (wu v (by omega)).2.2.1; omega)); rw [e]; show upd _ (2 * tN T - 2) (nI 0) (2 * tN T - 2) = nI (posT (setT T s) (2 * tN (setT T s) - 2)); rw [upd_s, posT_top]⟩
  · skip
    obtain ⟨rfl, f, rfl, hF⟩ := hI
    refine a_iload_n B d_Tr_spread_16 rfl rfl ?_
    refine a_aload_n B d_Tr_spread_17 rfl rfl ?_
    refine gf_Tr_leafCount B (by first | assumption | omega) d_Tr_spread_18 fl_Tr_50 ?_
    rw [up1_o (show tI t ≠ k by omega)]
    rw [a12]
    first | refine b_icmp_lt B 117 d_Tr_spread_21 rfl (by omega) (by omega) (fun c_21 => ?_) (fun c_21 => ?_) | refine a_icmp_lt B 117 d_Tr_spread_21 rfl (fun c_21 => ?_) (fun c_21 => ?_)
    · skip
      exact absurd c_21 (by omega)
    have hj : tN T ≤ 2 * tN T - 2 - i ∧ 2 * tN T - 2 - i < 2 * tN T - 1 := by omega
    have qj := wj _ hj.1 hj.2
    refine a_iload_n B d_Tr_spread_24 rfl rfl ?_
    refine a_iload_n B d_Tr_spread_25 rfl rfl ?_
    refine a_aload_n B d_Tr_spread_26 rfl rfl ?_
    refine gf_Tr_leafCount B (by first | assumption | omega) d_Tr_spread_27 fl_Tr_50 ?_
    rw [up1_o (show tI t ≠ k by omega)]
    rw [a12]
    first | refine b_isub B (by omega) d_Tr_spread_30 ?_ | refine a_isub B d_Tr_spread_30 ?_
    refine a_ishr B d_Tr_spread_31 ?_
    refine a_iconst B d_Tr_spread_32 ci_1 ?_
    refine a_iand B d_Tr_spread_33 ?_
    rw [bit_atN hs (by omega)]
    refine a_iconst B d_Tr_spread_34 ci_1 ?_
    first | refine b_icmp_ne B 42 d_Tr_spread_35 rfl (by omega) (by omega) (fun c_35 => ?_) (fun c_35 => ?_) | refine a_icmp_ne B 42 d_Tr_spread_35 rfl (fun c_35 => ?_) (fun c_35 => ?_)
    · skip
      have c9 : s.testBit (2 * tN T - 2 - i - tN T) = false := tb_0 c_35
      have eL : tL (setT T s) (2 * tN T - 2 - i) = tL T (2 * tN T - 2 - i) := by rw [setT_L, c9]; rfl
      have eR : tR (setT T s) (2 * tN T - 2 - i) = tR T (2 * tN T - 2 - i) := by rw [setT_R, c9]; rfl
      refine a_iconst B d_Tr_spread_42 ci_0 ?_
      refine a_istore (lv1 := [(0, _), (1, _), (2, _), (3, _), (4, _)]) B d_Tr_spread_43 (by decide) rfl ?_
      refine a_iload B d_Tr_spread_45 rfl ?_
      refine a_if_eq B 59 d_Tr_spread_47 rfl (fun _ => ?_) (fun c9 => absurd nI_0 c9)
      refine a_aload_n B d_Tr_spread_59 rfl rfl ?_
      refine gf_Tr_left B (by first | assumption | omega) d_Tr_spread_60 fl_Tr_9 ?_
      refine a_iload_n B d_Tr_spread_63 rfl rfl ?_
      refine a_iald B (ly_T_left (by first | assumption | omega)) _ rfl (by first | assumption | omega) d_Tr_spread_64 ?_
      rw [up1_o (show tI t + 1 ≠ k by omega)]
      rw [(b1 _ hj.1 hj.2).1]
      refine a_istore (lv1 := [(0, _), (1, _), (2, _), (3, _), (4, _), (5, _)]) B d_Tr_spread_65 (by decide) rfl ?_
      refine a_iload B d_Tr_spread_67 rfl ?_
      refine a_if_eq B 81 d_Tr_spread_69 rfl (fun _ => ?_) (fun c9 => absurd nI_0 c9)
      refine a_aload_n B d_Tr_spread_81 rfl rfl ?_
      refine gf_Tr_right B (by first | assumption | omega) d_Tr_spread_82 fl_Tr_15 ?_
      refine a_iload_n B d_Tr_spread_85 rfl rfl ?_
      refine a_iald B (ly_T_right (by first | assumption | omega)) _ rfl (by first | assumption | omega) d_Tr_spread_86 ?_
      rw [up1_o (show tI t + 2 ≠ k by omega)]
      rw [(b1 _ hj.1 hj.2).2]
      refine a_istore (lv1 := [(0, _), (1, _), (2, _), (3, _), (4, _), (5, _), (6, _)]) B d_Tr_spread_87 (by decide) rfl ?_
      refine a_aload_n B d_Tr_spread_89 rfl rfl ?_
      refine a_iload B d_Tr_spread_90 rfl ?_
      refine a_aload_n B d_Tr_spread_92 rfl rfl ?_
      refine a_iload_n B d_Tr_spread_93 rfl rfl ?_
      refine a_iald B hk _ rfl (by first | assumption | omega) d_Tr_spread_94 ?_
      rw [up1_s, hF _ hj.2 (by by_cases q : i = 0; left; omega; right; have := (wu (2 * tN T - 2 - i) (by omega)).2.1; omega)]
      refine a_iast B hk _ rfl (by first | assumption | omega) d_Tr_spread_95 ?_
      rw [up1_s, up1_up1]
      refine a_aload_n B d_Tr_spread_96 rfl rfl ?_
      refine a_iload B d_Tr_spread_97 rfl ?_
      refine a_aload_n B d_Tr_spread_99 rfl rfl ?_
      refine a_iload_n B d_Tr_spread_100 rfl rfl ?_
      refine a_iald B hk _ rfl (by first | assumption | omega) d_Tr_spread_101 ?_
      rw [up1_s, upd_o (by omega), hF _ hj.2 (by by_cases q : i = 0; left; omega; right; have := (wu (2 * tN T - 2 - i) (by omega)).2.1; omega)]
      refine a_aload_n B d_Tr_spread_102 rfl rfl ?_
      refine gf_Tr_size B (by first | assumption | omega) d_Tr_spread_103 fl_Tr_24 ?_
      refine a_iload B d_Tr_spread_106 rfl ?_
      refine a_iald B (ly_T_size (by first | assumption | omega)) _ rfl (by first | assumption | omega) d_Tr_spread_108 ?_
      rw [up1_o (show tI t + 5 ≠ k by omega)]
      rw [a5 _ (by omega)]
      first | refine b_iadd B d_Tr_spread_109 ?_ | refine a_iadd B d_Tr_spread_109 ?_
      refine a_iast B hk _ rfl (by first | assumption | omega) d_Tr_spread_110 ?_
      rw [up1_s, up1_up1]
      refine a_iinc (lv1 := [(0, _), (1, _), (2, _), (3, _), (4, _), (5, _), (6, _)]) B d_Tr_spread_111 rfl (by rw [ci_m1]) (by decide) rfl ?_
      rw [sb_m1 (by omega)]
      refine a_goto B 16 d_Tr_spread_114 rfl ?_
      refine a_sub (lv1 := [(0, _), (1, _), (2, _), (3, _)]) rfl ?_
      refine ihi _ _ ⟨by rw [Nat.sub_sub], _, rfl, fun v hv h => ?_⟩
      have pL := posT_L hW2 (j := 2 * tN T - 2 - i) hj.1 hj.2
      have pR := posT_R hW2 (j := 2 * tN T - 2 - i) hj.1 hj.2
      rw [eL] at pL pR
      rw [eR] at pR
      exact spread_step (P := posT (setT T s)) hF hv (by rw [Nat.sub_sub]; exact h) hj qj (wu v) (by first | exact Or.inl ⟨rfl, rfl⟩ | exact Or.inr ⟨rfl, rfl⟩) pL pR
    have c9 : s.testBit (2 * tN T - 2 - i - tN T) = true := tb_1 c_35
    have eL : tL (setT T s) (2 * tN T - 2 - i) = tR T (2 * tN T - 2 - i) := by rw [setT_L, if_pos c9]
    have eR : tR (setT T s) (2 * tN T - 2 - i) = tL T (2 * tN T - 2 - i) := by rw [setT_R, if_pos c9]
    refine a_iconst B d_Tr_spread_38 ci_1 ?_
    refine a_goto B 43 d_Tr_spread_39 rfl ?_
    refine a_istore (lv1 := [(0, _), (1, _), (2, _), (3, _), (4, _)]) B d_Tr_spread_43 (by decide) rfl ?_
    refine a_iload B d_Tr_spread_45 rfl ?_
    refine a_if_eq B 59 d_Tr_spread_47 rfl (fun c9 => absurd c9 (by decide)) (fun _ => ?_)
    refine a_aload_n B d_Tr_spread_50 rfl rfl ?_
    refine gf_Tr_right B (by first | assumption | omega) d_Tr_spread_51 fl_Tr_15 ?_
    refine a_iload_n B d_Tr_spread_54 rfl rfl ?_
    refine a_iald B (ly_T_right (by first | assumption | omega)) _ rfl (by first | assumption | omega) d_Tr_spread_55 ?_
    rw [up1_o (show tI t + 2 ≠ k by omega)]
    rw [(b1 _ hj.1 hj.2).2]
    refine a_goto B 65 d_Tr_spread_56 rfl ?_
    refine a_istore (lv1 := [(0, _), (1, _), (2, _), (3, _), (4, _), (5, _)]) B d_Tr_spread_65 (by decide) rfl ?_
    refine a_iload B d_Tr_spread_67 rfl ?_
    refine a_if_eq B 81 d_Tr_spread_69 rfl (fun c9 => absurd c9 (by decide)) (fun _ => ?_)
    refine a_aload_n B d_Tr_spread_72 rfl rfl ?_
    refine gf_Tr_left B (by first | assumption | omega) d_Tr_spread_73 fl_Tr_9 ?_
    refine a_iload_n B d_Tr_spread_76 rfl rfl ?_
    refine a_iald B (ly_T_left (by first | assumption | omega)) _ rfl (by first | assumption | omega) d_Tr_spread_77 ?_
    rw [up1_o (show tI t + 1 ≠ k by omega)]
    rw [(b1 _ hj.1 hj.2).1]
    refine a_goto B 87 d_Tr_spread_78 rfl ?_
    refine a_istore (lv1 := [(0, _), (1, _), (2, _), (3, _), (4, _), (5, _), (6, _)]) B d_Tr_spread_87 (by decide) rfl ?_
    refine a_aload_n B d_Tr_spread_89 rfl rfl ?_
    refine a_iload B d_Tr_spread_90 rfl ?_
    refine a_aload_n B d_Tr_spread_92 rfl rfl ?_
    refine a_iload_n B d_Tr_spread_93 rfl rfl ?_
    refine a_iald B hk _ rfl (by first | assumption | omega) d_Tr_spread_94 ?_
    rw [up1_s, hF _ hj.2 (by by_cases q : i = 0; left; omega; right; have := (wu (2 * tN T - 2 - i) (by omega)).2.1; omega)]
    refine a_iast B hk _ rfl (by first | assumption | omega) d_Tr_spread_95 ?_
    rw [up1_s, up1_up1]
    refine a_aload_n B d_Tr_spread_96 rfl rfl ?_
    refine a_iload B d_Tr_spread_97 rfl ?_
    refine a_aload_n B d_Tr_spread_99 rfl rfl ?_
    refine a_iload_n B d_Tr_spread_100 rfl rfl ?_
    refine a_iald B hk _ rfl (by first | assumption | omega) d_Tr_spread_101 ?_
    rw [up1_s, upd_o (by omega), hF _ hj.2 (by by_cases q : i = 0; left; omega; right; have := (wu (2 * tN T - 2 - i) (by omega)).2.1; omega)]
    refine a_aload_n B d_Tr_spread_102 rfl rfl ?_
    refine gf_Tr_size B (by first | assumption | omega) d_Tr_spread_103 fl_Tr_24 ?_
    refine a_iload B d_Tr_spread_106 rfl ?_
    refine a_iald B (ly_T_size (by first | assumption | omega)) _ rfl (by first | assumption | omega) d_Tr_spread_108 ?_
    rw [up1_o (show tI t + 5 ≠ k by omega)]
    rw [a5 _ (by omega)]
    first | refine b_iadd B d_Tr_spread_109 ?_ | refine a_iadd B d_Tr_spread_109 ?_
    refine a_iast B hk _ rfl (by first | assumption | omega) d_Tr_spread_110 ?_
    rw [up1_s, up1_up1]
    refine a_iinc (lv1 := [(0, _), (1, _), (2, _), (3, _), (4, _), (5, _), (6, _)]) B d_Tr_spread_111 rfl (by rw [ci_m1]) (by decide) rfl ?_
    rw [sb_m1 (by omega)]
    refine a_goto B 16 d_Tr_spread_114 rfl ?_
    refine a_sub (lv1 := [(0, _), (1, _), (2, _), (3, _)]) rfl ?_
    refine ihi _ _ ⟨by rw [Nat.sub_sub], _, rfl, fun v hv h => ?_⟩
    have pL := posT_L hW2 (j := 2 * tN T - 2 - i) hj.1 hj.2
    have pR := posT_R hW2 (j := 2 * tN T - 2 - i) hj.1 hj.2
    rw [eL] at pL pR
    rw [eR] at pR
    exact spread_step (P := posT (setT T s)) hF hv (by rw [Nat.sub_sub]; exact h) hj qj (wu v) (by first | exact Or.inl ⟨rfl, rfl⟩ | exact Or.inr ⟨rfl, rfl⟩) pL pR
  · skip
    obtain ⟨rfl, f, rfl, hF⟩ := hI
    refine a_iload_n B d_Tr_spread_16 rfl rfl ?_
    refine a_aload_n B d_Tr_spread_17 rfl rfl ?_
    refine gf_Tr_leafCount B (by first | assumption | omega) d_Tr_spread_18 fl_Tr_50 ?_
    rw [up1_o (show tI t ≠ k by omega)]
    rw [a12]
    first | refine b_icmp_lt B 117 d_Tr_spread_21 rfl (by omega) (by omega) (fun c_21 => ?_) (fun c_21 => ?_) | refine a_icmp_lt B 117 d_Tr_spread_21 rfl (fun c_21 => ?_) (fun c_21 => ?_)
    · skip
      exact Rt _ _ _ d_Tr_spread_117 ⟨f, rfl, fun v hv => hF v hv (by by_cases q : v = 2 * tN T - 2; exact Or.inl q; right; have := (wu v (by omega)).1; omega)⟩
    exact absurd c_21 (by omega)
theorem d_Tr_arrange_0 : decode prog_7_method_10_code 0 = .ok (.aload_n 0, 1) := by decide +kernel
theorem d_Tr_arrange_1 : decode prog_7_method_10_code 1 = .ok (.iconst 0, 1) := by decide +kernel
theorem d_Tr_arrange_2 : decode prog_7_method_10_code 2 = .ok (.aload_n 0, 1) := by decide +kernel
theorem d_Tr_arrange_3 : decode prog_7_method_10_code 3 = .ok (.getfield 37, 3) := by decide +kernel
theorem d_Tr_arrange_6 : decode prog_7_method_10_code 6 = .ok (.invokevirtual 67, 3) := by decide +kernel
theorem d_Tr_arrange_9 : decode prog_7_method_10_code 9 = .ok (.iconst 0, 1) := by decide +kernel
theorem d_Tr_arrange_10 : decode prog_7_method_10_code 10 = .ok (.istore_n 1, 1) := by decide +kernel
theorem d_Tr_arrange_11 : decode prog_7_method_10_code 11 = .ok (.iload_n 1, 1) := by decide +kernel
theorem d_Tr_arrange_12 : decode prog_7_method_10_code 12 = .ok (.aload_n 0, 1) := by decide +kernel
theorem d_Tr_arrange_13 : decode prog_7_method_10_code 13 = .ok (.getfield 50, 3) := by decide +kernel
theorem d_Tr_arrange_16 : decode prog_7_method_10_code 16 = .ok (.if_icmp .ge 21, 3) := by decide +kernel
theorem d_Tr_arrange_19 : decode prog_7_method_10_code 19 = .ok (.aload_n 0, 1) := by decide +kernel
theorem d_Tr_arrange_20 : decode prog_7_method_10_code 20 = .ok (.getfield 40, 3) := by decide +kernel
theorem d_Tr_arrange_23 : decode prog_7_method_10_code 23 = .ok (.aload_n 0, 1) := by decide +kernel
theorem d_Tr_arrange_24 : decode prog_7_method_10_code 24 = .ok (.getfield 37, 3) := by decide +kernel
theorem d_Tr_arrange_27 : decode prog_7_method_10_code 27 = .ok (.iload_n 1, 1) := by decide +kernel
theorem d_Tr_arrange_28 : decode prog_7_method_10_code 28 = .ok (.iaload, 1) := by decide +kernel
theorem d_Tr_arrange_29 : decode prog_7_method_10_code 29 = .ok (.iload_n 1, 1) := by decide +kernel
theorem d_Tr_arrange_30 : decode prog_7_method_10_code 30 = .ok (.iastore, 1) := by decide +kernel
theorem d_Tr_arrange_31 : decode prog_7_method_10_code 31 = .ok (.iinc 1 1, 3) := by decide +kernel
theorem d_Tr_arrange_34 : decode prog_7_method_10_code 34 = .ok (.goto (-23), 3) := by decide +kernel
theorem d_Tr_arrange_37 : decode prog_7_method_10_code 37 = .ok (.return_, 1) := by decide +kernel
set_option maxRecDepth 20000 in
theorem t_Tr_arrange {g : GG} (G : Gok g) {σ : AH} {t : Nat} {T : TT} (ht : t < 4) (hW : Wf T) (hA : RtA σ t T) (hB : RtB σ t T) : TerV g 1 m_Tr_arrange [rV (tI t)] σ (fun τ => ∃ f f2, τ = up1 (up1 σ (tI t + 9) f) (tI t + 10) f2 ∧ (∀ v, v < 2 * tN T - 1 → f v = nI (posT T v)) ∧ ∀ l, l < tN T → f2 (posT T l) = nI l) := by
  refine TerV.mk G (by decide +kernel) rfl (Nat.le_of_ble_eq_true rfl) (fun K B Rt => ?_)
  have B : Cx g K prog_7_method_10_code 2 R_Tr 1 := B
  have Rt : RetV g K prog_7_method_10_code 2 (fun τ => ∃ f f2, τ = up1 (up1 σ (tI t + 9) f) (tI t + 10) f2 ∧ (∀ v, v < 2 * tN T - 1 → f v = nI (posT T v)) ∧ ∀ l, l < tN T → f2 (posT T l) = nI l) := Rt
  show AW g K 2 0 [(0, rV (tI t))] [] σ
  have hA0 := hA
  obtain ⟨a12, a13, a3, a3t, a4, a5, a6, a8⟩ := hA
  obtain ⟨w1, w10, wj, wu, wl, wm, wt, wb, wh⟩ := id hW
  refine a_aload_n B d_Tr_arrange_0 rfl rfl ?_
  refine a_iconst B d_Tr_arrange_1 ci_0 ?_
  refine a_aload_n B d_Tr_arrange_2 rfl rfl ?_
  refine gf_Tr_start B (by first | assumption | omega) d_Tr_arrange_3 fl_Tr_37 ?_
  refine a_callVV (ci := 5) B (t_Tr_spread (s := 0) G ht hW hA0 hB (ly_T_start ht) (Or.inl rfl) (by decide)) d_Tr_arrange_6 ok_Tr_spread ml_Tr_67 (ly_T (by first | assumption | omega)) rfl rfl (by decide) (by decide) rfl (Nat.le_of_ble_eq_true rfl) (fun τ_6 h_6 => ?_)
  obtain ⟨f, rfl, hf⟩ := h_6
  rw [setT_0] at hf
  refine a_iconst B d_Tr_arrange_9 ci_0 ?_
  refine a_istore_n (lv1 := [(0, _), (1, _)]) B d_Tr_arrange_10 rfl (by decide) rfl ?_
  refine a_forR (tN T) (fun i lv τ => lv = [(0, rV (tI t)), (1, iV (nI i))] ∧ ∃ f2, τ = up1 (up1 σ (tI t + 9) f) (tI t + 10) f2 ∧ ∀ l, l < i → f2 (posT T l) = nI l) (fun i lv τ hi hI ihi => ?_) (fun lv τ hI => ?_) 0 (Nat.zero_le _) _ _ ⟨rfl, _, (up1_self (σ := up1 σ (tI t + 9) f) (k := tI t + 10)).symm, fun l hl => absurd hl (Nat.not_lt_zero l)⟩
  · skip
    obtain ⟨rfl, f2, rfl, hF⟩ := hI
    refine a_iload_n B d_Tr_arrange_11 rfl rfl ?_
    refine a_aload_n B d_Tr_arrange_12 rfl rfl ?_
    refine gf_Tr_leafCount B (by first | assumption | omega) d_Tr_arrange_13 fl_Tr_50 ?_
    rw [up1_o (show tI t ≠ tI t + 10 by omega), up1_o (show tI t ≠ tI t + 9 by omega)]
    rw [a12]
    first | refine b_icmp_ge B 37 d_Tr_arrange_16 rfl (by omega) (by omega) (fun c_16 => ?_) (fun c_16 => ?_) | refine a_icmp_ge B 37 d_Tr_arrange_16 rfl (fun c_16 => ?_) (fun c_16 => ?_)
    · skip
      exact absurd c_16 (by omega)
    refine a_aload_n B d_Tr_arrange_19 rfl rfl ?_
    refine gf_Tr_leafAt B (by first | assumption | omega) d_Tr_arrange_20 fl_Tr_40 ?_
    refine a_aload_n B d_Tr_arrange_23 rfl rfl ?_
    refine gf_Tr_start B (by first | assumption | omega) d_Tr_arrange_24 fl_Tr_37 ?_
    refine a_iload_n B d_Tr_arrange_27 rfl rfl ?_
    refine a_iald B (ly_T_start (by first | assumption | omega)) _ rfl (by first | assumption | omega) d_Tr_arrange_28 ?_
    rw [up1_o (show tI t + 9 ≠ tI t + 10 by omega), up1_s, hf _ (by omega)]
    refine a_iload_n B d_Tr_arrange_29 rfl rfl ?_
    refine a_iast B (ly_T_leafAt (by first | assumption | omega)) _ rfl (by have := pos_lt hW (show i < tN T by omega); omega) d_Tr_arrange_30 ?_
    rw [up1_s, up1_up1]
    first | refine b_iinc (lv1 := [(0, _), (1, _)]) B d_Tr_arrange_31 rfl ci_1 (by decide) rfl ?_ | refine a_iinc (lv1 := [(0, _), (1, _)]) B d_Tr_arrange_31 rfl rfl (by decide) rfl ?_
    refine a_goto B 11 d_Tr_arrange_34 rfl ?_
    refine ihi _ _ ⟨rfl, _, rfl, fun l hl => ?_⟩
    by_cases e : l = i
    · rw [e, upd_s]
    · rw [upd_o (fun q => e (pos_inj hW (by omega) (by omega) q))]; exact hF l (by omega)
  · skip
    obtain ⟨rfl, f2, rfl, hF⟩ := hI
    refine a_iload_n B d_Tr_arrange_11 rfl rfl ?_
    refine a_aload_n B d_Tr_arrange_12 rfl rfl ?_
    refine gf_Tr_leafCount B (by first | assumption | omega) d_Tr_arrange_13 fl_Tr_50 ?_
    rw [up1_o (show tI t ≠ tI t + 10 by omega), up1_o (show tI t ≠ tI t + 9 by omega)]
    rw [a12]
    first | refine b_icmp_ge B 37 d_Tr_arrange_16 rfl (by omega) (by omega) (fun c_16 => ?_) (fun c_16 => ?_) | refine a_icmp_ge B 37 d_Tr_arrange_16 rfl (fun c_16 => ?_) (fun c_16 => ?_)
    · skip
      exact Rt _ _ _ d_Tr_arrange_37 ⟨f, f2, rfl, hf, hF⟩
    exact absurd c_16 (by omega)
theorem flb_L {T : TT} {pl : Nat → Int32} {i : Nat} : tL (flipsBy T (fun v => decide (v < tN T + i) && turnsAt T pl v)) (tN T + i) = tL T (tN T + i) := by
  show (if (decide (tN T + i < tN T + i) && turnsAt T pl (tN T + i)) then _ else _) = _
  simp
theorem flb_R {T : TT} {pl : Nat → Int32} {i : Nat} : tR (flipsBy T (fun v => decide (v < tN T + i) && turnsAt T pl v)) (tN T + i) = tR T (tN T + i) := by
  show (if (decide (tN T + i < tN T + i) && turnsAt T pl (tN T + i)) then _ else _) = _
  simp
theorem flb_same {T : TT} {pl : Nat → Int32} {i : Nat} (h : turnsAt T pl (tN T + i) = false) : (fun v => decide (v < tN T + (i + 1)) && turnsAt T pl v) = (fun v => decide (v < tN T + i) && turnsAt T pl v) := by
  funext v
  by_cases e : v = tN T + i
  · rw [e, h, Bool.and_false, Bool.and_false]
  · have : (v < tN T + (i + 1)) ↔ (v < tN T + i) := by omega
    rw [decide_eq_decide.mpr this]
theorem d_Tr_lookAt_0 : decode prog_7_method_16_code 0 = .ok (.iconst 0, 1) := by decide +kernel
theorem d_Tr_lookAt_1 : decode prog_7_method_16_code 1 = .ok (.istore_n 2, 1) := by decide +kernel
theorem d_Tr_lookAt_2 : decode prog_7_method_16_code 2 = .ok (.aload_n 0, 1) := by decide +kernel
theorem d_Tr_lookAt_3 : decode prog_7_method_16_code 3 = .ok (.getfield 50, 3) := by decide +kernel
theorem d_Tr_lookAt_6 : decode prog_7_method_16_code 6 = .ok (.istore_n 3, 1) := by decide +kernel
theorem d_Tr_lookAt_7 : decode prog_7_method_16_code 7 = .ok (.iload_n 3, 1) := by decide +kernel
theorem d_Tr_lookAt_8 : decode prog_7_method_16_code 8 = .ok (.aload_n 0, 1) := by decide +kernel
theorem d_Tr_lookAt_9 : decode prog_7_method_16_code 9 = .ok (.getfield 54, 3) := by decide +kernel
theorem d_Tr_lookAt_12 : decode prog_7_method_16_code 12 = .ok (.if_icmp .ge 71, 3) := by decide +kernel
theorem d_Tr_lookAt_15 : decode prog_7_method_16_code 15 = .ok (.aload_n 0, 1) := by decide +kernel
theorem d_Tr_lookAt_16 : decode prog_7_method_16_code 16 = .ok (.aload_n 0, 1) := by decide +kernel
theorem d_Tr_lookAt_17 : decode prog_7_method_16_code 17 = .ok (.getfield 15, 3) := by decide +kernel
theorem d_Tr_lookAt_20 : decode prog_7_method_16_code 20 = .ok (.iload_n 3, 1) := by decide +kernel
theorem d_Tr_lookAt_21 : decode prog_7_method_16_code 21 = .ok (.iaload, 1) := by decide +kernel
theorem d_Tr_lookAt_22 : decode prog_7_method_16_code 22 = .ok (.aload_n 0, 1) := by decide +kernel
theorem d_Tr_lookAt_23 : decode prog_7_method_16_code 23 = .ok (.getfield 9, 3) := by decide +kernel
theorem d_Tr_lookAt_26 : decode prog_7_method_16_code 26 = .ok (.iload_n 3, 1) := by decide +kernel
theorem d_Tr_lookAt_27 : decode prog_7_method_16_code 27 = .ok (.iaload, 1) := by decide +kernel
theorem d_Tr_lookAt_28 : decode prog_7_method_16_code 28 = .ok (.aload_n 1, 1) := by decide +kernel
theorem d_Tr_lookAt_29 : decode prog_7_method_16_code 29 = .ok (.invokevirtual 81, 3) := by decide +kernel
theorem d_Tr_lookAt_32 : decode prog_7_method_16_code 32 = .ok (.istore 4, 2) := by decide +kernel
theorem d_Tr_lookAt_34 : decode prog_7_method_16_code 34 = .ok (.aload_n 0, 1) := by decide +kernel
theorem d_Tr_lookAt_35 : decode prog_7_method_16_code 35 = .ok (.aload_n 0, 1) := by decide +kernel
theorem d_Tr_lookAt_36 : decode prog_7_method_16_code 36 = .ok (.getfield 9, 3) := by decide +kernel
theorem d_Tr_lookAt_39 : decode prog_7_method_16_code 39 = .ok (.iload_n 3, 1) := by decide +kernel
theorem d_Tr_lookAt_40 : decode prog_7_method_16_code 40 = .ok (.iaload, 1) := by decide +kernel
theorem d_Tr_lookAt_41 : decode prog_7_method_16_code 41 = .ok (.aload_n 0, 1) := by decide +kernel
theorem d_Tr_lookAt_42 : decode prog_7_method_16_code 42 = .ok (.getfield 15, 3) := by decide +kernel
theorem d_Tr_lookAt_45 : decode prog_7_method_16_code 45 = .ok (.iload_n 3, 1) := by decide +kernel
theorem d_Tr_lookAt_46 : decode prog_7_method_16_code 46 = .ok (.iaload, 1) := by decide +kernel
theorem d_Tr_lookAt_47 : decode prog_7_method_16_code 47 = .ok (.aload_n 1, 1) := by decide +kernel
theorem d_Tr_lookAt_48 : decode prog_7_method_16_code 48 = .ok (.invokevirtual 81, 3) := by decide +kernel
theorem d_Tr_lookAt_51 : decode prog_7_method_16_code 51 = .ok (.istore 5, 2) := by decide +kernel
theorem d_Tr_lookAt_53 : decode prog_7_method_16_code 53 = .ok (.aload_n 0, 1) := by decide +kernel
theorem d_Tr_lookAt_54 : decode prog_7_method_16_code 54 = .ok (.getfield 33, 3) := by decide +kernel
theorem d_Tr_lookAt_57 : decode prog_7_method_16_code 57 = .ok (.iload_n 3, 1) := by decide +kernel
theorem d_Tr_lookAt_58 : decode prog_7_method_16_code 58 = .ok (.baload, 1) := by decide +kernel
theorem d_Tr_lookAt_59 : decode prog_7_method_16_code 59 = .ok (.ifCond .ne 18, 3) := by decide +kernel
theorem d_Tr_lookAt_62 : decode prog_7_method_16_code 62 = .ok (.iload 5, 2) := by decide +kernel
theorem d_Tr_lookAt_64 : decode prog_7_method_16_code 64 = .ok (.iload 4, 2) := by decide +kernel
theorem d_Tr_lookAt_66 : decode prog_7_method_16_code 66 = .ok (.if_icmp .ge 11, 3) := by decide +kernel
theorem d_Tr_lookAt_69 : decode prog_7_method_16_code 69 = .ok (.aload_n 0, 1) := by decide +kernel
theorem d_Tr_lookAt_70 : decode prog_7_method_16_code 70 = .ok (.iload_n 3, 1) := by decide +kernel
theorem d_Tr_lookAt_71 : decode prog_7_method_16_code 71 = .ok (.invokevirtual 85, 3) := by decide +kernel
theorem d_Tr_lookAt_74 : decode prog_7_method_16_code 74 = .ok (.iinc 2 1, 3) := by decide +kernel
theorem d_Tr_lookAt_77 : decode prog_7_method_16_code 77 = .ok (.iinc 3 1, 3) := by decide +kernel
theorem d_Tr_lookAt_80 : decode prog_7_method_16_code 80 = .ok (.goto (-73), 3) := by decide +kernel
theorem d_Tr_lookAt_83 : decode prog_7_method_16_code 83 = .ok (.aload_n 0, 1) := by decide +kernel
theorem d_Tr_lookAt_84 : decode prog_7_method_16_code 84 = .ok (.invokevirtual 89, 3) := by decide +kernel
theorem d_Tr_lookAt_87 : decode prog_7_method_16_code 87 = .ok (.iload_n 2, 1) := by decide +kernel
theorem d_Tr_lookAt_88 : decode prog_7_method_16_code 88 = .ok (.ireturn, 1) := by decide +kernel
set_option maxRecDepth 20000 in
theorem t_Tr_lookAt {g : GG} (G : Gok g) {σ : AH} {t : Nat} {T : TT} (ht : t < 4) (hW : Wf T) (hA : RtA σ t T) (hB : RtB σ t T) {k len : Nat} {rs : List (Option Nat)} (hk : layT[k]? = some (0, len, rs)) (hlen : 10 ≤ len) (hk1 : k ≠ tI t + 1) (hk2 : k ≠ tI t + 2) (hk7 : k ≠ tI t + 7) : TerI g 2 m_Tr_lookAt [rV (tI t), rV k] σ (fun r τ => r = nI (looksN T (σ.1 k)) ∧ RtA τ t (lookT T (σ.1 k)) ∧ RtB τ t (lookT T (σ.1 k)) ∧ RtP τ t (lookT T (σ.1 k)) ∧ frT t σ τ) := by
  refine TerI.mk G (by decide +kernel) rfl (Nat.le_of_ble_eq_true rfl) (fun K B Rt => ?_)
  have B : Cx g K prog_7_method_16_code 6 R_Tr 2 := B
  have Rt : RetI g K prog_7_method_16_code 6 (fun r τ => r = nI (looksN T (σ.1 k)) ∧ RtA τ t (lookT T (σ.1 k)) ∧ RtB τ t (lookT T (σ.1 k)) ∧ RtP τ t (lookT T (σ.1 k)) ∧ frT t σ τ) := Rt
  show AW g K 6 0 [(0, rV (tI t)), (1, rV k)] [] σ
  have hA0 := hA
  obtain ⟨a12, a13, a3, a3t, a4, a5, a6, a8⟩ := hA
  obtain ⟨w1, w10, wj, wu, wl, wm, wt, wb, wh⟩ := id hW
  refine a_iconst B d_Tr_lookAt_0 ci_0 ?_
  refine a_istore_n (lv1 := [(0, _), (1, _), (2, _)]) B d_Tr_lookAt_1 rfl (by decide) rfl ?_
  refine a_aload_n B d_Tr_lookAt_2 rfl rfl ?_
  refine gf_Tr_leafCount B (by first | assumption | omega) d_Tr_lookAt_3 fl_Tr_50 ?_
  rw [a12]
  refine a_istore_n (lv1 := [(0, _), (1, _), (2, _), (3, _)]) B d_Tr_lookAt_6 rfl (by decide) rfl ?_
  refine a_forR (tN T - 1) (fun i lv τ => lv = [(0, rV (tI t)), (1, rV k), (2, iV (nI (cntB (fun i => turnsAt T (σ.1 k) (tN T + i)) i))), (3, iV (nI (tN T + i)))] ∧ RtB τ t (flipsBy T (fun v => decide (v < tN T + i) && turnsAt T (σ.1 k) v)) ∧ τ.2 = σ.2 ∧ ∀ k_1, k_1 ≠ tI t + 1 → k_1 ≠ tI t + 2 → k_1 ≠ tI t + 7 → τ.1 k_1 = σ.1 k_1) (fun i lv τ hi hI ihi => ?_) (fun lv τ hI => ?_) 0 (Nat.zero_le _) _ _ ⟨rfl, by rw [flipsBy_no (fun v => ?_)]; exact hB; show (decide (v < tN T + 0) && turnsAt T (σ.1 k) v) = false; by_cases q : v < tN T; (have q2 : ¬ tN T ≤ v := by omega); simp [turnsAt, q2]; simp [q], rfl, fun _ _ _ _ => rfl⟩
  · skip
    obtain ⟨rfl, hBi, hL, hO⟩ := hI
    refine a_iload_n B d_Tr_lookAt_7 rfl rfl ?_
    refine a_aload_n B d_Tr_lookAt_8 rfl rfl ?_
    refine gf_Tr_nodeCount B (by first | assumption | omega) d_Tr_lookAt_9 fl_Tr_54 ?_
    rw [hO _ (by omega) (by omega) (by omega), a13]
    first | refine b_icmp_ge B 83 d_Tr_lookAt_12 rfl (by omega) (by omega) (fun c_12 => ?_) (fun c_12 => ?_) | refine a_icmp_ge B 83 d_Tr_lookAt_12 rfl (fun c_12 => ?_) (fun c_12 => ?_)
    · skip
      exact absurd c_12 (by omega)
    have qj := wj (tN T + i) (by omega) (by omega)
    have hAi : RtA τ t T := hA0.of rfl rfl rfl rfl rfl (hO _ (by omega) (by omega) (by omega)) (hO _ (by omega) (by omega) (by omega)) (hO _ (by omega) (by omega) (by omega)) (hO _ (by omega) (by omega) (by omega)) (hO _ (by omega) (by omega) (by omega)) (hO _ (by omega) (by omega) (by omega))
    have p1 := pa_le (tM T (tR T (tN T + i))) (tM T (tL T (tN T + i))) (σ.1 k)
    have p2 := pa_le (tM T (tL T (tN T + i))) (tM T (tR T (tN T + i))) (σ.1 k)
    refine a_aload_n B d_Tr_lookAt_15 rfl rfl ?_
    refine a_aload_n B d_Tr_lookAt_16 rfl rfl ?_
    refine gf_Tr_right B (by first | assumption | omega) d_Tr_lookAt_17 fl_Tr_15 ?_
    refine a_iload_n B d_Tr_lookAt_20 rfl rfl ?_
    refine a_iald B (ly_T_right (by first | assumption | omega)) _ rfl (by first | assumption | omega) d_Tr_lookAt_21 ?_
    rw [(hBi.2.1 _ (by show tN T ≤ _; omega) (by show _ < 2 * tN T - 1; omega)).2, flb_R]
    refine a_aload_n B d_Tr_lookAt_22 rfl rfl ?_
    refine gf_Tr_left B (by first | assumption | omega) d_Tr_lookAt_23 fl_Tr_9 ?_
    refine a_iload_n B d_Tr_lookAt_26 rfl rfl ?_
    refine a_iald B (ly_T_left (by first | assumption | omega)) _ rfl (by first | assumption | omega) d_Tr_lookAt_27 ?_
    rw [(hBi.2.1 _ (by show tN T ≤ _; omega) (by show _ < 2 * tN T - 1; omega)).1, flb_L]
    refine a_aload_n B d_Tr_lookAt_28 rfl rfl ?_
    refine a_callVI (ci := 5) B (t_Tr_pairsAhead G ht hW hAi hk hlen (by omega) (by omega)) d_Tr_lookAt_29 ok_Tr_pairsAhead ml_Tr_81 (ly_T (by first | assumption | omega)) rfl rfl (by decide) (by decide) rfl (Nat.le_of_ble_eq_true rfl) (fun r_29 τ_29 h_29 => ?_)
    obtain ⟨hr_29, hs_29⟩ := h_29
    subst hr_29
    replace hs_29 := hs_29.symm
    subst hs_29
    rw [show τ.1 k = σ.1 k from hO _ (by omega) (by omega) (by omega)]
    refine a_istore (lv1 := [(0, _), (1, _), (2, _), (3, _), (4, _)]) B d_Tr_lookAt_32 (by decide) rfl ?_
    refine a_aload_n B d_Tr_lookAt_34 rfl rfl ?_
    refine a_aload_n B d_Tr_lookAt_35 rfl rfl ?_
    refine gf_Tr_left B (by first | assumption | omega) d_Tr_lookAt_36 fl_Tr_9 ?_
    refine a_iload_n B d_Tr_lookAt_39 rfl rfl ?_
    refine a_iald B (ly_T_left (by first | assumption | omega)) _ rfl (by first | assumption | omega) d_Tr_lookAt_40 ?_
    rw [(hBi.2.1 _ (by show tN T ≤ _; omega) (by show _ < 2 * tN T - 1; omega)).1, flb_L]
    refine a_aload_n B d_Tr_lookAt_41 rfl rfl ?_
    refine gf_Tr_right B (by first | assumption | omega) d_Tr_lookAt_42 fl_Tr_15 ?_
    refine a_iload_n B d_Tr_lookAt_45 rfl rfl ?_
    refine a_iald B (ly_T_right (by first | assumption | omega)) _ rfl (by first | assumption | omega) d_Tr_lookAt_46 ?_
    rw [(hBi.2.1 _ (by show tN T ≤ _; omega) (by show _ < 2 * tN T - 1; omega)).2, flb_R]
    refine a_aload_n B d_Tr_lookAt_47 rfl rfl ?_
    refine a_callVI (ci := 5) B (t_Tr_pairsAhead G ht hW hAi hk hlen (by omega) (by omega)) d_Tr_lookAt_48 ok_Tr_pairsAhead ml_Tr_81 (ly_T (by first | assumption | omega)) rfl rfl (by decide) (by decide) rfl (Nat.le_of_ble_eq_true rfl) (fun r_48 τ_48 h_48 => ?_)
    obtain ⟨hr_48, hs_48⟩ := h_48
    subst hr_48
    replace hs_48 := hs_48.symm
    subst hs_48
    rw [show τ.1 k = σ.1 k from hO _ (by omega) (by omega) (by omega)]
    refine a_istore (lv1 := [(0, _), (1, _), (2, _), (3, _), (4, _), (5, _)]) B d_Tr_lookAt_51 (by decide) rfl ?_
    refine a_aload_n B d_Tr_lookAt_53 rfl rfl ?_
    refine gf_Tr_held B (by first | assumption | omega) d_Tr_lookAt_54 fl_Tr_33 ?_
    refine a_iload_n B d_Tr_lookAt_57 rfl rfl ?_
    refine a_zald B (ly_T_held (by first | assumption | omega)) _ rfl (by first | assumption | omega) d_Tr_lookAt_58 ?_
    rw [hO _ (by omega) (by omega) (by omega), a8 _ (by omega)]
    first | refine b_if_ne_b B 77 d_Tr_lookAt_59 rfl (fun c_59 => ?_) (fun c_59 => ?_) | refine a_if_ne B 77 d_Tr_lookAt_59 rfl (fun c_59 => ?_) (fun c_59 => ?_)
    · skip
      have hF : turnsAt T (σ.1 k) (tN T + i) = false := by simp [turnsAt, c_59]
      first | refine b_iinc (lv1 := [(0, _), (1, _), (2, _), (3, _), (4, _), (5, _)]) B d_Tr_lookAt_77 rfl ci_1 (by decide) rfl ?_ | refine a_iinc (lv1 := [(0, _), (1, _), (2, _), (3, _), (4, _), (5, _)]) B d_Tr_lookAt_77 rfl rfl (by decide) rfl ?_
      refine a_goto B 7 d_Tr_lookAt_80 rfl ?_
      refine a_sub (lv1 := [(0, _), (1, _), (2, _), (3, _)]) rfl ?_
      first | refine ihi _ _ ⟨by rw [show cntB (fun i => turnsAt T (σ.1 k) (tN T + i)) (i + 1) = cntB (fun i => turnsAt T (σ.1 k) (tN T + i)) i from (by simp [cntB, hF])]; rfl, by rw [flb_same hF]; exact hBi, hL, hO⟩ | refine ihi _ _ ⟨by rw [show cntB (fun i => turnsAt T (σ.1 k) (tN T + i)) (i + 1) = cntB (fun i => turnsAt T (σ.1 k) (tN T + i)) i + 1 from (by simp [cntB, hT])]; rfl, RtB_swap hBi (by omega) (by omega) (by simp) (by simp [hT]) (fun v hv => by have e9 : (v < tN T + (i + 1)) ↔ (v < tN T + i) := (by omega); simp [e9]), hL, fun k_1 q1 q2 q7 => by rw [swapH_o q1 q2 q7]; exact hO k_1 q1 q2 q7⟩
    refine a_iload B d_Tr_lookAt_62 rfl ?_
    refine a_iload B d_Tr_lookAt_64 rfl ?_
    first | refine b_icmp_ge B 77 d_Tr_lookAt_66 rfl (by omega) (by omega) (fun c_66 => ?_) (fun c_66 => ?_) | refine a_icmp_ge B 77 d_Tr_lookAt_66 rfl (fun c_66 => ?_) (fun c_66 => ?_)
    · skip
      have hF : turnsAt T (σ.1 k) (tN T + i) = false := by simp [turnsAt]; omega
      first | refine b_iinc (lv1 := [(0, _), (1, _), (2, _), (3, _), (4, _), (5, _)]) B d_Tr_lookAt_77 rfl ci_1 (by decide) rfl ?_ | refine a_iinc (lv1 := [(0, _), (1, _), (2, _), (3, _), (4, _), (5, _)]) B d_Tr_lookAt_77 rfl rfl (by decide) rfl ?_
      refine a_goto B 7 d_Tr_lookAt_80 rfl ?_
      refine a_sub (lv1 := [(0, _), (1, _), (2, _), (3, _)]) rfl ?_
      first | refine ihi _ _ ⟨by rw [show cntB (fun i => turnsAt T (σ.1 k) (tN T + i)) (i + 1) = cntB (fun i => turnsAt T (σ.1 k) (tN T + i)) i from (by simp [cntB, hF])]; rfl, by rw [flb_same hF]; exact hBi, hL, hO⟩ | refine ihi _ _ ⟨by rw [show cntB (fun i => turnsAt T (σ.1 k) (tN T + i)) (i + 1) = cntB (fun i => turnsAt T (σ.1 k) (tN T + i)) i + 1 from (by simp [cntB, hT])]; rfl, RtB_swap hBi (by omega) (by omega) (by simp) (by simp [hT]) (fun v hv => by have e9 : (v < tN T + (i + 1)) ↔ (v < tN T + i) := (by omega); simp [e9]), hL, fun k_1 q1 q2 q7 => by rw [swapH_o q1 q2 q7]; exact hO k_1 q1 q2 q7⟩
    have hT : turnsAt T (σ.1 k) (tN T + i) = true := by simp [turnsAt, c_59, c_66]; omega
    refine a_aload_n B d_Tr_lookAt_69 rfl rfl ?_
    refine a_iload_n B d_Tr_lookAt_70 rfl rfl ?_
    refine a_callVV (ci := 5) B (t_Tr_swap G ht (by omega)) d_Tr_lookAt_71 ok_Tr_swap ml_Tr_85 (ly_T (by first | assumption | omega)) rfl rfl (by decide) (by decide) rfl (Nat.le_of_ble_eq_true rfl) (fun τ_71 h_71 => ?_)
    subst h_71
    first | refine b_iinc (lv1 := [(0, _), (1, _), (2, _), (3, _), (4, _), (5, _)]) B d_Tr_lookAt_74 rfl ci_1 (by decide) rfl ?_ | refine a_iinc (lv1 := [(0, _), (1, _), (2, _), (3, _), (4, _), (5, _)]) B d_Tr_lookAt_74 rfl rfl (by decide) rfl ?_
    first | refine b_iinc (lv1 := [(0, _), (1, _), (2, _), (3, _), (4, _), (5, _)]) B d_Tr_lookAt_77 rfl ci_1 (by decide) rfl ?_ | refine a_iinc (lv1 := [(0, _), (1, _), (2, _), (3, _), (4, _), (5, _)]) B d_Tr_lookAt_77 rfl rfl (by decide) rfl ?_
    refine a_goto B 7 d_Tr_lookAt_80 rfl ?_
    refine a_sub (lv1 := [(0, _), (1, _), (2, _), (3, _)]) rfl ?_
    first | refine ihi _ _ ⟨by rw [show cntB (fun i => turnsAt T (σ.1 k) (tN T + i)) (i + 1) = cntB (fun i => turnsAt T (σ.1 k) (tN T + i)) i from (by simp [cntB, hF])]; rfl, by rw [flb_same hF]; exact hBi, hL, hO⟩ | refine ihi _ _ ⟨by rw [show cntB (fun i => turnsAt T (σ.1 k) (tN T + i)) (i + 1) = cntB (fun i => turnsAt T (σ.1 k) (tN T + i)) i + 1 from (by simp [cntB, hT])]; rfl, RtB_swap hBi (by omega) (by omega) (by simp) (by simp [hT]) (fun v hv => by have e9 : (v < tN T + (i + 1)) ↔ (v < tN T + i) := (by omega); simp [e9]), hL, fun k_1 q1 q2 q7 => by rw [swapH_o q1 q2 q7]; exact hO k_1 q1 q2 q7⟩
  · skip
    obtain ⟨rfl, hBi, hL, hO⟩ := hI
    refine a_iload_n B d_Tr_lookAt_7 rfl rfl ?_
    refine a_aload_n B d_Tr_lookAt_8 rfl rfl ?_
    refine gf_Tr_nodeCount B (by first | assumption | omega) d_Tr_lookAt_9 fl_Tr_54 ?_
    rw [hO _ (by omega) (by omega) (by omega), a13]
    first | refine b_icmp_ge B 83 d_Tr_lookAt_12 rfl (by omega) (by omega) (fun c_12 => ?_) (fun c_12 => ?_) | refine a_icmp_ge B 83 d_Tr_lookAt_12 rfl (fun c_12 => ?_) (fun c_12 => ?_)
    · skip
      have eF : flipsBy T (fun v => decide (v < tN T + (tN T - 1)) && turnsAt T (σ.1 k) v) = lookT T (σ.1 k) := by
        unfold lookT
        congr 1
        funext v
        by_cases q : v < tN T + (tN T - 1)
        · simp [q]
        · have q2 : ¬ v < 2 * tN T - 1 := by omega
          simp [turnsAt, q2]
      rw [eF] at hBi
      have hAe : RtA τ t (lookT T (σ.1 k)) := hA0.of rfl rfl rfl rfl rfl (hO _ (by omega) (by omega) (by omega)) (hO _ (by omega) (by omega) (by omega)) (hO _ (by omega) (by omega) (by omega)) (hO _ (by omega) (by omega) (by omega)) (hO _ (by omega) (by omega) (by omega)) (hO _ (by omega) (by omega) (by omega))
      refine a_aload_n B d_Tr_lookAt_83 rfl rfl ?_
      refine a_callVV (ci := 5) B (t_Tr_arrange G ht (Wf_flips hW) hAe hBi) d_Tr_lookAt_84 ok_Tr_arrange ml_Tr_89 (ly_T (by first | assumption | omega)) rfl rfl (by decide) (by decide) rfl (Nat.le_of_ble_eq_true rfl) (fun τ_84 h_84 => ?_)
      obtain ⟨f, f2, rfl, hf, hf2⟩ := h_84
      refine a_iload_n B d_Tr_lookAt_87 rfl rfl ?_
      exact Rt _ _ _ _ d_Tr_lookAt_88 ⟨rfl, hAe.of rfl rfl rfl rfl rfl (by rw [up1_o (by omega), up1_o (by omega)]) (by rw [up1_o (by omega), up1_o (by omega)]) (by rw [up1_o (by omega), up1_o (by omega)]) (by rw [up1_o (by omega), up1_o (by omega)]) (by rw [up1_o (by omega), up1_o (by omega)]) (by rw [up1_o (by omega), up1_o (by omega)]), hBi.of (by rw [up1_o (by omega), up1_o (by omega)]) (by rw [up1_o (by omega), up1_o (by omega)]) (by rw [up1_o (by omega), up1_o (by omega)]), ⟨fun v hv => by rw [up1_o (by omega), up1_s]; exact hf v hv, fun l hl => by rw [up1_s]; exact hf2 l hl⟩, hL, fun k_1 q1 q2 q7 q9 q10 => by rw [up1_o q10, up1_o q9]; exact hO k_1 q1 q2 q7⟩
    exact absurd c_12 (by omega)
