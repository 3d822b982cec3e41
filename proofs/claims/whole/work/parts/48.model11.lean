/-! the reference: how far two sets are apart -/
def rS (u : Nat → Nat → Nat) (a b i j : Nat) : Nat := if a.testBit i && b.testBit j then u i j else 0
def rN (u : Nat → Nat → Nat) (a b i j : Nat) : Nat := if a.testBit i && b.testBit j then u i j else 20000
def mnV (m : Nat) : Int32 := if m = 20000 then -9 else nI m
theorem hb_lt {a n i : Nat} (ha : a < 2 ^ n) (hi : n ≤ i) : a.testBit i = false := Nat.testBit_lt_two_pow (Nat.lt_of_lt_of_le ha (Nat.pow_le_pow_right (by decide) hi))
theorem maxTo_ext {f : Nat → Nat} {n : Nat} : ∀ {m : Nat}, n ≤ m → (∀ k, n ≤ k → k < m → f k = 0) → maxTo f m = maxTo f n
  | 0, h, _ => by rw [show n = 0 by omega]
  | m + 1, h, hz => by
    by_cases e : n = m + 1
    · rw [e]
    · show max (maxTo f m) (f m) = _
      rw [hz m (by omega) (by omega), maxTo_ext (m := m) (by omega) (fun k q1 q2 => hz k q1 (by omega))]
      omega
theorem minTo_ext {f : Nat → Nat} {n : Nat} : ∀ {m : Nat}, n ≤ m → (∀ k, n ≤ k → k < m → f k = 20000) → minTo f m = minTo f n
  | 0, h, _ => by rw [show n = 0 by omega]
  | m + 1, h, hz => by
    by_cases e : n = m + 1
    · rw [e]
    · show min (minTo f m) (f m) = _
      rw [hz m (by omega) (by omega), minTo_ext (m := m) (by omega) (fun k q1 q2 => hz k q1 (by omega))]
      have := minTo_le f n
      omega
theorem minTo_low {f : Nat → Nat} : ∀ {k n : Nat}, k < n → minTo f n ≤ f k
  | k, n + 1, h => by
    show min (minTo f n) (f n) ≤ f k
    by_cases e : k = n
    · rw [e]; exact Nat.min_le_right _ _
    · exact Nat.le_trans (Nat.min_le_left _ _) (minTo_low (by omega))
theorem fS_10 {u : Nat → Nat → Nat} {a b n : Nat} (hn : n ≤ 10) (ha : a < 2 ^ n) (hb : b < 2 ^ n) : fSum u 10 a b = sumTo (fun i => sumTo (rS u a b i) n) n := by
  have e : ∀ i, sumTo (rS u a b i) 10 = sumTo (rS u a b i) n := fun i => (sumTo_ext hn (fun k q1 q2 => by unfold rS; rw [hb_lt hb q1, Bool.and_false]; rfl)).symm
  show sumTo (fun i => sumTo (rS u a b i) 10) 10 = _
  rw [funext e]
  exact (sumTo_ext hn (fun k q1 q2 => sumTo_zero (fun j hj => by unfold rS; rw [hb_lt ha q1]; rfl))).symm
theorem fX_10 {u : Nat → Nat → Nat} {a b n : Nat} (hn : n ≤ 10) (ha : a < 2 ^ n) (hb : b < 2 ^ n) : fMax u 10 a b = maxTo (fun i => maxTo (rS u a b i) n) n := by
  have e : ∀ i, maxTo (rS u a b i) 10 = maxTo (rS u a b i) n := fun i => maxTo_ext hn (fun k q1 q2 => by unfold rS; rw [hb_lt hb q1, Bool.and_false]; rfl)
  show maxTo (fun i => maxTo (rS u a b i) 10) 10 = _
  rw [funext e]
  exact maxTo_ext hn (fun k q1 q2 => by rw [maxTo_congr (f' := fun _ => 0) (fun j hj => by unfold rS; rw [hb_lt ha q1]; rfl), maxTo_0])
theorem fN_10 {u : Nat → Nat → Nat} {a b n : Nat} (hn : n ≤ 10) (ha : a < 2 ^ n) (hb : b < 2 ^ n) : fMin u 10 a b = minTo (fun i => minTo (rN u a b i) n) n := by
  have e : ∀ i, minTo (rN u a b i) 10 = minTo (rN u a b i) n := fun i => minTo_ext hn (fun k q1 q2 => by unfold rN; rw [hb_lt hb q1, Bool.and_false]; rfl)
  show minTo (fun i => minTo (rN u a b i) 10) 10 = _
  rw [funext e]
  exact minTo_ext hn (fun k q1 q2 => by rw [minTo_congr (f' := fun _ => 20000) (fun j hj => by unfold rN; rw [hb_lt ha q1]; rfl), minTo_0])
theorem cB_ex {a n : Nat} (ha : a < 2 ^ n) (h : 0 < cB a) : ∃ i, i < n ∧ a.testBit i = true := by
  have : a ≠ 0 := fun q => by rw [q] at h; exact absurd h (by decide)
  obtain ⟨i, hi⟩ := Nat.exists_testBit_of_ne_zero this
  refine ⟨i, Nat.lt_of_not_le (fun q => ?_), hi⟩
  rw [hb_lt ha q] at hi
  cases hi
theorem fN_some {u : Nat → Nat → Nat} (hu : ∀ a b, u a b ≤ 10000) {a b n : Nat} (ha : a < 2 ^ n) (hb : b < 2 ^ n) (h1 : 0 < cB a) (h2 : 0 < cB b) : minTo (fun i => minTo (rN u a b i) n) n ≤ 10000 := by
  obtain ⟨i, hi, ti⟩ := cB_ex ha h1
  obtain ⟨j, hj, tj⟩ := cB_ex hb h2
  refine Nat.le_trans (minTo_low (f := fun i => minTo (rN u a b i) n) hi) (Nat.le_trans (minTo_low (f := rN u a b i) hj) ?_)
  unfold rN
  rw [ti, tj]
  exact hu i j
def farH (σ : AH) (x y : Int32) : AH := up1 (up1 σ 106 (upd (σ.1 106) 15 x)) 106 (upd ((up1 σ 106 (upd (σ.1 106) 15 x)).1 106) 16 y)
theorem farH_o {σ : AH} {x y : Int32} {k : Nat} (h : k ≠ 106) : (farH σ x y).1 k = σ.1 k := by
  unfold farH
  rw [up1_o h, up1_o h]
theorem farH_f {σ : AH} {x y : Int32} {j : Nat} (h : j ≠ 15) (h' : j ≠ 16) : (farH σ x y).1 106 j = σ.1 106 j := by
  unfold farH
  rw [up1_s, upd_o h', up1_s, upd_o h]
theorem farH_15 {σ : AH} {x y : Int32} : (farH σ x y).1 106 15 = x := by
  unfold farH
  rw [up1_s, upd_o (by decide), up1_s, upd_s]
theorem farH_16 {σ : AH} {x y : Int32} : (farH σ x y).1 106 16 = y := by
  unfold farH
  rw [up1_s, upd_s]
theorem rS_y {u : Nat → Nat → Nat} {a b i j : Nat} (h1 : a.testBit i = true) (h2 : b.testBit j = true) : rS u a b i j = u i j ∧ rN u a b i j = u i j := by
  unfold rS rN
  rw [h1, h2]
  exact ⟨rfl, rfl⟩
theorem rS_n {u : Nat → Nat → Nat} {a b i j : Nat} (h : a.testBit i = false ∨ b.testBit j = false) : rS u a b i j = 0 ∧ rN u a b i j = 20000 := by
  unfold rS rN
  have : (a.testBit i && b.testBit j) = false := by
    rcases h with h | h
    · rw [h, Bool.false_and]
    · rw [h, Bool.and_false]
  rw [this]
  exact ⟨rfl, rfl⟩
theorem d_Mo_setFar_0 : decode prog_9_method_20_code 0 = .ok (.iconst 0, 1) := by decide +kernel
theorem d_Mo_setFar_1 : decode prog_9_method_20_code 1 = .ok (.istore 4, 2) := by decide +kernel
theorem d_Mo_setFar_3 : decode prog_9_method_20_code 3 = .ok (.bipush (-9), 2) := by decide +kernel
theorem d_Mo_setFar_5 : decode prog_9_method_20_code 5 = .ok (.istore 5, 2) := by decide +kernel
theorem d_Mo_setFar_7 : decode prog_9_method_20_code 7 = .ok (.iconst 0, 1) := by decide +kernel
theorem d_Mo_setFar_8 : decode prog_9_method_20_code 8 = .ok (.istore 6, 2) := by decide +kernel
theorem d_Mo_setFar_10 : decode prog_9_method_20_code 10 = .ok (.iconst 0, 1) := by decide +kernel
theorem d_Mo_setFar_11 : decode prog_9_method_20_code 11 = .ok (.istore 7, 2) := by decide +kernel
theorem d_Mo_setFar_13 : decode prog_9_method_20_code 13 = .ok (.iload 7, 2) := by decide +kernel
theorem d_Mo_setFar_15 : decode prog_9_method_20_code 15 = .ok (.aload_n 0, 1) := by decide +kernel
theorem d_Mo_setFar_16 : decode prog_9_method_20_code 16 = .ok (.getfield 84, 3) := by decide +kernel
theorem d_Mo_setFar_19 : decode prog_9_method_20_code 19 = .ok (.if_icmp .ge 101, 3) := by decide +kernel
theorem d_Mo_setFar_22 : decode prog_9_method_20_code 22 = .ok (.iconst 0, 1) := by decide +kernel
theorem d_Mo_setFar_23 : decode prog_9_method_20_code 23 = .ok (.istore 8, 2) := by decide +kernel
theorem d_Mo_setFar_25 : decode prog_9_method_20_code 25 = .ok (.iload 8, 2) := by decide +kernel
theorem d_Mo_setFar_27 : decode prog_9_method_20_code 27 = .ok (.aload_n 0, 1) := by decide +kernel
theorem d_Mo_setFar_28 : decode prog_9_method_20_code 28 = .ok (.getfield 84, 3) := by decide +kernel
theorem d_Mo_setFar_31 : decode prog_9_method_20_code 31 = .ok (.if_icmp .ge 83, 3) := by decide +kernel
theorem d_Mo_setFar_34 : decode prog_9_method_20_code 34 = .ok (.iload_n 1, 1) := by decide +kernel
theorem d_Mo_setFar_35 : decode prog_9_method_20_code 35 = .ok (.iload 7, 2) := by decide +kernel
theorem d_Mo_setFar_37 : decode prog_9_method_20_code 37 = .ok (.ishr, 1) := by decide +kernel
theorem d_Mo_setFar_38 : decode prog_9_method_20_code 38 = .ok (.iconst 1, 1) := by decide +kernel
theorem d_Mo_setFar_39 : decode prog_9_method_20_code 39 = .ok (.iand, 1) := by decide +kernel
theorem d_Mo_setFar_40 : decode prog_9_method_20_code 40 = .ok (.iconst 1, 1) := by decide +kernel
theorem d_Mo_setFar_41 : decode prog_9_method_20_code 41 = .ok (.if_icmp .ne 67, 3) := by decide +kernel
theorem d_Mo_setFar_44 : decode prog_9_method_20_code 44 = .ok (.iload_n 2, 1) := by decide +kernel
theorem d_Mo_setFar_45 : decode prog_9_method_20_code 45 = .ok (.iload 8, 2) := by decide +kernel
theorem d_Mo_setFar_47 : decode prog_9_method_20_code 47 = .ok (.ishr, 1) := by decide +kernel
theorem d_Mo_setFar_48 : decode prog_9_method_20_code 48 = .ok (.iconst 1, 1) := by decide +kernel
theorem d_Mo_setFar_49 : decode prog_9_method_20_code 49 = .ok (.iand, 1) := by decide +kernel
theorem d_Mo_setFar_50 : decode prog_9_method_20_code 50 = .ok (.iconst 1, 1) := by decide +kernel
theorem d_Mo_setFar_51 : decode prog_9_method_20_code 51 = .ok (.if_icmp .ne 57, 3) := by decide +kernel
theorem d_Mo_setFar_54 : decode prog_9_method_20_code 54 = .ok (.aload_n 0, 1) := by decide +kernel
theorem d_Mo_setFar_55 : decode prog_9_method_20_code 55 = .ok (.iload 7, 2) := by decide +kernel
theorem d_Mo_setFar_57 : decode prog_9_method_20_code 57 = .ok (.iload 8, 2) := by decide +kernel
theorem d_Mo_setFar_59 : decode prog_9_method_20_code 59 = .ok (.invokevirtual 104, 3) := by decide +kernel
theorem d_Mo_setFar_62 : decode prog_9_method_20_code 62 = .ok (.istore 9, 2) := by decide +kernel
theorem d_Mo_setFar_64 : decode prog_9_method_20_code 64 = .ok (.iload 4, 2) := by decide +kernel
theorem d_Mo_setFar_66 : decode prog_9_method_20_code 66 = .ok (.iload 9, 2) := by decide +kernel
theorem d_Mo_setFar_68 : decode prog_9_method_20_code 68 = .ok (.iadd, 1) := by decide +kernel
theorem d_Mo_setFar_69 : decode prog_9_method_20_code 69 = .ok (.istore 4, 2) := by decide +kernel
theorem d_Mo_setFar_71 : decode prog_9_method_20_code 71 = .ok (.iload 5, 2) := by decide +kernel
theorem d_Mo_setFar_73 : decode prog_9_method_20_code 73 = .ok (.ifCond .lt 10, 3) := by decide +kernel
theorem d_Mo_setFar_76 : decode prog_9_method_20_code 76 = .ok (.iload 9, 2) := by decide +kernel
theorem d_Mo_setFar_78 : decode prog_9_method_20_code 78 = .ok (.iload 5, 2) := by decide +kernel
theorem d_Mo_setFar_80 : decode prog_9_method_20_code 80 = .ok (.if_icmp .ge 8, 3) := by decide +kernel
theorem d_Mo_setFar_83 : decode prog_9_method_20_code 83 = .ok (.iload 9, 2) := by decide +kernel
theorem d_Mo_setFar_85 : decode prog_9_method_20_code 85 = .ok (.goto 5, 3) := by decide +kernel
theorem d_Mo_setFar_88 : decode prog_9_method_20_code 88 = .ok (.iload 5, 2) := by decide +kernel
theorem d_Mo_setFar_90 : decode prog_9_method_20_code 90 = .ok (.istore 5, 2) := by decide +kernel
theorem d_Mo_setFar_92 : decode prog_9_method_20_code 92 = .ok (.iload 9, 2) := by decide +kernel
theorem d_Mo_setFar_94 : decode prog_9_method_20_code 94 = .ok (.iload 6, 2) := by decide +kernel
theorem d_Mo_setFar_96 : decode prog_9_method_20_code 96 = .ok (.if_icmp .le 8, 3) := by decide +kernel
theorem d_Mo_setFar_99 : decode prog_9_method_20_code 99 = .ok (.iload 9, 2) := by decide +kernel
theorem d_Mo_setFar_101 : decode prog_9_method_20_code 101 = .ok (.goto 5, 3) := by decide +kernel
theorem d_Mo_setFar_104 : decode prog_9_method_20_code 104 = .ok (.iload 6, 2) := by decide +kernel
theorem d_Mo_setFar_106 : decode prog_9_method_20_code 106 = .ok (.istore 6, 2) := by decide +kernel
theorem d_Mo_setFar_108 : decode prog_9_method_20_code 108 = .ok (.iinc 8 1, 3) := by decide +kernel
theorem d_Mo_setFar_111 : decode prog_9_method_20_code 111 = .ok (.goto (-86), 3) := by decide +kernel
theorem d_Mo_setFar_114 : decode prog_9_method_20_code 114 = .ok (.iinc 7 1, 3) := by decide +kernel
theorem d_Mo_setFar_117 : decode prog_9_method_20_code 117 = .ok (.goto (-104), 3) := by decide +kernel
theorem d_Mo_setFar_120 : decode prog_9_method_20_code 120 = .ok (.aload_n 0, 1) := by decide +kernel
theorem d_Mo_setFar_121 : decode prog_9_method_20_code 121 = .ok (.iload_n 3, 1) := by decide +kernel
theorem d_Mo_setFar_122 : decode prog_9_method_20_code 122 = .ok (.ifCond .ne 8, 3) := by decide +kernel
theorem d_Mo_setFar_125 : decode prog_9_method_20_code 125 = .ok (.iload 5, 2) := by decide +kernel
theorem d_Mo_setFar_127 : decode prog_9_method_20_code 127 = .ok (.goto 15, 3) := by decide +kernel
theorem d_Mo_setFar_130 : decode prog_9_method_20_code 130 = .ok (.iload_n 3, 1) := by decide +kernel
theorem d_Mo_setFar_131 : decode prog_9_method_20_code 131 = .ok (.iconst 1, 1) := by decide +kernel
theorem d_Mo_setFar_132 : decode prog_9_method_20_code 132 = .ok (.if_icmp .ne 8, 3) := by decide +kernel
theorem d_Mo_setFar_135 : decode prog_9_method_20_code 135 = .ok (.iload 6, 2) := by decide +kernel
theorem d_Mo_setFar_137 : decode prog_9_method_20_code 137 = .ok (.goto 5, 3) := by decide +kernel
theorem d_Mo_setFar_140 : decode prog_9_method_20_code 140 = .ok (.iload 4, 2) := by decide +kernel
theorem d_Mo_setFar_142 : decode prog_9_method_20_code 142 = .ok (.putfield 114, 3) := by decide +kernel
theorem d_Mo_setFar_145 : decode prog_9_method_20_code 145 = .ok (.aload_n 0, 1) := by decide +kernel
theorem d_Mo_setFar_146 : decode prog_9_method_20_code 146 = .ok (.iload_n 3, 1) := by decide +kernel
theorem d_Mo_setFar_147 : decode prog_9_method_20_code 147 = .ok (.iconst 2, 1) := by decide +kernel
theorem d_Mo_setFar_148 : decode prog_9_method_20_code 148 = .ok (.if_icmp .ne 15, 3) := by decide +kernel
theorem d_Mo_setFar_151 : decode prog_9_method_20_code 151 = .ok (.iload_n 1, 1) := by decide +kernel
theorem d_Mo_setFar_152 : decode prog_9_method_20_code 152 = .ok (.invokestatic 117, 3) := by decide +kernel
theorem d_Mo_setFar_155 : decode prog_9_method_20_code 155 = .ok (.iload_n 2, 1) := by decide +kernel
theorem d_Mo_setFar_156 : decode prog_9_method_20_code 156 = .ok (.invokestatic 117, 3) := by decide +kernel
theorem d_Mo_setFar_159 : decode prog_9_method_20_code 159 = .ok (.imul, 1) := by decide +kernel
theorem d_Mo_setFar_160 : decode prog_9_method_20_code 160 = .ok (.goto 4, 3) := by decide +kernel
theorem d_Mo_setFar_163 : decode prog_9_method_20_code 163 = .ok (.iconst 1, 1) := by decide +kernel
theorem d_Mo_setFar_164 : decode prog_9_method_20_code 164 = .ok (.putfield 120, 3) := by decide +kernel
theorem d_Mo_setFar_167 : decode prog_9_method_20_code 167 = .ok (.return_, 1) := by decide +kernel
set_option maxHeartbeats 4000000 in
set_option maxRecDepth 20000 in
theorem t_Mo_setFar {g : GG} (G : Gok g) {σ : AH} {n : Nat} {th : Nat → Bool} {pl : Nat → Nat → Nat} (hR : RoM σ n th pl) {a b w : Nat} (ha : a < 2 ^ n) (hb : b < 2 ^ n) (h1 : 0 < cB a) (h2 : 0 < cB b) (hw : w < 3) : TerV g 1 m_Mo_setFar [rV 106, iV (nI a), iV (nI b), iV (nI w)] σ (fun τ => τ = farH σ (nI (fUp (unl n th pl) w a b)) (nI (fLow w a b))) := by
  refine TerV.mk G (by decide +kernel) rfl (Nat.le_of_ble_eq_true rfl) (fun K B Rt => ?_)
  have B : Cx g K prog_9_method_20_code 10 R_Mo 1 := B
  have Rt : RetV g K prog_9_method_20_code 10 (fun τ => τ = farH σ (nI (fUp (unl n th pl) w a b)) (nI (fLow w a b))) := Rt
  show AW g K 10 0 [(0, rV 106), (1, iV (nI a)), (2, iV (nI b)), (3, iV (nI w))] [] σ
  obtain ⟨hN, hn, hth, hpl, hbd⟩ := id hR
  have hp10 : 2 ^ n ≤ 1024 := Nat.pow_le_pow_right (by decide) hn
  have ha9 : a < 1024 := by omega
  have hb9 : b < 1024 := by omega
  refine a_iconst B d_Mo_setFar_0 ci_0 ?_
  refine a_istore (lv1 := [(0, _), (1, _), (2, _), (3, _), (4, _)]) B d_Mo_setFar_1 (by decide) rfl ?_
  refine a_bipush B d_Mo_setFar_3 cb_m9 ?_
  refine a_istore (lv1 := [(0, _), (1, _), (2, _), (3, _), (4, _), (5, _)]) B d_Mo_setFar_5 (by decide) rfl ?_
  refine a_iconst B d_Mo_setFar_7 ci_0 ?_
  refine a_istore (lv1 := [(0, _), (1, _), (2, _), (3, _), (4, _), (5, _), (6, _)]) B d_Mo_setFar_8 (by decide) rfl ?_
  refine a_iconst B d_Mo_setFar_10 ci_0 ?_
  refine a_istore (lv1 := [(0, _), (1, _), (2, _), (3, _), (4, _), (5, _), (6, _), (7, _)]) B d_Mo_setFar_11 (by decide) rfl ?_
  refine a_forR n (fun i lv τ => lv = [(0, rV 106), (1, iV (nI a)), (2, iV (nI b)), (3, iV (nI w)), (4, iV (nI (sumTo (fun i => sumTo (rS (unl n th pl) a b i) n) i))), (5, iV (mnV (minTo (fun i => minTo (rN (unl n th pl) a b i) n) i))), (6, iV (nI (maxTo (fun i => maxTo (rS (unl n th pl) a b i) n) i))), (7, iV (nI i))] ∧ τ = σ) (fun i lv τ hi hI ihi => ?_) (fun lv τ hI => ?_) 0 (Nat.zero_le _) _ _ ⟨rfl, rfl⟩
  · skip
    obtain ⟨rfl, e9⟩ := hI
    replace e9 := e9.symm
    subst e9
    refine a_iload B d_Mo_setFar_13 rfl ?_
    refine a_aload_n B d_Mo_setFar_15 rfl rfl ?_
    refine gf_Mo_leaves B d_Mo_setFar_16 fl_Mo_84 ?_
    rw [hN]
    first | refine b_icmp_ge B 120 d_Mo_setFar_19 rfl (by omega) (by omega) (fun c_19 => ?_) (fun c_19 => ?_) | refine a_icmp_ge B 120 d_Mo_setFar_19 rfl (fun c_19 => ?_) (fun c_19 => ?_)
    · skip
      exact absurd c_19 (by omega)
    refine a_iconst B d_Mo_setFar_22 ci_0 ?_
    refine a_istore (lv1 := [(0, _), (1, _), (2, _), (3, _), (4, _), (5, _), (6, _), (7, _), (8, _)]) B d_Mo_setFar_23 (by decide) rfl ?_
    refine a_forR n (fun j lv τ => lv = [(0, rV 106), (1, iV (nI a)), (2, iV (nI b)), (3, iV (nI w)), (4, iV (nI (sumTo (fun i => sumTo (rS (unl n th pl) a b i) n) i + sumTo (rS (unl n th pl) a b i) j))), (5, iV (mnV (min (minTo (fun i => minTo (rN (unl n th pl) a b i) n) i) (minTo (rN (unl n th pl) a b i) j)))), (6, iV (nI (max (maxTo (fun i => maxTo (rS (unl n th pl) a b i) n) i) (maxTo (rS (unl n th pl) a b i) j)))), (7, iV (nI i)), (8, iV (nI j))] ∧ τ = σ) (fun j lv τ hj hI ihj => ?_) (fun lv τ hI => ?_) 0 (Nat.zero_le _) _ _ ⟨by rw [show (max (maxTo (fun i => maxTo (rS (unl n th pl) a b i) n) i) (maxTo (rS (unl n th pl) a b i) 0)) = maxTo (fun i => maxTo (rS (unl n th pl) a b i) n) i from Nat.max_zero _, show (min (minTo (fun i => minTo (rN (unl n th pl) a b i) n) i) (minTo (rN (unl n th pl) a b i) 0)) = minTo (fun i => minTo (rN (unl n th pl) a b i) n) i from Nat.min_eq_left (minTo_le _ _)] <;> rfl, rfl⟩
    · skip
      obtain ⟨rfl, e9⟩ := hI
      replace e9 := e9.symm
      subst e9
      refine a_iload B d_Mo_setFar_25 rfl ?_
      refine a_aload_n B d_Mo_setFar_27 rfl rfl ?_
      refine gf_Mo_leaves B d_Mo_setFar_28 fl_Mo_84 ?_
      rw [hN]
      first | refine b_icmp_ge B 114 d_Mo_setFar_31 rfl (by omega) (by omega) (fun c_31 => ?_) (fun c_31 => ?_) | refine a_icmp_ge B 114 d_Mo_setFar_31 rfl (fun c_31 => ?_) (fun c_31 => ?_)
      · skip
        exact absurd c_31 (by omega)
      refine a_iload_n B d_Mo_setFar_34 rfl rfl ?_
      refine a_iload B d_Mo_setFar_35 rfl ?_
      refine a_ishr B d_Mo_setFar_37 ?_
      refine a_iconst B d_Mo_setFar_38 ci_1 ?_
      refine a_iand B d_Mo_setFar_39 ?_
      rw [bit_atN ha9 (by omega)]
      refine a_iconst B d_Mo_setFar_40 ci_1 ?_
      first | refine b_icmp_ne B 108 d_Mo_setFar_41 rfl (by omega) (by omega) (fun c_41 => ?_) (fun c_41 => ?_) | refine a_icmp_ne B 108 d_Mo_setFar_41 rfl (fun c_41 => ?_) (fun c_41 => ?_)
      · skip
        obtain ⟨r1, r2⟩ := rS_n (u := (unl n th pl)) (i := i) (j := j) (Or.inl (tb_0 c_41))
        have hS9 : (sumTo (fun i => sumTo (rS (unl n th pl) a b i) n) i + sumTo (rS (unl n th pl) a b i) (j + 1)) = (sumTo (fun i => sumTo (rS (unl n th pl) a b i) n) i + sumTo (rS (unl n th pl) a b i) j) := (by show sumTo (fun i => sumTo (rS (unl n th pl) a b i) n) i + (sumTo (rS (unl n th pl) a b i) j + rS (unl n th pl) a b i j) = _; rw [r1]; omega)
        have hM9 : mnV (min (minTo (fun i => minTo (rN (unl n th pl) a b i) n) i) (minTo (rN (unl n th pl) a b i) (j + 1))) = mnV (min (minTo (fun i => minTo (rN (unl n th pl) a b i) n) i) (minTo (rN (unl n th pl) a b i) j)) := (by show mnV (min (minTo (fun i => minTo (rN (unl n th pl) a b i) n) i) (min (minTo (rN (unl n th pl) a b i) j) (rN (unl n th pl) a b i j))) = _; rw [r2]; congr 1; have := minTo_le (rN (unl n th pl) a b i) j; omega)
        have hX9 : nI (max (maxTo (fun i => maxTo (rS (unl n th pl) a b i) n) i) (maxTo (rS (unl n th pl) a b i) (j + 1))) = nI (max (maxTo (fun i => maxTo (rS (unl n th pl) a b i) n) i) (maxTo (rS (unl n th pl) a b i) j)) := (by show nI (max (maxTo (fun i => maxTo (rS (unl n th pl) a b i) n) i) (max (maxTo (rS (unl n th pl) a b i) j) (rS (unl n th pl) a b i j))) = _; rw [r1]; congr 1; omega)
        first | refine b_iinc (lv1 := [(0, _), (1, _), (2, _), (3, _), (4, _), (5, _), (6, _), (7, _), (8, _)]) B d_Mo_setFar_108 rfl ci_1 (by decide) rfl ?_ | refine a_iinc (lv1 := [(0, _), (1, _), (2, _), (3, _), (4, _), (5, _), (6, _), (7, _), (8, _)]) B d_Mo_setFar_108 rfl rfl (by decide) rfl ?_
        refine a_goto B 25 d_Mo_setFar_111 rfl ?_
        refine a_sub (lv1 := [(0, _), (1, _), (2, _), (3, _), (4, _), (5, _), (6, _), (7, _), (8, _)]) rfl ?_
        exact ihj _ _ ⟨by rw [hS9, hM9, hX9], rfl⟩
      refine a_iload_n B d_Mo_setFar_44 rfl rfl ?_
      refine a_iload B d_Mo_setFar_45 rfl ?_
      refine a_ishr B d_Mo_setFar_47 ?_
      refine a_iconst B d_Mo_setFar_48 ci_1 ?_
      refine a_iand B d_Mo_setFar_49 ?_
      rw [bit_atN hb9 (by omega)]
      refine a_iconst B d_Mo_setFar_50 ci_1 ?_
      first | refine b_icmp_ne B 108 d_Mo_setFar_51 rfl (by omega) (by omega) (fun c_51 => ?_) (fun c_51 => ?_) | refine a_icmp_ne B 108 d_Mo_setFar_51 rfl (fun c_51 => ?_) (fun c_51 => ?_)
      · skip
        obtain ⟨r1, r2⟩ := rS_n (u := (unl n th pl)) (i := i) (j := j) (Or.inr (tb_0 c_51))
        have hS9 : (sumTo (fun i => sumTo (rS (unl n th pl) a b i) n) i + sumTo (rS (unl n th pl) a b i) (j + 1)) = (sumTo (fun i => sumTo (rS (unl n th pl) a b i) n) i + sumTo (rS (unl n th pl) a b i) j) := (by show sumTo (fun i => sumTo (rS (unl n th pl) a b i) n) i + (sumTo (rS (unl n th pl) a b i) j + rS (unl n th pl) a b i j) = _; rw [r1]; omega)
        have hM9 : mnV (min (minTo (fun i => minTo (rN (unl n th pl) a b i) n) i) (minTo (rN (unl n th pl) a b i) (j + 1))) = mnV (min (minTo (fun i => minTo (rN (unl n th pl) a b i) n) i) (minTo (rN (unl n th pl) a b i) j)) := (by show mnV (min (minTo (fun i => minTo (rN (unl n th pl) a b i) n) i) (min (minTo (rN (unl n th pl) a b i) j) (rN (unl n th pl) a b i j))) = _; rw [r2]; congr 1; have := minTo_le (rN (unl n th pl) a b i) j; omega)
        have hX9 : nI (max (maxTo (fun i => maxTo (rS (unl n th pl) a b i) n) i) (maxTo (rS (unl n th pl) a b i) (j + 1))) = nI (max (maxTo (fun i => maxTo (rS (unl n th pl) a b i) n) i) (maxTo (rS (unl n th pl) a b i) j)) := (by show nI (max (maxTo (fun i => maxTo (rS (unl n th pl) a b i) n) i) (max (maxTo (rS (unl n th pl) a b i) j) (rS (unl n th pl) a b i j))) = _; rw [r1]; congr 1; omega)
        first | refine b_iinc (lv1 := [(0, _), (1, _), (2, _), (3, _), (4, _), (5, _), (6, _), (7, _), (8, _)]) B d_Mo_setFar_108 rfl ci_1 (by decide) rfl ?_ | refine a_iinc (lv1 := [(0, _), (1, _), (2, _), (3, _), (4, _), (5, _), (6, _), (7, _), (8, _)]) B d_Mo_setFar_108 rfl rfl (by decide) rfl ?_
        refine a_goto B 25 d_Mo_setFar_111 rfl ?_
        refine a_sub (lv1 := [(0, _), (1, _), (2, _), (3, _), (4, _), (5, _), (6, _), (7, _), (8, _)]) rfl ?_
        exact ihj _ _ ⟨by rw [hS9, hM9, hX9], rfl⟩
      obtain ⟨r1, r2⟩ := rS_y (u := (unl n th pl)) (tb_1 c_41) (tb_1 c_51)
      have hu9 := unl_le (n := n) (th := th) hbd i j
      have hS9 : (sumTo (fun i => sumTo (rS (unl n th pl) a b i) n) i + sumTo (rS (unl n th pl) a b i) (j + 1)) = (sumTo (fun i => sumTo (rS (unl n th pl) a b i) n) i + sumTo (rS (unl n th pl) a b i) j) + (unl n th pl) i j := (by show sumTo (fun i => sumTo (rS (unl n th pl) a b i) n) i + (sumTo (rS (unl n th pl) a b i) j + rS (unl n th pl) a b i j) = _; rw [r1]; omega)
      have hm9 : (min (minTo (fun i => minTo (rN (unl n th pl) a b i) n) i) (minTo (rN (unl n th pl) a b i) (j + 1))) = min (min (minTo (fun i => minTo (rN (unl n th pl) a b i) n) i) (minTo (rN (unl n th pl) a b i) j)) ((unl n th pl) i j) := (by show min (minTo (fun i => minTo (rN (unl n th pl) a b i) n) i) (min (minTo (rN (unl n th pl) a b i) j) (rN (unl n th pl) a b i j)) = _; rw [r2, Nat.min_assoc])
      have hx9 : (max (maxTo (fun i => maxTo (rS (unl n th pl) a b i) n) i) (maxTo (rS (unl n th pl) a b i) (j + 1))) = max (max (maxTo (fun i => maxTo (rS (unl n th pl) a b i) n) i) (maxTo (rS (unl n th pl) a b i) j)) ((unl n th pl) i j) := (by show max (maxTo (fun i => maxTo (rS (unl n th pl) a b i) n) i) (max (maxTo (rS (unl n th pl) a b i) j) (rS (unl n th pl) a b i j)) = _; rw [r1, Nat.max_assoc])
      have hmle : (min (minTo (fun i => minTo (rN (unl n th pl) a b i) n) i) (minTo (rN (unl n th pl) a b i) j)) ≤ 20000 := Nat.le_trans (Nat.min_le_left _ _) (minTo_le _ _)
      have hxle : (max (maxTo (fun i => maxTo (rS (unl n th pl) a b i) n) i) (maxTo (rS (unl n th pl) a b i) j)) ≤ 10000 := Nat.max_le.mpr ⟨maxTo_le (fun k => maxTo_le (fun k2 => by unfold rS; split; exact unl_le hbd _ _; omega) _) _, maxTo_le (fun k2 => by unfold rS; split; exact unl_le hbd _ _; omega) _⟩
      refine a_aload_n B d_Mo_setFar_54 rfl rfl ?_
      refine a_iload B d_Mo_setFar_55 rfl ?_
      refine a_iload B d_Mo_setFar_57 rfl ?_
      refine a_callVI (ci := 7) B (t_Mo_unlikeness G hR (show i < 10 by omega) (show j < 10 by omega)) d_Mo_setFar_59 ok_Mo_unlikeness ml_Mo_104 ly_106 rfl rfl (by decide) (by decide) rfl (Nat.le_of_ble_eq_true rfl) (fun r_59 τ_59 h_59 => ?_)
      obtain ⟨hr_59, hs_59⟩ := h_59
      subst hr_59
      replace hs_59 := hs_59.symm
      subst hs_59
      refine a_istore (lv1 := [(0, _), (1, _), (2, _), (3, _), (4, _), (5, _), (6, _), (7, _), (8, _), (9, _)]) B d_Mo_setFar_62 (by decide) rfl ?_
      refine a_iload B d_Mo_setFar_64 rfl ?_
      refine a_iload B d_Mo_setFar_66 rfl ?_
      first | refine b_iadd B d_Mo_setFar_68 ?_ | refine a_iadd B d_Mo_setFar_68 ?_
      refine a_istore (lv1 := [(0, _), (1, _), (2, _), (3, _), (4, _), (5, _), (6, _), (7, _), (8, _), (9, _)]) B d_Mo_setFar_69 (by decide) rfl ?_
      by_cases hq : (min (minTo (fun i => minTo (rN (unl n th pl) a b i) n) i) (minTo (rN (unl n th pl) a b i) j)) = 20000
      · skip
        rw [show mnV (min (minTo (fun i => minTo (rN (unl n th pl) a b i) n) i) (minTo (rN (unl n th pl) a b i) j)) = -9 from if_pos hq]
        have hM9 : mnV (min (minTo (fun i => minTo (rN (unl n th pl) a b i) n) i) (minTo (rN (unl n th pl) a b i) (j + 1))) = nI ((unl n th pl) i j) := (by rw [hm9, Nat.min_eq_right (by omega)]; exact if_neg (by omega))
        refine a_iload B d_Mo_setFar_71 rfl ?_
        refine a_if_lt B 83 d_Mo_setFar_73 rfl (fun _ => ?_) (fun c9 => absurd (by decide) c9)
        refine a_iload B d_Mo_setFar_83 rfl ?_
        refine a_goto B 90 d_Mo_setFar_85 rfl ?_
        refine a_istore (lv1 := [(0, _), (1, _), (2, _), (3, _), (4, _), (5, _), (6, _), (7, _), (8, _), (9, _)]) B d_Mo_setFar_90 (by decide) rfl ?_
        refine a_iload B d_Mo_setFar_92 rfl ?_
        refine a_iload B d_Mo_setFar_94 rfl ?_
        first | refine b_icmp_le B 104 d_Mo_setFar_96 rfl (by omega) (by omega) (fun c_96 => ?_) (fun c_96 => ?_) | refine a_icmp_le B 104 d_Mo_setFar_96 rfl (fun c_96 => ?_) (fun c_96 => ?_)
        · skip
          have hX9 : nI (max (maxTo (fun i => maxTo (rS (unl n th pl) a b i) n) i) (maxTo (rS (unl n th pl) a b i) (j + 1))) = nI (max (maxTo (fun i => maxTo (rS (unl n th pl) a b i) n) i) (maxTo (rS (unl n th pl) a b i) j)) := (by rw [hx9, Nat.max_eq_left (by omega)])
          refine a_iload B d_Mo_setFar_104 rfl ?_
          refine a_istore (lv1 := [(0, _), (1, _), (2, _), (3, _), (4, _), (5, _), (6, _), (7, _), (8, _), (9, _)]) B d_Mo_setFar_106 (by decide) rfl ?_
          first | refine b_iinc (lv1 := [(0, _), (1, _), (2, _), (3, _), (4, _), (5, _), (6, _), (7, _), (8, _), (9, _)]) B d_Mo_setFar_108 rfl ci_1 (by decide) rfl ?_ | refine a_iinc (lv1 := [(0, _), (1, _), (2, _), (3, _), (4, _), (5, _), (6, _), (7, _), (8, _), (9, _)]) B d_Mo_setFar_108 rfl rfl (by decide) rfl ?_
          refine a_goto B 25 d_Mo_setFar_111 rfl ?_
          refine a_sub (lv1 := [(0, _), (1, _), (2, _), (3, _), (4, _), (5, _), (6, _), (7, _), (8, _)]) rfl ?_
          exact ihj _ _ ⟨by rw [hS9, hM9, hX9], rfl⟩
        have hX9 : nI (max (maxTo (fun i => maxTo (rS (unl n th pl) a b i) n) i) (maxTo (rS (unl n th pl) a b i) (j + 1))) = nI ((unl n th pl) i j) := (by rw [hx9, Nat.max_eq_right (by omega)])
        refine a_iload B d_Mo_setFar_99 rfl ?_
        refine a_goto B 106 d_Mo_setFar_101 rfl ?_
        refine a_istore (lv1 := [(0, _), (1, _), (2, _), (3, _), (4, _), (5, _), (6, _), (7, _), (8, _), (9, _)]) B d_Mo_setFar_106 (by decide) rfl ?_
        first | refine b_iinc (lv1 := [(0, _), (1, _), (2, _), (3, _), (4, _), (5, _), (6, _), (7, _), (8, _), (9, _)]) B d_Mo_setFar_108 rfl ci_1 (by decide) rfl ?_ | refine a_iinc (lv1 := [(0, _), (1, _), (2, _), (3, _), (4, _), (5, _), (6, _), (7, _), (8, _), (9, _)]) B d_Mo_setFar_108 rfl rfl (by decide) rfl ?_
        refine a_goto B 25 d_Mo_setFar_111 rfl ?_
        refine a_sub (lv1 := [(0, _), (1, _), (2, _), (3, _), (4, _), (5, _), (6, _), (7, _), (8, _)]) rfl ?_
        exact ihj _ _ ⟨by rw [hS9, hM9, hX9], rfl⟩
      · skip
        rw [show mnV (min (minTo (fun i => minTo (rN (unl n th pl) a b i) n) i) (minTo (rN (unl n th pl) a b i) j)) = nI (min (minTo (fun i => minTo (rN (unl n th pl) a b i) n) i) (minTo (rN (unl n th pl) a b i) j)) from if_neg hq]
        have hq2 : (min (minTo (fun i => minTo (rN (unl n th pl) a b i) n) i) (minTo (rN (unl n th pl) a b i) j)) < 2 ^ 31 := by omega
        refine a_iload B d_Mo_setFar_71 rfl ?_
        refine b_if_lt B 83 d_Mo_setFar_73 rfl (by first | assumption | omega) ?_
        refine a_iload B d_Mo_setFar_76 rfl ?_
        refine a_iload B d_Mo_setFar_78 rfl ?_
        first | refine b_icmp_ge B 88 d_Mo_setFar_80 rfl (by omega) (by omega) (fun c_80 => ?_) (fun c_80 => ?_) | refine a_icmp_ge B 88 d_Mo_setFar_80 rfl (fun c_80 => ?_) (fun c_80 => ?_)
        · skip
          have hM9 : mnV (min (minTo (fun i => minTo (rN (unl n th pl) a b i) n) i) (minTo (rN (unl n th pl) a b i) (j + 1))) = nI (min (minTo (fun i => minTo (rN (unl n th pl) a b i) n) i) (minTo (rN (unl n th pl) a b i) j)) := (by rw [hm9, Nat.min_eq_left (by omega)]; exact if_neg (by omega))
          refine a_iload B d_Mo_setFar_88 rfl ?_
          refine a_istore (lv1 := [(0, _), (1, _), (2, _), (3, _), (4, _), (5, _), (6, _), (7, _), (8, _), (9, _)]) B d_Mo_setFar_90 (by decide) rfl ?_
          refine a_iload B d_Mo_setFar_92 rfl ?_
          refine a_iload B d_Mo_setFar_94 rfl ?_
          first | refine b_icmp_le B 104 d_Mo_setFar_96 rfl (by omega) (by omega) (fun c_96 => ?_) (fun c_96 => ?_) | refine a_icmp_le B 104 d_Mo_setFar_96 rfl (fun c_96 => ?_) (fun c_96 => ?_)
          · skip
            have hX9 : nI (max (maxTo (fun i => maxTo (rS (unl n th pl) a b i) n) i) (maxTo (rS (unl n th pl) a b i) (j + 1))) = nI (max (maxTo (fun i => maxTo (rS (unl n th pl) a b i) n) i) (maxTo (rS (unl n th pl) a b i) j)) := (by rw [hx9, Nat.max_eq_left (by omega)])
            refine a_iload B d_Mo_setFar_104 rfl ?_
            refine a_istore (lv1 := [(0, _), (1, _), (2, _), (3, _), (4, _), (5, _), (6, _), (7, _), (8, _), (9, _)]) B d_Mo_setFar_106 (by decide) rfl ?_
            first | refine b_iinc (lv1 := [(0, _), (1, _), (2, _), (3, _), (4, _), (5, _), (6, _), (7, _), (8, _), (9, _)]) B d_Mo_setFar_108 rfl ci_1 (by decide) rfl ?_ | refine a_iinc (lv1 := [(0, _), (1, _), (2, _), (3, _), (4, _), (5, _), (6, _), (7, _), (8, _), (9, _)]) B d_Mo_setFar_108 rfl rfl (by decide) rfl ?_
            refine a_goto B 25 d_Mo_setFar_111 rfl ?_
            refine a_sub (lv1 := [(0, _), (1, _), (2, _), (3, _), (4, _), (5, _), (6, _), (7, _), (8, _)]) rfl ?_
            exact ihj _ _ ⟨by rw [hS9, hM9, hX9], rfl⟩
          have hX9 : nI (max (maxTo (fun i => maxTo (rS (unl n th pl) a b i) n) i) (maxTo (rS (unl n th pl) a b i) (j + 1))) = nI ((unl n th pl) i j) := (by rw [hx9, Nat.max_eq_right (by omega)])
          refine a_iload B d_Mo_setFar_99 rfl ?_
          refine a_goto B 106 d_Mo_setFar_101 rfl ?_
          refine a_istore (lv1 := [(0, _), (1, _), (2, _), (3, _), (4, _), (5, _), (6, _), (7, _), (8, _), (9, _)]) B d_Mo_setFar_106 (by decide) rfl ?_
          first | refine b_iinc (lv1 := [(0, _), (1, _), (2, _), (3, _), (4, _), (5, _), (6, _), (7, _), (8, _), (9, _)]) B d_Mo_setFar_108 rfl ci_1 (by decide) rfl ?_ | refine a_iinc (lv1 := [(0, _), (1, _), (2, _), (3, _), (4, _), (5, _), (6, _), (7, _), (8, _), (9, _)]) B d_Mo_setFar_108 rfl rfl (by decide) rfl ?_
          refine a_goto B 25 d_Mo_setFar_111 rfl ?_
          refine a_sub (lv1 := [(0, _), (1, _), (2, _), (3, _), (4, _), (5, _), (6, _), (7, _), (8, _)]) rfl ?_
          exact ihj _ _ ⟨by rw [hS9, hM9, hX9], rfl⟩
        have hM9 : mnV (min (minTo (fun i => minTo (rN (unl n th pl) a b i) n) i) (minTo (rN (unl n th pl) a b i) (j + 1))) = nI ((unl n th pl) i j) := (by rw [hm9, Nat.min_eq_right (by omega)]; exact if_neg (by omega))
        refine a_iload B d_Mo_setFar_83 rfl ?_
        refine a_goto B 90 d_Mo_setFar_85 rfl ?_
        refine a_istore (lv1 := [(0, _), (1, _), (2, _), (3, _), (4, _), (5, _), (6, _), (7, _), (8, _), (9, _)]) B d_Mo_setFar_90 (by decide) rfl ?_
        refine a_iload B d_Mo_setFar_92 rfl ?_
        refine a_iload B d_Mo_setFar_94 rfl ?_
        first | refine b_icmp_le B 104 d_Mo_setFar_96 rfl (by omega) (by omega) (fun c_96 => ?_) (fun c_96 => ?_) | refine a_icmp_le B 104 d_Mo_setFar_96 rfl (fun c_96 => ?_) (fun c_96 => ?_)
        · skip
          have hX9 : nI (max (maxTo (fun i => maxTo (rS (unl n th pl) a b i) n) i) (maxTo (rS (unl n th pl) a b i) (j + 1))) = nI (max (maxTo (fun i => maxTo (rS (unl n th pl) a b i) n) i) (maxTo (rS (unl n th pl) a b i) j)) := (by rw [hx9, Nat.max_eq_left (by omega)])
          refine a_iload B d_Mo_setFar_104 rfl ?_
          refine a_istore (lv1 := [(0, _), (1, _), (2, _), (3, _), (4, _), (5, _), (6, _), (7, _), (8, _), (9, _)]) B d_Mo_setFar_106 (by decide) rfl ?_
          first | refine b_iinc (lv1 := [(0, _), (1, _), (2, _), (3, _), (4, _), (5, _), (6, _), (7, _), (8, _), (9, _)]) B d_Mo_setFar_108 rfl ci_1 (by decide) rfl ?_ | refine a_iinc (lv1 := [(0, _), (1, _), (2, _), (3, _), (4, _), (5, _), (6, _), (7, _), (8, _), (9, _)]) B d_Mo_setFar_108 rfl rfl (by decide) rfl ?_
          refine a_goto B 25 d_Mo_setFar_111 rfl ?_
          refine a_sub (lv1 := [(0, _), (1, _), (2, _), (3, _), (4, _), (5, _), (6, _), (7, _), (8, _)]) rfl ?_
          exact ihj _ _ ⟨by rw [hS9, hM9, hX9], rfl⟩
        have hX9 : nI (max (maxTo (fun i => maxTo (rS (unl n th pl) a b i) n) i) (maxTo (rS (unl n th pl) a b i) (j + 1))) = nI ((unl n th pl) i j) := (by rw [hx9, Nat.max_eq_right (by omega)])
        refine a_iload B d_Mo_setFar_99 rfl ?_
        refine a_goto B 106 d_Mo_setFar_101 rfl ?_
        refine a_istore (lv1 := [(0, _), (1, _), (2, _), (3, _), (4, _), (5, _), (6, _), (7, _), (8, _), (9, _)]) B d_Mo_setFar_106 (by decide) rfl ?_
        first | refine b_iinc (lv1 := [(0, _), (1, _), (2, _), (3, _), (4, _), (5, _), (6, _), (7, _), (8, _), (9, _)]) B d_Mo_setFar_108 rfl ci_1 (by decide) rfl ?_ | refine a_iinc (lv1 := [(0, _), (1, _), (2, _), (3, _), (4, _), (5, _), (6, _), (7, _), (8, _), (9, _)]) B d_Mo_setFar_108 rfl rfl (by decide) rfl ?_
        refine a_goto B 25 d_Mo_setFar_111 rfl ?_
        refine a_sub (lv1 := [(0, _), (1, _), (2, _), (3, _), (4, _), (5, _), (6, _), (7, _), (8, _)]) rfl ?_
        exact ihj _ _ ⟨by rw [hS9, hM9, hX9], rfl⟩
    · skip
      obtain ⟨rfl, e9⟩ := hI
      replace e9 := e9.symm
      subst e9
      refine a_iload B d_Mo_setFar_25 rfl ?_
      refine a_aload_n B d_Mo_setFar_27 rfl rfl ?_
      refine gf_Mo_leaves B d_Mo_setFar_28 fl_Mo_84 ?_
      rw [hN]
      first | refine b_icmp_ge B 114 d_Mo_setFar_31 rfl (by omega) (by omega) (fun c_31 => ?_) (fun c_31 => ?_) | refine a_icmp_ge B 114 d_Mo_setFar_31 rfl (fun c_31 => ?_) (fun c_31 => ?_)
      · skip
        first | refine b_iinc (lv1 := [(0, _), (1, _), (2, _), (3, _), (4, _), (5, _), (6, _), (7, _), (8, _)]) B d_Mo_setFar_114 rfl ci_1 (by decide) rfl ?_ | refine a_iinc (lv1 := [(0, _), (1, _), (2, _), (3, _), (4, _), (5, _), (6, _), (7, _), (8, _)]) B d_Mo_setFar_114 rfl rfl (by decide) rfl ?_
        refine a_goto B 13 d_Mo_setFar_117 rfl ?_
        refine a_sub (lv1 := [(0, _), (1, _), (2, _), (3, _), (4, _), (5, _), (6, _), (7, _)]) rfl ?_
        exact ihi _ _ ⟨rfl, rfl⟩
      exact absurd c_31 (by omega)
  · skip
    obtain ⟨rfl, e9⟩ := hI
    replace e9 := e9.symm
    subst e9
    refine a_iload B d_Mo_setFar_13 rfl ?_
    refine a_aload_n B d_Mo_setFar_15 rfl rfl ?_
    refine gf_Mo_leaves B d_Mo_setFar_16 fl_Mo_84 ?_
    rw [hN]
    first | refine b_icmp_ge B 120 d_Mo_setFar_19 rfl (by omega) (by omega) (fun c_19 => ?_) (fun c_19 => ?_) | refine a_icmp_ge B 120 d_Mo_setFar_19 rfl (fun c_19 => ?_) (fun c_19 => ?_)
    · skip
      have hf1 := fN_some (u := (unl n th pl)) (unl_le hbd) ha hb h1 h2
      rw [show mnV (minTo (fun i => minTo (rN (unl n th pl) a b i) n) n) = nI (minTo (fun i => minTo (rN (unl n th pl) a b i) n) n) from if_neg (by omega)]
      refine a_aload_n B d_Mo_setFar_120 rfl rfl ?_
      refine a_iload_n B d_Mo_setFar_121 rfl rfl ?_
      first | refine b_if_ne_b B 130 d_Mo_setFar_122 rfl (fun c_122 => ?_) (fun c_122 => ?_) | refine a_if_ne B 130 d_Mo_setFar_122 rfl (fun c_122 => ?_) (fun c_122 => ?_)
      · skip
        have hw0 : ¬ w = 0 := fun q => c_122 (by rw [q]; exact nI_0)
        refine a_iload_n B d_Mo_setFar_130 rfl rfl ?_
        refine a_iconst B d_Mo_setFar_131 ci_1 ?_
        first | refine b_icmp_ne B 140 d_Mo_setFar_132 rfl (by omega) (by omega) (fun c_132 => ?_) (fun c_132 => ?_) | refine a_icmp_ne B 140 d_Mo_setFar_132 rfl (fun c_132 => ?_) (fun c_132 => ?_)
        · skip
          have hup : fUp (unl n th pl) w a b = sumTo (fun i => sumTo (rS (unl n th pl) a b i) n) n := (by unfold fUp; rw [if_neg hw0, if_neg c_132]; exact fS_10 hn ha hb)
          refine a_iload B d_Mo_setFar_140 rfl ?_
          refine pf_Mo_farUp B d_Mo_setFar_142 fl_Mo_114 ?_
          refine a_aload_n B d_Mo_setFar_145 rfl rfl ?_
          refine a_iload_n B d_Mo_setFar_146 rfl rfl ?_
          refine a_iconst B d_Mo_setFar_147 ci_2 ?_
          first | refine b_icmp_ne B 163 d_Mo_setFar_148 rfl (by omega) (by omega) (fun c_148 => ?_) (fun c_148 => ?_) | refine a_icmp_ne B 163 d_Mo_setFar_148 rfl (fun c_148 => ?_) (fun c_148 => ?_)
          · skip
            have hlo : fLow w a b = 1 := if_neg c_148
            refine a_iconst B d_Mo_setFar_163 ci_1 ?_
            refine pf_Mo_farLow B d_Mo_setFar_164 fl_Mo_120 ?_
            exact Rt _ _ _ d_Mo_setFar_167 (by rw [hup, hlo]; rfl)
          have hlo : fLow w a b = cB a * cB b := if_pos c_148
          refine a_iload_n B d_Mo_setFar_151 rfl rfl ?_
          refine a_callSI B (t_Mo_bits G ha9) d_Mo_setFar_152 ok_Mo_bits ml_Mo_117 rfl (by decide) (by decide) rfl (Nat.le_of_ble_eq_true rfl) (fun r_152 τ_152 h_152 => ?_)
          obtain ⟨hr_152, hs_152⟩ := h_152
          subst hr_152
          replace hs_152 := hs_152.symm
          subst hs_152
          refine a_iload_n B d_Mo_setFar_155 rfl rfl ?_
          refine a_callSI B (t_Mo_bits G hb9) d_Mo_setFar_156 ok_Mo_bits ml_Mo_117 rfl (by decide) (by decide) rfl (Nat.le_of_ble_eq_true rfl) (fun r_156 τ_156 h_156 => ?_)
          obtain ⟨hr_156, hs_156⟩ := h_156
          subst hr_156
          replace hs_156 := hs_156.symm
          subst hs_156
          first | refine b_imul B d_Mo_setFar_159 ?_ | refine a_imul B d_Mo_setFar_159 ?_
          refine a_goto B 164 d_Mo_setFar_160 rfl ?_
          refine pf_Mo_farLow B d_Mo_setFar_164 fl_Mo_120 ?_
          exact Rt _ _ _ d_Mo_setFar_167 (by rw [hup, hlo]; rfl)
        have hup : fUp (unl n th pl) w a b = maxTo (fun i => maxTo (rS (unl n th pl) a b i) n) n := (by unfold fUp; rw [if_neg hw0, if_pos c_132]; exact fX_10 hn ha hb)
        refine a_iload B d_Mo_setFar_135 rfl ?_
        refine a_goto B 142 d_Mo_setFar_137 rfl ?_
        refine pf_Mo_farUp B d_Mo_setFar_142 fl_Mo_114 ?_
        refine a_aload_n B d_Mo_setFar_145 rfl rfl ?_
        refine a_iload_n B d_Mo_setFar_146 rfl rfl ?_
        refine a_iconst B d_Mo_setFar_147 ci_2 ?_
        first | refine b_icmp_ne B 163 d_Mo_setFar_148 rfl (by omega) (by omega) (fun c_148 => ?_) (fun c_148 => ?_) | refine a_icmp_ne B 163 d_Mo_setFar_148 rfl (fun c_148 => ?_) (fun c_148 => ?_)
        · skip
          have hlo : fLow w a b = 1 := if_neg c_148
          refine a_iconst B d_Mo_setFar_163 ci_1 ?_
          refine pf_Mo_farLow B d_Mo_setFar_164 fl_Mo_120 ?_
          exact Rt _ _ _ d_Mo_setFar_167 (by rw [hup, hlo]; rfl)
        have hlo : fLow w a b = cB a * cB b := if_pos c_148
        refine a_iload_n B d_Mo_setFar_151 rfl rfl ?_
        refine a_callSI B (t_Mo_bits G ha9) d_Mo_setFar_152 ok_Mo_bits ml_Mo_117 rfl (by decide) (by decide) rfl (Nat.le_of_ble_eq_true rfl) (fun r_152 τ_152 h_152 => ?_)
        obtain ⟨hr_152, hs_152⟩ := h_152
        subst hr_152
        replace hs_152 := hs_152.symm
        subst hs_152
        refine a_iload_n B d_Mo_setFar_155 rfl rfl ?_
        refine a_callSI B (t_Mo_bits G hb9) d_Mo_setFar_156 ok_Mo_bits ml_Mo_117 rfl (by decide) (by decide) rfl (Nat.le_of_ble_eq_true rfl) (fun r_156 τ_156 h_156 => ?_)
        obtain ⟨hr_156, hs_156⟩ := h_156
        subst hr_156
        replace hs_156 := hs_156.symm
        subst hs_156
        first | refine b_imul B d_Mo_setFar_159 ?_ | refine a_imul B d_Mo_setFar_159 ?_
        refine a_goto B 164 d_Mo_setFar_160 rfl ?_
        refine pf_Mo_farLow B d_Mo_setFar_164 fl_Mo_120 ?_
        exact Rt _ _ _ d_Mo_setFar_167 (by rw [hup, hlo]; rfl)
      have hw0 : w = 0 := nI_z (by omega) c_122
      have hup : fUp (unl n th pl) w a b = minTo (fun i => minTo (rN (unl n th pl) a b i) n) n := (by unfold fUp; rw [if_pos hw0]; exact fN_10 hn ha hb)
      refine a_iload B d_Mo_setFar_125 rfl ?_
      refine a_goto B 142 d_Mo_setFar_127 rfl ?_
      refine pf_Mo_farUp B d_Mo_setFar_142 fl_Mo_114 ?_
      refine a_aload_n B d_Mo_setFar_145 rfl rfl ?_
      refine a_iload_n B d_Mo_setFar_146 rfl rfl ?_
      refine a_iconst B d_Mo_setFar_147 ci_2 ?_
      first | refine b_icmp_ne B 163 d_Mo_setFar_148 rfl (by omega) (by omega) (fun c_148 => ?_) (fun c_148 => ?_) | refine a_icmp_ne B 163 d_Mo_setFar_148 rfl (fun c_148 => ?_) (fun c_148 => ?_)
      · skip
        have hlo : fLow w a b = 1 := if_neg c_148
        refine a_iconst B d_Mo_setFar_163 ci_1 ?_
        refine pf_Mo_farLow B d_Mo_setFar_164 fl_Mo_120 ?_
        exact Rt _ _ _ d_Mo_setFar_167 (by rw [hup, hlo]; rfl)
      have hlo : fLow w a b = cB a * cB b := if_pos c_148
      refine a_iload_n B d_Mo_setFar_151 rfl rfl ?_
      refine a_callSI B (t_Mo_bits G ha9) d_Mo_setFar_152 ok_Mo_bits ml_Mo_117 rfl (by decide) (by decide) rfl (Nat.le_of_ble_eq_true rfl) (fun r_152 τ_152 h_152 => ?_)
      obtain ⟨hr_152, hs_152⟩ := h_152
      subst hr_152
      replace hs_152 := hs_152.symm
      subst hs_152
      refine a_iload_n B d_Mo_setFar_155 rfl rfl ?_
      refine a_callSI B (t_Mo_bits G hb9) d_Mo_setFar_156 ok_Mo_bits ml_Mo_117 rfl (by decide) (by decide) rfl (Nat.le_of_ble_eq_true rfl) (fun r_156 τ_156 h_156 => ?_)
      obtain ⟨hr_156, hs_156⟩ := h_156
      subst hr_156
      replace hs_156 := hs_156.symm
      subst hs_156
      first | refine b_imul B d_Mo_setFar_159 ?_ | refine a_imul B d_Mo_setFar_159 ?_
      refine a_goto B 164 d_Mo_setFar_160 rfl ?_
      refine pf_Mo_farLow B d_Mo_setFar_164 fl_Mo_120 ?_
      exact Rt _ _ _ d_Mo_setFar_167 (by rw [hup, hlo]; rfl)
    exact absurd c_19 (by omega)
