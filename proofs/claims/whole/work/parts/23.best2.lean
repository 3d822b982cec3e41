/-! the best turns: what the class's table holds -/
abbrev KF : Type := Nat → Nat → Option Nat
def KyC (σ : AH) (Kf : KF) : Prop := ∀ a b, a < 10 → b < 10 → σ.2 (40 + a) b = oL (Kf a b)
def lwI (Kf : KF) (u : Nat → Nat → Nat) (Fa Fb a b sz c : Nat) : Nat → Option Nat → Option Nat
  | 0, s => s
  | d + 1, s => if Fa.testBit c && Fb.testBit d then omin (lwI Kf u Fa Fb a b sz c d s) (bsN (Kf a c) (u c d) (Kf d b) sz) else lwI Kf u Fa Fb a b sz c d s
def lwO (Kf : KF) (u : Nat → Nat → Nat) (Fa Fb n a b sz : Nat) : Nat → Option Nat
  | 0 => none
  | c + 1 => lwI Kf u Fa Fb a b sz c n (lwO Kf u Fa Fb n a b sz c)
def okO (s : Nat) (o : Option Nat) : Prop := ∀ k, o = some k → okKey k s
theorem omin_ok {s : Nat} {a b : Option Nat} (ha : okO s a) (hb : okO s b) : okO s (omin a b) := by
  intro k hk
  cases a with
  | none => exact hb k hk
  | some x =>
    cases b with
    | none => exact ha k hk
    | some y =>
      have hk : some (min x y) = some k := hk
      cases hk
      by_cases h : x ≤ y
      · rw [Nat.min_eq_left h]; exact ha x rfl
      · rw [Nat.min_eq_right (by omega)]; exact hb y rfl
theorem bsN_ok {a b : Option Nat} {g s1 sz : Nat} (ha : okO s1 a) (hb : okO sz b) (h : s1 + sz ≤ 10) (hg : g ≤ 10000) : okO (s1 + sz) (bsN a g b sz) := by
  intro k hk
  cases a with
  | none => cases hk
  | some x =>
    cases b with
    | none => cases hk
    | some y =>
      have hk : some _ = some k := hk
      cases hk
      exact bs_ok (ha x rfl) (hb y rfl) h hg
theorem lwI_ok {Kf : KF} {u : Nat → Nat → Nat} {Fa Fb a b sz s1 c : Nat} {s : Option Nat} (hu : ∀ a b, u a b ≤ 10000) (h1 : Fa.testBit c = true → okO s1 (Kf a c)) (h2 : ∀ d, Fb.testBit d = true → okO sz (Kf d b)) (h : s1 + sz ≤ 10) (hs : okO (s1 + sz) s) : ∀ d, okO (s1 + sz) (lwI Kf u Fa Fb a b sz c d s)
  | 0 => hs
  | d + 1 => by
    unfold lwI
    split
    · next hb =>
      have hb := Bool.and_eq_true_iff.mp hb
      exact omin_ok (lwI_ok hu h1 h2 h hs d) (bsN_ok (h1 hb.1) (h2 d hb.2) h (hu _ _))
    · exact lwI_ok hu h1 h2 h hs d
theorem lwO_ok {Kf : KF} {u : Nat → Nat → Nat} {Fa Fb n a b sz s1 : Nat} (hu : ∀ a b, u a b ≤ 10000) (h1 : ∀ c, Fa.testBit c = true → okO s1 (Kf a c)) (h2 : ∀ d, Fb.testBit d = true → okO sz (Kf d b)) (h : s1 + sz ≤ 10) : ∀ c, okO (s1 + sz) (lwO Kf u Fa Fb n a b sz c)
  | 0 => fun k hk => by cases hk
  | c + 1 => lwI_ok hu (h1 c) h2 h (lwO_ok hu h1 h2 h c) n
theorem lwI_congr {K K' : KF} {u : Nat → Nat → Nat} {Fa Fb a b sz c : Nat} {s : Option Nat} (h1 : ∀ c, Fa.testBit c = true → K a c = K' a c) (h2 : ∀ d, Fb.testBit d = true → K d b = K' d b) : ∀ d, lwI K u Fa Fb a b sz c d s = lwI K' u Fa Fb a b sz c d s
  | 0 => rfl
  | d + 1 => by
    unfold lwI
    rw [lwI_congr h1 h2 d]
    split
    · next hb =>
      have hb := Bool.and_eq_true_iff.mp hb
      rw [h1 c hb.1, h2 d hb.2]
    · rfl
theorem lwO_congr {K K' : KF} {u : Nat → Nat → Nat} {Fa Fb n a b sz : Nat} (h1 : ∀ c, Fa.testBit c = true → K a c = K' a c) (h2 : ∀ d, Fb.testBit d = true → K d b = K' d b) : ∀ c, lwO K u Fa Fb n a b sz c = lwO K' u Fa Fb n a b sz c
  | 0 => rfl
  | c + 1 => by
    unfold lwO
    rw [lwO_congr h1 h2 c, lwI_congr h1 h2]
theorem farE_sub {T : TT} (hW : Wf T) {v x c : Nat} (hv : v < 2 * tN T - 1) (h : (farE T v x).testBit c = true) : hasL T v c = true := by
  unfold farE at h
  split at h
  · exact h
  · next hn =>
    rw [hasL_join hW (by omega) hv]
    split at h
    · show (_ || (tM T (tR T v)).testBit c) = true
      rw [h, Bool.or_true]
    · show ((tM T (tL T v)).testBit c || _) = true
      rw [h]; rfl
theorem farE_lt {T : TT} (hW : Wf T) {v x : Nat} (hv : v < 2 * tN T - 1) : farE T v x < 1024 := by
  unfold farE
  obtain ⟨w1, w10, wj, wu, wl, wm, wt, wb, wh⟩ := hW
  split
  · exact wb v hv
  · next hn =>
    have := wj v (by omega) hv
    split
    · exact wb _ (by omega)
    · exact wb _ (by omega)
theorem nI_ez {m l : Nat} (h : nI ((m >>> l) % 2) = 0) : m.testBit l = false := tb_0 (fun q => by rw [q] at h; exact absurd h (by decide))
theorem nI_enz {m l : Nat} (h : ¬ nI ((m >>> l) % 2) = 0) : m.testBit l = true := by
  cases q : m.testBit l with
  | true => rfl
  | false => exfalso; apply h; rw [bit_tb, q]; exact nI_0
def sideK (T : TT) (u : Nat → Nat → Nat) (Kf : KF) (v w : Nat) : KF := fun a b => if hasL T v a && hasL T w b then lwO Kf u (farE T v a) (farE T w b) (tN T) a b (cB (tM T w)) (tN T) else Kf a b
def p2 (i j x y : Nat) : Bool := decide (x < i) || (decide (x = i) && decide (y < j))
theorem p2_ne {i j x y : Nat} (h : ¬ (x = i ∧ y = j)) : p2 i (j + 1) x y = p2 i j x y := by
  unfold p2
  by_cases e : x = i
  · have : y ≠ j := fun q => h ⟨e, q⟩
    have e9 : (y < j + 1) ↔ (y < j) := by omega
    simp only [e9]
  · simp [e]
theorem p2_at {i j : Nat} : p2 i (j + 1) i j = true := by simp [p2]
theorem p2_0 {i x y : Nat} : p2 i 0 x y = decide (x < i) := by simp [p2]
def dnK (T : TT) (u : Nat → Nat → Nat) (Kf : KF) (v w : Nat) (p : Nat → Nat → Bool) : KF := fun x y => if p x y && (hasL T v x && hasL T w y) then sideK T u Kf v w x y else Kf x y
theorem dnK_p {T : TT} {u : Nat → Nat → Nat} {Kf : KF} {v w x y : Nat} {p p' : Nat → Nat → Bool} (h : (hasL T v x && hasL T w y) = true → p x y = p' x y) : dnK T u Kf v w p x y = dnK T u Kf v w p' x y := by
  unfold dnK
  cases q : hasL T v x && hasL T w y with
  | false => rw [Bool.and_false, Bool.and_false]
  | true => rw [h q]
theorem dnK_off {T : TT} {u : Nat → Nat → Nat} {Kf : KF} {v w x y : Nat} {p : Nat → Nat → Bool} (h : (hasL T v x && hasL T w y) = false) : dnK T u Kf v w p x y = Kf x y := by
  unfold dnK
  rw [h, Bool.and_false]
  rfl
theorem dnK_on {T : TT} {u : Nat → Nat → Nat} {Kf : KF} {v w x y : Nat} {p : Nat → Nat → Bool} (hp : p x y = true) (h1 : hasL T v x = true) (h2 : hasL T w y = true) : dnK T u Kf v w p x y = lwO Kf u (farE T v x) (farE T w y) (tN T) x y (cB (tM T w)) (tN T) := by
  unfold dnK sideK
  rw [hp, h1, h2]
  rfl
theorem dnK_all {T : TT} {u : Nat → Nat → Nat} {Kf : KF} {v w x y : Nat} {p : Nat → Nat → Bool} (hp : (hasL T v x && hasL T w y) = true → p x y = true) : dnK T u Kf v w p x y = sideK T u Kf v w x y := by
  unfold dnK
  cases q : hasL T v x && hasL T w y with
  | false => rw [Bool.and_false]; unfold sideK; rw [q]; rfl
  | true => rw [hp q]; rfl
theorem d_Bt_leastWithEnds_0 : decode prog_3_method_4_code 0 = .ok (.aload_n 1, 1) := by decide +kernel
theorem d_Bt_leastWithEnds_1 : decode prog_3_method_4_code 1 = .ok (.iload_n 3, 1) := by decide +kernel
theorem d_Bt_leastWithEnds_2 : decode prog_3_method_4_code 2 = .ok (.iload 4, 2) := by decide +kernel
theorem d_Bt_leastWithEnds_4 : decode prog_3_method_4_code 4 = .ok (.invokestatic 67, 3) := by decide +kernel
theorem d_Bt_leastWithEnds_7 : decode prog_3_method_4_code 7 = .ok (.istore 7, 2) := by decide +kernel
theorem d_Bt_leastWithEnds_9 : decode prog_3_method_4_code 9 = .ok (.aload_n 1, 1) := by decide +kernel
theorem d_Bt_leastWithEnds_10 : decode prog_3_method_4_code 10 = .ok (.iload 5, 2) := by decide +kernel
theorem d_Bt_leastWithEnds_12 : decode prog_3_method_4_code 12 = .ok (.iload 6, 2) := by decide +kernel
theorem d_Bt_leastWithEnds_14 : decode prog_3_method_4_code 14 = .ok (.invokestatic 67, 3) := by decide +kernel
theorem d_Bt_leastWithEnds_17 : decode prog_3_method_4_code 17 = .ok (.istore 8, 2) := by decide +kernel
theorem d_Bt_leastWithEnds_19 : decode prog_3_method_4_code 19 = .ok (.ldc2_w 20, 3) := by decide +kernel
theorem d_Bt_leastWithEnds_22 : decode prog_3_method_4_code 22 = .ok (.lstore 9, 2) := by decide +kernel
theorem d_Bt_leastWithEnds_24 : decode prog_3_method_4_code 24 = .ok (.iconst 0, 1) := by decide +kernel
theorem d_Bt_leastWithEnds_25 : decode prog_3_method_4_code 25 = .ok (.istore 11, 2) := by decide +kernel
theorem d_Bt_leastWithEnds_27 : decode prog_3_method_4_code 27 = .ok (.iload 11, 2) := by decide +kernel
theorem d_Bt_leastWithEnds_29 : decode prog_3_method_4_code 29 = .ok (.aload_n 1, 1) := by decide +kernel
theorem d_Bt_leastWithEnds_30 : decode prog_3_method_4_code 30 = .ok (.getfield 28, 3) := by decide +kernel
theorem d_Bt_leastWithEnds_33 : decode prog_3_method_4_code 33 = .ok (.if_icmp .ge 99, 3) := by decide +kernel
theorem d_Bt_leastWithEnds_36 : decode prog_3_method_4_code 36 = .ok (.iconst 0, 1) := by decide +kernel
theorem d_Bt_leastWithEnds_37 : decode prog_3_method_4_code 37 = .ok (.istore 12, 2) := by decide +kernel
theorem d_Bt_leastWithEnds_39 : decode prog_3_method_4_code 39 = .ok (.iload 12, 2) := by decide +kernel
theorem d_Bt_leastWithEnds_41 : decode prog_3_method_4_code 41 = .ok (.aload_n 1, 1) := by decide +kernel
theorem d_Bt_leastWithEnds_42 : decode prog_3_method_4_code 42 = .ok (.getfield 28, 3) := by decide +kernel
theorem d_Bt_leastWithEnds_45 : decode prog_3_method_4_code 45 = .ok (.if_icmp .ge 81, 3) := by decide +kernel
theorem d_Bt_leastWithEnds_48 : decode prog_3_method_4_code 48 = .ok (.iload 7, 2) := by decide +kernel
theorem d_Bt_leastWithEnds_50 : decode prog_3_method_4_code 50 = .ok (.iload 11, 2) := by decide +kernel
theorem d_Bt_leastWithEnds_52 : decode prog_3_method_4_code 52 = .ok (.ishr, 1) := by decide +kernel
theorem d_Bt_leastWithEnds_53 : decode prog_3_method_4_code 53 = .ok (.iconst 1, 1) := by decide +kernel
theorem d_Bt_leastWithEnds_54 : decode prog_3_method_4_code 54 = .ok (.iand, 1) := by decide +kernel
theorem d_Bt_leastWithEnds_55 : decode prog_3_method_4_code 55 = .ok (.ifCond .eq 65, 3) := by decide +kernel
theorem d_Bt_leastWithEnds_58 : decode prog_3_method_4_code 58 = .ok (.iload 8, 2) := by decide +kernel
theorem d_Bt_leastWithEnds_60 : decode prog_3_method_4_code 60 = .ok (.iload 12, 2) := by decide +kernel
theorem d_Bt_leastWithEnds_62 : decode prog_3_method_4_code 62 = .ok (.ishr, 1) := by decide +kernel
theorem d_Bt_leastWithEnds_63 : decode prog_3_method_4_code 63 = .ok (.iconst 1, 1) := by decide +kernel
theorem d_Bt_leastWithEnds_64 : decode prog_3_method_4_code 64 = .ok (.iand, 1) := by decide +kernel
theorem d_Bt_leastWithEnds_65 : decode prog_3_method_4_code 65 = .ok (.ifCond .ne 6, 3) := by decide +kernel
theorem d_Bt_leastWithEnds_68 : decode prog_3_method_4_code 68 = .ok (.goto 52, 3) := by decide +kernel
theorem d_Bt_leastWithEnds_71 : decode prog_3_method_4_code 71 = .ok (.aload_n 0, 1) := by decide +kernel
theorem d_Bt_leastWithEnds_72 : decode prog_3_method_4_code 72 = .ok (.getfield 13, 3) := by decide +kernel
theorem d_Bt_leastWithEnds_75 : decode prog_3_method_4_code 75 = .ok (.iload 4, 2) := by decide +kernel
theorem d_Bt_leastWithEnds_77 : decode prog_3_method_4_code 77 = .ok (.aaload, 1) := by decide +kernel
theorem d_Bt_leastWithEnds_78 : decode prog_3_method_4_code 78 = .ok (.iload 11, 2) := by decide +kernel
theorem d_Bt_leastWithEnds_80 : decode prog_3_method_4_code 80 = .ok (.laload, 1) := by decide +kernel
theorem d_Bt_leastWithEnds_81 : decode prog_3_method_4_code 81 = .ok (.aload_n 2, 1) := by decide +kernel
theorem d_Bt_leastWithEnds_82 : decode prog_3_method_4_code 82 = .ok (.iload 11, 2) := by decide +kernel
theorem d_Bt_leastWithEnds_84 : decode prog_3_method_4_code 84 = .ok (.iload 12, 2) := by decide +kernel
theorem d_Bt_leastWithEnds_86 : decode prog_3_method_4_code 86 = .ok (.invokevirtual 71, 3) := by decide +kernel
theorem d_Bt_leastWithEnds_89 : decode prog_3_method_4_code 89 = .ok (.aload_n 0, 1) := by decide +kernel
theorem d_Bt_leastWithEnds_90 : decode prog_3_method_4_code 90 = .ok (.getfield 13, 3) := by decide +kernel
theorem d_Bt_leastWithEnds_93 : decode prog_3_method_4_code 93 = .ok (.iload 12, 2) := by decide +kernel
theorem d_Bt_leastWithEnds_95 : decode prog_3_method_4_code 95 = .ok (.aaload, 1) := by decide +kernel
theorem d_Bt_leastWithEnds_96 : decode prog_3_method_4_code 96 = .ok (.iload 6, 2) := by decide +kernel
theorem d_Bt_leastWithEnds_98 : decode prog_3_method_4_code 98 = .ok (.laload, 1) := by decide +kernel
theorem d_Bt_leastWithEnds_99 : decode prog_3_method_4_code 99 = .ok (.aload_n 1, 1) := by decide +kernel
theorem d_Bt_leastWithEnds_100 : decode prog_3_method_4_code 100 = .ok (.getfield 77, 3) := by decide +kernel
theorem d_Bt_leastWithEnds_103 : decode prog_3_method_4_code 103 = .ok (.iload 5, 2) := by decide +kernel
theorem d_Bt_leastWithEnds_105 : decode prog_3_method_4_code 105 = .ok (.iaload, 1) := by decide +kernel
theorem d_Bt_leastWithEnds_106 : decode prog_3_method_4_code 106 = .ok (.invokestatic 80, 3) := by decide +kernel
theorem d_Bt_leastWithEnds_109 : decode prog_3_method_4_code 109 = .ok (.lstore 13, 2) := by decide +kernel
theorem d_Bt_leastWithEnds_111 : decode prog_3_method_4_code 111 = .ok (.lload 9, 2) := by decide +kernel
theorem d_Bt_leastWithEnds_113 : decode prog_3_method_4_code 113 = .ok (.lload 13, 2) := by decide +kernel
theorem d_Bt_leastWithEnds_115 : decode prog_3_method_4_code 115 = .ok (.invokestatic 84, 3) := by decide +kernel
theorem d_Bt_leastWithEnds_118 : decode prog_3_method_4_code 118 = .ok (.lstore 9, 2) := by decide +kernel
theorem d_Bt_leastWithEnds_120 : decode prog_3_method_4_code 120 = .ok (.iinc 12 1, 3) := by decide +kernel
theorem d_Bt_leastWithEnds_123 : decode prog_3_method_4_code 123 = .ok (.goto (-84), 3) := by decide +kernel
theorem d_Bt_leastWithEnds_126 : decode prog_3_method_4_code 126 = .ok (.iinc 11 1, 3) := by decide +kernel
theorem d_Bt_leastWithEnds_129 : decode prog_3_method_4_code 129 = .ok (.goto (-102), 3) := by decide +kernel
theorem d_Bt_leastWithEnds_132 : decode prog_3_method_4_code 132 = .ok (.lload 9, 2) := by decide +kernel
theorem d_Bt_leastWithEnds_134 : decode prog_3_method_4_code 134 = .ok (.lreturn, 1) := by decide +kernel
set_option maxHeartbeats 4000000 in
set_option maxRecDepth 20000 in
theorem t_Bt_leastWithEnds {g : GG} (G : Gok g) {σ : AH} {t : Nat} {T : TT} (ht : t < 4) (hW : Wf T) (hA : RtA σ t T) (hB : RtB σ t T) {n0 : Nat} {th : Nat → Bool} {pl : Nat → Nat → Nat} (hR : RoC σ n0 th pl) {Kf : KF} (hK : KyC σ Kf) {v w a b s1 : Nat} (hv : v < 2 * tN T - 1) (hw : w < 2 * tN T - 1) (ha : a < tN T) (hb : b < tN T) (hK1 : ∀ c, (farE T v a).testBit c = true → okO s1 (Kf a c)) (hK2 : ∀ d, (farE T w b).testBit d = true → okO (cB (tM T w)) (Kf d b)) (hs : s1 + cB (tM T w) ≤ 10) : TerL g 2 m_Bt_leastWithEnds [rV 8, rV (tI t), rV 1, iV (nI v), iV (nI a), iV (nI w), iV (nI b)] σ (fun r τ => r = oL (lwO Kf (unl n0 th pl) (farE T v a) (farE T w b) (tN T) a b (cB (tM T w)) (tN T)) ∧ τ = σ) := by
  refine TerL.mk G (by decide +kernel) rfl (Nat.le_of_ble_eq_true rfl) (fun K B Rt => ?_)
  have B : Cx g K prog_3_method_4_code 15 R_Bt 2 := B
  have Rt : RetL g K prog_3_method_4_code 15 (fun r τ => r = oL (lwO Kf (unl n0 th pl) (farE T v a) (farE T w b) (tN T) a b (cB (tM T w)) (tN T)) ∧ τ = σ) := Rt
  show AW g K 15 0 [(0, rV 8), (1, rV (tI t)), (2, rV 1), (3, iV (nI v)), (4, iV (nI a)), (5, iV (nI w)), (6, iV (nI b))] [] σ
  have hA0 := hA
  obtain ⟨a12, a13, a3, a3t, a4, a5, a6, a8⟩ := hA
  obtain ⟨w1, w10, wj, wu, wl, wm, wt, wb, wh⟩ := id hW
  have l1 := farE_lt hW (x := a) hv
  have l2 := farE_lt hW (x := b) hw
  refine a_aload_n B d_Bt_leastWithEnds_0 rfl rfl ?_
  refine a_iload_n B d_Bt_leastWithEnds_1 rfl rfl ?_
  refine a_iload B d_Bt_leastWithEnds_2 rfl ?_
  refine a_callSI B (t_Bt_farEnds G ht hW hA0 hB hv (by omega)) d_Bt_leastWithEnds_4 ok_Bt_farEnds ml_Bt_67 rfl (by decide) (by decide) rfl (Nat.le_of_ble_eq_true rfl) (fun r_4 τ_4 h_4 => ?_)
  obtain ⟨hr_4, hs_4⟩ := h_4
  subst hr_4
  replace hs_4 := hs_4.symm
  subst hs_4
  refine a_istore (lv1 := [(0, _), (1, _), (2, _), (3, _), (4, _), (5, _), (6, _), (7, _)]) B d_Bt_leastWithEnds_7 (by decide) rfl ?_
  refine a_aload_n B d_Bt_leastWithEnds_9 rfl rfl ?_
  refine a_iload B d_Bt_leastWithEnds_10 rfl ?_
  refine a_iload B d_Bt_leastWithEnds_12 rfl ?_
  refine a_callSI B (t_Bt_farEnds G ht hW hA0 hB hw (by omega)) d_Bt_leastWithEnds_14 ok_Bt_farEnds ml_Bt_67 rfl (by decide) (by decide) rfl (Nat.le_of_ble_eq_true rfl) (fun r_14 τ_14 h_14 => ?_)
  obtain ⟨hr_14, hs_14⟩ := h_14
  subst hr_14
  replace hs_14 := hs_14.symm
  subst hs_14
  refine a_istore (lv1 := [(0, _), (1, _), (2, _), (3, _), (4, _), (5, _), (6, _), (7, _), (8, _)]) B d_Bt_leastWithEnds_17 (by decide) rfl ?_
  refine a_ldc2 B d_Bt_leastWithEnds_19 kl_Bt_20 ?_
  refine a_lstore (lv1 := [(0, _), (1, _), (2, _), (3, _), (4, _), (5, _), (6, _), (7, _), (8, _), (9, _)]) B d_Bt_leastWithEnds_22 (by decide) rfl ?_
  refine a_iconst B d_Bt_leastWithEnds_24 ci_0 ?_
  refine a_istore (lv1 := [(0, _), (1, _), (2, _), (3, _), (4, _), (5, _), (6, _), (7, _), (8, _), (9, _), (11, _)]) B d_Bt_leastWithEnds_25 (by decide) rfl ?_
  refine a_for (lf := fun i => [(0, rV 8), (1, rV (tI t)), (2, rV 1), (3, iV (nI v)), (4, iV (nI a)), (5, iV (nI w)), (6, iV (nI b)), (7, iV (nI (farE T v a))), (8, iV (nI (farE T w b))), (9, lV (oL (lwO Kf (unl n0 th pl) (farE T v a) (farE T w b) (tN T) a b (cB (tM T w)) i))), (11, iV (nI i))]) (τ := fun i => σ) (tN T) (fun i hi ihi => ?_) ?_ 0 (Nat.zero_le _)
  · skip
    refine a_iload B d_Bt_leastWithEnds_27 rfl ?_
    refine a_aload_n B d_Bt_leastWithEnds_29 rfl rfl ?_
    refine gf_Tr_leafCount B (by first | assumption | omega) d_Bt_leastWithEnds_30 fl_Bt_28 ?_
    rw [a12]
    first | refine b_icmp_ge B 132 d_Bt_leastWithEnds_33 rfl (by omega) (by omega) (fun c_33 => ?_) (fun c_33 => ?_) | refine a_icmp_ge B 132 d_Bt_leastWithEnds_33 rfl (fun c_33 => ?_) (fun c_33 => ?_)
    · skip
      exact absurd c_33 (by omega)
    refine a_iconst B d_Bt_leastWithEnds_36 ci_0 ?_
    refine a_istore (lv1 := [(0, _), (1, _), (2, _), (3, _), (4, _), (5, _), (6, _), (7, _), (8, _), (9, _), (11, _), (12, _)]) B d_Bt_leastWithEnds_37 (by decide) rfl ?_
    refine a_for (lf := fun j => [(0, rV 8), (1, rV (tI t)), (2, rV 1), (3, iV (nI v)), (4, iV (nI a)), (5, iV (nI w)), (6, iV (nI b)), (7, iV (nI (farE T v a))), (8, iV (nI (farE T w b))), (9, lV (oL (lwI Kf (unl n0 th pl) (farE T v a) (farE T w b) a b (cB (tM T w)) i j (lwO Kf (unl n0 th pl) (farE T v a) (farE T w b) (tN T) a b (cB (tM T w)) i)))), (11, iV (nI i)), (12, iV (nI j))]) (τ := fun j => σ) (tN T) (fun j hj ihj => ?_) ?_ 0 (Nat.zero_le _)
    · skip
      refine a_iload B d_Bt_leastWithEnds_39 rfl ?_
      refine a_aload_n B d_Bt_leastWithEnds_41 rfl rfl ?_
      refine gf_Tr_leafCount B (by first | assumption | omega) d_Bt_leastWithEnds_42 fl_Bt_28 ?_
      rw [a12]
      first | refine b_icmp_ge B 126 d_Bt_leastWithEnds_45 rfl (by omega) (by omega) (fun c_45 => ?_) (fun c_45 => ?_) | refine a_icmp_ge B 126 d_Bt_leastWithEnds_45 rfl (fun c_45 => ?_) (fun c_45 => ?_)
      · skip
        exact absurd c_45 (by omega)
      refine a_iload B d_Bt_leastWithEnds_48 rfl ?_
      refine a_iload B d_Bt_leastWithEnds_50 rfl ?_
      refine a_ishr B d_Bt_leastWithEnds_52 ?_
      refine a_iconst B d_Bt_leastWithEnds_53 ci_1 ?_
      refine a_iand B d_Bt_leastWithEnds_54 ?_
      rw [bit_atN l1 (by omega)]
      first | refine b_if_eq_b B 120 d_Bt_leastWithEnds_55 rfl (fun c_55 => ?_) (fun c_55 => ?_) | refine a_if_eq B 120 d_Bt_leastWithEnds_55 rfl (fun c_55 => ?_) (fun c_55 => ?_)
      · skip
        first | refine b_iinc (lv1 := [(0, _), (1, _), (2, _), (3, _), (4, _), (5, _), (6, _), (7, _), (8, _), (9, _), (11, _), (12, _)]) B d_Bt_leastWithEnds_120 rfl ci_1 (by decide) rfl ?_ | refine a_iinc (lv1 := [(0, _), (1, _), (2, _), (3, _), (4, _), (5, _), (6, _), (7, _), (8, _), (9, _), (11, _), (12, _)]) B d_Bt_leastWithEnds_120 rfl rfl (by decide) rfl ?_
        refine a_goto B 39 d_Bt_leastWithEnds_123 rfl ?_
        refine a_sub (lv1 := [(0, _), (1, _), (2, _), (3, _), (4, _), (5, _), (6, _), (7, _), (8, _), (9, _), (11, _), (12, _)]) rfl ?_
        first | (have hst : lwI Kf (unl n0 th pl) (farE T v a) (farE T w b) a b (cB (tM T w)) i (j + 1) (lwO Kf (unl n0 th pl) (farE T v a) (farE T w b) (tN T) a b (cB (tM T w)) i) = (lwI Kf (unl n0 th pl) (farE T v a) (farE T w b) a b (cB (tM T w)) i j (lwO Kf (unl n0 th pl) (farE T v a) (farE T w b) (tN T) a b (cB (tM T w)) i)) := (by rw [lwI, if_neg (by rw [nI_ez c_55]; simp)])) | (have hst : lwI Kf (unl n0 th pl) (farE T v a) (farE T w b) a b (cB (tM T w)) i (j + 1) (lwO Kf (unl n0 th pl) (farE T v a) (farE T w b) (tN T) a b (cB (tM T w)) i) = (lwI Kf (unl n0 th pl) (farE T v a) (farE T w b) a b (cB (tM T w)) i j (lwO Kf (unl n0 th pl) (farE T v a) (farE T w b) (tN T) a b (cB (tM T w)) i)) := (by rw [lwI, if_neg (by rw [nI_ez c_65]; simp)])) | (have hst : lwI Kf (unl n0 th pl) (farE T v a) (farE T w b) a b (cB (tM T w)) i (j + 1) (lwO Kf (unl n0 th pl) (farE T v a) (farE T w b) (tN T) a b (cB (tM T w)) i) = omin (lwI Kf (unl n0 th pl) (farE T v a) (farE T w b) a b (cB (tM T w)) i j (lwO Kf (unl n0 th pl) (farE T v a) (farE T w b) (tN T) a b (cB (tM T w)) i)) (bsN (Kf a i) ((unl n0 th pl) i j) (Kf j b) (cB (tM T w))) := (by rw [lwI, if_pos (by rw [nI_enz c_55, nI_enz c_65]; rfl)]))
        rw [hst] at ihj
        exact ihj
      refine a_iload B d_Bt_leastWithEnds_58 rfl ?_
      refine a_iload B d_Bt_leastWithEnds_60 rfl ?_
      refine a_ishr B d_Bt_leastWithEnds_62 ?_
      refine a_iconst B d_Bt_leastWithEnds_63 ci_1 ?_
      refine a_iand B d_Bt_leastWithEnds_64 ?_
      rw [bit_atN l2 (by omega)]
      first | refine b_if_ne_b B 71 d_Bt_leastWithEnds_65 rfl (fun c_65 => ?_) (fun c_65 => ?_) | refine a_if_ne B 71 d_Bt_leastWithEnds_65 rfl (fun c_65 => ?_) (fun c_65 => ?_)
      · skip
        refine a_aload_n B d_Bt_leastWithEnds_71 rfl rfl ?_
        refine gf_Bt_keys B d_Bt_leastWithEnds_72 fl_Bt_13 ?_
        refine a_iload B d_Bt_leastWithEnds_75 rfl ?_
        refine al_ke B _ rfl (by omega) d_Bt_leastWithEnds_77 ?_
        refine a_iload B d_Bt_leastWithEnds_78 rfl ?_
        refine a_lald B (ly_ke (by first | assumption | omega)) _ rfl (by omega) d_Bt_leastWithEnds_80 ?_
        rw [hK a i (by omega) (by omega)]
        refine a_aload_n B d_Bt_leastWithEnds_81 rfl rfl ?_
        refine a_iload B d_Bt_leastWithEnds_82 rfl ?_
        refine a_iload B d_Bt_leastWithEnds_84 rfl ?_
        refine a_callVI (ci := 4) B (t_Ro_unlikeness G hR (by omega) (by omega)) d_Bt_leastWithEnds_86 ok_Ro_unlikeness ml_Bt_71 ly_1 rfl rfl (by decide) (by decide) rfl (Nat.le_of_ble_eq_true rfl) (fun r_86 τ_86 h_86 => ?_)
        obtain ⟨hr_86, hs_86⟩ := h_86
        subst hr_86
        replace hs_86 := hs_86.symm
        subst hs_86
        refine a_aload_n B d_Bt_leastWithEnds_89 rfl rfl ?_
        refine gf_Bt_keys B d_Bt_leastWithEnds_90 fl_Bt_13 ?_
        refine a_iload B d_Bt_leastWithEnds_93 rfl ?_
        refine al_ke B _ rfl (by omega) d_Bt_leastWithEnds_95 ?_
        refine a_iload B d_Bt_leastWithEnds_96 rfl ?_
        refine a_lald B (ly_ke (by first | assumption | omega)) _ rfl (by omega) d_Bt_leastWithEnds_98 ?_
        rw [hK j b (by omega) (by omega)]
        refine a_aload_n B d_Bt_leastWithEnds_99 rfl rfl ?_
        refine gf_Tr_size B (by first | assumption | omega) d_Bt_leastWithEnds_100 fl_Bt_77 ?_
        refine a_iload B d_Bt_leastWithEnds_103 rfl ?_
        refine a_iald B (ly_T_size (by first | assumption | omega)) _ rfl (by first | assumption | omega) d_Bt_leastWithEnds_105 ?_
        rw [a5 _ hw]
        refine a_callSL B (t_Bt_besides (s1 := s1) G (hK1 i (nI_enz c_55)) (hK2 j (nI_enz c_65)) hs (unl_le hR.2.2.2.2 _ _)) d_Bt_leastWithEnds_106 ok_Bt_besides ml_Bt_80 rfl (by decide) (by decide) rfl (Nat.le_of_ble_eq_true rfl) (fun r_106 τ_106 h_106 => ?_)
        obtain ⟨hr_106, hs_106⟩ := h_106
        subst hr_106
        replace hs_106 := hs_106.symm
        subst hs_106
        refine a_lstore (lv1 := [(0, _), (1, _), (2, _), (3, _), (4, _), (5, _), (6, _), (7, _), (8, _), (9, _), (11, _), (12, _), (13, _)]) B d_Bt_leastWithEnds_109 (by decide) rfl ?_
        refine a_lload B d_Bt_leastWithEnds_111 rfl ?_
        refine a_lload B d_Bt_leastWithEnds_113 rfl ?_
        refine a_callSL B (t_Bt_lesser G (fun x hx => by have := okKey_lt (lwI_ok (unl_le hR.2.2.2.2) (hK1 i) hK2 hs (lwO_ok (unl_le hR.2.2.2.2) hK1 hK2 hs i) j x hx) hs; omega) (fun x hx => by have := okKey_lt (bsN_ok (hK1 i (nI_enz c_55)) (hK2 j (nI_enz c_65)) hs (unl_le hR.2.2.2.2 _ _) x hx) hs; omega)) d_Bt_leastWithEnds_115 ok_Bt_lesser ml_Bt_84 rfl (by decide) (by decide) rfl (Nat.le_of_ble_eq_true rfl) (fun r_115 τ_115 h_115 => ?_)
        obtain ⟨hr_115, hs_115⟩ := h_115
        subst hr_115
        replace hs_115 := hs_115.symm
        subst hs_115
        refine a_lstore (lv1 := [(0, _), (1, _), (2, _), (3, _), (4, _), (5, _), (6, _), (7, _), (8, _), (9, _), (11, _), (12, _), (13, _)]) B d_Bt_leastWithEnds_118 (by decide) rfl ?_
        first | refine b_iinc (lv1 := [(0, _), (1, _), (2, _), (3, _), (4, _), (5, _), (6, _), (7, _), (8, _), (9, _), (11, _), (12, _), (13, _)]) B d_Bt_leastWithEnds_120 rfl ci_1 (by decide) rfl ?_ | refine a_iinc (lv1 := [(0, _), (1, _), (2, _), (3, _), (4, _), (5, _), (6, _), (7, _), (8, _), (9, _), (11, _), (12, _), (13, _)]) B d_Bt_leastWithEnds_120 rfl rfl (by decide) rfl ?_
        refine a_goto B 39 d_Bt_leastWithEnds_123 rfl ?_
        refine a_sub (lv1 := [(0, _), (1, _), (2, _), (3, _), (4, _), (5, _), (6, _), (7, _), (8, _), (9, _), (11, _), (12, _)]) rfl ?_
        first | (have hst : lwI Kf (unl n0 th pl) (farE T v a) (farE T w b) a b (cB (tM T w)) i (j + 1) (lwO Kf (unl n0 th pl) (farE T v a) (farE T w b) (tN T) a b (cB (tM T w)) i) = (lwI Kf (unl n0 th pl) (farE T v a) (farE T w b) a b (cB (tM T w)) i j (lwO Kf (unl n0 th pl) (farE T v a) (farE T w b) (tN T) a b (cB (tM T w)) i)) := (by rw [lwI, if_neg (by rw [nI_ez c_55]; simp)])) | (have hst : lwI Kf (unl n0 th pl) (farE T v a) (farE T w b) a b (cB (tM T w)) i (j + 1) (lwO Kf (unl n0 th pl) (farE T v a) (farE T w b) (tN T) a b (cB (tM T w)) i) = (lwI Kf (unl n0 th pl) (farE T v a) (farE T w b) a b (cB (tM T w)) i j (lwO Kf (unl n0 th pl) (farE T v a) (farE T w b) (tN T) a b (cB (tM T w)) i)) := (by rw [lwI, if_neg (by rw [nI_ez c_65]; simp)])) | (have hst : lwI Kf (unl n0 th pl) (farE T v a) (farE T w b) a b (cB (tM T w)) i (j + 1) (lwO Kf (unl n0 th pl) (farE T v a) (farE T w b) (tN T) a b (cB (tM T w)) i) = omin (lwI Kf (unl n0 th pl) (farE T v a) (farE T w b) a b (cB (tM T w)) i j (lwO Kf (unl n0 th pl) (farE T v a) (farE T w b) (tN T) a b (cB (tM T w)) i)) (bsN (Kf a i) ((unl n0 th pl) i j) (Kf j b) (cB (tM T w))) := (by rw [lwI, if_pos (by rw [nI_enz c_55, nI_enz c_65]; rfl)]))
        rw [hst] at ihj
        exact ihj
      refine a_goto B 120 d_Bt_leastWithEnds_68 rfl ?_
      first | refine b_iinc (lv1 := [(0, _), (1, _), (2, _), (3, _), (4, _), (5, _), (6, _), (7, _), (8, _), (9, _), (11, _), (12, _)]) B d_Bt_leastWithEnds_120 rfl ci_1 (by decide) rfl ?_ | refine a_iinc (lv1 := [(0, _), (1, _), (2, _), (3, _), (4, _), (5, _), (6, _), (7, _), (8, _), (9, _), (11, _), (12, _)]) B d_Bt_leastWithEnds_120 rfl rfl (by decide) rfl ?_
      refine a_goto B 39 d_Bt_leastWithEnds_123 rfl ?_
      refine a_sub (lv1 := [(0, _), (1, _), (2, _), (3, _), (4, _), (5, _), (6, _), (7, _), (8, _), (9, _), (11, _), (12, _)]) rfl ?_
      first | (have hst : lwI Kf (unl n0 th pl) (farE T v a) (farE T w b) a b (cB (tM T w)) i (j + 1) (lwO Kf (unl n0 th pl) (farE T v a) (farE T w b) (tN T) a b (cB (tM T w)) i) = (lwI Kf (unl n0 th pl) (farE T v a) (farE T w b) a b (cB (tM T w)) i j (lwO Kf (unl n0 th pl) (farE T v a) (farE T w b) (tN T) a b (cB (tM T w)) i)) := (by rw [lwI, if_neg (by rw [nI_ez c_55]; simp)])) | (have hst : lwI Kf (unl n0 th pl) (farE T v a) (farE T w b) a b (cB (tM T w)) i (j + 1) (lwO Kf (unl n0 th pl) (farE T v a) (farE T w b) (tN T) a b (cB (tM T w)) i) = (lwI Kf (unl n0 th pl) (farE T v a) (farE T w b) a b (cB (tM T w)) i j (lwO Kf (unl n0 th pl) (farE T v a) (farE T w b) (tN T) a b (cB (tM T w)) i)) := (by rw [lwI, if_neg (by rw [nI_ez c_65]; simp)])) | (have hst : lwI Kf (unl n0 th pl) (farE T v a) (farE T w b) a b (cB (tM T w)) i (j + 1) (lwO Kf (unl n0 th pl) (farE T v a) (farE T w b) (tN T) a b (cB (tM T w)) i) = omin (lwI Kf (unl n0 th pl) (farE T v a) (farE T w b) a b (cB (tM T w)) i j (lwO Kf (unl n0 th pl) (farE T v a) (farE T w b) (tN T) a b (cB (tM T w)) i)) (bsN (Kf a i) ((unl n0 th pl) i j) (Kf j b) (cB (tM T w))) := (by rw [lwI, if_pos (by rw [nI_enz c_55, nI_enz c_65]; rfl)]))
      rw [hst] at ihj
      exact ihj
    · skip
      refine a_iload B d_Bt_leastWithEnds_39 rfl ?_
      refine a_aload_n B d_Bt_leastWithEnds_41 rfl rfl ?_
      refine gf_Tr_leafCount B (by first | assumption | omega) d_Bt_leastWithEnds_42 fl_Bt_28 ?_
      rw [a12]
      first | refine b_icmp_ge B 126 d_Bt_leastWithEnds_45 rfl (by omega) (by omega) (fun c_45 => ?_) (fun c_45 => ?_) | refine a_icmp_ge B 126 d_Bt_leastWithEnds_45 rfl (fun c_45 => ?_) (fun c_45 => ?_)
      · skip
        first | refine b_iinc (lv1 := [(0, _), (1, _), (2, _), (3, _), (4, _), (5, _), (6, _), (7, _), (8, _), (9, _), (11, _), (12, _)]) B d_Bt_leastWithEnds_126 rfl ci_1 (by decide) rfl ?_ | refine a_iinc (lv1 := [(0, _), (1, _), (2, _), (3, _), (4, _), (5, _), (6, _), (7, _), (8, _), (9, _), (11, _), (12, _)]) B d_Bt_leastWithEnds_126 rfl rfl (by decide) rfl ?_
        refine a_goto B 27 d_Bt_leastWithEnds_129 rfl ?_
        refine a_sub (lv1 := [(0, _), (1, _), (2, _), (3, _), (4, _), (5, _), (6, _), (7, _), (8, _), (9, _), (11, _)]) rfl ?_
        exact ihi
      exact absurd c_45 (by omega)
  · skip
    refine a_iload B d_Bt_leastWithEnds_27 rfl ?_
    refine a_aload_n B d_Bt_leastWithEnds_29 rfl rfl ?_
    refine gf_Tr_leafCount B (by first | assumption | omega) d_Bt_leastWithEnds_30 fl_Bt_28 ?_
    rw [a12]
    first | refine b_icmp_ge B 132 d_Bt_leastWithEnds_33 rfl (by omega) (by omega) (fun c_33 => ?_) (fun c_33 => ?_) | refine a_icmp_ge B 132 d_Bt_leastWithEnds_33 rfl (fun c_33 => ?_) (fun c_33 => ?_)
    · skip
      refine a_lload B d_Bt_leastWithEnds_132 rfl ?_
      exact Rt _ _ _ _ d_Bt_leastWithEnds_134 ⟨rfl, rfl⟩
    exact absurd c_33 (by omega)
theorem RtA.h {σ τ : AH} {t : Nat} {T : TT} (h : RtA σ t T) (e : τ.1 = σ.1) : RtA τ t T := by
  unfold RtA at h ⊢
  rw [e]
  exact h
theorem RtB.h {σ τ : AH} {t : Nat} {T : TT} (h : RtB σ t T) (e : τ.1 = σ.1) : RtB τ t T := by
  unfold RtB at h ⊢
  rw [e]
  exact h
theorem RoC.h {σ τ : AH} {n : Nat} {th : Nat → Bool} {pl : Nat → Nat → Nat} (h : RoC σ n th pl) (e : τ.1 = σ.1) : RoC τ n th pl := by
  unfold RoC at h ⊢
  rw [e]
  exact h
theorem KyC_up {σ : AH} {Kf Kf' : KF} {a b : Nat} {o : Option Nat} (h : KyC σ Kf) (h1 : Kf' a b = o) (h2 : ∀ x y, ¬ (x = a ∧ y = b) → Kf' x y = Kf x y) : KyC (up2 σ (40 + a) (vp_updL (σ.2 (40 + a)) b (oL o))) Kf' := by
  intro x y hx hy
  by_cases e : x = a
  · subst e
    rw [up2_s]
    by_cases e2 : y = b
    · subst e2
      rw [h1]
      simp [vp_updL]
    · rw [h2 x y (fun q => e2 q.2)]
      simp [vp_updL, e2]
      exact h x y hx hy
  · rw [up2_o (by omega), h2 x y (fun q => e q.1)]
    exact h x y hx hy
theorem KyC_eq {σ : AH} {Kf Kf' : KF} (h : KyC σ Kf) (e : ∀ x y, Kf' x y = Kf x y) : KyC σ Kf' := fun x y hx hy => by rw [e]; exact h x y hx hy
theorem d_Bt_setSide_0 : decode prog_3_method_3_code 0 = .ok (.iconst 0, 1) := by decide +kernel
theorem d_Bt_setSide_1 : decode prog_3_method_3_code 1 = .ok (.istore 5, 2) := by decide +kernel
theorem d_Bt_setSide_3 : decode prog_3_method_3_code 3 = .ok (.iload 5, 2) := by decide +kernel
theorem d_Bt_setSide_5 : decode prog_3_method_3_code 5 = .ok (.aload_n 1, 1) := by decide +kernel
theorem d_Bt_setSide_6 : decode prog_3_method_3_code 6 = .ok (.getfield 28, 3) := by decide +kernel
theorem d_Bt_setSide_9 : decode prog_3_method_3_code 9 = .ok (.if_icmp .ge 71, 3) := by decide +kernel
theorem d_Bt_setSide_12 : decode prog_3_method_3_code 12 = .ok (.iconst 0, 1) := by decide +kernel
theorem d_Bt_setSide_13 : decode prog_3_method_3_code 13 = .ok (.istore 6, 2) := by decide +kernel
theorem d_Bt_setSide_15 : decode prog_3_method_3_code 15 = .ok (.iload 6, 2) := by decide +kernel
theorem d_Bt_setSide_17 : decode prog_3_method_3_code 17 = .ok (.aload_n 1, 1) := by decide +kernel
theorem d_Bt_setSide_18 : decode prog_3_method_3_code 18 = .ok (.getfield 28, 3) := by decide +kernel
theorem d_Bt_setSide_21 : decode prog_3_method_3_code 21 = .ok (.if_icmp .ge 53, 3) := by decide +kernel
theorem d_Bt_setSide_24 : decode prog_3_method_3_code 24 = .ok (.aload_n 1, 1) := by decide +kernel
theorem d_Bt_setSide_25 : decode prog_3_method_3_code 25 = .ok (.iload_n 3, 1) := by decide +kernel
theorem d_Bt_setSide_26 : decode prog_3_method_3_code 26 = .ok (.iload 5, 2) := by decide +kernel
theorem d_Bt_setSide_28 : decode prog_3_method_3_code 28 = .ok (.invokevirtual 59, 3) := by decide +kernel
theorem d_Bt_setSide_31 : decode prog_3_method_3_code 31 = .ok (.ifCond .eq 37, 3) := by decide +kernel
theorem d_Bt_setSide_34 : decode prog_3_method_3_code 34 = .ok (.aload_n 1, 1) := by decide +kernel
theorem d_Bt_setSide_35 : decode prog_3_method_3_code 35 = .ok (.iload 4, 2) := by decide +kernel
theorem d_Bt_setSide_37 : decode prog_3_method_3_code 37 = .ok (.iload 6, 2) := by decide +kernel
theorem d_Bt_setSide_39 : decode prog_3_method_3_code 39 = .ok (.invokevirtual 59, 3) := by decide +kernel
theorem d_Bt_setSide_42 : decode prog_3_method_3_code 42 = .ok (.ifCond .eq 26, 3) := by decide +kernel
theorem d_Bt_setSide_45 : decode prog_3_method_3_code 45 = .ok (.aload_n 0, 1) := by decide +kernel
theorem d_Bt_setSide_46 : decode prog_3_method_3_code 46 = .ok (.getfield 13, 3) := by decide +kernel
theorem d_Bt_setSide_49 : decode prog_3_method_3_code 49 = .ok (.iload 5, 2) := by decide +kernel
theorem d_Bt_setSide_51 : decode prog_3_method_3_code 51 = .ok (.aaload, 1) := by decide +kernel
theorem d_Bt_setSide_52 : decode prog_3_method_3_code 52 = .ok (.iload 6, 2) := by decide +kernel
theorem d_Bt_setSide_54 : decode prog_3_method_3_code 54 = .ok (.aload_n 0, 1) := by decide +kernel
theorem d_Bt_setSide_55 : decode prog_3_method_3_code 55 = .ok (.aload_n 1, 1) := by decide +kernel
theorem d_Bt_setSide_56 : decode prog_3_method_3_code 56 = .ok (.aload_n 2, 1) := by decide +kernel
theorem d_Bt_setSide_57 : decode prog_3_method_3_code 57 = .ok (.iload_n 3, 1) := by decide +kernel
theorem d_Bt_setSide_58 : decode prog_3_method_3_code 58 = .ok (.iload 5, 2) := by decide +kernel
theorem d_Bt_setSide_60 : decode prog_3_method_3_code 60 = .ok (.iload 4, 2) := by decide +kernel
theorem d_Bt_setSide_62 : decode prog_3_method_3_code 62 = .ok (.iload 6, 2) := by decide +kernel
theorem d_Bt_setSide_64 : decode prog_3_method_3_code 64 = .ok (.invokevirtual 63, 3) := by decide +kernel
theorem d_Bt_setSide_67 : decode prog_3_method_3_code 67 = .ok (.lastore, 1) := by decide +kernel
theorem d_Bt_setSide_68 : decode prog_3_method_3_code 68 = .ok (.iinc 6 1, 3) := by decide +kernel
theorem d_Bt_setSide_71 : decode prog_3_method_3_code 71 = .ok (.goto (-56), 3) := by decide +kernel
theorem d_Bt_setSide_74 : decode prog_3_method_3_code 74 = .ok (.iinc 5 1, 3) := by decide +kernel
theorem d_Bt_setSide_77 : decode prog_3_method_3_code 77 = .ok (.goto (-74), 3) := by decide +kernel
theorem d_Bt_setSide_80 : decode prog_3_method_3_code 80 = .ok (.return_, 1) := by decide +kernel
set_option maxHeartbeats 4000000 in
set_option maxRecDepth 20000 in
theorem t_Bt_setSide {g : GG} (G : Gok g) {σ : AH} {t : Nat} {T : TT} (ht : t < 4) (hW : Wf T) (hA : RtA σ t T) (hB : RtB σ t T) {n0 : Nat} {th : Nat → Bool} {pl : Nat → Nat → Nat} (hR : RoC σ n0 th pl) {Kf : KF} (hK : KyC σ Kf) {v w s1 : Nat} (hv : v < 2 * tN T - 1) (hw : w < 2 * tN T - 1) (hdis : ∀ x, ¬ (hasL T v x = true ∧ hasL T w x = true)) (hK1 : ∀ a c, hasL T v a = true → (farE T v a).testBit c = true → okO s1 (Kf a c)) (hK2 : ∀ b d, hasL T w b = true → (farE T w b).testBit d = true → okO (cB (tM T w)) (Kf d b)) (hs : s1 + cB (tM T w) ≤ 10) : TerV g 3 m_Bt_setSide [rV 8, rV (tI t), rV 1, iV (nI v), iV (nI w)] σ (fun τ => τ.1 = σ.1 ∧ (∀ k, (k < 40 ∨ 50 ≤ k) → τ.2 k = σ.2 k) ∧ KyC τ (sideK T (unl n0 th pl) Kf v w)) := by
  refine TerV.mk G (by decide +kernel) rfl (Nat.le_of_ble_eq_true rfl) (fun K B Rt => ?_)
  have B : Cx g K prog_3_method_3_code 7 R_Bt 3 := B
  have Rt : RetV g K prog_3_method_3_code 7 (fun τ => τ.1 = σ.1 ∧ (∀ k, (k < 40 ∨ 50 ≤ k) → τ.2 k = σ.2 k) ∧ KyC τ (sideK T (unl n0 th pl) Kf v w)) := Rt
  show AW g K 7 0 [(0, rV 8), (1, rV (tI t)), (2, rV 1), (3, iV (nI v)), (4, iV (nI w))] [] σ
  have hA0 := hA
  obtain ⟨a12, a13, a3, a3t, a4, a5, a6, a8⟩ := hA
  obtain ⟨w1, w10, wj, wu, wl, wm, wt, wb, wh⟩ := id hW
  refine a_iconst B d_Bt_setSide_0 ci_0 ?_
  refine a_istore (lv1 := [(0, _), (1, _), (2, _), (3, _), (4, _), (5, _)]) B d_Bt_setSide_1 (by decide) rfl ?_
  refine a_forR (tN T) (fun i lv τ => lv = [(0, rV 8), (1, rV (tI t)), (2, rV 1), (3, iV (nI v)), (4, iV (nI w)), (5, iV (nI i))] ∧ τ.1 = σ.1 ∧ (∀ k, (k < 40 ∨ 50 ≤ k) → τ.2 k = σ.2 k) ∧ KyC τ (dnK T (unl n0 th pl) Kf v w (fun x y => decide (x < i)))) (fun i lv τ hi hI ihi => ?_) (fun lv τ hI => ?_) 0 (Nat.zero_le _) _ _ ⟨rfl, rfl, fun _ _ => rfl, KyC_eq hK (fun x y => by simp [dnK])⟩
  · skip
    obtain ⟨rfl, e1, hO, hKi⟩ := hI
    refine a_iload B d_Bt_setSide_3 rfl ?_
    refine a_aload_n B d_Bt_setSide_5 rfl rfl ?_
    refine gf_Tr_leafCount B (by first | assumption | omega) d_Bt_setSide_6 fl_Bt_28 ?_
    rw [e1, a12]
    first | refine b_icmp_ge B 80 d_Bt_setSide_9 rfl (by omega) (by omega) (fun c_9 => ?_) (fun c_9 => ?_) | refine a_icmp_ge B 80 d_Bt_setSide_9 rfl (fun c_9 => ?_) (fun c_9 => ?_)
    · skip
      exact absurd c_9 (by omega)
    refine a_iconst B d_Bt_setSide_12 ci_0 ?_
    refine a_istore (lv1 := [(0, _), (1, _), (2, _), (3, _), (4, _), (5, _), (6, _)]) B d_Bt_setSide_13 (by decide) rfl ?_
    refine a_forR (tN T) (fun j lv τ => lv = [(0, rV 8), (1, rV (tI t)), (2, rV 1), (3, iV (nI v)), (4, iV (nI w)), (5, iV (nI i)), (6, iV (nI j))] ∧ τ.1 = σ.1 ∧ (∀ k, (k < 40 ∨ 50 ≤ k) → τ.2 k = σ.2 k) ∧ KyC τ (dnK T (unl n0 th pl) Kf v w (p2 i j))) (fun j lv τ hj hI ihj => ?_) (fun lv τ hI => ?_) 0 (Nat.zero_le _) _ _ ⟨rfl, e1, hO, KyC_eq hKi (fun x y => dnK_p (fun _ => p2_0))⟩
    · skip
      obtain ⟨rfl, e1, hO, hKi⟩ := hI
      refine a_iload B d_Bt_setSide_15 rfl ?_
      refine a_aload_n B d_Bt_setSide_17 rfl rfl ?_
      refine gf_Tr_leafCount B (by first | assumption | omega) d_Bt_setSide_18 fl_Bt_28 ?_
      rw [e1, a12]
      first | refine b_icmp_ge B 74 d_Bt_setSide_21 rfl (by omega) (by omega) (fun c_21 => ?_) (fun c_21 => ?_) | refine a_icmp_ge B 74 d_Bt_setSide_21 rfl (fun c_21 => ?_) (fun c_21 => ?_)
      · skip
        exact absurd c_21 (by omega)
      refine a_aload_n B d_Bt_setSide_24 rfl rfl ?_
      refine a_iload_n B d_Bt_setSide_25 rfl rfl ?_
      refine a_iload B d_Bt_setSide_26 rfl ?_
      refine a_callVI (ci := 5) B (t_Tr_holdsLeaf G ht hW (hA0.h e1) hv (by omega)) d_Bt_setSide_28 ok_Tr_holdsLeaf ml_Bt_59 (ly_T (by first | assumption | omega)) rfl rfl (by decide) (by decide) rfl (Nat.le_of_ble_eq_true rfl) (fun r_28 τ_28 h_28 => ?_)
      obtain ⟨hr_28, hs_28⟩ := h_28
      subst hr_28
      replace hs_28 := hs_28.symm
      subst hs_28
      first | refine b_if_eq_b B 68 d_Bt_setSide_31 rfl (fun c_31 => ?_) (fun c_31 => ?_) | refine a_if_eq B 68 d_Bt_setSide_31 rfl (fun c_31 => ?_) (fun c_31 => ?_)
      · skip
        first | refine b_iinc (lv1 := [(0, _), (1, _), (2, _), (3, _), (4, _), (5, _), (6, _)]) B d_Bt_setSide_68 rfl ci_1 (by decide) rfl ?_ | refine a_iinc (lv1 := [(0, _), (1, _), (2, _), (3, _), (4, _), (5, _), (6, _)]) B d_Bt_setSide_68 rfl rfl (by decide) rfl ?_
        refine a_goto B 15 d_Bt_setSide_71 rfl ?_
        first | exact ihj _ _ ⟨rfl, e1, hO, KyC_eq hKi (fun x y => dnK_p (fun q => p2_ne (fun h9 => by rw [h9.1, h9.2] at q; simp only [c_31, Bool.false_and] at q; cases q)))⟩ | exact ihj _ _ ⟨rfl, e1, hO, KyC_eq hKi (fun x y => dnK_p (fun q => p2_ne (fun h9 => by rw [h9.1, h9.2] at q; simp only [c_42, Bool.and_false] at q; cases q)))⟩ | exact ihj _ _ ⟨rfl, e1, fun k q => by rw [up2_o (by omega)]; exact hO k q, KyC_up hKi (dnK_on p2_at c_31 c_42) (fun x y hne => dnK_p (fun _ => p2_ne hne))⟩
      refine a_aload_n B d_Bt_setSide_34 rfl rfl ?_
      refine a_iload B d_Bt_setSide_35 rfl ?_
      refine a_iload B d_Bt_setSide_37 rfl ?_
      refine a_callVI (ci := 5) B (t_Tr_holdsLeaf G ht hW (hA0.h e1) hw (by omega)) d_Bt_setSide_39 ok_Tr_holdsLeaf ml_Bt_59 (ly_T (by first | assumption | omega)) rfl rfl (by decide) (by decide) rfl (Nat.le_of_ble_eq_true rfl) (fun r_39 τ_39 h_39 => ?_)
      obtain ⟨hr_39, hs_39⟩ := h_39
      subst hr_39
      replace hs_39 := hs_39.symm
      subst hs_39
      first | refine b_if_eq_b B 68 d_Bt_setSide_42 rfl (fun c_42 => ?_) (fun c_42 => ?_) | refine a_if_eq B 68 d_Bt_setSide_42 rfl (fun c_42 => ?_) (fun c_42 => ?_)
      · skip
        first | refine b_iinc (lv1 := [(0, _), (1, _), (2, _), (3, _), (4, _), (5, _), (6, _)]) B d_Bt_setSide_68 rfl ci_1 (by decide) rfl ?_ | refine a_iinc (lv1 := [(0, _), (1, _), (2, _), (3, _), (4, _), (5, _), (6, _)]) B d_Bt_setSide_68 rfl rfl (by decide) rfl ?_
        refine a_goto B 15 d_Bt_setSide_71 rfl ?_
        first | exact ihj _ _ ⟨rfl, e1, hO, KyC_eq hKi (fun x y => dnK_p (fun q => p2_ne (fun h9 => by rw [h9.1, h9.2] at q; simp only [c_31, Bool.false_and] at q; cases q)))⟩ | exact ihj _ _ ⟨rfl, e1, hO, KyC_eq hKi (fun x y => dnK_p (fun q => p2_ne (fun h9 => by rw [h9.1, h9.2] at q; simp only [c_42, Bool.and_false] at q; cases q)))⟩ | exact ihj _ _ ⟨rfl, e1, fun k q => by rw [up2_o (by omega)]; exact hO k q, KyC_up hKi (dnK_on p2_at c_31 c_42) (fun x y hne => dnK_p (fun _ => p2_ne hne))⟩
      refine a_aload_n B d_Bt_setSide_45 rfl rfl ?_
      refine gf_Bt_keys B d_Bt_setSide_46 fl_Bt_13 ?_
      refine a_iload B d_Bt_setSide_49 rfl ?_
      refine al_ke B _ rfl (by omega) d_Bt_setSide_51 ?_
      refine a_iload B d_Bt_setSide_52 rfl ?_
      refine a_aload_n B d_Bt_setSide_54 rfl rfl ?_
      refine a_aload_n B d_Bt_setSide_55 rfl rfl ?_
      refine a_aload_n B d_Bt_setSide_56 rfl rfl ?_
      refine a_iload_n B d_Bt_setSide_57 rfl rfl ?_
      refine a_iload B d_Bt_setSide_58 rfl ?_
      refine a_iload B d_Bt_setSide_60 rfl ?_
      refine a_iload B d_Bt_setSide_62 rfl ?_
      refine a_callVL (ci := 1) B (t_Bt_leastWithEnds (s1 := s1) G ht hW (hA0.h e1) (hB.h e1) (hR.h e1) hKi hv hw (by omega) (by omega) (fun c hc => by rw [dnK_off (by have h9 := farE_sub hW hv hc; cases q : hasL T w c with | false => exact Bool.and_false _ | true => exact absurd ⟨h9, q⟩ (hdis c))]; exact hK1 i c c_31 hc) (fun d hd => by rw [dnK_off (by have h9 := farE_sub hW hw hd; cases q : hasL T v d with | false => exact Bool.false_and _ | true => exact absurd ⟨q, h9⟩ (hdis d))]; exact hK2 j d c_42 hd) hs) d_Bt_setSide_64 ok_Bt_leastWithEnds ml_Bt_63 ly_8 rfl rfl (by decide) (by decide) rfl (Nat.le_of_ble_eq_true rfl) (fun r_64 τ_64 h_64 => ?_)
      obtain ⟨hr_64, hs_64⟩ := h_64
      subst hr_64
      replace hs_64 := hs_64.symm
      subst hs_64
      have hval : lwO (dnK T (unl n0 th pl) Kf v w (p2 i j)) (unl n0 th pl) (farE T v i) (farE T w j) (tN T) i j (cB (tM T w)) (tN T) = lwO Kf (unl n0 th pl) (farE T v i) (farE T w j) (tN T) i j (cB (tM T w)) (tN T) := lwO_congr (fun c hc => dnK_off (by have h9 := farE_sub hW hv hc; cases q : hasL T w c with | false => exact Bool.and_false _ | true => exact absurd ⟨h9, q⟩ (hdis c))) (fun d hd => dnK_off (by have h9 := farE_sub hW hw hd; cases q : hasL T v d with | false => exact Bool.false_and _ | true => exact absurd ⟨q, h9⟩ (hdis d))) _
      rw [hval]
      refine a_last B (ly_ke (by first | assumption | omega)) _ rfl (by omega) d_Bt_setSide_67 ?_
      first | refine b_iinc (lv1 := [(0, _), (1, _), (2, _), (3, _), (4, _), (5, _), (6, _)]) B d_Bt_setSide_68 rfl ci_1 (by decide) rfl ?_ | refine a_iinc (lv1 := [(0, _), (1, _), (2, _), (3, _), (4, _), (5, _), (6, _)]) B d_Bt_setSide_68 rfl rfl (by decide) rfl ?_
      refine a_goto B 15 d_Bt_setSide_71 rfl ?_
      first | exact ihj _ _ ⟨rfl, e1, hO, KyC_eq hKi (fun x y => dnK_p (fun q => p2_ne (fun h9 => by rw [h9.1, h9.2] at q; simp only [c_31, Bool.false_and] at q; cases q)))⟩ | exact ihj _ _ ⟨rfl, e1, hO, KyC_eq hKi (fun x y => dnK_p (fun q => p2_ne (fun h9 => by rw [h9.1, h9.2] at q; simp only [c_42, Bool.and_false] at q; cases q)))⟩ | exact ihj _ _ ⟨rfl, e1, fun k q => by rw [up2_o (by omega)]; exact hO k q, KyC_up hKi (dnK_on p2_at c_31 c_42) (fun x y hne => dnK_p (fun _ => p2_ne hne))⟩
    · skip
      obtain ⟨rfl, e1, hO, hKi⟩ := hI
      refine a_iload B d_Bt_setSide_15 rfl ?_
      refine a_aload_n B d_Bt_setSide_17 rfl rfl ?_
      refine gf_Tr_leafCount B (by first | assumption | omega) d_Bt_setSide_18 fl_Bt_28 ?_
      rw [e1, a12]
      first | refine b_icmp_ge B 74 d_Bt_setSide_21 rfl (by omega) (by omega) (fun c_21 => ?_) (fun c_21 => ?_) | refine a_icmp_ge B 74 d_Bt_setSide_21 rfl (fun c_21 => ?_) (fun c_21 => ?_)
      · skip
        first | refine b_iinc (lv1 := [(0, _), (1, _), (2, _), (3, _), (4, _), (5, _), (6, _)]) B d_Bt_setSide_74 rfl ci_1 (by decide) rfl ?_ | refine a_iinc (lv1 := [(0, _), (1, _), (2, _), (3, _), (4, _), (5, _), (6, _)]) B d_Bt_setSide_74 rfl rfl (by decide) rfl ?_
        refine a_goto B 3 d_Bt_setSide_77 rfl ?_
        refine a_sub (lv1 := [(0, _), (1, _), (2, _), (3, _), (4, _), (5, _)]) rfl ?_
        exact ihi _ _ ⟨rfl, e1, hO, KyC_eq hKi (fun x y => dnK_p (fun q => by have h9 := hasL_lt hW w y hw (Bool.and_eq_true_iff.mp q).2; unfold p2; by_cases ex : x = i; simp [ex, h9]; (have e9 : (x < i + 1) ↔ (x < i) := by omega); simp [e9, ex]))⟩
      exact absurd c_21 (by omega)
  · skip
    obtain ⟨rfl, e1, hO, hKi⟩ := hI
    refine a_iload B d_Bt_setSide_3 rfl ?_
    refine a_aload_n B d_Bt_setSide_5 rfl rfl ?_
    refine gf_Tr_leafCount B (by first | assumption | omega) d_Bt_setSide_6 fl_Bt_28 ?_
    rw [e1, a12]
    first | refine b_icmp_ge B 80 d_Bt_setSide_9 rfl (by omega) (by omega) (fun c_9 => ?_) (fun c_9 => ?_) | refine a_icmp_ge B 80 d_Bt_setSide_9 rfl (fun c_9 => ?_) (fun c_9 => ?_)
    · skip
      exact Rt _ _ _ d_Bt_setSide_80 ⟨e1, hO, KyC_eq hKi (fun x y => (dnK_all (fun q => decide_eq_true (hasL_lt hW v x hv (Bool.and_eq_true_iff.mp q).1))).symm)⟩
    exact absurd c_9 (by omega)
