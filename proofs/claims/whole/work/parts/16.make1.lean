/-! making a tree: the pieces -/
theorem up1_g {σ : AH} {k j : Nat} {f : Nat → Int32} : (up1 σ k f).1 j = if j = k then f else σ.1 j := by
  by_cases h : j = k
  · subst h; rw [up1_s, if_pos rfl]
  · rw [up1_o h, if_neg h]
def maxTo (f : Nat → Nat) : Nat → Nat
  | 0 => 0
  | k + 1 => max (maxTo f k) (f k)
def minTo (f : Nat → Nat) : Nat → Nat
  | 0 => 20000
  | k + 1 => min (minTo f k) (f k)
/-- the sum, the greatest, the least (20000: none) of what is between two sets -/
def fSum (u : Nat → Nat → Nat) (m : Nat) (a b : Nat) : Nat := sumTo (fun i => sumTo (fun j => if a.testBit i && b.testBit j then u i j else 0) m) m
def fMax (u : Nat → Nat → Nat) (m : Nat) (a b : Nat) : Nat := maxTo (fun i => maxTo (fun j => if a.testBit i && b.testBit j then u i j else 0) m) m
def fMin (u : Nat → Nat → Nat) (m : Nat) (a b : Nat) : Nat := minTo (fun i => minTo (fun j => if a.testBit i && b.testBit j then u i j else 20000) m) m
def fUp (u : Nat → Nat → Nat) (way a b : Nat) : Nat := if way = 0 then fMin u 10 a b else if way = 1 then fMax u 10 a b else fSum u 10 a b
def fLow (way a b : Nat) : Nat := if way = 2 then cB a * cB b else 1
theorem maxTo_le {f : Nat → Nat} {c : Nat} (h : ∀ k, f k ≤ c) : ∀ n, maxTo f n ≤ c
  | 0 => Nat.zero_le _
  | n + 1 => Nat.max_le.mpr ⟨maxTo_le h n, h n⟩
theorem minTo_le (f : Nat → Nat) : ∀ n, minTo f n ≤ 20000
  | 0 => Nat.le_refl _
  | n + 1 => Nat.le_trans (Nat.min_le_left _ _) (minTo_le f n)
theorem fUp_le {u : Nat → Nat → Nat} (hu : ∀ a b, u a b ≤ 10000) (way a b : Nat) : fUp u way a b ≤ 1000000 := by
  unfold fUp
  split
  · have := minTo_le (fun i => minTo (fun j => if a.testBit i && b.testBit j then u i j else 20000) 10) 10
    unfold fMin
    omega
  · split
    · have := maxTo_le (f := fun i => maxTo (fun j => if a.testBit i && b.testBit j then u i j else 0) 10) (c := 10000) (fun i => maxTo_le (fun j => by split; exact hu i j; omega) 10) 10
      unfold fMax
      omega
    · have := sumTo_le (f := fun i => sumTo (fun j => if a.testBit i && b.testBit j then u i j else 0) 10) (c := 100000) (fun i => by have := sumTo_le (f := fun j => if a.testBit i && b.testBit j then u i j else 0) (c := 10000) (fun j => by split; exact hu i j; omega) 10; omega) 10
      unfold fSum
      omega
theorem fLow_le (way a b : Nat) : fLow way a b ≤ 100 := by
  unfold fLow
  split
  · have h1 := cB_le a
    have h2 := cB_le b
    have := Nat.mul_le_mul h1 h2
    omega
  · omega
def togI (way : Nat) (x y : Int32) : Int32 := if way = 0 then (if y < x then y else x) else if way = 1 then (if x < y then y else x) else x + y
def togN (way x y : Nat) : Nat := if way = 0 then min x y else if way = 1 then max x y else x + y
theorem togI_nI {way x y : Nat} (hx : x < 2 ^ 31) (hy : y < 2 ^ 31) : togI way (nI x) (nI y) = nI (togN way x y) := by
  unfold togI togN
  split
  · exact nI_min hx hy
  · split
    · exact nI_max hx hy
    · exact nI_ad x y
theorem nI_pow {l : Nat} (h : l < 10) : (1 : Int32) <<< (nI l &&& 31) = nI (2 ^ l) := by
  revert l
  decide
theorem d_Tr_begin_0 : decode prog_7_method_2_code 0 = .ok (.aload_n 0, 1) := by decide +kernel
theorem d_Tr_begin_1 : decode prog_7_method_2_code 1 = .ok (.iconst 1, 1) := by decide +kernel
theorem d_Tr_begin_2 : decode prog_7_method_2_code 2 = .ok (.putfield 46, 3) := by decide +kernel
theorem d_Tr_begin_5 : decode prog_7_method_2_code 5 = .ok (.aload_n 0, 1) := by decide +kernel
theorem d_Tr_begin_6 : decode prog_7_method_2_code 6 = .ok (.iload_n 1, 1) := by decide +kernel
theorem d_Tr_begin_7 : decode prog_7_method_2_code 7 = .ok (.putfield 50, 3) := by decide +kernel
theorem d_Tr_begin_10 : decode prog_7_method_2_code 10 = .ok (.aload_n 0, 1) := by decide +kernel
theorem d_Tr_begin_11 : decode prog_7_method_2_code 11 = .ok (.iload_n 1, 1) := by decide +kernel
theorem d_Tr_begin_12 : decode prog_7_method_2_code 12 = .ok (.putfield 54, 3) := by decide +kernel
theorem d_Tr_begin_15 : decode prog_7_method_2_code 15 = .ok (.aload_n 0, 1) := by decide +kernel
theorem d_Tr_begin_16 : decode prog_7_method_2_code 16 = .ok (.getfield 30, 3) := by decide +kernel
theorem d_Tr_begin_19 : decode prog_7_method_2_code 19 = .ok (.iconst 0, 1) := by decide +kernel
theorem d_Tr_begin_20 : decode prog_7_method_2_code 20 = .ok (.invokestatic 57, 3) := by decide +kernel
theorem d_Tr_begin_23 : decode prog_7_method_2_code 23 = .ok (.iconst 0, 1) := by decide +kernel
theorem d_Tr_begin_24 : decode prog_7_method_2_code 24 = .ok (.istore_n 2, 1) := by decide +kernel
theorem d_Tr_begin_25 : decode prog_7_method_2_code 25 = .ok (.iload_n 2, 1) := by decide +kernel
theorem d_Tr_begin_26 : decode prog_7_method_2_code 26 = .ok (.bipush 19, 2) := by decide +kernel
theorem d_Tr_begin_28 : decode prog_7_method_2_code 28 = .ok (.if_icmp .ge 24, 3) := by decide +kernel
theorem d_Tr_begin_31 : decode prog_7_method_2_code 31 = .ok (.aload_n 0, 1) := by decide +kernel
theorem d_Tr_begin_32 : decode prog_7_method_2_code 32 = .ok (.getfield 33, 3) := by decide +kernel
theorem d_Tr_begin_35 : decode prog_7_method_2_code 35 = .ok (.iload_n 2, 1) := by decide +kernel
theorem d_Tr_begin_36 : decode prog_7_method_2_code 36 = .ok (.iconst 0, 1) := by decide +kernel
theorem d_Tr_begin_37 : decode prog_7_method_2_code 37 = .ok (.bastore, 1) := by decide +kernel
theorem d_Tr_begin_38 : decode prog_7_method_2_code 38 = .ok (.aload_n 0, 1) := by decide +kernel
theorem d_Tr_begin_39 : decode prog_7_method_2_code 39 = .ok (.getfield 18, 3) := by decide +kernel
theorem d_Tr_begin_42 : decode prog_7_method_2_code 42 = .ok (.iload_n 2, 1) := by decide +kernel
theorem d_Tr_begin_43 : decode prog_7_method_2_code 43 = .ok (.bipush (-9), 2) := by decide +kernel
theorem d_Tr_begin_45 : decode prog_7_method_2_code 45 = .ok (.iastore, 1) := by decide +kernel
theorem d_Tr_begin_46 : decode prog_7_method_2_code 46 = .ok (.iinc 2 1, 3) := by decide +kernel
theorem d_Tr_begin_49 : decode prog_7_method_2_code 49 = .ok (.goto (-24), 3) := by decide +kernel
theorem d_Tr_begin_52 : decode prog_7_method_2_code 52 = .ok (.iconst 0, 1) := by decide +kernel
theorem d_Tr_begin_53 : decode prog_7_method_2_code 53 = .ok (.istore_n 2, 1) := by decide +kernel
theorem d_Tr_begin_54 : decode prog_7_method_2_code 54 = .ok (.iload_n 2, 1) := by decide +kernel
theorem d_Tr_begin_55 : decode prog_7_method_2_code 55 = .ok (.iload_n 1, 1) := by decide +kernel
theorem d_Tr_begin_56 : decode prog_7_method_2_code 56 = .ok (.if_icmp .ge 48, 3) := by decide +kernel
theorem d_Tr_begin_59 : decode prog_7_method_2_code 59 = .ok (.aload_n 0, 1) := by decide +kernel
theorem d_Tr_begin_60 : decode prog_7_method_2_code 60 = .ok (.getfield 9, 3) := by decide +kernel
theorem d_Tr_begin_63 : decode prog_7_method_2_code 63 = .ok (.iload_n 2, 1) := by decide +kernel
theorem d_Tr_begin_64 : decode prog_7_method_2_code 64 = .ok (.bipush (-9), 2) := by decide +kernel
theorem d_Tr_begin_66 : decode prog_7_method_2_code 66 = .ok (.iastore, 1) := by decide +kernel
theorem d_Tr_begin_67 : decode prog_7_method_2_code 67 = .ok (.aload_n 0, 1) := by decide +kernel
theorem d_Tr_begin_68 : decode prog_7_method_2_code 68 = .ok (.getfield 15, 3) := by decide +kernel
theorem d_Tr_begin_71 : decode prog_7_method_2_code 71 = .ok (.iload_n 2, 1) := by decide +kernel
theorem d_Tr_begin_72 : decode prog_7_method_2_code 72 = .ok (.bipush (-9), 2) := by decide +kernel
theorem d_Tr_begin_74 : decode prog_7_method_2_code 74 = .ok (.iastore, 1) := by decide +kernel
theorem d_Tr_begin_75 : decode prog_7_method_2_code 75 = .ok (.aload_n 0, 1) := by decide +kernel
theorem d_Tr_begin_76 : decode prog_7_method_2_code 76 = .ok (.getfield 21, 3) := by decide +kernel
theorem d_Tr_begin_79 : decode prog_7_method_2_code 79 = .ok (.iload_n 2, 1) := by decide +kernel
theorem d_Tr_begin_80 : decode prog_7_method_2_code 80 = .ok (.iconst 0, 1) := by decide +kernel
theorem d_Tr_begin_81 : decode prog_7_method_2_code 81 = .ok (.iastore, 1) := by decide +kernel
theorem d_Tr_begin_82 : decode prog_7_method_2_code 82 = .ok (.aload_n 0, 1) := by decide +kernel
theorem d_Tr_begin_83 : decode prog_7_method_2_code 83 = .ok (.getfield 24, 3) := by decide +kernel
theorem d_Tr_begin_86 : decode prog_7_method_2_code 86 = .ok (.iload_n 2, 1) := by decide +kernel
theorem d_Tr_begin_87 : decode prog_7_method_2_code 87 = .ok (.iconst 1, 1) := by decide +kernel
theorem d_Tr_begin_88 : decode prog_7_method_2_code 88 = .ok (.iastore, 1) := by decide +kernel
theorem d_Tr_begin_89 : decode prog_7_method_2_code 89 = .ok (.aload_n 0, 1) := by decide +kernel
theorem d_Tr_begin_90 : decode prog_7_method_2_code 90 = .ok (.getfield 27, 3) := by decide +kernel
theorem d_Tr_begin_93 : decode prog_7_method_2_code 93 = .ok (.iload_n 2, 1) := by decide +kernel
theorem d_Tr_begin_94 : decode prog_7_method_2_code 94 = .ok (.iconst 1, 1) := by decide +kernel
theorem d_Tr_begin_95 : decode prog_7_method_2_code 95 = .ok (.iload_n 2, 1) := by decide +kernel
theorem d_Tr_begin_96 : decode prog_7_method_2_code 96 = .ok (.ishl, 1) := by decide +kernel
theorem d_Tr_begin_97 : decode prog_7_method_2_code 97 = .ok (.iastore, 1) := by decide +kernel
theorem d_Tr_begin_98 : decode prog_7_method_2_code 98 = .ok (.iinc 2 1, 3) := by decide +kernel
theorem d_Tr_begin_101 : decode prog_7_method_2_code 101 = .ok (.goto (-47), 3) := by decide +kernel
theorem d_Tr_begin_104 : decode prog_7_method_2_code 104 = .ok (.return_, 1) := by decide +kernel
set_option maxRecDepth 20000 in
theorem t_Tr_begin {g : GG} (G : Gok g) {σ : AH} {t n : Nat} (ht : t < 4) (hn : n ≤ 10) : TerV g 1 m_Tr_begin [rV (tI t), iV (nI n)] σ (fun τ => τ.2 = σ.2 ∧ τ.1 (tI t) = upd (upd (upd (σ.1 (tI t)) 11 (nI 1)) 12 (nI n)) 13 (nI n) ∧ τ.1 (tI t + 7) = fillF (σ.1 (tI t + 7)) 19 0 ∧ (∀ v, v < 19 → τ.1 (tI t + 8) v = 0 ∧ τ.1 (tI t + 3) v = -9) ∧ (∀ l, l < n → τ.1 (tI t + 1) l = -9 ∧ τ.1 (tI t + 2) l = -9 ∧ τ.1 (tI t + 4) l = nI 0 ∧ τ.1 (tI t + 5) l = nI 1 ∧ τ.1 (tI t + 6) l = nI (2 ^ l)) ∧ ∀ k, (k < tI t ∨ tI t + 8 < k) → τ.1 k = σ.1 k) := by
  refine TerV.mk G (by decide +kernel) rfl (Nat.le_of_ble_eq_true rfl) (fun K B Rt => ?_)
  have B : Cx g K prog_7_method_2_code 3 R_Tr 1 := B
  have Rt : RetV g K prog_7_method_2_code 3 (fun τ => τ.2 = σ.2 ∧ τ.1 (tI t) = upd (upd (upd (σ.1 (tI t)) 11 (nI 1)) 12 (nI n)) 13 (nI n) ∧ τ.1 (tI t + 7) = fillF (σ.1 (tI t + 7)) 19 0 ∧ (∀ v, v < 19 → τ.1 (tI t + 8) v = 0 ∧ τ.1 (tI t + 3) v = -9) ∧ (∀ l, l < n → τ.1 (tI t + 1) l = -9 ∧ τ.1 (tI t + 2) l = -9 ∧ τ.1 (tI t + 4) l = nI 0 ∧ τ.1 (tI t + 5) l = nI 1 ∧ τ.1 (tI t + 6) l = nI (2 ^ l)) ∧ ∀ k, (k < tI t ∨ tI t + 8 < k) → τ.1 k = σ.1 k) := Rt
  show AW g K 3 0 [(0, rV (tI t)), (1, iV (nI n))] [] σ
  generalize hs1 : upd (upd (upd (σ.1 (tI t)) 11 (nI 1)) 12 (nI n)) 13 (nI n) = σ1 at Rt
  refine a_aload_n B d_Tr_begin_0 rfl rfl ?_
  refine a_iconst B d_Tr_begin_1 ci_1 ?_
  refine pf_Tr_there B (by first | assumption | omega) (Or.inr rfl) d_Tr_begin_2 fl_Tr_46 ?_
  refine a_aload_n B d_Tr_begin_5 rfl rfl ?_
  refine a_iload_n B d_Tr_begin_6 rfl rfl ?_
  refine pf_Tr_leafCount B (by first | assumption | omega) d_Tr_begin_7 fl_Tr_50 ?_
  refine a_aload_n B d_Tr_begin_10 rfl rfl ?_
  refine a_iload_n B d_Tr_begin_11 rfl rfl ?_
  refine pf_Tr_nodeCount B (by first | assumption | omega) d_Tr_begin_12 fl_Tr_54 ?_
  simp only [up1_s, up1_up1, hs1]
  refine a_aload_n B d_Tr_begin_15 rfl rfl ?_
  refine gf_Tr_turned B (by first | assumption | omega) d_Tr_begin_16 fl_Tr_30 ?_
  refine a_iconst B d_Tr_begin_19 ci_0 ?_
  refine a_callSV B (t_Ar_fillI G (ly_T_turned ht) (nI 0)) d_Tr_begin_20 ok_Ar_fill_IIV ml_Tr_57 rfl (by decide) (by decide) rfl (Nat.le_of_ble_eq_true rfl) (fun τ_20 h_20 => ?_)
  subst h_20
  refine a_iconst B d_Tr_begin_23 ci_0 ?_
  refine a_istore_n (lv1 := [(0, _), (1, _), (2, _)]) B d_Tr_begin_24 rfl (by decide) rfl ?_
  refine a_forR 19 (fun i lv τ => lv = [(0, rV (tI t)), (1, iV (nI n)), (2, iV (nI i))] ∧ τ.2 = σ.2 ∧ (∀ v, v < i → τ.1 (tI t + 8) v = 0 ∧ τ.1 (tI t + 3) v = -9) ∧ τ.1 (tI t) = σ1 ∧ τ.1 (tI t + 7) = fillF (σ.1 (tI t + 7)) 19 0 ∧ ∀ k, k ≠ tI t → k ≠ tI t + 3 → k ≠ tI t + 7 → k ≠ tI t + 8 → τ.1 k = σ.1 k) (fun i lv τ hi hI ihi => ?_) (fun lv τ hI => ?_) 0 (Nat.zero_le _) _ _ ⟨rfl, rfl, fun v hv => absurd hv (Nat.not_lt_zero v), by simp [up1_g], by simp [up1_g]; rfl, fun k q0 q3 q7 q8 => by simp only [up1_g, if_neg q0, if_neg q7]⟩
  · skip
    obtain ⟨rfl, e2, hF, h0, h7, hO⟩ := hI
    refine a_iload_n B d_Tr_begin_25 rfl rfl ?_
    refine a_bipush B d_Tr_begin_26 cb_19 ?_
    first | refine b_icmp_ge B 52 d_Tr_begin_28 rfl (by omega) (by omega) (fun c_28 => ?_) (fun c_28 => ?_) | refine a_icmp_ge B 52 d_Tr_begin_28 rfl (fun c_28 => ?_) (fun c_28 => ?_)
    · skip
      exact absurd c_28 (by omega)
    refine a_aload_n B d_Tr_begin_31 rfl rfl ?_
    refine gf_Tr_held B (by first | assumption | omega) d_Tr_begin_32 fl_Tr_33 ?_
    refine a_iload_n B d_Tr_begin_35 rfl rfl ?_
    refine a_iconst B d_Tr_begin_36 ci_0 ?_
    refine a_zast B (ly_T_held (by first | assumption | omega)) _ rfl (by first | assumption | omega) rfl d_Tr_begin_37 ?_
    refine a_aload_n B d_Tr_begin_38 rfl rfl ?_
    refine gf_Tr_above B (by first | assumption | omega) d_Tr_begin_39 fl_Tr_18 ?_
    refine a_iload_n B d_Tr_begin_42 rfl rfl ?_
    refine a_bipush B d_Tr_begin_43 cb_m9 ?_
    refine a_iast B (ly_T_above (by first | assumption | omega)) _ rfl (by first | assumption | omega) d_Tr_begin_45 ?_
    first | refine b_iinc (lv1 := [(0, _), (1, _), (2, _)]) B d_Tr_begin_46 rfl ci_1 (by decide) rfl ?_ | refine a_iinc (lv1 := [(0, _), (1, _), (2, _)]) B d_Tr_begin_46 rfl rfl (by decide) rfl ?_
    refine a_goto B 25 d_Tr_begin_49 rfl ?_
    refine ihi _ _ ⟨rfl, e2, fun v hv => ?_, ?_, ?_, fun k q0 q3 q7 q8 => ?_⟩
    · by_cases e : v = i
      · simp [up1_g, upd, e, nI_0]
      · simp [up1_g, upd, e]; exact hF v (by omega)
    · simp [up1_g, h0]
    · simp [up1_g, h7]
    · simp only [up1_g, if_neg q3, if_neg q8]; exact hO k q0 q3 q7 q8
  · skip
    obtain ⟨rfl, e2, hF, h0, h7, hO⟩ := hI
    refine a_iload_n B d_Tr_begin_25 rfl rfl ?_
    refine a_bipush B d_Tr_begin_26 cb_19 ?_
    first | refine b_icmp_ge B 52 d_Tr_begin_28 rfl (by omega) (by omega) (fun c_28 => ?_) (fun c_28 => ?_) | refine a_icmp_ge B 52 d_Tr_begin_28 rfl (fun c_28 => ?_) (fun c_28 => ?_)
    · skip
      refine a_iconst B d_Tr_begin_52 ci_0 ?_
      refine a_istore_n (lv1 := [(0, _), (1, _), (2, _)]) B d_Tr_begin_53 rfl (by decide) rfl ?_
      refine a_forR n (fun i lv τ => lv = [(0, rV (tI t)), (1, iV (nI n)), (2, iV (nI i))] ∧ τ.2 = σ.2 ∧ τ.1 (tI t) = σ1 ∧ τ.1 (tI t + 7) = fillF (σ.1 (tI t + 7)) 19 0 ∧ (∀ v, v < 19 → τ.1 (tI t + 8) v = 0 ∧ τ.1 (tI t + 3) v = -9) ∧ (∀ l, l < i → τ.1 (tI t + 1) l = -9 ∧ τ.1 (tI t + 2) l = -9 ∧ τ.1 (tI t + 4) l = nI 0 ∧ τ.1 (tI t + 5) l = nI 1 ∧ τ.1 (tI t + 6) l = nI (2 ^ l)) ∧ ∀ k, (k < tI t ∨ tI t + 8 < k) → τ.1 k = σ.1 k) (fun i lv τ hi hI ihi => ?_) (fun lv τ hI => ?_) 0 (Nat.zero_le _) _ _ ⟨rfl, e2, h0, h7, fun v hv => hF v hv, fun l hl => absurd hl (Nat.not_lt_zero l), fun k q => hO k (by omega) (by omega) (by omega) (by omega)⟩
      · skip
        obtain ⟨rfl, e2, h0, h7, hE, hF, hO⟩ := hI
        refine a_iload_n B d_Tr_begin_54 rfl rfl ?_
        refine a_iload_n B d_Tr_begin_55 rfl rfl ?_
        first | refine b_icmp_ge B 104 d_Tr_begin_56 rfl (by omega) (by omega) (fun c_56 => ?_) (fun c_56 => ?_) | refine a_icmp_ge B 104 d_Tr_begin_56 rfl (fun c_56 => ?_) (fun c_56 => ?_)
        · skip
          exact absurd c_56 (by omega)
        refine a_aload_n B d_Tr_begin_59 rfl rfl ?_
        refine gf_Tr_left B (by first | assumption | omega) d_Tr_begin_60 fl_Tr_9 ?_
        refine a_iload_n B d_Tr_begin_63 rfl rfl ?_
        refine a_bipush B d_Tr_begin_64 cb_m9 ?_
        refine a_iast B (ly_T_left (by first | assumption | omega)) _ rfl (by first | assumption | omega) d_Tr_begin_66 ?_
        refine a_aload_n B d_Tr_begin_67 rfl rfl ?_
        refine gf_Tr_right B (by first | assumption | omega) d_Tr_begin_68 fl_Tr_15 ?_
        refine a_iload_n B d_Tr_begin_71 rfl rfl ?_
        refine a_bipush B d_Tr_begin_72 cb_m9 ?_
        refine a_iast B (ly_T_right (by first | assumption | omega)) _ rfl (by first | assumption | omega) d_Tr_begin_74 ?_
        refine a_aload_n B d_Tr_begin_75 rfl rfl ?_
        refine gf_Tr_height B (by first | assumption | omega) d_Tr_begin_76 fl_Tr_21 ?_
        refine a_iload_n B d_Tr_begin_79 rfl rfl ?_
        refine a_iconst B d_Tr_begin_80 ci_0 ?_
        refine a_iast B (ly_T_height (by first | assumption | omega)) _ rfl (by first | assumption | omega) d_Tr_begin_81 ?_
        refine a_aload_n B d_Tr_begin_82 rfl rfl ?_
        refine gf_Tr_size B (by first | assumption | omega) d_Tr_begin_83 fl_Tr_24 ?_
        refine a_iload_n B d_Tr_begin_86 rfl rfl ?_
        refine a_iconst B d_Tr_begin_87 ci_1 ?_
        refine a_iast B (ly_T_size (by first | assumption | omega)) _ rfl (by first | assumption | omega) d_Tr_begin_88 ?_
        refine a_aload_n B d_Tr_begin_89 rfl rfl ?_
        refine gf_Tr_leafSet B (by first | assumption | omega) d_Tr_begin_90 fl_Tr_27 ?_
        refine a_iload_n B d_Tr_begin_93 rfl rfl ?_
        refine a_iconst B d_Tr_begin_94 ci_1 ?_
        refine a_iload_n B d_Tr_begin_95 rfl rfl ?_
        refine a_ishl B d_Tr_begin_96 ?_
        refine a_iast B (ly_T_leafSet (by first | assumption | omega)) _ rfl (by first | assumption | omega) d_Tr_begin_97 ?_
        first | refine b_iinc (lv1 := [(0, _), (1, _), (2, _)]) B d_Tr_begin_98 rfl ci_1 (by decide) rfl ?_ | refine a_iinc (lv1 := [(0, _), (1, _), (2, _)]) B d_Tr_begin_98 rfl rfl (by decide) rfl ?_
        refine a_goto B 54 d_Tr_begin_101 rfl ?_
        refine ihi _ _ ⟨rfl, e2, ?_, ?_, fun v hv => ?_, fun l hl => ?_, fun k q => ?_⟩
        · simp [up1_g, h0]
        · simp [up1_g, h7]
        · simp [up1_g]; exact hE v hv
        · by_cases e : l = i
          · simp [up1_g, upd, e]; exact nI_pow (by omega)
          · simp [up1_g, upd, e]; exact hF l (by omega)
        · simp only [up1_g]
          rw [if_neg (by omega), if_neg (by omega), if_neg (by omega), if_neg (by omega), if_neg (by omega)]
          exact hO k q
      · skip
        obtain ⟨rfl, e2, h0, h7, hE, hF, hO⟩ := hI
        refine a_iload_n B d_Tr_begin_54 rfl rfl ?_
        refine a_iload_n B d_Tr_begin_55 rfl rfl ?_
        first | refine b_icmp_ge B 104 d_Tr_begin_56 rfl (by omega) (by omega) (fun c_56 => ?_) (fun c_56 => ?_) | refine a_icmp_ge B 104 d_Tr_begin_56 rfl (fun c_56 => ?_) (fun c_56 => ?_)
        · skip
          exact Rt _ _ _ d_Tr_begin_104 ⟨e2, h0, h7, hE, hF, hO⟩
        exact absurd c_56 (by omega)
    exact absurd c_28 (by omega)
theorem d_Tr_addJoin_0 : decode prog_7_method_3_code 0 = .ok (.aload_n 0, 1) := by decide +kernel
theorem d_Tr_addJoin_1 : decode prog_7_method_3_code 1 = .ok (.getfield 54, 3) := by decide +kernel
theorem d_Tr_addJoin_4 : decode prog_7_method_3_code 4 = .ok (.istore 4, 2) := by decide +kernel
theorem d_Tr_addJoin_6 : decode prog_7_method_3_code 6 = .ok (.aload_n 0, 1) := by decide +kernel
theorem d_Tr_addJoin_7 : decode prog_7_method_3_code 7 = .ok (.dup, 1) := by decide +kernel
theorem d_Tr_addJoin_8 : decode prog_7_method_3_code 8 = .ok (.getfield 54, 3) := by decide +kernel
theorem d_Tr_addJoin_11 : decode prog_7_method_3_code 11 = .ok (.iconst 1, 1) := by decide +kernel
theorem d_Tr_addJoin_12 : decode prog_7_method_3_code 12 = .ok (.iadd, 1) := by decide +kernel
theorem d_Tr_addJoin_13 : decode prog_7_method_3_code 13 = .ok (.putfield 54, 3) := by decide +kernel
theorem d_Tr_addJoin_16 : decode prog_7_method_3_code 16 = .ok (.aload_n 0, 1) := by decide +kernel
theorem d_Tr_addJoin_17 : decode prog_7_method_3_code 17 = .ok (.getfield 9, 3) := by decide +kernel
theorem d_Tr_addJoin_20 : decode prog_7_method_3_code 20 = .ok (.iload 4, 2) := by decide +kernel
theorem d_Tr_addJoin_22 : decode prog_7_method_3_code 22 = .ok (.iload_n 1, 1) := by decide +kernel
theorem d_Tr_addJoin_23 : decode prog_7_method_3_code 23 = .ok (.iastore, 1) := by decide +kernel
theorem d_Tr_addJoin_24 : decode prog_7_method_3_code 24 = .ok (.aload_n 0, 1) := by decide +kernel
theorem d_Tr_addJoin_25 : decode prog_7_method_3_code 25 = .ok (.getfield 15, 3) := by decide +kernel
theorem d_Tr_addJoin_28 : decode prog_7_method_3_code 28 = .ok (.iload 4, 2) := by decide +kernel
theorem d_Tr_addJoin_30 : decode prog_7_method_3_code 30 = .ok (.iload_n 2, 1) := by decide +kernel
theorem d_Tr_addJoin_31 : decode prog_7_method_3_code 31 = .ok (.iastore, 1) := by decide +kernel
theorem d_Tr_addJoin_32 : decode prog_7_method_3_code 32 = .ok (.aload_n 0, 1) := by decide +kernel
theorem d_Tr_addJoin_33 : decode prog_7_method_3_code 33 = .ok (.getfield 18, 3) := by decide +kernel
theorem d_Tr_addJoin_36 : decode prog_7_method_3_code 36 = .ok (.iload_n 1, 1) := by decide +kernel
theorem d_Tr_addJoin_37 : decode prog_7_method_3_code 37 = .ok (.iload 4, 2) := by decide +kernel
theorem d_Tr_addJoin_39 : decode prog_7_method_3_code 39 = .ok (.iastore, 1) := by decide +kernel
theorem d_Tr_addJoin_40 : decode prog_7_method_3_code 40 = .ok (.aload_n 0, 1) := by decide +kernel
theorem d_Tr_addJoin_41 : decode prog_7_method_3_code 41 = .ok (.getfield 18, 3) := by decide +kernel
theorem d_Tr_addJoin_44 : decode prog_7_method_3_code 44 = .ok (.iload_n 2, 1) := by decide +kernel
theorem d_Tr_addJoin_45 : decode prog_7_method_3_code 45 = .ok (.iload 4, 2) := by decide +kernel
theorem d_Tr_addJoin_47 : decode prog_7_method_3_code 47 = .ok (.iastore, 1) := by decide +kernel
theorem d_Tr_addJoin_48 : decode prog_7_method_3_code 48 = .ok (.aload_n 0, 1) := by decide +kernel
theorem d_Tr_addJoin_49 : decode prog_7_method_3_code 49 = .ok (.getfield 21, 3) := by decide +kernel
theorem d_Tr_addJoin_52 : decode prog_7_method_3_code 52 = .ok (.iload 4, 2) := by decide +kernel
theorem d_Tr_addJoin_54 : decode prog_7_method_3_code 54 = .ok (.iload_n 3, 1) := by decide +kernel
theorem d_Tr_addJoin_55 : decode prog_7_method_3_code 55 = .ok (.iastore, 1) := by decide +kernel
theorem d_Tr_addJoin_56 : decode prog_7_method_3_code 56 = .ok (.aload_n 0, 1) := by decide +kernel
theorem d_Tr_addJoin_57 : decode prog_7_method_3_code 57 = .ok (.getfield 24, 3) := by decide +kernel
theorem d_Tr_addJoin_60 : decode prog_7_method_3_code 60 = .ok (.iload 4, 2) := by decide +kernel
theorem d_Tr_addJoin_62 : decode prog_7_method_3_code 62 = .ok (.aload_n 0, 1) := by decide +kernel
theorem d_Tr_addJoin_63 : decode prog_7_method_3_code 63 = .ok (.getfield 24, 3) := by decide +kernel
theorem d_Tr_addJoin_66 : decode prog_7_method_3_code 66 = .ok (.iload_n 1, 1) := by decide +kernel
theorem d_Tr_addJoin_67 : decode prog_7_method_3_code 67 = .ok (.iaload, 1) := by decide +kernel
theorem d_Tr_addJoin_68 : decode prog_7_method_3_code 68 = .ok (.aload_n 0, 1) := by decide +kernel
theorem d_Tr_addJoin_69 : decode prog_7_method_3_code 69 = .ok (.getfield 24, 3) := by decide +kernel
theorem d_Tr_addJoin_72 : decode prog_7_method_3_code 72 = .ok (.iload_n 2, 1) := by decide +kernel
theorem d_Tr_addJoin_73 : decode prog_7_method_3_code 73 = .ok (.iaload, 1) := by decide +kernel
theorem d_Tr_addJoin_74 : decode prog_7_method_3_code 74 = .ok (.iadd, 1) := by decide +kernel
theorem d_Tr_addJoin_75 : decode prog_7_method_3_code 75 = .ok (.iastore, 1) := by decide +kernel
theorem d_Tr_addJoin_76 : decode prog_7_method_3_code 76 = .ok (.aload_n 0, 1) := by decide +kernel
theorem d_Tr_addJoin_77 : decode prog_7_method_3_code 77 = .ok (.getfield 27, 3) := by decide +kernel
theorem d_Tr_addJoin_80 : decode prog_7_method_3_code 80 = .ok (.iload 4, 2) := by decide +kernel
theorem d_Tr_addJoin_82 : decode prog_7_method_3_code 82 = .ok (.aload_n 0, 1) := by decide +kernel
theorem d_Tr_addJoin_83 : decode prog_7_method_3_code 83 = .ok (.getfield 27, 3) := by decide +kernel
theorem d_Tr_addJoin_86 : decode prog_7_method_3_code 86 = .ok (.iload_n 1, 1) := by decide +kernel
theorem d_Tr_addJoin_87 : decode prog_7_method_3_code 87 = .ok (.iaload, 1) := by decide +kernel
theorem d_Tr_addJoin_88 : decode prog_7_method_3_code 88 = .ok (.aload_n 0, 1) := by decide +kernel
theorem d_Tr_addJoin_89 : decode prog_7_method_3_code 89 = .ok (.getfield 27, 3) := by decide +kernel
theorem d_Tr_addJoin_92 : decode prog_7_method_3_code 92 = .ok (.iload_n 2, 1) := by decide +kernel
theorem d_Tr_addJoin_93 : decode prog_7_method_3_code 93 = .ok (.iaload, 1) := by decide +kernel
theorem d_Tr_addJoin_94 : decode prog_7_method_3_code 94 = .ok (.ior, 1) := by decide +kernel
theorem d_Tr_addJoin_95 : decode prog_7_method_3_code 95 = .ok (.iastore, 1) := by decide +kernel
theorem d_Tr_addJoin_96 : decode prog_7_method_3_code 96 = .ok (.iload 4, 2) := by decide +kernel
theorem d_Tr_addJoin_98 : decode prog_7_method_3_code 98 = .ok (.ireturn, 1) := by decide +kernel
set_option maxRecDepth 20000 in
theorem t_Tr_addJoin {g : GG} (G : Gok g) {σ : AH} {t k a b : Nat} (ht : t < 4) (hk : k < 19) (ha : a < k) (hb : b < k) (h13 : σ.1 (tI t) 13 = nI k) (h : Int32) : TerI g 0 m_Tr_addJoin [rV (tI t), iV (nI a), iV (nI b), iV h] σ (fun r τ => r = nI k ∧ τ.2 = σ.2 ∧ τ.1 (tI t) = upd (σ.1 (tI t)) 13 (nI (k + 1)) ∧ τ.1 (tI t + 1) = upd (σ.1 (tI t + 1)) k (nI a) ∧ τ.1 (tI t + 2) = upd (σ.1 (tI t + 2)) k (nI b) ∧ τ.1 (tI t + 3) = upd (upd (σ.1 (tI t + 3)) a (nI k)) b (nI k) ∧ τ.1 (tI t + 4) = upd (σ.1 (tI t + 4)) k h ∧ τ.1 (tI t + 5) = upd (σ.1 (tI t + 5)) k (σ.1 (tI t + 5) a + σ.1 (tI t + 5) b) ∧ τ.1 (tI t + 6) = upd (σ.1 (tI t + 6)) k (σ.1 (tI t + 6) a ||| σ.1 (tI t + 6) b) ∧ ∀ k_1, (k_1 < tI t ∨ tI t + 6 < k_1) → τ.1 k_1 = σ.1 k_1) := by
  refine TerI.mk G (by decide +kernel) rfl (Nat.le_of_ble_eq_true rfl) (fun K B Rt => ?_)
  have B : Cx g K prog_7_method_3_code 5 R_Tr 0 := B
  have Rt : RetI g K prog_7_method_3_code 5 (fun r τ => r = nI k ∧ τ.2 = σ.2 ∧ τ.1 (tI t) = upd (σ.1 (tI t)) 13 (nI (k + 1)) ∧ τ.1 (tI t + 1) = upd (σ.1 (tI t + 1)) k (nI a) ∧ τ.1 (tI t + 2) = upd (σ.1 (tI t + 2)) k (nI b) ∧ τ.1 (tI t + 3) = upd (upd (σ.1 (tI t + 3)) a (nI k)) b (nI k) ∧ τ.1 (tI t + 4) = upd (σ.1 (tI t + 4)) k h ∧ τ.1 (tI t + 5) = upd (σ.1 (tI t + 5)) k (σ.1 (tI t + 5) a + σ.1 (tI t + 5) b) ∧ τ.1 (tI t + 6) = upd (σ.1 (tI t + 6)) k (σ.1 (tI t + 6) a ||| σ.1 (tI t + 6) b) ∧ ∀ k_1, (k_1 < tI t ∨ tI t + 6 < k_1) → τ.1 k_1 = σ.1 k_1) := Rt
  show AW g K 5 0 [(0, rV (tI t)), (1, iV (nI a)), (2, iV (nI b)), (3, iV h)] [] σ
  refine a_aload_n B d_Tr_addJoin_0 rfl rfl ?_
  refine gf_Tr_nodeCount B (by first | assumption | omega) d_Tr_addJoin_1 fl_Tr_54 ?_
  rw [h13]
  refine a_istore (lv1 := [(0, _), (1, _), (2, _), (3, _), (4, _)]) B d_Tr_addJoin_4 (by decide) rfl ?_
  refine a_aload_n B d_Tr_addJoin_6 rfl rfl ?_
  refine a_dup B d_Tr_addJoin_7 rfl ?_
  refine gf_Tr_nodeCount B (by first | assumption | omega) d_Tr_addJoin_8 fl_Tr_54 ?_
  rw [h13]
  refine a_iconst B d_Tr_addJoin_11 ci_1 ?_
  first | refine b_iadd B d_Tr_addJoin_12 ?_ | refine a_iadd B d_Tr_addJoin_12 ?_
  refine pf_Tr_nodeCount B (by first | assumption | omega) d_Tr_addJoin_13 fl_Tr_54 ?_
  refine a_aload_n B d_Tr_addJoin_16 rfl rfl ?_
  refine gf_Tr_left B (by first | assumption | omega) d_Tr_addJoin_17 fl_Tr_9 ?_
  refine a_iload B d_Tr_addJoin_20 rfl ?_
  refine a_iload_n B d_Tr_addJoin_22 rfl rfl ?_
  refine a_iast B (ly_T_left (by first | assumption | omega)) _ rfl (by first | assumption | omega) d_Tr_addJoin_23 ?_
  refine a_aload_n B d_Tr_addJoin_24 rfl rfl ?_
  refine gf_Tr_right B (by first | assumption | omega) d_Tr_addJoin_25 fl_Tr_15 ?_
  refine a_iload B d_Tr_addJoin_28 rfl ?_
  refine a_iload_n B d_Tr_addJoin_30 rfl rfl ?_
  refine a_iast B (ly_T_right (by first | assumption | omega)) _ rfl (by first | assumption | omega) d_Tr_addJoin_31 ?_
  refine a_aload_n B d_Tr_addJoin_32 rfl rfl ?_
  refine gf_Tr_above B (by first | assumption | omega) d_Tr_addJoin_33 fl_Tr_18 ?_
  refine a_iload_n B d_Tr_addJoin_36 rfl rfl ?_
  refine a_iload B d_Tr_addJoin_37 rfl ?_
  refine a_iast B (ly_T_above (by first | assumption | omega)) _ rfl (by first | assumption | omega) d_Tr_addJoin_39 ?_
  refine a_aload_n B d_Tr_addJoin_40 rfl rfl ?_
  refine gf_Tr_above B (by first | assumption | omega) d_Tr_addJoin_41 fl_Tr_18 ?_
  refine a_iload_n B d_Tr_addJoin_44 rfl rfl ?_
  refine a_iload B d_Tr_addJoin_45 rfl ?_
  refine a_iast B (ly_T_above (by first | assumption | omega)) _ rfl (by first | assumption | omega) d_Tr_addJoin_47 ?_
  refine a_aload_n B d_Tr_addJoin_48 rfl rfl ?_
  refine gf_Tr_height B (by first | assumption | omega) d_Tr_addJoin_49 fl_Tr_21 ?_
  refine a_iload B d_Tr_addJoin_52 rfl ?_
  refine a_iload_n B d_Tr_addJoin_54 rfl rfl ?_
  refine a_iast B (ly_T_height (by first | assumption | omega)) _ rfl (by first | assumption | omega) d_Tr_addJoin_55 ?_
  refine a_aload_n B d_Tr_addJoin_56 rfl rfl ?_
  refine gf_Tr_size B (by first | assumption | omega) d_Tr_addJoin_57 fl_Tr_24 ?_
  refine a_iload B d_Tr_addJoin_60 rfl ?_
  refine a_aload_n B d_Tr_addJoin_62 rfl rfl ?_
  refine gf_Tr_size B (by first | assumption | omega) d_Tr_addJoin_63 fl_Tr_24 ?_
  refine a_iload_n B d_Tr_addJoin_66 rfl rfl ?_
  refine a_iald B (ly_T_size (by first | assumption | omega)) _ rfl (by first | assumption | omega) d_Tr_addJoin_67 ?_
  refine a_aload_n B d_Tr_addJoin_68 rfl rfl ?_
  refine gf_Tr_size B (by first | assumption | omega) d_Tr_addJoin_69 fl_Tr_24 ?_
  refine a_iload_n B d_Tr_addJoin_72 rfl rfl ?_
  refine a_iald B (ly_T_size (by first | assumption | omega)) _ rfl (by first | assumption | omega) d_Tr_addJoin_73 ?_
  first | refine b_iadd B d_Tr_addJoin_74 ?_ | refine a_iadd B d_Tr_addJoin_74 ?_
  refine a_iast B (ly_T_size (by first | assumption | omega)) _ rfl (by first | assumption | omega) d_Tr_addJoin_75 ?_
  refine a_aload_n B d_Tr_addJoin_76 rfl rfl ?_
  refine gf_Tr_leafSet B (by first | assumption | omega) d_Tr_addJoin_77 fl_Tr_27 ?_
  refine a_iload B d_Tr_addJoin_80 rfl ?_
  refine a_aload_n B d_Tr_addJoin_82 rfl rfl ?_
  refine gf_Tr_leafSet B (by first | assumption | omega) d_Tr_addJoin_83 fl_Tr_27 ?_
  refine a_iload_n B d_Tr_addJoin_86 rfl rfl ?_
  refine a_iald B (ly_T_leafSet (by first | assumption | omega)) _ rfl (by first | assumption | omega) d_Tr_addJoin_87 ?_
  refine a_aload_n B d_Tr_addJoin_88 rfl rfl ?_
  refine gf_Tr_leafSet B (by first | assumption | omega) d_Tr_addJoin_89 fl_Tr_27 ?_
  refine a_iload_n B d_Tr_addJoin_92 rfl rfl ?_
  refine a_iald B (ly_T_leafSet (by first | assumption | omega)) _ rfl (by first | assumption | omega) d_Tr_addJoin_93 ?_
  refine a_ior B d_Tr_addJoin_94 ?_
  refine a_iast B (ly_T_leafSet (by first | assumption | omega)) _ rfl (by first | assumption | omega) d_Tr_addJoin_95 ?_
  refine a_iload B d_Tr_addJoin_96 rfl ?_
  exact Rt _ _ _ _ d_Tr_addJoin_98 ⟨rfl, rfl, by simp [up1_g], by simp [up1_g], by simp [up1_g], by simp [up1_g], by simp [up1_g], by simp [up1_g], by simp [up1_g], fun k_1 q => by simp only [up1_g]; rw [if_neg (by omega), if_neg (by omega), if_neg (by omega), if_neg (by omega), if_neg (by omega), if_neg (by omega), if_neg (by omega), if_neg (by omega)]⟩
theorem d_Mk_together_0 : decode prog_5_method_6_code 0 = .ok (.iload_n 2, 1) := by decide +kernel
theorem d_Mk_together_1 : decode prog_5_method_6_code 1 = .ok (.ifCond .ne 9, 3) := by decide +kernel
theorem d_Mk_together_4 : decode prog_5_method_6_code 4 = .ok (.iload_n 0, 1) := by decide +kernel
theorem d_Mk_together_5 : decode prog_5_method_6_code 5 = .ok (.iload_n 1, 1) := by decide +kernel
theorem d_Mk_together_6 : decode prog_5_method_6_code 6 = .ok (.invokestatic 62, 3) := by decide +kernel
theorem d_Mk_together_9 : decode prog_5_method_6_code 9 = .ok (.ireturn, 1) := by decide +kernel
theorem d_Mk_together_10 : decode prog_5_method_6_code 10 = .ok (.iload_n 2, 1) := by decide +kernel
theorem d_Mk_together_11 : decode prog_5_method_6_code 11 = .ok (.iconst 1, 1) := by decide +kernel
theorem d_Mk_together_12 : decode prog_5_method_6_code 12 = .ok (.if_icmp .ne 11, 3) := by decide +kernel
theorem d_Mk_together_15 : decode prog_5_method_6_code 15 = .ok (.iload_n 0, 1) := by decide +kernel
theorem d_Mk_together_16 : decode prog_5_method_6_code 16 = .ok (.iload_n 1, 1) := by decide +kernel
theorem d_Mk_together_17 : decode prog_5_method_6_code 17 = .ok (.invokestatic 67, 3) := by decide +kernel
theorem d_Mk_together_20 : decode prog_5_method_6_code 20 = .ok (.goto 6, 3) := by decide +kernel
theorem d_Mk_together_23 : decode prog_5_method_6_code 23 = .ok (.iload_n 0, 1) := by decide +kernel
theorem d_Mk_together_24 : decode prog_5_method_6_code 24 = .ok (.iload_n 1, 1) := by decide +kernel
theorem d_Mk_together_25 : decode prog_5_method_6_code 25 = .ok (.iadd, 1) := by decide +kernel
theorem d_Mk_together_26 : decode prog_5_method_6_code 26 = .ok (.ireturn, 1) := by decide +kernel
set_option maxRecDepth 20000 in
theorem t_Mk_together {g : GG} (G : Gok g) {σ : AH} {w : Nat} (hw : w < 3) (x y : Int32) : TerI g 1 m_Mk_together [iV x, iV y, iV (nI w)] σ (fun r τ => r = togI w x y ∧ τ = σ) := by
  refine TerI.mk G (by decide +kernel) rfl (Nat.le_of_ble_eq_true rfl) (fun K B Rt => ?_)
  have B : Cx g K prog_5_method_6_code 3 R_Mk 1 := B
  have Rt : RetI g K prog_5_method_6_code 3 (fun r τ => r = togI w x y ∧ τ = σ) := Rt
  show AW g K 3 0 [(0, iV x), (1, iV y), (2, iV (nI w))] [] σ
  refine a_iload_n B d_Mk_together_0 rfl rfl ?_
  first | refine b_if_ne_b B 10 d_Mk_together_1 rfl (fun c_1 => ?_) (fun c_1 => ?_) | refine a_if_ne B 10 d_Mk_together_1 rfl (fun c_1 => ?_) (fun c_1 => ?_)
  · skip
    have c_1 : ¬ w = 0 := fun q => c_1 (by rw [q]; exact nI_0)
    refine a_iload_n B d_Mk_together_10 rfl rfl ?_
    refine a_iconst B d_Mk_together_11 ci_1 ?_
    first | refine b_icmp_ne B 23 d_Mk_together_12 rfl (by omega) (by omega) (fun c_12 => ?_) (fun c_12 => ?_) | refine a_icmp_ne B 23 d_Mk_together_12 rfl (fun c_12 => ?_) (fun c_12 => ?_)
    · skip
      refine a_iload_n B d_Mk_together_23 rfl rfl ?_
      refine a_iload_n B d_Mk_together_24 rfl rfl ?_
      first | refine b_iadd B d_Mk_together_25 ?_ | refine a_iadd B d_Mk_together_25 ?_
      exact Rt _ _ _ _ d_Mk_together_26 ⟨by first | (rw [togI, if_neg c_1, if_neg c_12]; done) | (rw [togI, if_neg c_1, if_pos c_12]; done), rfl⟩
    refine a_iload_n B d_Mk_together_15 rfl rfl ?_
    refine a_iload_n B d_Mk_together_16 rfl rfl ?_
    refine a_mmax B (by decide) (Nat.le_of_ble_eq_true rfl) d_Mk_together_17 ml_Mk_67 ?_
    refine a_goto B 26 d_Mk_together_20 rfl ?_
    exact Rt _ _ _ _ d_Mk_together_26 ⟨by first | (rw [togI, if_neg c_1, if_neg c_12]; done) | (rw [togI, if_neg c_1, if_pos c_12]; done), rfl⟩
  have c_1 : w = 0 := nI_z (by omega) c_1
  refine a_iload_n B d_Mk_together_4 rfl rfl ?_
  refine a_iload_n B d_Mk_together_5 rfl rfl ?_
  refine a_mmin B (by decide) (Nat.le_of_ble_eq_true rfl) d_Mk_together_6 ml_Mk_62 ?_
  exact Rt _ _ _ _ d_Mk_together_9 ⟨by rw [togI, if_pos c_1], rfl⟩
theorem d_Mk_merge_0 : decode prog_5_method_5_code 0 = .ok (.iconst 0, 1) := by decide +kernel
theorem d_Mk_merge_1 : decode prog_5_method_5_code 1 = .ok (.istore 5, 2) := by decide +kernel
theorem d_Mk_merge_3 : decode prog_5_method_5_code 3 = .ok (.iload 5, 2) := by decide +kernel
theorem d_Mk_merge_5 : decode prog_5_method_5_code 5 = .ok (.iload_n 3, 1) := by decide +kernel
theorem d_Mk_merge_6 : decode prog_5_method_5_code 6 = .ok (.if_icmp .ge 56, 3) := by decide +kernel
theorem d_Mk_merge_9 : decode prog_5_method_5_code 9 = .ok (.aload_n 0, 1) := by decide +kernel
theorem d_Mk_merge_10 : decode prog_5_method_5_code 10 = .ok (.getfield 11, 3) := by decide +kernel
theorem d_Mk_merge_13 : decode prog_5_method_5_code 13 = .ok (.iload_n 1, 1) := by decide +kernel
theorem d_Mk_merge_14 : decode prog_5_method_5_code 14 = .ok (.aaload, 1) := by decide +kernel
theorem d_Mk_merge_15 : decode prog_5_method_5_code 15 = .ok (.iload 5, 2) := by decide +kernel
theorem d_Mk_merge_17 : decode prog_5_method_5_code 17 = .ok (.iaload, 1) := by decide +kernel
theorem d_Mk_merge_18 : decode prog_5_method_5_code 18 = .ok (.aload_n 0, 1) := by decide +kernel
theorem d_Mk_merge_19 : decode prog_5_method_5_code 19 = .ok (.getfield 11, 3) := by decide +kernel
theorem d_Mk_merge_22 : decode prog_5_method_5_code 22 = .ok (.iload_n 2, 1) := by decide +kernel
theorem d_Mk_merge_23 : decode prog_5_method_5_code 23 = .ok (.aaload, 1) := by decide +kernel
theorem d_Mk_merge_24 : decode prog_5_method_5_code 24 = .ok (.iload 5, 2) := by decide +kernel
theorem d_Mk_merge_26 : decode prog_5_method_5_code 26 = .ok (.iaload, 1) := by decide +kernel
theorem d_Mk_merge_27 : decode prog_5_method_5_code 27 = .ok (.iload 4, 2) := by decide +kernel
theorem d_Mk_merge_29 : decode prog_5_method_5_code 29 = .ok (.invokestatic 59, 3) := by decide +kernel
theorem d_Mk_merge_32 : decode prog_5_method_5_code 32 = .ok (.istore 6, 2) := by decide +kernel
theorem d_Mk_merge_34 : decode prog_5_method_5_code 34 = .ok (.aload_n 0, 1) := by decide +kernel
theorem d_Mk_merge_35 : decode prog_5_method_5_code 35 = .ok (.getfield 11, 3) := by decide +kernel
theorem d_Mk_merge_38 : decode prog_5_method_5_code 38 = .ok (.iload_n 1, 1) := by decide +kernel
theorem d_Mk_merge_39 : decode prog_5_method_5_code 39 = .ok (.aaload, 1) := by decide +kernel
theorem d_Mk_merge_40 : decode prog_5_method_5_code 40 = .ok (.iload 5, 2) := by decide +kernel
theorem d_Mk_merge_42 : decode prog_5_method_5_code 42 = .ok (.iload 6, 2) := by decide +kernel
theorem d_Mk_merge_44 : decode prog_5_method_5_code 44 = .ok (.iastore, 1) := by decide +kernel
theorem d_Mk_merge_45 : decode prog_5_method_5_code 45 = .ok (.aload_n 0, 1) := by decide +kernel
theorem d_Mk_merge_46 : decode prog_5_method_5_code 46 = .ok (.getfield 11, 3) := by decide +kernel
theorem d_Mk_merge_49 : decode prog_5_method_5_code 49 = .ok (.iload 5, 2) := by decide +kernel
theorem d_Mk_merge_51 : decode prog_5_method_5_code 51 = .ok (.aaload, 1) := by decide +kernel
theorem d_Mk_merge_52 : decode prog_5_method_5_code 52 = .ok (.iload_n 1, 1) := by decide +kernel
theorem d_Mk_merge_53 : decode prog_5_method_5_code 53 = .ok (.iload 6, 2) := by decide +kernel
theorem d_Mk_merge_55 : decode prog_5_method_5_code 55 = .ok (.iastore, 1) := by decide +kernel
theorem d_Mk_merge_56 : decode prog_5_method_5_code 56 = .ok (.iinc 5 1, 3) := by decide +kernel
theorem d_Mk_merge_59 : decode prog_5_method_5_code 59 = .ok (.goto (-56), 3) := by decide +kernel
theorem d_Mk_merge_62 : decode prog_5_method_5_code 62 = .ok (.return_, 1) := by decide +kernel
set_option maxRecDepth 20000 in
theorem t_Mk_merge {g : GG} (G : Gok g) {σ : AH} {a b n w : Nat} (hn : n ≤ 10) (ha : a < 10) (hb : b < 10) (hab : a ≠ b) (hw : w < 3) : TerV g 2 m_Mk_merge [rV 5, iV (nI a), iV (nI b), iV (nI n), iV (nI w)] σ (fun τ => τ.2 = σ.2 ∧ (∀ k, (k < 30 ∨ 40 ≤ k) → τ.1 k = σ.1 k) ∧ (∀ x y, x < 10 → y < 10 → x ≠ a → y ≠ a → τ.1 (30 + x) y = σ.1 (30 + x) y) ∧ (∀ c, c < n → c ≠ a → c ≠ b → τ.1 (30 + a) c = togI w (σ.1 (30 + a) c) (σ.1 (30 + b) c) ∧ τ.1 (30 + c) a = togI w (σ.1 (30 + a) c) (σ.1 (30 + b) c))) := by
  refine TerV.mk G (by decide +kernel) rfl (Nat.le_of_ble_eq_true rfl) (fun K B Rt => ?_)
  have B : Cx g K prog_5_method_5_code 7 R_Mk 2 := B
  have Rt : RetV g K prog_5_method_5_code 7 (fun τ => τ.2 = σ.2 ∧ (∀ k, (k < 30 ∨ 40 ≤ k) → τ.1 k = σ.1 k) ∧ (∀ x y, x < 10 → y < 10 → x ≠ a → y ≠ a → τ.1 (30 + x) y = σ.1 (30 + x) y) ∧ (∀ c, c < n → c ≠ a → c ≠ b → τ.1 (30 + a) c = togI w (σ.1 (30 + a) c) (σ.1 (30 + b) c) ∧ τ.1 (30 + c) a = togI w (σ.1 (30 + a) c) (σ.1 (30 + b) c))) := Rt
  show AW g K 7 0 [(0, rV 5), (1, iV (nI a)), (2, iV (nI b)), (3, iV (nI n)), (4, iV (nI w))] [] σ
  refine a_iconst B d_Mk_merge_0 ci_0 ?_
  refine a_istore (lv1 := [(0, _), (1, _), (2, _), (3, _), (4, _), (5, _)]) B d_Mk_merge_1 (by decide) rfl ?_
  refine a_forR n (fun i lv τ => lv = [(0, rV 5), (1, iV (nI a)), (2, iV (nI b)), (3, iV (nI n)), (4, iV (nI w)), (5, iV (nI i))] ∧ τ.2 = σ.2 ∧ (∀ k, (k < 30 ∨ 40 ≤ k) → τ.1 k = σ.1 k) ∧ (∀ x y, x < 10 → y < 10 → x ≠ a → y ≠ a → τ.1 (30 + x) y = σ.1 (30 + x) y) ∧ (∀ c, c < n → c ≠ a → c ≠ b → (c < i → τ.1 (30 + a) c = togI w (σ.1 (30 + a) c) (σ.1 (30 + b) c) ∧ τ.1 (30 + c) a = togI w (σ.1 (30 + a) c) (σ.1 (30 + b) c)) ∧ (i ≤ c → τ.1 (30 + a) c = σ.1 (30 + a) c))) (fun i lv τ hi hI ihi => ?_) (fun lv τ hI => ?_) 0 (Nat.zero_le _) _ _ ⟨rfl, rfl, fun _ _ => rfl, fun _ _ _ _ _ _ => rfl, fun c _ _ _ => ⟨fun h => absurd h (Nat.not_lt_zero c), fun _ => rfl⟩⟩
  · skip
    obtain ⟨rfl, e2, hO, hF, hC⟩ := hI
    refine a_iload B d_Mk_merge_3 rfl ?_
    refine a_iload_n B d_Mk_merge_5 rfl rfl ?_
    first | refine b_icmp_ge B 62 d_Mk_merge_6 rfl (by omega) (by omega) (fun c_6 => ?_) (fun c_6 => ?_) | refine a_icmp_ge B 62 d_Mk_merge_6 rfl (fun c_6 => ?_) (fun c_6 => ?_)
    · skip
      exact absurd c_6 (by omega)
    refine a_aload_n B d_Mk_merge_9 rfl rfl ?_
    refine gf_Mk_apart B d_Mk_merge_10 fl_Mk_11 ?_
    refine a_iload_n B d_Mk_merge_13 rfl rfl ?_
    refine al_ap B _ rfl (by first | assumption | omega) d_Mk_merge_14 ?_
    refine a_iload B d_Mk_merge_15 rfl ?_
    refine a_iald B (ly_ap (by first | assumption | omega)) _ rfl (by first | assumption | omega) d_Mk_merge_17 ?_
    refine a_aload_n B d_Mk_merge_18 rfl rfl ?_
    refine gf_Mk_apart B d_Mk_merge_19 fl_Mk_11 ?_
    refine a_iload_n B d_Mk_merge_22 rfl rfl ?_
    refine al_ap B _ rfl (by first | assumption | omega) d_Mk_merge_23 ?_
    refine a_iload B d_Mk_merge_24 rfl ?_
    refine a_iald B (ly_ap (by first | assumption | omega)) _ rfl (by first | assumption | omega) d_Mk_merge_26 ?_
    refine a_iload B d_Mk_merge_27 rfl ?_
    refine a_callSI B (t_Mk_together G hw _ _) d_Mk_merge_29 ok_Mk_together ml_Mk_59 rfl (by decide) (by decide) rfl (Nat.le_of_ble_eq_true rfl) (fun r_29 τ_29 h_29 => ?_)
    obtain ⟨hr_29, hs_29⟩ := h_29
    subst hr_29
    replace hs_29 := hs_29.symm
    subst hs_29
    refine a_istore (lv1 := [(0, _), (1, _), (2, _), (3, _), (4, _), (5, _), (6, _)]) B d_Mk_merge_32 (by decide) rfl ?_
    refine a_aload_n B d_Mk_merge_34 rfl rfl ?_
    refine gf_Mk_apart B d_Mk_merge_35 fl_Mk_11 ?_
    refine a_iload_n B d_Mk_merge_38 rfl rfl ?_
    refine al_ap B _ rfl (by first | assumption | omega) d_Mk_merge_39 ?_
    refine a_iload B d_Mk_merge_40 rfl ?_
    refine a_iload B d_Mk_merge_42 rfl ?_
    refine a_iast B (ly_ap (by first | assumption | omega)) _ rfl (by first | assumption | omega) d_Mk_merge_44 ?_
    refine a_aload_n B d_Mk_merge_45 rfl rfl ?_
    refine gf_Mk_apart B d_Mk_merge_46 fl_Mk_11 ?_
    refine a_iload B d_Mk_merge_49 rfl ?_
    refine al_ap B _ rfl (by first | assumption | omega) d_Mk_merge_51 ?_
    refine a_iload_n B d_Mk_merge_52 rfl rfl ?_
    refine a_iload B d_Mk_merge_53 rfl ?_
    refine a_iast B (ly_ap (by first | assumption | omega)) _ rfl (by first | assumption | omega) d_Mk_merge_55 ?_
    first | refine b_iinc (lv1 := [(0, _), (1, _), (2, _), (3, _), (4, _), (5, _), (6, _)]) B d_Mk_merge_56 rfl ci_1 (by decide) rfl ?_ | refine a_iinc (lv1 := [(0, _), (1, _), (2, _), (3, _), (4, _), (5, _), (6, _)]) B d_Mk_merge_56 rfl rfl (by decide) rfl ?_
    refine a_goto B 3 d_Mk_merge_59 rfl ?_
    refine a_sub (lv1 := [(0, _), (1, _), (2, _), (3, _), (4, _), (5, _)]) rfl ?_
    refine ihi _ _ ⟨rfl, e2, fun k q => ?_, fun x y hx hy hxa hya => ?_, fun c hc hca hcb => ⟨fun hlt => ?_, fun hle => ?_⟩⟩
    · simp only [up1_g]; rw [if_neg (by omega), if_neg (by omega)]; exact hO k q
    · have e9 : 30 + x ≠ 30 + a := by omega
      simp only [up1_g, if_neg e9]
      by_cases e : 30 + x = 30 + i
      · rw [if_pos e, upd_o hya]; rw [← e, if_neg e9]; exact hF x y hx hy hxa hya
      · rw [if_neg e]; exact hF x y hx hy hxa hya
    · by_cases e : c = i
      · subst e
        have e9 : 30 + c ≠ 30 + a := by omega
        have e8 : 30 + a ≠ 30 + c := by omega
        simp only [up1_g, if_neg e8, if_true, upd_s, if_neg e9]
        rw [((hC c hc hca hcb).2 (Nat.le_refl c)), hF b c hb (by omega) (fun q => hab q.symm) hca]
        exact ⟨rfl, rfl⟩
      · have hlt2 : c < i := by omega
        obtain ⟨q1, q2⟩ := (hC c hc hca hcb).1 hlt2
        have e9 : 30 + c ≠ 30 + a := by omega
        have e7 : 30 + c ≠ 30 + i := by omega
        simp only [up1_g, if_neg e9, if_neg e7]
        refine ⟨?_, q2⟩
        by_cases e5 : 30 + a = 30 + i
        · rw [if_pos e5, upd_o (fun q => hca q)]; simp only [if_true, ← e5, upd]; rw [if_neg (by omega)]; exact q1
        · rw [if_neg e5]; simp only [if_true, upd]; rw [if_neg e]; exact q1
    · have e : c ≠ i := by omega
      simp only [up1_g]
      by_cases e5 : 30 + a = 30 + i
      · rw [if_pos e5, upd_o (fun q => hca q)]; simp only [if_true, ← e5, upd]; rw [if_neg (by omega)]; exact (hC c hc hca hcb).2 (by omega)
      · rw [if_neg e5]; simp only [if_true, upd]; rw [if_neg e]; exact (hC c hc hca hcb).2 (by omega)
  · skip
    obtain ⟨rfl, e2, hO, hF, hC⟩ := hI
    refine a_iload B d_Mk_merge_3 rfl ?_
    refine a_iload_n B d_Mk_merge_5 rfl rfl ?_
    first | refine b_icmp_ge B 62 d_Mk_merge_6 rfl (by omega) (by omega) (fun c_6 => ?_) (fun c_6 => ?_) | refine a_icmp_ge B 62 d_Mk_merge_6 rfl (fun c_6 => ?_) (fun c_6 => ?_)
    · skip
      exact Rt _ _ _ d_Mk_merge_62 ⟨e2, hO, hF, fun c hc hca hcb => (hC c hc hca hcb).1 hc⟩
    exact absurd c_6 (by omega)
