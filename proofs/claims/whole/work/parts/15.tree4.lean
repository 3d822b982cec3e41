/-! cutting, groups, digests -/
def oI : Option Nat → Int32
  | some w => nI w
  | none => -9
/-- the highest node that holds a node together at a height -/
def topF (T : TT) (h : Nat) : Nat → Nat → Option Nat
  | 0, _ => none
  | f + 1, v => match (if v < 2 * tN T - 2 then topF T h f (tU T v) else none) with
    | some w => some w
    | none => if v < tN T ∨ tH T v ≤ h then some v else none
def topN (T : TT) (h v : Nat) : Option Nat := topF T h 20 v
theorem topF_fuel {T : TT} (hW : Wf T) (h : Nat) : ∀ (f f' v : Nat), v < 2 * tN T - 1 → 2 * tN T - 1 - v ≤ f → 2 * tN T - 1 - v ≤ f' → topF T h f v = topF T h f' v := by
  intro f
  induction f with
  | zero => intro f' v h0 h1 h2; omega
  | succ f ih =>
    intro f' v h0 h1 h2
    cases f' with
    | zero => omega
    | succ f' =>
      have e : (if v < 2 * tN T - 2 then topF T h f (tU T v) else none) = (if v < 2 * tN T - 2 then topF T h f' (tU T v) else none) := by
        by_cases hv : v < 2 * tN T - 2
        · have := hW.2.2.2.1 v hv
          rw [if_pos hv, if_pos hv, ih f' (tU T v) (by omega) (by omega) (by omega)]
        · rw [if_neg hv, if_neg hv]
      show (match (if v < 2 * tN T - 2 then topF T h f (tU T v) else none) with | some w => some w | none => if v < tN T ∨ tH T v ≤ h then some v else none) = _
      rw [e]
      rfl
theorem topN_eq {T : TT} (hW : Wf T) (h : Nat) {v : Nat} (hv : v < 2 * tN T - 1) : topN T h v = match (if v < 2 * tN T - 2 then topN T h (tU T v) else none) with
    | some w => some w
    | none => if v < tN T ∨ tH T v ≤ h then some v else none := by
  have h1 := hW.1
  have h10 := hW.2.1
  have e : topF T h 20 v = topF T h 21 v := topF_fuel hW h 20 21 v hv (by omega) (by omega)
  unfold topN
  rw [e]
  rfl
theorem topN_up {T : TT} (hW : Wf T) {h v w : Nat} (hv : v < 2 * tN T - 2) (hq : topN T h (tU T v) = some w) : topN T h v = some w := by
  rw [topN_eq hW h (by omega), if_pos hv, hq]
theorem topN_own {T : TT} (hW : Wf T) {h v : Nat} (hv : v < 2 * tN T - 1) (hq : v < 2 * tN T - 2 → topN T h (tU T v) = none) : topN T h v = if v < tN T ∨ tH T v ≤ h then some v else none := by
  rw [topN_eq hW h hv]
  by_cases h2 : v < 2 * tN T - 2
  · rw [if_pos h2, hq h2]
  · rw [if_neg h2]
theorem topN_lt {T : TT} (hW : Wf T) {h : Nat} : ∀ (k v w : Nat), k + v = 2 * tN T - 2 → topN T h v = some w → w < 2 * tN T - 1 := by
  intro k
  induction k using Nat.strongRecOn with
  | ind k ih =>
    intro v w hk hq
    have h1 := hW.1
    by_cases hv : v < 2 * tN T - 2
    · have hu := hW.2.2.2.1 v hv
      cases hq2 : topN T h (tU T v) with
      | some w2 =>
        have := topN_up hW hv hq2
        rw [this] at hq
        cases hq
        exact ih (2 * tN T - 2 - tU T v) (by omega) _ _ (by omega) hq2
      | none =>
        rw [topN_own hW (by omega) (fun _ => hq2)] at hq
        split at hq <;> cases hq
        omega
    · rw [topN_own hW (by omega) (fun q => absurd q hv)] at hq
      split at hq <;> cases hq
      omega
theorem topN_leaf {T : TT} (hW : Wf T) {h l : Nat} (hl : l < tN T) : ∃ w, topN T h l = some w ∧ w < 2 * tN T - 1 := by
  have h1 := hW.1
  cases hq : topN T h l with
  | some w => exact ⟨w, rfl, topN_lt hW (2 * tN T - 2 - l) l w (by omega) hq⟩
  | none =>
    exfalso
    by_cases hv : l < 2 * tN T - 2
    · cases hq2 : topN T h (tU T l) with
      | some w2 => rw [topN_up hW hv hq2] at hq; cases hq
      | none => rw [topN_own hW (by omega) (fun _ => hq2), if_pos (Or.inl hl)] at hq; cases hq
    · rw [topN_own hW (by omega) (fun q => absurd q hv), if_pos (Or.inl hl)] at hq; cases hq
/-- the group's top of a leaf, as a number -/
def topL (T : TT) (h l : Nat) : Nat := (topN T h l).getD 0
theorem topL_eq {T : TT} (hW : Wf T) {h l : Nat} (hl : l < tN T) : topN T h l = some (topL T h l) ∧ topL T h l < 2 * tN T - 1 := by
  obtain ⟨w, h1, h2⟩ := topN_leaf hW (h := h) hl
  unfold topL
  rw [h1]
  exact ⟨rfl, h2⟩
def dnI (n i : Nat) : Int32 := if i < 2 * n - 1 then nI (2 * n - 2 - i) else -1
theorem dnI_lt {n i : Nat} (h : i < 2 * n - 1) : dnI n i = nI (2 * n - 2 - i) := if_pos h
theorem dnI_end {n : Nat} : dnI n (2 * n - 1) = -1 := if_neg (by omega)
theorem dnI_step {n i : Nat} (h : i < 2 * n - 1) : nI (2 * n - 2 - i) + (-1) = dnI n (i + 1) := by
  by_cases h2 : i + 1 < 2 * n - 1
  · rw [dnI_lt h2, sb_m1 (by omega), Nat.sub_sub]
  · unfold dnI
    rw [if_neg h2, show 2 * n - 2 - i = 0 by omega]
    decide
/-- how many groups the first leaves are in -/
def grpN (T : TT) (h : Nat) : Nat → Nat
  | 0 => 0
  | i + 1 => grpN T h i + (if 0 < i ∧ topL T h (ordT T (i - 1)) = topL T h (ordT T i) then 0 else 1)
/-- the groups by leaves, as far as place i -/
def grpF (T : TT) (h : Nat) (f : Nat → Int32) : Nat → Nat → Int32
  | 0 => f
  | i + 1 => upd (grpF T h f i) (ordT T i) (nI (grpN T h (i + 1) - 1))
theorem grpN_pos {T : TT} {h : Nat} : ∀ i, 0 < i → 0 < grpN T h i
  | 1, _ => by simp [grpN]
  | i + 2, _ => by
    have := grpN_pos (T := T) (h := h) (i + 1) (by omega)
    show 0 < grpN T h (i + 1) + _
    omega
/-- a tree's digest -/
def dgTree (T : TT) : Nat → Int64 → Int64
  | 0, h => h
  | v + 1, h => dgIn (tellT T v) 6 (dgTree T v h)
theorem d_Tr_cutAt_0 : decode prog_7_method_19_code 0 = .ok (.aload_n 0, 1) := by decide +kernel
theorem d_Tr_cutAt_1 : decode prog_7_method_19_code 1 = .ok (.getfield 54, 3) := by decide +kernel
theorem d_Tr_cutAt_4 : decode prog_7_method_19_code 4 = .ok (.iconst 1, 1) := by decide +kernel
theorem d_Tr_cutAt_5 : decode prog_7_method_19_code 5 = .ok (.isub, 1) := by decide +kernel
theorem d_Tr_cutAt_6 : decode prog_7_method_19_code 6 = .ok (.istore_n 2, 1) := by decide +kernel
theorem d_Tr_cutAt_7 : decode prog_7_method_19_code 7 = .ok (.iload_n 2, 1) := by decide +kernel
theorem d_Tr_cutAt_8 : decode prog_7_method_19_code 8 = .ok (.ifCond .lt 74, 3) := by decide +kernel
theorem d_Tr_cutAt_11 : decode prog_7_method_19_code 11 = .ok (.aload_n 0, 1) := by decide +kernel
theorem d_Tr_cutAt_12 : decode prog_7_method_19_code 12 = .ok (.getfield 18, 3) := by decide +kernel
theorem d_Tr_cutAt_15 : decode prog_7_method_19_code 15 = .ok (.iload_n 2, 1) := by decide +kernel
theorem d_Tr_cutAt_16 : decode prog_7_method_19_code 16 = .ok (.iaload, 1) := by decide +kernel
theorem d_Tr_cutAt_17 : decode prog_7_method_19_code 17 = .ok (.istore_n 3, 1) := by decide +kernel
theorem d_Tr_cutAt_18 : decode prog_7_method_19_code 18 = .ok (.iload_n 3, 1) := by decide +kernel
theorem d_Tr_cutAt_19 : decode prog_7_method_19_code 19 = .ok (.ifCond .lt 27, 3) := by decide +kernel
theorem d_Tr_cutAt_22 : decode prog_7_method_19_code 22 = .ok (.aload_n 0, 1) := by decide +kernel
theorem d_Tr_cutAt_23 : decode prog_7_method_19_code 23 = .ok (.getfield 43, 3) := by decide +kernel
theorem d_Tr_cutAt_26 : decode prog_7_method_19_code 26 = .ok (.iload_n 3, 1) := by decide +kernel
theorem d_Tr_cutAt_27 : decode prog_7_method_19_code 27 = .ok (.iaload, 1) := by decide +kernel
theorem d_Tr_cutAt_28 : decode prog_7_method_19_code 28 = .ok (.ifCond .lt 18, 3) := by decide +kernel
theorem d_Tr_cutAt_31 : decode prog_7_method_19_code 31 = .ok (.aload_n 0, 1) := by decide +kernel
theorem d_Tr_cutAt_32 : decode prog_7_method_19_code 32 = .ok (.getfield 43, 3) := by decide +kernel
theorem d_Tr_cutAt_35 : decode prog_7_method_19_code 35 = .ok (.iload_n 2, 1) := by decide +kernel
theorem d_Tr_cutAt_36 : decode prog_7_method_19_code 36 = .ok (.aload_n 0, 1) := by decide +kernel
theorem d_Tr_cutAt_37 : decode prog_7_method_19_code 37 = .ok (.getfield 43, 3) := by decide +kernel
theorem d_Tr_cutAt_40 : decode prog_7_method_19_code 40 = .ok (.iload_n 3, 1) := by decide +kernel
theorem d_Tr_cutAt_41 : decode prog_7_method_19_code 41 = .ok (.iaload, 1) := by decide +kernel
theorem d_Tr_cutAt_42 : decode prog_7_method_19_code 42 = .ok (.iastore, 1) := by decide +kernel
theorem d_Tr_cutAt_43 : decode prog_7_method_19_code 43 = .ok (.goto 33, 3) := by decide +kernel
theorem d_Tr_cutAt_46 : decode prog_7_method_19_code 46 = .ok (.aload_n 0, 1) := by decide +kernel
theorem d_Tr_cutAt_47 : decode prog_7_method_19_code 47 = .ok (.getfield 43, 3) := by decide +kernel
theorem d_Tr_cutAt_50 : decode prog_7_method_19_code 50 = .ok (.iload_n 2, 1) := by decide +kernel
theorem d_Tr_cutAt_51 : decode prog_7_method_19_code 51 = .ok (.iload_n 2, 1) := by decide +kernel
theorem d_Tr_cutAt_52 : decode prog_7_method_19_code 52 = .ok (.aload_n 0, 1) := by decide +kernel
theorem d_Tr_cutAt_53 : decode prog_7_method_19_code 53 = .ok (.getfield 50, 3) := by decide +kernel
theorem d_Tr_cutAt_56 : decode prog_7_method_19_code 56 = .ok (.if_icmp .lt 13, 3) := by decide +kernel
theorem d_Tr_cutAt_59 : decode prog_7_method_19_code 59 = .ok (.aload_n 0, 1) := by decide +kernel
theorem d_Tr_cutAt_60 : decode prog_7_method_19_code 60 = .ok (.getfield 21, 3) := by decide +kernel
theorem d_Tr_cutAt_63 : decode prog_7_method_19_code 63 = .ok (.iload_n 2, 1) := by decide +kernel
theorem d_Tr_cutAt_64 : decode prog_7_method_19_code 64 = .ok (.iaload, 1) := by decide +kernel
theorem d_Tr_cutAt_65 : decode prog_7_method_19_code 65 = .ok (.iload_n 1, 1) := by decide +kernel
theorem d_Tr_cutAt_66 : decode prog_7_method_19_code 66 = .ok (.if_icmp .gt 7, 3) := by decide +kernel
theorem d_Tr_cutAt_69 : decode prog_7_method_19_code 69 = .ok (.iload_n 2, 1) := by decide +kernel
theorem d_Tr_cutAt_70 : decode prog_7_method_19_code 70 = .ok (.goto 5, 3) := by decide +kernel
theorem d_Tr_cutAt_73 : decode prog_7_method_19_code 73 = .ok (.bipush (-9), 2) := by decide +kernel
theorem d_Tr_cutAt_75 : decode prog_7_method_19_code 75 = .ok (.iastore, 1) := by decide +kernel
theorem d_Tr_cutAt_76 : decode prog_7_method_19_code 76 = .ok (.iinc 2 (-1), 3) := by decide +kernel
theorem d_Tr_cutAt_79 : decode prog_7_method_19_code 79 = .ok (.goto (-72), 3) := by decide +kernel
theorem d_Tr_cutAt_82 : decode prog_7_method_19_code 82 = .ok (.return_, 1) := by decide +kernel
set_option maxRecDepth 20000 in
theorem t_Tr_cutAt {g : GG} (G : Gok g) {σ : AH} {t : Nat} {T : TT} (ht : t < 4) (hW : Wf T) (hA : RtA σ t T) {h : Nat} (hh : h ≤ 1000000) : TerV g 0 m_Tr_cutAt [rV (tI t), iV (nI h)] σ (fun τ => ∃ f, τ = up1 σ (tI t + 11) f ∧ ∀ v, v < 2 * tN T - 1 → f v = oI (topN T h v)) := by
  refine TerV.mk G (by decide +kernel) rfl (Nat.le_of_ble_eq_true rfl) (fun K B Rt => ?_)
  have B : Cx g K prog_7_method_19_code 4 R_Tr 0 := B
  have Rt : RetV g K prog_7_method_19_code 4 (fun τ => ∃ f, τ = up1 σ (tI t + 11) f ∧ ∀ v, v < 2 * tN T - 1 → f v = oI (topN T h v)) := Rt
  show AW g K 4 0 [(0, rV (tI t)), (1, iV (nI h))] [] σ
  obtain ⟨a12, a13, a3, a3t, a4, a5, a6, a8⟩ := hA
  obtain ⟨w1, w10, wj, wu, wl, wm, wt, wb, wh⟩ := id hW
  refine a_aload_n B d_Tr_cutAt_0 rfl rfl ?_
  refine gf_Tr_nodeCount B (by first | assumption | omega) d_Tr_cutAt_1 fl_Tr_54 ?_
  rw [a13]
  refine a_iconst B d_Tr_cutAt_4 ci_1 ?_
  first | refine b_isub B (by omega) d_Tr_cutAt_5 ?_ | refine a_isub B d_Tr_cutAt_5 ?_
  refine a_istore_n (lv1 := [(0, _), (1, _), (2, _)]) B d_Tr_cutAt_6 rfl (by decide) rfl ?_
  refine a_forR (2 * tN T - 1) (fun i lv τ => lv = [(0, rV (tI t)), (1, iV (nI h)), (2, iV (dnI (tN T) i))] ∧ ∃ f, τ = up1 σ (tI t + 11) f ∧ ∀ v, v < 2 * tN T - 1 → 2 * tN T - 2 < v + i → f v = oI (topN T h v)) (fun i lv τ hi hI ihi => ?_) (fun lv τ hI => ?_) 0 (Nat.zero_le _) _ _ ⟨by rw [dnI_lt (by omega), show 2 * tN T - 1 - 1 = 2 * tN T - 2 - 0 by omega], _, up1_self.symm, fun v hv h9 => by omega⟩
  · skip
    obtain ⟨rfl, f, rfl, hF⟩ := hI
    rw [dnI_lt hi]
    refine a_iload_n B d_Tr_cutAt_7 rfl rfl ?_
    refine b_if_lt B 82 d_Tr_cutAt_8 rfl (by first | assumption | omega) ?_
    refine a_aload_n B d_Tr_cutAt_11 rfl rfl ?_
    refine gf_Tr_above B (by first | assumption | omega) d_Tr_cutAt_12 fl_Tr_18 ?_
    refine a_iload_n B d_Tr_cutAt_15 rfl rfl ?_
    refine a_iald B (ly_T_above (by first | assumption | omega)) _ rfl (by first | assumption | omega) d_Tr_cutAt_16 ?_
    rw [up1_o (show tI t + 3 ≠ tI t + 11 by omega)]
    by_cases hv2 : (2 * tN T - 2 - i) < 2 * tN T - 2
    · skip
      rw [a3 _ hv2]
      have qu := wu _ hv2
      refine a_istore_n (lv1 := [(0, _), (1, _), (2, _), (3, _)]) B d_Tr_cutAt_17 rfl (by decide) rfl ?_
      refine a_iload_n B d_Tr_cutAt_18 rfl rfl ?_
      refine b_if_lt B 46 d_Tr_cutAt_19 rfl (by first | assumption | omega) ?_
      refine a_aload_n B d_Tr_cutAt_22 rfl rfl ?_
      refine gf_Tr_holder B (by first | assumption | omega) d_Tr_cutAt_23 fl_Tr_43 ?_
      refine a_iload_n B d_Tr_cutAt_26 rfl rfl ?_
      refine a_iald B (ly_T_holder (by first | assumption | omega)) _ rfl (by first | assumption | omega) d_Tr_cutAt_27 ?_
      rw [up1_s, hF _ (by omega) (by omega)]
      cases hq : topN T h (tU T (2 * tN T - 2 - i))
      · skip
        refine a_if_lt B 46 d_Tr_cutAt_28 rfl (fun _ => ?_) (fun c9 => absurd (by decide) c9)
        refine a_aload_n B d_Tr_cutAt_46 rfl rfl ?_
        refine gf_Tr_holder B (by first | assumption | omega) d_Tr_cutAt_47 fl_Tr_43 ?_
        refine a_iload_n B d_Tr_cutAt_50 rfl rfl ?_
        refine a_iload_n B d_Tr_cutAt_51 rfl rfl ?_
        refine a_aload_n B d_Tr_cutAt_52 rfl rfl ?_
        refine gf_Tr_leafCount B (by first | assumption | omega) d_Tr_cutAt_53 fl_Tr_50 ?_
        rw [up1_o (show tI t ≠ tI t + 11 by omega), a12]
        first | refine b_icmp_lt B 69 d_Tr_cutAt_56 rfl (by omega) (by omega) (fun c_56 => ?_) (fun c_56 => ?_) | refine a_icmp_lt B 69 d_Tr_cutAt_56 rfl (fun c_56 => ?_) (fun c_56 => ?_)
        · skip
          refine a_iload_n B d_Tr_cutAt_69 rfl rfl ?_
          refine a_goto B 75 d_Tr_cutAt_70 rfl ?_
          refine a_iast B (ly_T_holder (by first | assumption | omega)) _ rfl (by first | assumption | omega) d_Tr_cutAt_75 ?_
          rw [up1_s, up1_up1]
          refine a_iinc (lv1 := [(0, _), (1, _), (2, _), (3, _)]) B d_Tr_cutAt_76 rfl (by rw [ci_m1]) (by decide) rfl ?_
          refine a_goto B 7 d_Tr_cutAt_79 rfl ?_
          refine a_sub (lv1 := [(0, _), (1, _), (2, _)]) rfl ?_
          refine ihi _ _ ⟨by rw [dnI_step hi], _, rfl, fun v hv h9 => ?_⟩
          by_cases e : v = (2 * tN T - 2 - i)
          · rw [e, upd_s]; first | exact (congrArg oI (topN_up hW hv2 hq)).symm | (rw [topN_own hW (by omega) (fun q => by first | exact hq | exact absurd q hv2), if_pos (by first | (left; omega) | (right; omega))]; rfl) | (rw [topN_own hW (by omega) (fun q => by first | exact hq | exact absurd q hv2), if_neg (by omega)]; rfl)
          · rw [upd_o e]; exact hF v hv (by omega)
        refine a_aload_n B d_Tr_cutAt_59 rfl rfl ?_
        refine gf_Tr_height B (by first | assumption | omega) d_Tr_cutAt_60 fl_Tr_21 ?_
        refine a_iload_n B d_Tr_cutAt_63 rfl rfl ?_
        refine a_iald B (ly_T_height (by first | assumption | omega)) _ rfl (by first | assumption | omega) d_Tr_cutAt_64 ?_
        rw [up1_o (show tI t + 4 ≠ tI t + 11 by omega)]
        rw [a4 _ (by omega)]
        have q4 := wh (2 * tN T - 2 - i)
        refine a_iload_n B d_Tr_cutAt_65 rfl rfl ?_
        first | refine b_icmp_gt B 73 d_Tr_cutAt_66 rfl (by omega) (by omega) (fun c_66 => ?_) (fun c_66 => ?_) | refine a_icmp_gt B 73 d_Tr_cutAt_66 rfl (fun c_66 => ?_) (fun c_66 => ?_)
        · skip
          refine a_bipush B d_Tr_cutAt_73 cb_m9 ?_
          refine a_iast B (ly_T_holder (by first | assumption | omega)) _ rfl (by first | assumption | omega) d_Tr_cutAt_75 ?_
          rw [up1_s, up1_up1]
          refine a_iinc (lv1 := [(0, _), (1, _), (2, _), (3, _)]) B d_Tr_cutAt_76 rfl (by rw [ci_m1]) (by decide) rfl ?_
          refine a_goto B 7 d_Tr_cutAt_79 rfl ?_
          refine a_sub (lv1 := [(0, _), (1, _), (2, _)]) rfl ?_
          refine ihi _ _ ⟨by rw [dnI_step hi], _, rfl, fun v hv h9 => ?_⟩
          by_cases e : v = (2 * tN T - 2 - i)
          · rw [e, upd_s]; first | exact (congrArg oI (topN_up hW hv2 hq)).symm | (rw [topN_own hW (by omega) (fun q => by first | exact hq | exact absurd q hv2), if_pos (by first | (left; omega) | (right; omega))]; rfl) | (rw [topN_own hW (by omega) (fun q => by first | exact hq | exact absurd q hv2), if_neg (by omega)]; rfl)
          · rw [upd_o e]; exact hF v hv (by omega)
        refine a_iload_n B d_Tr_cutAt_69 rfl rfl ?_
        refine a_goto B 75 d_Tr_cutAt_70 rfl ?_
        refine a_iast B (ly_T_holder (by first | assumption | omega)) _ rfl (by first | assumption | omega) d_Tr_cutAt_75 ?_
        rw [up1_s, up1_up1]
        refine a_iinc (lv1 := [(0, _), (1, _), (2, _), (3, _)]) B d_Tr_cutAt_76 rfl (by rw [ci_m1]) (by decide) rfl ?_
        refine a_goto B 7 d_Tr_cutAt_79 rfl ?_
        refine a_sub (lv1 := [(0, _), (1, _), (2, _)]) rfl ?_
        refine ihi _ _ ⟨by rw [dnI_step hi], _, rfl, fun v hv h9 => ?_⟩
        by_cases e : v = (2 * tN T - 2 - i)
        · rw [e, upd_s]; first | exact (congrArg oI (topN_up hW hv2 hq)).symm | (rw [topN_own hW (by omega) (fun q => by first | exact hq | exact absurd q hv2), if_pos (by first | (left; omega) | (right; omega))]; rfl) | (rw [topN_own hW (by omega) (fun q => by first | exact hq | exact absurd q hv2), if_neg (by omega)]; rfl)
        · rw [upd_o e]; exact hF v hv (by omega)
      · skip
        rename_i w
        have qw := topN_lt hW (2 * tN T - 2 - tU T (2 * tN T - 2 - i)) _ _ (by omega) hq
        show AW g K 4 _ _ [iV (nI w)] _
        refine b_if_lt B 46 d_Tr_cutAt_28 rfl (by first | assumption | omega) ?_
        refine a_aload_n B d_Tr_cutAt_31 rfl rfl ?_
        refine gf_Tr_holder B (by first | assumption | omega) d_Tr_cutAt_32 fl_Tr_43 ?_
        refine a_iload_n B d_Tr_cutAt_35 rfl rfl ?_
        refine a_aload_n B d_Tr_cutAt_36 rfl rfl ?_
        refine gf_Tr_holder B (by first | assumption | omega) d_Tr_cutAt_37 fl_Tr_43 ?_
        refine a_iload_n B d_Tr_cutAt_40 rfl rfl ?_
        refine a_iald B (ly_T_holder (by first | assumption | omega)) _ rfl (by first | assumption | omega) d_Tr_cutAt_41 ?_
        rw [up1_s, hF _ (by omega) (by omega), hq]
        refine a_iast B (ly_T_holder (by first | assumption | omega)) _ rfl (by first | assumption | omega) d_Tr_cutAt_42 ?_
        rw [up1_s, up1_up1]
        refine a_goto B 76 d_Tr_cutAt_43 rfl ?_
        refine a_iinc (lv1 := [(0, _), (1, _), (2, _), (3, _)]) B d_Tr_cutAt_76 rfl (by rw [ci_m1]) (by decide) rfl ?_
        refine a_goto B 7 d_Tr_cutAt_79 rfl ?_
        refine a_sub (lv1 := [(0, _), (1, _), (2, _)]) rfl ?_
        refine ihi _ _ ⟨by rw [dnI_step hi], _, rfl, fun v hv h9 => ?_⟩
        by_cases e : v = (2 * tN T - 2 - i)
        · rw [e, upd_s]; first | exact (congrArg oI (topN_up hW hv2 hq)).symm | (rw [topN_own hW (by omega) (fun q => by first | exact hq | exact absurd q hv2), if_pos (by first | (left; omega) | (right; omega))]; rfl) | (rw [topN_own hW (by omega) (fun q => by first | exact hq | exact absurd q hv2), if_neg (by omega)]; rfl)
        · rw [upd_o e]; exact hF v hv (by omega)
    · skip
      rw [show σ.1 (tI t + 3) (2 * tN T - 2 - i) = -9 from (by rw [show (2 * tN T - 2 - i) = 2 * tN T - 2 by omega]; exact a3t)]
      refine a_istore_n (lv1 := [(0, _), (1, _), (2, _), (3, _)]) B d_Tr_cutAt_17 rfl (by decide) rfl ?_
      refine a_iload_n B d_Tr_cutAt_18 rfl rfl ?_
      refine a_if_lt B 46 d_Tr_cutAt_19 rfl (fun _ => ?_) (fun c9 => absurd (by decide) c9)
      refine a_aload_n B d_Tr_cutAt_46 rfl rfl ?_
      refine gf_Tr_holder B (by first | assumption | omega) d_Tr_cutAt_47 fl_Tr_43 ?_
      refine a_iload_n B d_Tr_cutAt_50 rfl rfl ?_
      refine a_iload_n B d_Tr_cutAt_51 rfl rfl ?_
      refine a_aload_n B d_Tr_cutAt_52 rfl rfl ?_
      refine gf_Tr_leafCount B (by first | assumption | omega) d_Tr_cutAt_53 fl_Tr_50 ?_
      rw [up1_o (show tI t ≠ tI t + 11 by omega), a12]
      first | refine b_icmp_lt B 69 d_Tr_cutAt_56 rfl (by omega) (by omega) (fun c_56 => ?_) (fun c_56 => ?_) | refine a_icmp_lt B 69 d_Tr_cutAt_56 rfl (fun c_56 => ?_) (fun c_56 => ?_)
      · skip
        refine a_iload_n B d_Tr_cutAt_69 rfl rfl ?_
        refine a_goto B 75 d_Tr_cutAt_70 rfl ?_
        refine a_iast B (ly_T_holder (by first | assumption | omega)) _ rfl (by first | assumption | omega) d_Tr_cutAt_75 ?_
        rw [up1_s, up1_up1]
        refine a_iinc (lv1 := [(0, _), (1, _), (2, _), (3, _)]) B d_Tr_cutAt_76 rfl (by rw [ci_m1]) (by decide) rfl ?_
        refine a_goto B 7 d_Tr_cutAt_79 rfl ?_
        refine a_sub (lv1 := [(0, _), (1, _), (2, _)]) rfl ?_
        refine ihi _ _ ⟨by rw [dnI_step hi], _, rfl, fun v hv h9 => ?_⟩
        by_cases e : v = (2 * tN T - 2 - i)
        · rw [e, upd_s]; first | exact (congrArg oI (topN_up hW hv2 hq)).symm | (rw [topN_own hW (by omega) (fun q => by first | exact hq | exact absurd q hv2), if_pos (by first | (left; omega) | (right; omega))]; rfl) | (rw [topN_own hW (by omega) (fun q => by first | exact hq | exact absurd q hv2), if_neg (by omega)]; rfl)
        · rw [upd_o e]; exact hF v hv (by omega)
      refine a_aload_n B d_Tr_cutAt_59 rfl rfl ?_
      refine gf_Tr_height B (by first | assumption | omega) d_Tr_cutAt_60 fl_Tr_21 ?_
      refine a_iload_n B d_Tr_cutAt_63 rfl rfl ?_
      refine a_iald B (ly_T_height (by first | assumption | omega)) _ rfl (by first | assumption | omega) d_Tr_cutAt_64 ?_
      rw [up1_o (show tI t + 4 ≠ tI t + 11 by omega)]
      rw [a4 _ (by omega)]
      have q4 := wh (2 * tN T - 2 - i)
      refine a_iload_n B d_Tr_cutAt_65 rfl rfl ?_
      first | refine b_icmp_gt B 73 d_Tr_cutAt_66 rfl (by omega) (by omega) (fun c_66 => ?_) (fun c_66 => ?_) | refine a_icmp_gt B 73 d_Tr_cutAt_66 rfl (fun c_66 => ?_) (fun c_66 => ?_)
      · skip
        refine a_bipush B d_Tr_cutAt_73 cb_m9 ?_
        refine a_iast B (ly_T_holder (by first | assumption | omega)) _ rfl (by first | assumption | omega) d_Tr_cutAt_75 ?_
        rw [up1_s, up1_up1]
        refine a_iinc (lv1 := [(0, _), (1, _), (2, _), (3, _)]) B d_Tr_cutAt_76 rfl (by rw [ci_m1]) (by decide) rfl ?_
        refine a_goto B 7 d_Tr_cutAt_79 rfl ?_
        refine a_sub (lv1 := [(0, _), (1, _), (2, _)]) rfl ?_
        refine ihi _ _ ⟨by rw [dnI_step hi], _, rfl, fun v hv h9 => ?_⟩
        by_cases e : v = (2 * tN T - 2 - i)
        · rw [e, upd_s]; first | exact (congrArg oI (topN_up hW hv2 hq)).symm | (rw [topN_own hW (by omega) (fun q => by first | exact hq | exact absurd q hv2), if_pos (by first | (left; omega) | (right; omega))]; rfl) | (rw [topN_own hW (by omega) (fun q => by first | exact hq | exact absurd q hv2), if_neg (by omega)]; rfl)
        · rw [upd_o e]; exact hF v hv (by omega)
      refine a_iload_n B d_Tr_cutAt_69 rfl rfl ?_
      refine a_goto B 75 d_Tr_cutAt_70 rfl ?_
      refine a_iast B (ly_T_holder (by first | assumption | omega)) _ rfl (by first | assumption | omega) d_Tr_cutAt_75 ?_
      rw [up1_s, up1_up1]
      refine a_iinc (lv1 := [(0, _), (1, _), (2, _), (3, _)]) B d_Tr_cutAt_76 rfl (by rw [ci_m1]) (by decide) rfl ?_
      refine a_goto B 7 d_Tr_cutAt_79 rfl ?_
      refine a_sub (lv1 := [(0, _), (1, _), (2, _)]) rfl ?_
      refine ihi _ _ ⟨by rw [dnI_step hi], _, rfl, fun v hv h9 => ?_⟩
      by_cases e : v = (2 * tN T - 2 - i)
      · rw [e, upd_s]; first | exact (congrArg oI (topN_up hW hv2 hq)).symm | (rw [topN_own hW (by omega) (fun q => by first | exact hq | exact absurd q hv2), if_pos (by first | (left; omega) | (right; omega))]; rfl) | (rw [topN_own hW (by omega) (fun q => by first | exact hq | exact absurd q hv2), if_neg (by omega)]; rfl)
      · rw [upd_o e]; exact hF v hv (by omega)
  · skip
    obtain ⟨rfl, f, rfl, hF⟩ := hI
    rw [dnI_end]
    refine a_iload_n B d_Tr_cutAt_7 rfl rfl ?_
    refine a_if_lt B 82 d_Tr_cutAt_8 rfl (fun c_8 => ?_) (fun c_8 => ?_)
    · skip
      exact Rt _ _ _ d_Tr_cutAt_82 ⟨f, rfl, fun v hv => hF v hv (by omega)⟩
    · exact absurd (by decide) c_8
theorem d_Tr_groupOf_0 : decode prog_7_method_20_code 0 = .ok (.aload_n 0, 1) := by decide +kernel
theorem d_Tr_groupOf_1 : decode prog_7_method_20_code 1 = .ok (.getfield 43, 3) := by decide +kernel
theorem d_Tr_groupOf_4 : decode prog_7_method_20_code 4 = .ok (.iload_n 1, 1) := by decide +kernel
theorem d_Tr_groupOf_5 : decode prog_7_method_20_code 5 = .ok (.iaload, 1) := by decide +kernel
theorem d_Tr_groupOf_6 : decode prog_7_method_20_code 6 = .ok (.istore_n 2, 1) := by decide +kernel
theorem d_Tr_groupOf_7 : decode prog_7_method_20_code 7 = .ok (.iload_n 2, 1) := by decide +kernel
theorem d_Tr_groupOf_8 : decode prog_7_method_20_code 8 = .ok (.ifCond .lt 12, 3) := by decide +kernel
theorem d_Tr_groupOf_11 : decode prog_7_method_20_code 11 = .ok (.aload_n 0, 1) := by decide +kernel
theorem d_Tr_groupOf_12 : decode prog_7_method_20_code 12 = .ok (.getfield 27, 3) := by decide +kernel
theorem d_Tr_groupOf_15 : decode prog_7_method_20_code 15 = .ok (.iload_n 2, 1) := by decide +kernel
theorem d_Tr_groupOf_16 : decode prog_7_method_20_code 16 = .ok (.iaload, 1) := by decide +kernel
theorem d_Tr_groupOf_17 : decode prog_7_method_20_code 17 = .ok (.goto 4, 3) := by decide +kernel
theorem d_Tr_groupOf_20 : decode prog_7_method_20_code 20 = .ok (.iconst 0, 1) := by decide +kernel
theorem d_Tr_groupOf_21 : decode prog_7_method_20_code 21 = .ok (.ireturn, 1) := by decide +kernel
set_option maxRecDepth 20000 in
theorem t_Tr_groupOf {g : GG} (G : Gok g) {σ : AH} {t : Nat} {T : TT} (ht : t < 4) (hW : Wf T) (hA : RtA σ t T) {h l : Nat} (hl : l < tN T) (hH : ∀ v, v < 2 * tN T - 1 → σ.1 (tI t + 11) v = oI (topN T h v)) : TerI g 0 m_Tr_groupOf [rV (tI t), iV (nI l)] σ (fun r τ => r = nI (tM T (topL T h l)) ∧ τ = σ) := by
  refine TerI.mk G (by decide +kernel) rfl (Nat.le_of_ble_eq_true rfl) (fun K B Rt => ?_)
  have B : Cx g K prog_7_method_20_code 3 R_Tr 0 := B
  have Rt : RetI g K prog_7_method_20_code 3 (fun r τ => r = nI (tM T (topL T h l)) ∧ τ = σ) := Rt
  show AW g K 3 0 [(0, rV (tI t)), (1, iV (nI l))] [] σ
  obtain ⟨a12, a13, a3, a3t, a4, a5, a6, a8⟩ := hA
  obtain ⟨w1, w10, wj, wu, wl, wm, wt, wb, wh⟩ := id hW
  have qt := topL_eq hW (h := h) hl
  refine a_aload_n B d_Tr_groupOf_0 rfl rfl ?_
  refine gf_Tr_holder B (by first | assumption | omega) d_Tr_groupOf_1 fl_Tr_43 ?_
  refine a_iload_n B d_Tr_groupOf_4 rfl rfl ?_
  refine a_iald B (ly_T_holder (by first | assumption | omega)) _ rfl (by first | assumption | omega) d_Tr_groupOf_5 ?_
  rw [hH _ (by omega), qt.1]
  show AW g K 3 _ _ [iV (nI (topL T h l))] _
  skip
  · skip
    refine a_istore_n (lv1 := [(0, _), (1, _), (2, _)]) B d_Tr_groupOf_6 rfl (by decide) rfl ?_
    refine a_iload_n B d_Tr_groupOf_7 rfl rfl ?_
    refine b_if_lt B 20 d_Tr_groupOf_8 rfl (by first | assumption | omega) ?_
    refine a_aload_n B d_Tr_groupOf_11 rfl rfl ?_
    refine gf_Tr_leafSet B (by first | assumption | omega) d_Tr_groupOf_12 fl_Tr_27 ?_
    refine a_iload_n B d_Tr_groupOf_15 rfl rfl ?_
    refine a_iald B (ly_T_leafSet (by first | assumption | omega)) _ rfl (by first | assumption | omega) d_Tr_groupOf_16 ?_
    refine a_goto B 21 d_Tr_groupOf_17 rfl ?_
    exact Rt _ _ _ _ d_Tr_groupOf_21 ⟨by rw [a6 _ qt.2], rfl⟩
theorem nI_ne9 {a : Nat} (h : a < 2 ^ 31) : ¬ nI a = -9 := fun q => by
  have q1 : ¬ nI a < 0 := nI_nn h
  rw [q] at q1
  exact q1 (by decide)
theorem d_Tr_numberGroups_0 : decode prog_7_method_21_code 0 = .ok (.iconst 0, 1) := by decide +kernel
theorem d_Tr_numberGroups_1 : decode prog_7_method_21_code 1 = .ok (.istore_n 2, 1) := by decide +kernel
theorem d_Tr_numberGroups_2 : decode prog_7_method_21_code 2 = .ok (.bipush (-9), 2) := by decide +kernel
theorem d_Tr_numberGroups_4 : decode prog_7_method_21_code 4 = .ok (.istore_n 3, 1) := by decide +kernel
theorem d_Tr_numberGroups_5 : decode prog_7_method_21_code 5 = .ok (.iconst 0, 1) := by decide +kernel
theorem d_Tr_numberGroups_6 : decode prog_7_method_21_code 6 = .ok (.istore 4, 2) := by decide +kernel
theorem d_Tr_numberGroups_8 : decode prog_7_method_21_code 8 = .ok (.iload 4, 2) := by decide +kernel
theorem d_Tr_numberGroups_10 : decode prog_7_method_21_code 10 = .ok (.aload_n 0, 1) := by decide +kernel
theorem d_Tr_numberGroups_11 : decode prog_7_method_21_code 11 = .ok (.getfield 50, 3) := by decide +kernel
theorem d_Tr_numberGroups_14 : decode prog_7_method_21_code 14 = .ok (.if_icmp .ge 47, 3) := by decide +kernel
theorem d_Tr_numberGroups_17 : decode prog_7_method_21_code 17 = .ok (.aload_n 0, 1) := by decide +kernel
theorem d_Tr_numberGroups_18 : decode prog_7_method_21_code 18 = .ok (.getfield 40, 3) := by decide +kernel
theorem d_Tr_numberGroups_21 : decode prog_7_method_21_code 21 = .ok (.iload 4, 2) := by decide +kernel
theorem d_Tr_numberGroups_23 : decode prog_7_method_21_code 23 = .ok (.iaload, 1) := by decide +kernel
theorem d_Tr_numberGroups_24 : decode prog_7_method_21_code 24 = .ok (.istore 5, 2) := by decide +kernel
theorem d_Tr_numberGroups_26 : decode prog_7_method_21_code 26 = .ok (.aload_n 0, 1) := by decide +kernel
theorem d_Tr_numberGroups_27 : decode prog_7_method_21_code 27 = .ok (.getfield 43, 3) := by decide +kernel
theorem d_Tr_numberGroups_30 : decode prog_7_method_21_code 30 = .ok (.iload 5, 2) := by decide +kernel
theorem d_Tr_numberGroups_32 : decode prog_7_method_21_code 32 = .ok (.iaload, 1) := by decide +kernel
theorem d_Tr_numberGroups_33 : decode prog_7_method_21_code 33 = .ok (.iload_n 3, 1) := by decide +kernel
theorem d_Tr_numberGroups_34 : decode prog_7_method_21_code 34 = .ok (.if_icmp .eq 14, 3) := by decide +kernel
theorem d_Tr_numberGroups_37 : decode prog_7_method_21_code 37 = .ok (.aload_n 0, 1) := by decide +kernel
theorem d_Tr_numberGroups_38 : decode prog_7_method_21_code 38 = .ok (.getfield 43, 3) := by decide +kernel
theorem d_Tr_numberGroups_41 : decode prog_7_method_21_code 41 = .ok (.iload 5, 2) := by decide +kernel
theorem d_Tr_numberGroups_43 : decode prog_7_method_21_code 43 = .ok (.iaload, 1) := by decide +kernel
theorem d_Tr_numberGroups_44 : decode prog_7_method_21_code 44 = .ok (.istore_n 3, 1) := by decide +kernel
theorem d_Tr_numberGroups_45 : decode prog_7_method_21_code 45 = .ok (.iinc 2 1, 3) := by decide +kernel
theorem d_Tr_numberGroups_48 : decode prog_7_method_21_code 48 = .ok (.aload_n 1, 1) := by decide +kernel
theorem d_Tr_numberGroups_49 : decode prog_7_method_21_code 49 = .ok (.iload 5, 2) := by decide +kernel
theorem d_Tr_numberGroups_51 : decode prog_7_method_21_code 51 = .ok (.iload_n 2, 1) := by decide +kernel
theorem d_Tr_numberGroups_52 : decode prog_7_method_21_code 52 = .ok (.iconst 1, 1) := by decide +kernel
theorem d_Tr_numberGroups_53 : decode prog_7_method_21_code 53 = .ok (.isub, 1) := by decide +kernel
theorem d_Tr_numberGroups_54 : decode prog_7_method_21_code 54 = .ok (.iastore, 1) := by decide +kernel
theorem d_Tr_numberGroups_55 : decode prog_7_method_21_code 55 = .ok (.iinc 4 1, 3) := by decide +kernel
theorem d_Tr_numberGroups_58 : decode prog_7_method_21_code 58 = .ok (.goto (-50), 3) := by decide +kernel
theorem d_Tr_numberGroups_61 : decode prog_7_method_21_code 61 = .ok (.iload_n 2, 1) := by decide +kernel
theorem d_Tr_numberGroups_62 : decode prog_7_method_21_code 62 = .ok (.ireturn, 1) := by decide +kernel
set_option maxRecDepth 20000 in
theorem t_Tr_numberGroups {g : GG} (G : Gok g) {σ : AH} {t : Nat} {T : TT} (ht : t < 4) (hW : Wf T) (hA : RtA σ t T) (hP : RtP σ t T) {h k : Nat} {rs : List (Option Nat)} (hk : layT[k]? = some (0, 10, rs)) (hk0 : k < 58) (hH : ∀ v, v < 2 * tN T - 1 → σ.1 (tI t + 11) v = oI (topN T h v)) : TerI g 0 m_Tr_numberGroups [rV (tI t), rV k] σ (fun r τ => r = nI (grpN T h (tN T)) ∧ τ = up1 σ k (grpF T h (σ.1 k) (tN T))) := by
  refine TerI.mk G (by decide +kernel) rfl (Nat.le_of_ble_eq_true rfl) (fun K B Rt => ?_)
  have B : Cx g K prog_7_method_21_code 6 R_Tr 0 := B
  have Rt : RetI g K prog_7_method_21_code 6 (fun r τ => r = nI (grpN T h (tN T)) ∧ τ = up1 σ k (grpF T h (σ.1 k) (tN T))) := Rt
  show AW g K 6 0 [(0, rV (tI t)), (1, rV k)] [] σ
  obtain ⟨a12, a13, a3, a3t, a4, a5, a6, a8⟩ := hA
  obtain ⟨w1, w10, wj, wu, wl, wm, wt, wb, wh⟩ := id hW
  have h58 : 58 ≤ tI t := Nat.le_add_right _ _
  have q10 := ord_at hW hP
  refine a_iconst B d_Tr_numberGroups_0 ci_0 ?_
  refine a_istore_n (lv1 := [(0, _), (1, _), (2, _)]) B d_Tr_numberGroups_1 rfl (by decide) rfl ?_
  refine a_bipush B d_Tr_numberGroups_2 cb_m9 ?_
  refine a_istore_n (lv1 := [(0, _), (1, _), (2, _), (3, _)]) B d_Tr_numberGroups_4 rfl (by decide) rfl ?_
  refine a_iconst B d_Tr_numberGroups_5 ci_0 ?_
  refine a_istore (lv1 := [(0, _), (1, _), (2, _), (3, _), (4, _)]) B d_Tr_numberGroups_6 (by decide) rfl ?_
  refine a_forR (tN T) (fun i lv τ => lv = [(0, rV (tI t)), (1, rV k), (2, iV (nI (grpN T h i))), (3, iV (if i = 0 then (-9 : Int32) else nI (topL T h (ordT T (i - 1))))), (4, iV (nI i))] ∧ τ = up1 σ k (grpF T h (σ.1 k) i)) (fun i lv τ hi hI ihi => ?_) (fun lv τ hI => ?_) 0 (Nat.zero_le _) _ _ ⟨rfl, up1_self.symm⟩
  · skip
    obtain ⟨rfl, rfl⟩ := hI
    refine a_iload B d_Tr_numberGroups_8 rfl ?_
    refine a_aload_n B d_Tr_numberGroups_10 rfl rfl ?_
    refine gf_Tr_leafCount B (by first | assumption | omega) d_Tr_numberGroups_11 fl_Tr_50 ?_
    rw [up1_o (show tI t ≠ k by omega), a12]
    first | refine b_icmp_ge B 61 d_Tr_numberGroups_14 rfl (by omega) (by omega) (fun c_14 => ?_) (fun c_14 => ?_) | refine a_icmp_ge B 61 d_Tr_numberGroups_14 rfl (fun c_14 => ?_) (fun c_14 => ?_)
    · skip
      exact absurd c_14 (by omega)
    have qo := pos_ord hW hi
    have qt := topL_eq hW (h := h) qo.1
    refine a_aload_n B d_Tr_numberGroups_17 rfl rfl ?_
    refine gf_Tr_leafAt B (by first | assumption | omega) d_Tr_numberGroups_18 fl_Tr_40 ?_
    refine a_iload B d_Tr_numberGroups_21 rfl ?_
    refine a_iald B (ly_T_leafAt (by first | assumption | omega)) _ rfl (by first | assumption | omega) d_Tr_numberGroups_23 ?_
    rw [up1_o (show tI t + 10 ≠ k by omega)]
    rw [q10 _ hi]
    refine a_istore (lv1 := [(0, _), (1, _), (2, _), (3, _), (4, _), (5, _)]) B d_Tr_numberGroups_24 (by decide) rfl ?_
    refine a_aload_n B d_Tr_numberGroups_26 rfl rfl ?_
    refine gf_Tr_holder B (by first | assumption | omega) d_Tr_numberGroups_27 fl_Tr_43 ?_
    refine a_iload B d_Tr_numberGroups_30 rfl ?_
    refine a_iald B (ly_T_holder (by first | assumption | omega)) _ rfl (by first | assumption | omega) d_Tr_numberGroups_32 ?_
    rw [up1_o (show tI t + 11 ≠ k by omega)]
    rw [hH _ (by omega), qt.1]
    show AW g K 6 _ _ [iV (nI (topL T h (ordT T i)))] _
    refine a_iload_n B d_Tr_numberGroups_33 rfl rfl ?_
    first | refine b_icmp_eq B 48 d_Tr_numberGroups_34 rfl (by omega) (by omega) (fun c_34 => ?_) (fun c_34 => ?_) | refine a_icmp_eq B 48 d_Tr_numberGroups_34 rfl (fun c_34 => ?_) (fun c_34 => ?_)
    · skip
      have hi0 : i ≠ 0 := fun q => by rw [if_pos q] at c_34; exact absurd c_34 (nI_ne9 (by omega))
      rw [if_neg hi0] at c_34
      have c_34 := (nI_inj' (by omega) (by have := (topL_eq hW (h := h) (pos_ord hW (show i - 1 < tN T by omega)).1).2; omega)).mp c_34
      have hg2 : grpN T h (i + 1) = grpN T h i := by
        show grpN T h i + _ = _
        rw [if_pos ⟨by omega, c_34.symm⟩]; rfl
      have hgp := grpN_pos (T := T) (h := h) i (by omega)
      refine a_aload_n B d_Tr_numberGroups_48 rfl rfl ?_
      refine a_iload B d_Tr_numberGroups_49 rfl ?_
      refine a_iload_n B d_Tr_numberGroups_51 rfl rfl ?_
      refine a_iconst B d_Tr_numberGroups_52 ci_1 ?_
      first | refine b_isub B (by omega) d_Tr_numberGroups_53 ?_ | refine a_isub B d_Tr_numberGroups_53 ?_
      refine a_iast B hk _ rfl (by first | assumption | omega) d_Tr_numberGroups_54 ?_
      rw [up1_s, up1_up1]
      first | refine b_iinc (lv1 := [(0, _), (1, _), (2, _), (3, _), (4, _), (5, _)]) B d_Tr_numberGroups_55 rfl ci_1 (by decide) rfl ?_ | refine a_iinc (lv1 := [(0, _), (1, _), (2, _), (3, _), (4, _), (5, _)]) B d_Tr_numberGroups_55 rfl rfl (by decide) rfl ?_
      refine a_goto B 8 d_Tr_numberGroups_58 rfl ?_
      refine a_sub (lv1 := [(0, _), (1, _), (2, _), (3, _), (4, _)]) rfl ?_
      refine ihi _ _ ⟨?_, ?_⟩
      · rw [if_neg (Nat.succ_ne_zero i), show i + 1 - 1 = i by omega]
        first | rw [hg2, if_neg hi0, ← c_34] | rw [hg1]
      · show _ = up1 σ k (upd (grpF T h (σ.1 k) i) (ordT T i) (nI (grpN T h (i + 1) - 1)))
        first | rw [hg1] | rw [hg2]
    have hg1 : grpN T h (i + 1) = grpN T h i + 1 := by
      show grpN T h i + _ = _
      rw [if_neg (fun q => c_34 (by rw [if_neg (by omega)]; exact congrArg nI q.2.symm))]
    refine a_aload_n B d_Tr_numberGroups_37 rfl rfl ?_
    refine gf_Tr_holder B (by first | assumption | omega) d_Tr_numberGroups_38 fl_Tr_43 ?_
    refine a_iload B d_Tr_numberGroups_41 rfl ?_
    refine a_iald B (ly_T_holder (by first | assumption | omega)) _ rfl (by first | assumption | omega) d_Tr_numberGroups_43 ?_
    rw [up1_o (show tI t + 11 ≠ k by omega)]
    rw [hH _ (by omega), qt.1]
    show AW g K 6 _ _ [iV (nI (topL T h (ordT T i)))] _
    refine a_istore_n (lv1 := [(0, _), (1, _), (2, _), (3, _), (4, _), (5, _)]) B d_Tr_numberGroups_44 rfl (by decide) rfl ?_
    first | refine b_iinc (lv1 := [(0, _), (1, _), (2, _), (3, _), (4, _), (5, _)]) B d_Tr_numberGroups_45 rfl ci_1 (by decide) rfl ?_ | refine a_iinc (lv1 := [(0, _), (1, _), (2, _), (3, _), (4, _), (5, _)]) B d_Tr_numberGroups_45 rfl rfl (by decide) rfl ?_
    refine a_aload_n B d_Tr_numberGroups_48 rfl rfl ?_
    refine a_iload B d_Tr_numberGroups_49 rfl ?_
    refine a_iload_n B d_Tr_numberGroups_51 rfl rfl ?_
    refine a_iconst B d_Tr_numberGroups_52 ci_1 ?_
    first | refine b_isub B (by omega) d_Tr_numberGroups_53 ?_ | refine a_isub B d_Tr_numberGroups_53 ?_
    refine a_iast B hk _ rfl (by first | assumption | omega) d_Tr_numberGroups_54 ?_
    rw [up1_s, up1_up1]
    first | refine b_iinc (lv1 := [(0, _), (1, _), (2, _), (3, _), (4, _), (5, _)]) B d_Tr_numberGroups_55 rfl ci_1 (by decide) rfl ?_ | refine a_iinc (lv1 := [(0, _), (1, _), (2, _), (3, _), (4, _), (5, _)]) B d_Tr_numberGroups_55 rfl rfl (by decide) rfl ?_
    refine a_goto B 8 d_Tr_numberGroups_58 rfl ?_
    refine a_sub (lv1 := [(0, _), (1, _), (2, _), (3, _), (4, _)]) rfl ?_
    refine ihi _ _ ⟨?_, ?_⟩
    · rw [if_neg (Nat.succ_ne_zero i), show i + 1 - 1 = i by omega]
      first | rw [hg2, if_neg hi0, ← c_34] | rw [hg1]
    · show _ = up1 σ k (upd (grpF T h (σ.1 k) i) (ordT T i) (nI (grpN T h (i + 1) - 1)))
      first | rw [hg1] | rw [hg2]
  · skip
    obtain ⟨rfl, rfl⟩ := hI
    refine a_iload B d_Tr_numberGroups_8 rfl ?_
    refine a_aload_n B d_Tr_numberGroups_10 rfl rfl ?_
    refine gf_Tr_leafCount B (by first | assumption | omega) d_Tr_numberGroups_11 fl_Tr_50 ?_
    rw [up1_o (show tI t ≠ k by omega), a12]
    first | refine b_icmp_ge B 61 d_Tr_numberGroups_14 rfl (by omega) (by omega) (fun c_14 => ?_) (fun c_14 => ?_) | refine a_icmp_ge B 61 d_Tr_numberGroups_14 rfl (fun c_14 => ?_) (fun c_14 => ?_)
    · skip
      refine a_iload_n B d_Tr_numberGroups_61 rfl rfl ?_
      exact Rt _ _ _ _ d_Tr_numberGroups_62 ⟨rfl, rfl⟩
    exact absurd c_14 (by omega)
theorem d_Tr_digestFrom_0 : decode prog_7_method_22_code 0 = .ok (.aload_n 0, 1) := by decide +kernel
theorem d_Tr_digestFrom_1 : decode prog_7_method_22_code 1 = .ok (.getfield 46, 3) := by decide +kernel
theorem d_Tr_digestFrom_4 : decode prog_7_method_22_code 4 = .ok (.ifCond .ne 11, 3) := by decide +kernel
theorem d_Tr_digestFrom_7 : decode prog_7_method_22_code 7 = .ok (.ldc2_w 97, 3) := by decide +kernel
theorem d_Tr_digestFrom_10 : decode prog_7_method_22_code 10 = .ok (.lload_n 1, 1) := by decide +kernel
theorem d_Tr_digestFrom_11 : decode prog_7_method_22_code 11 = .ok (.lmul, 1) := by decide +kernel
theorem d_Tr_digestFrom_12 : decode prog_7_method_22_code 12 = .ok (.lconst 1, 1) := by decide +kernel
theorem d_Tr_digestFrom_13 : decode prog_7_method_22_code 13 = .ok (.lsub, 1) := by decide +kernel
theorem d_Tr_digestFrom_14 : decode prog_7_method_22_code 14 = .ok (.lreturn, 1) := by decide +kernel
theorem d_Tr_digestFrom_15 : decode prog_7_method_22_code 15 = .ok (.lload_n 1, 1) := by decide +kernel
theorem d_Tr_digestFrom_16 : decode prog_7_method_22_code 16 = .ok (.lstore_n 3, 1) := by decide +kernel
theorem d_Tr_digestFrom_17 : decode prog_7_method_22_code 17 = .ok (.iconst 0, 1) := by decide +kernel
theorem d_Tr_digestFrom_18 : decode prog_7_method_22_code 18 = .ok (.istore 5, 2) := by decide +kernel
theorem d_Tr_digestFrom_20 : decode prog_7_method_22_code 20 = .ok (.iload 5, 2) := by decide +kernel
theorem d_Tr_digestFrom_22 : decode prog_7_method_22_code 22 = .ok (.aload_n 0, 1) := by decide +kernel
theorem d_Tr_digestFrom_23 : decode prog_7_method_22_code 23 = .ok (.getfield 54, 3) := by decide +kernel
theorem d_Tr_digestFrom_26 : decode prog_7_method_22_code 26 = .ok (.if_icmp .ge 40, 3) := by decide +kernel
theorem d_Tr_digestFrom_29 : decode prog_7_method_22_code 29 = .ok (.iconst 0, 1) := by decide +kernel
theorem d_Tr_digestFrom_30 : decode prog_7_method_22_code 30 = .ok (.istore 6, 2) := by decide +kernel
theorem d_Tr_digestFrom_32 : decode prog_7_method_22_code 32 = .ok (.iload 6, 2) := by decide +kernel
theorem d_Tr_digestFrom_34 : decode prog_7_method_22_code 34 = .ok (.iconst 5, 1) := by decide +kernel
theorem d_Tr_digestFrom_35 : decode prog_7_method_22_code 35 = .ok (.if_icmp .gt 25, 3) := by decide +kernel
theorem d_Tr_digestFrom_38 : decode prog_7_method_22_code 38 = .ok (.ldc2_w 97, 3) := by decide +kernel
theorem d_Tr_digestFrom_41 : decode prog_7_method_22_code 41 = .ok (.lload_n 3, 1) := by decide +kernel
theorem d_Tr_digestFrom_42 : decode prog_7_method_22_code 42 = .ok (.lmul, 1) := by decide +kernel
theorem d_Tr_digestFrom_43 : decode prog_7_method_22_code 43 = .ok (.aload_n 0, 1) := by decide +kernel
theorem d_Tr_digestFrom_44 : decode prog_7_method_22_code 44 = .ok (.iload 5, 2) := by decide +kernel
theorem d_Tr_digestFrom_46 : decode prog_7_method_22_code 46 = .ok (.iload 6, 2) := by decide +kernel
theorem d_Tr_digestFrom_48 : decode prog_7_method_22_code 48 = .ok (.invokevirtual 99, 3) := by decide +kernel
theorem d_Tr_digestFrom_51 : decode prog_7_method_22_code 51 = .ok (.i2l, 1) := by decide +kernel
theorem d_Tr_digestFrom_52 : decode prog_7_method_22_code 52 = .ok (.ladd, 1) := by decide +kernel
theorem d_Tr_digestFrom_53 : decode prog_7_method_22_code 53 = .ok (.lstore_n 3, 1) := by decide +kernel
theorem d_Tr_digestFrom_54 : decode prog_7_method_22_code 54 = .ok (.iinc 6 1, 3) := by decide +kernel
theorem d_Tr_digestFrom_57 : decode prog_7_method_22_code 57 = .ok (.goto (-25), 3) := by decide +kernel
theorem d_Tr_digestFrom_60 : decode prog_7_method_22_code 60 = .ok (.iinc 5 1, 3) := by decide +kernel
theorem d_Tr_digestFrom_63 : decode prog_7_method_22_code 63 = .ok (.goto (-43), 3) := by decide +kernel
theorem d_Tr_digestFrom_66 : decode prog_7_method_22_code 66 = .ok (.lload_n 3, 1) := by decide +kernel
theorem d_Tr_digestFrom_67 : decode prog_7_method_22_code 67 = .ok (.lreturn, 1) := by decide +kernel
set_option maxRecDepth 20000 in
theorem t_Tr_digestFrom {g : GG} (G : Gok g) {σ : AH} {t : Nat} {T : TT} (ht : t < 4) (hW : Wf T) (hA : RtA σ t T) (hB : RtB σ t T) (hth : σ.1 (tI t) 11 = 1) (h : Int64) : TerL g 2 m_Tr_digestFrom [rV (tI t), lV h] σ (fun r τ => r = dgTree T (2 * tN T - 1) h ∧ τ = σ) := by
  refine TerL.mk G (by decide +kernel) rfl (Nat.le_of_ble_eq_true rfl) (fun K B Rt => ?_)
  have B : Cx g K prog_7_method_22_code 7 R_Tr 2 := B
  have Rt : RetL g K prog_7_method_22_code 7 (fun r τ => r = dgTree T (2 * tN T - 1) h ∧ τ = σ) := Rt
  show AW g K 7 0 [(0, rV (tI t)), (1, lV h)] [] σ
  have hA0 := hA
  obtain ⟨a12, a13, a3, a3t, a4, a5, a6, a8⟩ := hA
  obtain ⟨w1, w10, wj, wu, wl, wm, wt, wb, wh⟩ := id hW
  refine a_aload_n B d_Tr_digestFrom_0 rfl rfl ?_
  refine gf_Tr_there B (by first | assumption | omega) d_Tr_digestFrom_1 fl_Tr_46 ?_
  rw [hth]
  first | refine b_if_ne_b B 15 d_Tr_digestFrom_4 rfl (fun c_4 => ?_) (fun c_4 => ?_) | refine a_if_ne B 15 d_Tr_digestFrom_4 rfl (fun c_4 => ?_) (fun c_4 => ?_)
  · skip
    refine a_lload_n B d_Tr_digestFrom_15 rfl rfl ?_
    refine a_lstore_n (lv1 := [(0, _), (1, _), (3, _)]) B d_Tr_digestFrom_16 rfl (by decide) rfl ?_
    refine a_iconst B d_Tr_digestFrom_17 ci_0 ?_
    refine a_istore (lv1 := [(0, _), (1, _), (3, _), (5, _)]) B d_Tr_digestFrom_18 (by decide) rfl ?_
    refine a_for (lf := fun i => [(0, rV (tI t)), (1, lV h), (3, lV (dgTree T i h)), (5, iV (nI i))]) (τ := fun i => σ) (2 * tN T - 1) (fun i hi ihi => ?_) ?_ 0 (Nat.zero_le _)
    · skip
      refine a_iload B d_Tr_digestFrom_20 rfl ?_
      refine a_aload_n B d_Tr_digestFrom_22 rfl rfl ?_
      refine gf_Tr_nodeCount B (by first | assumption | omega) d_Tr_digestFrom_23 fl_Tr_54 ?_
      rw [a13]
      first | refine b_icmp_ge B 66 d_Tr_digestFrom_26 rfl (by omega) (by omega) (fun c_26 => ?_) (fun c_26 => ?_) | refine a_icmp_ge B 66 d_Tr_digestFrom_26 rfl (fun c_26 => ?_) (fun c_26 => ?_)
      · skip
        exact absurd c_26 (by omega)
      refine a_iconst B d_Tr_digestFrom_29 ci_0 ?_
      refine a_istore (lv1 := [(0, _), (1, _), (3, _), (5, _), (6, _)]) B d_Tr_digestFrom_30 (by decide) rfl ?_
      refine a_for (lf := fun j => [(0, rV (tI t)), (1, lV h), (3, lV (dgIn (tellT T i) j (dgTree T i h))), (5, iV (nI i)), (6, iV (nI j))]) (τ := fun j => σ) 6 (fun j hj ihj => ?_) ?_ 0 (Nat.zero_le _)
      · skip
        refine a_iload B d_Tr_digestFrom_32 rfl ?_
        refine a_iconst B d_Tr_digestFrom_34 ci_5 ?_
        first | refine b_icmp_gt B 60 d_Tr_digestFrom_35 rfl (by omega) (by omega) (fun c_35 => ?_) (fun c_35 => ?_) | refine a_icmp_gt B 60 d_Tr_digestFrom_35 rfl (fun c_35 => ?_) (fun c_35 => ?_)
        · skip
          exact absurd c_35 (by omega)
        refine a_ldc2 B d_Tr_digestFrom_38 kl_Tr_97 ?_
        refine a_lload_n B d_Tr_digestFrom_41 rfl rfl ?_
        refine a_lmul B d_Tr_digestFrom_42 ?_
        refine a_aload_n B d_Tr_digestFrom_43 rfl rfl ?_
        refine a_iload B d_Tr_digestFrom_44 rfl ?_
        refine a_iload B d_Tr_digestFrom_46 rfl ?_
        refine a_callVI (ci := 5) B (t_Tr_tell G ht hW hA0 hB (by omega) (by omega)) d_Tr_digestFrom_48 ok_Tr_tell ml_Tr_99 (ly_T (by first | assumption | omega)) rfl rfl (by decide) (by decide) rfl (Nat.le_of_ble_eq_true rfl) (fun r_48 τ_48 h_48 => ?_)
        obtain ⟨hr_48, hs_48⟩ := h_48
        subst hr_48
        replace hs_48 := hs_48.symm
        subst hs_48
        refine a_i2l B d_Tr_digestFrom_51 ?_
        refine a_ladd B d_Tr_digestFrom_52 ?_
        refine a_lstore_n (lv1 := [(0, _), (1, _), (3, _), (5, _), (6, _)]) B d_Tr_digestFrom_53 rfl (by decide) rfl ?_
        first | refine b_iinc (lv1 := [(0, _), (1, _), (3, _), (5, _), (6, _)]) B d_Tr_digestFrom_54 rfl ci_1 (by decide) rfl ?_ | refine a_iinc (lv1 := [(0, _), (1, _), (3, _), (5, _), (6, _)]) B d_Tr_digestFrom_54 rfl rfl (by decide) rfl ?_
        refine a_goto B 32 d_Tr_digestFrom_57 rfl ?_
        exact ihj
      · skip
        refine a_iload B d_Tr_digestFrom_32 rfl ?_
        refine a_iconst B d_Tr_digestFrom_34 ci_5 ?_
        first | refine b_icmp_gt B 60 d_Tr_digestFrom_35 rfl (by omega) (by omega) (fun c_35 => ?_) (fun c_35 => ?_) | refine a_icmp_gt B 60 d_Tr_digestFrom_35 rfl (fun c_35 => ?_) (fun c_35 => ?_)
        · skip
          first | refine b_iinc (lv1 := [(0, _), (1, _), (3, _), (5, _), (6, _)]) B d_Tr_digestFrom_60 rfl ci_1 (by decide) rfl ?_ | refine a_iinc (lv1 := [(0, _), (1, _), (3, _), (5, _), (6, _)]) B d_Tr_digestFrom_60 rfl rfl (by decide) rfl ?_
          refine a_goto B 20 d_Tr_digestFrom_63 rfl ?_
          refine a_sub (lv1 := [(0, _), (1, _), (3, _), (5, _)]) rfl ?_
          exact ihi
        exact absurd c_35 (by omega)
    · skip
      refine a_iload B d_Tr_digestFrom_20 rfl ?_
      refine a_aload_n B d_Tr_digestFrom_22 rfl rfl ?_
      refine gf_Tr_nodeCount B (by first | assumption | omega) d_Tr_digestFrom_23 fl_Tr_54 ?_
      rw [a13]
      first | refine b_icmp_ge B 66 d_Tr_digestFrom_26 rfl (by omega) (by omega) (fun c_26 => ?_) (fun c_26 => ?_) | refine a_icmp_ge B 66 d_Tr_digestFrom_26 rfl (fun c_26 => ?_) (fun c_26 => ?_)
      · skip
        refine a_lload_n B d_Tr_digestFrom_66 rfl rfl ?_
        exact Rt _ _ _ _ d_Tr_digestFrom_67 ⟨rfl, rfl⟩
      exact absurd c_26 (by omega)
  exact absurd c_4 (by decide)
set_option maxRecDepth 20000 in
theorem t_Tr_digestNone {g : GG} (G : Gok g) {σ : AH} {t : Nat} (ht : t < 4) (hth : σ.1 (tI t) 11 = 0) (h : Int64) : TerL g 2 m_Tr_digestFrom [rV (tI t), lV h] σ (fun r τ => r = 31 * h - 1 ∧ τ = σ) := by
  refine TerL.mk G (by decide +kernel) rfl (Nat.le_of_ble_eq_true rfl) (fun K B Rt => ?_)
  have B : Cx g K prog_7_method_22_code 7 R_Tr 2 := B
  have Rt : RetL g K prog_7_method_22_code 7 (fun r τ => r = 31 * h - 1 ∧ τ = σ) := Rt
  show AW g K 7 0 [(0, rV (tI t)), (1, lV h)] [] σ
  refine a_aload_n B d_Tr_digestFrom_0 rfl rfl ?_
  refine gf_Tr_there B (by first | assumption | omega) d_Tr_digestFrom_1 fl_Tr_46 ?_
  rw [hth]
  first | refine b_if_ne_b B 15 d_Tr_digestFrom_4 rfl (fun c_4 => ?_) (fun c_4 => ?_) | refine a_if_ne B 15 d_Tr_digestFrom_4 rfl (fun c_4 => ?_) (fun c_4 => ?_)
  · skip
    exact absurd rfl c_4
  refine a_ldc2 B d_Tr_digestFrom_7 kl_Tr_97 ?_
  refine a_lload_n B d_Tr_digestFrom_10 rfl rfl ?_
  refine a_lmul B d_Tr_digestFrom_11 ?_
  refine a_lconst (v := 1) B d_Tr_digestFrom_12 rfl ?_
  refine a_lsub B d_Tr_digestFrom_13 ?_
  exact Rt _ _ _ _ d_Tr_digestFrom_14 ⟨rfl, rfl⟩
