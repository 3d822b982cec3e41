/-! the rows -/
theorem nI_min {a b : Nat} (ha : a < 2 ^ 31) (hb : b < 2 ^ 31) : (if nI b < nI a then nI b else nI a) = nI (min a b) := by
  by_cases h : b < a
  · rw [if_pos ((nI_lt' hb ha).mpr h), Nat.min_eq_right (by omega)]
  · rw [if_neg (fun q => h ((nI_lt' hb ha).mp q)), Nat.min_eq_left (by omega)]
theorem nI_max {a b : Nat} (ha : a < 2 ^ 31) (hb : b < 2 ^ 31) : (if nI a < nI b then nI b else nI a) = nI (max a b) := by
  by_cases h : a < b
  · rw [if_pos ((nI_lt' ha hb).mpr h), Nat.max_eq_right (by omega)]
  · rw [if_neg (fun q => h ((nI_lt' ha hb).mp q)), Nat.max_eq_left (by omega)]
/-- UNLIKENESS of two leaves, by how many leaves there are and what the rows tell -/
def unl (n : Nat) (th : Nat → Bool) (pl : Nat → Nat → Nat) (a b : Nat) : Nat := if a = b ∨ n ≤ max a b ∨ th (max a b) = false then 0 else pl (max a b) (min a b)
/-- the class's rows -/
def RoC (σ : AH) (n : Nat) (th : Nat → Bool) (pl : Nat → Nat → Nat) : Prop := σ.1 1 2 = nI n ∧ n ≤ 10 ∧ (∀ i, i < 10 → σ.1 3 i = bI (th i)) ∧ (∀ i j, i < 10 → j < 10 → σ.1 (20 + i) j = nI (pl i j)) ∧ (∀ i j, pl i j ≤ 10000)
theorem RoC.of {σ τ : AH} {n : Nat} {th : Nat → Bool} {pl : Nat → Nat → Nat} (h : RoC σ n th pl) (h1 : τ.1 1 = σ.1 1) (h3 : τ.1 3 = σ.1 3) (h20 : ∀ i, i < 10 → τ.1 (20 + i) = σ.1 (20 + i)) : RoC τ n th pl := by
  obtain ⟨a, b, c, d, e⟩ := h
  exact ⟨by rw [h1]; exact a, b, fun i hi => by rw [h3]; exact c i hi, fun i j hi hj => by rw [h20 i hi]; exact d i j hi hj, e⟩
def dgIn (f : Nat → Int32) : Nat → Int64 → Int64
  | 0, h => h
  | k + 1, h => 31 * dgIn f k h + (f k).toInt64
def dgRow (t : Bool) (f : Nat → Int32) (h : Int64) : Int64 := if t then dgIn f 10 h else 31 * h - 1
def dgRows (th : Nat → Bool) (pl : Nat → Nat → Nat) : Nat → Int64 → Int64
  | 0, h => h
  | i + 1, h => dgRow (th i) (fun j => nI (pl i j)) (dgRows th pl i h)
def cntB (p : Nat → Bool) : Nat → Nat
  | 0 => 0
  | k + 1 => cntB p k + (if p k then 1 else 0)
theorem d_Ro_unlikeness_0 : decode prog_6_method_2_code 0 = .ok (.iload_n 1, 1) := by decide +kernel
theorem d_Ro_unlikeness_1 : decode prog_6_method_2_code 1 = .ok (.iload_n 2, 1) := by decide +kernel
theorem d_Ro_unlikeness_2 : decode prog_6_method_2_code 2 = .ok (.invokestatic 24, 3) := by decide +kernel
theorem d_Ro_unlikeness_5 : decode prog_6_method_2_code 5 = .ok (.istore_n 3, 1) := by decide +kernel
theorem d_Ro_unlikeness_6 : decode prog_6_method_2_code 6 = .ok (.iload_n 1, 1) := by decide +kernel
theorem d_Ro_unlikeness_7 : decode prog_6_method_2_code 7 = .ok (.iload_n 2, 1) := by decide +kernel
theorem d_Ro_unlikeness_8 : decode prog_6_method_2_code 8 = .ok (.invokestatic 30, 3) := by decide +kernel
theorem d_Ro_unlikeness_11 : decode prog_6_method_2_code 11 = .ok (.istore 4, 2) := by decide +kernel
theorem d_Ro_unlikeness_13 : decode prog_6_method_2_code 13 = .ok (.iload_n 3, 1) := by decide +kernel
theorem d_Ro_unlikeness_14 : decode prog_6_method_2_code 14 = .ok (.ifCond .lt 28, 3) := by decide +kernel
theorem d_Ro_unlikeness_17 : decode prog_6_method_2_code 17 = .ok (.iload_n 3, 1) := by decide +kernel
theorem d_Ro_unlikeness_18 : decode prog_6_method_2_code 18 = .ok (.iload 4, 2) := by decide +kernel
theorem d_Ro_unlikeness_20 : decode prog_6_method_2_code 20 = .ok (.if_icmp .eq 22, 3) := by decide +kernel
theorem d_Ro_unlikeness_23 : decode prog_6_method_2_code 23 = .ok (.iload 4, 2) := by decide +kernel
theorem d_Ro_unlikeness_25 : decode prog_6_method_2_code 25 = .ok (.aload_n 0, 1) := by decide +kernel
theorem d_Ro_unlikeness_26 : decode prog_6_method_2_code 26 = .ok (.getfield 20, 3) := by decide +kernel
theorem d_Ro_unlikeness_29 : decode prog_6_method_2_code 29 = .ok (.if_icmp .ge 13, 3) := by decide +kernel
theorem d_Ro_unlikeness_32 : decode prog_6_method_2_code 32 = .ok (.aload_n 0, 1) := by decide +kernel
theorem d_Ro_unlikeness_33 : decode prog_6_method_2_code 33 = .ok (.getfield 16, 3) := by decide +kernel
theorem d_Ro_unlikeness_36 : decode prog_6_method_2_code 36 = .ok (.iload 4, 2) := by decide +kernel
theorem d_Ro_unlikeness_38 : decode prog_6_method_2_code 38 = .ok (.baload, 1) := by decide +kernel
theorem d_Ro_unlikeness_39 : decode prog_6_method_2_code 39 = .ok (.ifCond .ne 5, 3) := by decide +kernel
theorem d_Ro_unlikeness_42 : decode prog_6_method_2_code 42 = .ok (.iconst 0, 1) := by decide +kernel
theorem d_Ro_unlikeness_43 : decode prog_6_method_2_code 43 = .ok (.ireturn, 1) := by decide +kernel
theorem d_Ro_unlikeness_44 : decode prog_6_method_2_code 44 = .ok (.aload_n 0, 1) := by decide +kernel
theorem d_Ro_unlikeness_45 : decode prog_6_method_2_code 45 = .ok (.getfield 11, 3) := by decide +kernel
theorem d_Ro_unlikeness_48 : decode prog_6_method_2_code 48 = .ok (.iload 4, 2) := by decide +kernel
theorem d_Ro_unlikeness_50 : decode prog_6_method_2_code 50 = .ok (.aaload, 1) := by decide +kernel
theorem d_Ro_unlikeness_51 : decode prog_6_method_2_code 51 = .ok (.iload_n 3, 1) := by decide +kernel
theorem d_Ro_unlikeness_52 : decode prog_6_method_2_code 52 = .ok (.iaload, 1) := by decide +kernel
theorem d_Ro_unlikeness_53 : decode prog_6_method_2_code 53 = .ok (.ireturn, 1) := by decide +kernel
set_option maxRecDepth 20000 in
theorem t_Ro_unlikeness {g : GG} (G : Gok g) {σ : AH} {n : Nat} {th : Nat → Bool} {pl : Nat → Nat → Nat} (hR : RoC σ n th pl) {a b : Nat} (ha : a < 10) (hb : b < 10) : TerI g 1 m_Ro_unlikeness [rV 1, iV (nI a), iV (nI b)] σ (fun r τ => r = nI (unl n th pl a b) ∧ τ = σ) := by
  refine TerI.mk G (by decide +kernel) rfl (Nat.le_of_ble_eq_true rfl) (fun K B Rt => ?_)
  have B : Cx g K prog_6_method_2_code 5 R_Ro 1 := B
  have Rt : RetI g K prog_6_method_2_code 5 (fun r τ => r = nI (unl n th pl a b) ∧ τ = σ) := Rt
  show AW g K 5 0 [(0, rV 1), (1, iV (nI a)), (2, iV (nI b))] [] σ
  obtain ⟨hN, hn, hth, hpl, hbd⟩ := hR
  refine a_iload_n B d_Ro_unlikeness_0 rfl rfl ?_
  refine a_iload_n B d_Ro_unlikeness_1 rfl rfl ?_
  refine a_mmin B (by decide) (Nat.le_of_ble_eq_true rfl) d_Ro_unlikeness_2 ml_Ro_24 ?_
  rw [nI_min (by omega) (by omega)]
  refine a_istore_n (lv1 := [(0, _), (1, _), (2, _), (3, _)]) B d_Ro_unlikeness_5 rfl (by decide) rfl ?_
  refine a_iload_n B d_Ro_unlikeness_6 rfl rfl ?_
  refine a_iload_n B d_Ro_unlikeness_7 rfl rfl ?_
  refine a_mmax B (by decide) (Nat.le_of_ble_eq_true rfl) d_Ro_unlikeness_8 ml_Ro_30 ?_
  rw [nI_max (by omega) (by omega)]
  refine a_istore (lv1 := [(0, _), (1, _), (2, _), (3, _), (4, _)]) B d_Ro_unlikeness_11 (by decide) rfl ?_
  refine a_iload_n B d_Ro_unlikeness_13 rfl rfl ?_
  refine b_if_lt B 42 d_Ro_unlikeness_14 rfl (by first | assumption | omega) ?_
  refine a_iload_n B d_Ro_unlikeness_17 rfl rfl ?_
  refine a_iload B d_Ro_unlikeness_18 rfl ?_
  first | refine b_icmp_eq B 42 d_Ro_unlikeness_20 rfl (by omega) (by omega) (fun c_20 => ?_) (fun c_20 => ?_) | refine a_icmp_eq B 42 d_Ro_unlikeness_20 rfl (fun c_20 => ?_) (fun c_20 => ?_)
  · skip
    refine a_iconst B d_Ro_unlikeness_42 ci_0 ?_
    exact Rt _ _ _ _ d_Ro_unlikeness_43 ⟨by rw [unl, if_pos (by first | (left; omega) | (right; left; omega) | (right; right; assumption))], rfl⟩
  refine a_iload B d_Ro_unlikeness_23 rfl ?_
  refine a_aload_n B d_Ro_unlikeness_25 rfl rfl ?_
  refine gf_Ro_leafCount B d_Ro_unlikeness_26 fl_Ro_20 ?_
  rw [hN]
  first | refine b_icmp_ge B 42 d_Ro_unlikeness_29 rfl (by omega) (by omega) (fun c_29 => ?_) (fun c_29 => ?_) | refine a_icmp_ge B 42 d_Ro_unlikeness_29 rfl (fun c_29 => ?_) (fun c_29 => ?_)
  · skip
    refine a_iconst B d_Ro_unlikeness_42 ci_0 ?_
    exact Rt _ _ _ _ d_Ro_unlikeness_43 ⟨by rw [unl, if_pos (by first | (left; omega) | (right; left; omega) | (right; right; assumption))], rfl⟩
  refine a_aload_n B d_Ro_unlikeness_32 rfl rfl ?_
  refine gf_Ro_there B d_Ro_unlikeness_33 fl_Ro_16 ?_
  refine a_iload B d_Ro_unlikeness_36 rfl ?_
  refine a_zald B ly_3 _ rfl (by first | assumption | omega) d_Ro_unlikeness_38 ?_
  rw [hth _ (by omega)]
  first | refine b_if_ne_b B 44 d_Ro_unlikeness_39 rfl (fun c_39 => ?_) (fun c_39 => ?_) | refine a_if_ne B 44 d_Ro_unlikeness_39 rfl (fun c_39 => ?_) (fun c_39 => ?_)
  · skip
    refine a_aload_n B d_Ro_unlikeness_44 rfl rfl ?_
    refine gf_Ro_places B d_Ro_unlikeness_45 fl_Ro_11 ?_
    refine a_iload B d_Ro_unlikeness_48 rfl ?_
    refine al_pl B _ rfl (by first | assumption | omega) d_Ro_unlikeness_50 ?_
    refine a_iload_n B d_Ro_unlikeness_51 rfl rfl ?_
    refine a_iald B (ly_pl (by first | assumption | omega)) _ rfl (by first | assumption | omega) d_Ro_unlikeness_52 ?_
    rw [hpl _ _ (by omega) (by omega)]
    exact Rt _ _ _ _ d_Ro_unlikeness_53 ⟨by rw [unl, if_neg (by rintro (h | h | h); omega; omega; rw [c_39] at h; cases h)], rfl⟩
  refine a_iconst B d_Ro_unlikeness_42 ci_0 ?_
  exact Rt _ _ _ _ d_Ro_unlikeness_43 ⟨by rw [unl, if_pos (by first | (left; omega) | (right; left; omega) | (right; right; assumption))], rfl⟩
theorem d_Ro_countThere_0 : decode prog_6_method_3_code 0 = .ok (.iconst 0, 1) := by decide +kernel
theorem d_Ro_countThere_1 : decode prog_6_method_3_code 1 = .ok (.istore_n 1, 1) := by decide +kernel
theorem d_Ro_countThere_2 : decode prog_6_method_3_code 2 = .ok (.iconst 0, 1) := by decide +kernel
theorem d_Ro_countThere_3 : decode prog_6_method_3_code 3 = .ok (.istore_n 2, 1) := by decide +kernel
theorem d_Ro_countThere_4 : decode prog_6_method_3_code 4 = .ok (.iload_n 2, 1) := by decide +kernel
theorem d_Ro_countThere_5 : decode prog_6_method_3_code 5 = .ok (.bipush 10, 2) := by decide +kernel
theorem d_Ro_countThere_7 : decode prog_6_method_3_code 7 = .ok (.if_icmp .ge 21, 3) := by decide +kernel
theorem d_Ro_countThere_10 : decode prog_6_method_3_code 10 = .ok (.aload_n 0, 1) := by decide +kernel
theorem d_Ro_countThere_11 : decode prog_6_method_3_code 11 = .ok (.getfield 16, 3) := by decide +kernel
theorem d_Ro_countThere_14 : decode prog_6_method_3_code 14 = .ok (.iload_n 2, 1) := by decide +kernel
theorem d_Ro_countThere_15 : decode prog_6_method_3_code 15 = .ok (.baload, 1) := by decide +kernel
theorem d_Ro_countThere_16 : decode prog_6_method_3_code 16 = .ok (.ifCond .eq 6, 3) := by decide +kernel
theorem d_Ro_countThere_19 : decode prog_6_method_3_code 19 = .ok (.iinc 1 1, 3) := by decide +kernel
theorem d_Ro_countThere_22 : decode prog_6_method_3_code 22 = .ok (.iinc 2 1, 3) := by decide +kernel
theorem d_Ro_countThere_25 : decode prog_6_method_3_code 25 = .ok (.goto (-21), 3) := by decide +kernel
theorem d_Ro_countThere_28 : decode prog_6_method_3_code 28 = .ok (.iload_n 1, 1) := by decide +kernel
theorem d_Ro_countThere_29 : decode prog_6_method_3_code 29 = .ok (.ireturn, 1) := by decide +kernel
set_option maxRecDepth 20000 in
theorem t_Ro_countThere {g : GG} (G : Gok g) {σ : AH} {n : Nat} {th : Nat → Bool} {pl : Nat → Nat → Nat} (hR : RoC σ n th pl) : TerI g 0 m_Ro_countThere [rV 1] σ (fun r τ => r = nI (cntB th 10) ∧ τ = σ) := by
  refine TerI.mk G (by decide +kernel) rfl (Nat.le_of_ble_eq_true rfl) (fun K B Rt => ?_)
  have B : Cx g K prog_6_method_3_code 3 R_Ro 0 := B
  have Rt : RetI g K prog_6_method_3_code 3 (fun r τ => r = nI (cntB th 10) ∧ τ = σ) := Rt
  show AW g K 3 0 [(0, rV 1)] [] σ
  obtain ⟨hN, hn, hth, hpl, hbd⟩ := hR
  refine a_iconst B d_Ro_countThere_0 ci_0 ?_
  refine a_istore_n (lv1 := [(0, _), (1, _)]) B d_Ro_countThere_1 rfl (by decide) rfl ?_
  refine a_iconst B d_Ro_countThere_2 ci_0 ?_
  refine a_istore_n (lv1 := [(0, _), (1, _), (2, _)]) B d_Ro_countThere_3 rfl (by decide) rfl ?_
  refine a_for (lf := fun i => [(0, rV 1), (1, iV (nI (cntB th i))), (2, iV (nI i))]) (τ := fun i => σ) 10 (fun i hi ihi => ?_) ?_ 0 (Nat.zero_le _)
  · skip
    refine a_iload_n B d_Ro_countThere_4 rfl rfl ?_
    refine a_bipush B d_Ro_countThere_5 cb_10 ?_
    first | refine b_icmp_ge B 28 d_Ro_countThere_7 rfl (by omega) (by omega) (fun c_7 => ?_) (fun c_7 => ?_) | refine a_icmp_ge B 28 d_Ro_countThere_7 rfl (fun c_7 => ?_) (fun c_7 => ?_)
    · skip
      exact absurd c_7 (by omega)
    refine a_aload_n B d_Ro_countThere_10 rfl rfl ?_
    refine gf_Ro_there B d_Ro_countThere_11 fl_Ro_16 ?_
    refine a_iload_n B d_Ro_countThere_14 rfl rfl ?_
    refine a_zald B ly_3 _ rfl (by first | assumption | omega) d_Ro_countThere_15 ?_
    rw [hth _ (by omega)]
    first | refine b_if_eq_b B 22 d_Ro_countThere_16 rfl (fun c_16 => ?_) (fun c_16 => ?_) | refine a_if_eq B 22 d_Ro_countThere_16 rfl (fun c_16 => ?_) (fun c_16 => ?_)
    · skip
      first | refine b_iinc (lv1 := [(0, _), (1, _), (2, _)]) B d_Ro_countThere_22 rfl ci_1 (by decide) rfl ?_ | refine a_iinc (lv1 := [(0, _), (1, _), (2, _)]) B d_Ro_countThere_22 rfl rfl (by decide) rfl ?_
      refine a_goto B 4 d_Ro_countThere_25 rfl ?_
      first | (have e : cntB th (i + 1) = cntB th i + 1 := by simp [cntB, c_16]) | (have e : cntB th (i + 1) = cntB th i := by simp [cntB, c_16])
      rw [e] at ihi
      exact ihi
    first | refine b_iinc (lv1 := [(0, _), (1, _), (2, _)]) B d_Ro_countThere_19 rfl ci_1 (by decide) rfl ?_ | refine a_iinc (lv1 := [(0, _), (1, _), (2, _)]) B d_Ro_countThere_19 rfl rfl (by decide) rfl ?_
    first | refine b_iinc (lv1 := [(0, _), (1, _), (2, _)]) B d_Ro_countThere_22 rfl ci_1 (by decide) rfl ?_ | refine a_iinc (lv1 := [(0, _), (1, _), (2, _)]) B d_Ro_countThere_22 rfl rfl (by decide) rfl ?_
    refine a_goto B 4 d_Ro_countThere_25 rfl ?_
    first | (have e : cntB th (i + 1) = cntB th i + 1 := by simp [cntB, c_16]) | (have e : cntB th (i + 1) = cntB th i := by simp [cntB, c_16])
    rw [e] at ihi
    exact ihi
  · skip
    refine a_iload_n B d_Ro_countThere_4 rfl rfl ?_
    refine a_bipush B d_Ro_countThere_5 cb_10 ?_
    first | refine b_icmp_ge B 28 d_Ro_countThere_7 rfl (by omega) (by omega) (fun c_7 => ?_) (fun c_7 => ?_) | refine a_icmp_ge B 28 d_Ro_countThere_7 rfl (fun c_7 => ?_) (fun c_7 => ?_)
    · skip
      refine a_iload_n B d_Ro_countThere_28 rfl rfl ?_
      exact Rt _ _ _ _ d_Ro_countThere_29 ⟨rfl, rfl⟩
    exact absurd c_7 (by omega)
theorem d_Ro_digestFrom_0 : decode prog_6_method_4_code 0 = .ok (.lload_n 1, 1) := by decide +kernel
theorem d_Ro_digestFrom_1 : decode prog_6_method_4_code 1 = .ok (.lstore_n 3, 1) := by decide +kernel
theorem d_Ro_digestFrom_2 : decode prog_6_method_4_code 2 = .ok (.iconst 0, 1) := by decide +kernel
theorem d_Ro_digestFrom_3 : decode prog_6_method_4_code 3 = .ok (.istore 5, 2) := by decide +kernel
theorem d_Ro_digestFrom_5 : decode prog_6_method_4_code 5 = .ok (.iload 5, 2) := by decide +kernel
theorem d_Ro_digestFrom_7 : decode prog_6_method_4_code 7 = .ok (.bipush 10, 2) := by decide +kernel
theorem d_Ro_digestFrom_9 : decode prog_6_method_4_code 9 = .ok (.if_icmp .ge 64, 3) := by decide +kernel
theorem d_Ro_digestFrom_12 : decode prog_6_method_4_code 12 = .ok (.aload_n 0, 1) := by decide +kernel
theorem d_Ro_digestFrom_13 : decode prog_6_method_4_code 13 = .ok (.getfield 16, 3) := by decide +kernel
theorem d_Ro_digestFrom_16 : decode prog_6_method_4_code 16 = .ok (.iload 5, 2) := by decide +kernel
theorem d_Ro_digestFrom_18 : decode prog_6_method_4_code 18 = .ok (.baload, 1) := by decide +kernel
theorem d_Ro_digestFrom_19 : decode prog_6_method_4_code 19 = .ok (.ifCond .ne 14, 3) := by decide +kernel
theorem d_Ro_digestFrom_22 : decode prog_6_method_4_code 22 = .ok (.ldc2_w 33, 3) := by decide +kernel
theorem d_Ro_digestFrom_25 : decode prog_6_method_4_code 25 = .ok (.lload_n 3, 1) := by decide +kernel
theorem d_Ro_digestFrom_26 : decode prog_6_method_4_code 26 = .ok (.lmul, 1) := by decide +kernel
theorem d_Ro_digestFrom_27 : decode prog_6_method_4_code 27 = .ok (.lconst 1, 1) := by decide +kernel
theorem d_Ro_digestFrom_28 : decode prog_6_method_4_code 28 = .ok (.lsub, 1) := by decide +kernel
theorem d_Ro_digestFrom_29 : decode prog_6_method_4_code 29 = .ok (.lstore_n 3, 1) := by decide +kernel
theorem d_Ro_digestFrom_30 : decode prog_6_method_4_code 30 = .ok (.goto 37, 3) := by decide +kernel
theorem d_Ro_digestFrom_33 : decode prog_6_method_4_code 33 = .ok (.iconst 0, 1) := by decide +kernel
theorem d_Ro_digestFrom_34 : decode prog_6_method_4_code 34 = .ok (.istore 6, 2) := by decide +kernel
theorem d_Ro_digestFrom_36 : decode prog_6_method_4_code 36 = .ok (.iload 6, 2) := by decide +kernel
theorem d_Ro_digestFrom_38 : decode prog_6_method_4_code 38 = .ok (.bipush 10, 2) := by decide +kernel
theorem d_Ro_digestFrom_40 : decode prog_6_method_4_code 40 = .ok (.if_icmp .ge 27, 3) := by decide +kernel
theorem d_Ro_digestFrom_43 : decode prog_6_method_4_code 43 = .ok (.ldc2_w 33, 3) := by decide +kernel
theorem d_Ro_digestFrom_46 : decode prog_6_method_4_code 46 = .ok (.lload_n 3, 1) := by decide +kernel
theorem d_Ro_digestFrom_47 : decode prog_6_method_4_code 47 = .ok (.lmul, 1) := by decide +kernel
theorem d_Ro_digestFrom_48 : decode prog_6_method_4_code 48 = .ok (.aload_n 0, 1) := by decide +kernel
theorem d_Ro_digestFrom_49 : decode prog_6_method_4_code 49 = .ok (.getfield 11, 3) := by decide +kernel
theorem d_Ro_digestFrom_52 : decode prog_6_method_4_code 52 = .ok (.iload 5, 2) := by decide +kernel
theorem d_Ro_digestFrom_54 : decode prog_6_method_4_code 54 = .ok (.aaload, 1) := by decide +kernel
theorem d_Ro_digestFrom_55 : decode prog_6_method_4_code 55 = .ok (.iload 6, 2) := by decide +kernel
theorem d_Ro_digestFrom_57 : decode prog_6_method_4_code 57 = .ok (.iaload, 1) := by decide +kernel
theorem d_Ro_digestFrom_58 : decode prog_6_method_4_code 58 = .ok (.i2l, 1) := by decide +kernel
theorem d_Ro_digestFrom_59 : decode prog_6_method_4_code 59 = .ok (.ladd, 1) := by decide +kernel
theorem d_Ro_digestFrom_60 : decode prog_6_method_4_code 60 = .ok (.lstore_n 3, 1) := by decide +kernel
theorem d_Ro_digestFrom_61 : decode prog_6_method_4_code 61 = .ok (.iinc 6 1, 3) := by decide +kernel
theorem d_Ro_digestFrom_64 : decode prog_6_method_4_code 64 = .ok (.goto (-28), 3) := by decide +kernel
theorem d_Ro_digestFrom_67 : decode prog_6_method_4_code 67 = .ok (.iinc 5 1, 3) := by decide +kernel
theorem d_Ro_digestFrom_70 : decode prog_6_method_4_code 70 = .ok (.goto (-65), 3) := by decide +kernel
theorem d_Ro_digestFrom_73 : decode prog_6_method_4_code 73 = .ok (.lload_n 3, 1) := by decide +kernel
theorem d_Ro_digestFrom_74 : decode prog_6_method_4_code 74 = .ok (.lreturn, 1) := by decide +kernel
set_option maxRecDepth 20000 in
theorem t_Ro_digestFrom {g : GG} (G : Gok g) {σ : AH} {n : Nat} {th : Nat → Bool} {pl : Nat → Nat → Nat} (hR : RoC σ n th pl) (h : Int64) : TerL g 0 m_Ro_digestFrom [rV 1, lV h] σ (fun r τ => r = dgRows th pl 10 h ∧ τ = σ) := by
  refine TerL.mk G (by decide +kernel) rfl (Nat.le_of_ble_eq_true rfl) (fun K B Rt => ?_)
  have B : Cx g K prog_6_method_4_code 7 R_Ro 0 := B
  have Rt : RetL g K prog_6_method_4_code 7 (fun r τ => r = dgRows th pl 10 h ∧ τ = σ) := Rt
  show AW g K 7 0 [(0, rV 1), (1, lV h)] [] σ
  obtain ⟨hN, hn, hth, hpl, hbd⟩ := hR
  refine a_lload_n B d_Ro_digestFrom_0 rfl rfl ?_
  refine a_lstore_n (lv1 := [(0, _), (1, _), (3, _)]) B d_Ro_digestFrom_1 rfl (by decide) rfl ?_
  refine a_iconst B d_Ro_digestFrom_2 ci_0 ?_
  refine a_istore (lv1 := [(0, _), (1, _), (3, _), (5, _)]) B d_Ro_digestFrom_3 (by decide) rfl ?_
  refine a_for (lf := fun i => [(0, rV 1), (1, lV h), (3, lV (dgRows th pl i h)), (5, iV (nI i))]) (τ := fun i => σ) 10 (fun i hi ihi => ?_) ?_ 0 (Nat.zero_le _)
  · skip
    refine a_iload B d_Ro_digestFrom_5 rfl ?_
    refine a_bipush B d_Ro_digestFrom_7 cb_10 ?_
    first | refine b_icmp_ge B 73 d_Ro_digestFrom_9 rfl (by omega) (by omega) (fun c_9 => ?_) (fun c_9 => ?_) | refine a_icmp_ge B 73 d_Ro_digestFrom_9 rfl (fun c_9 => ?_) (fun c_9 => ?_)
    · skip
      exact absurd c_9 (by omega)
    refine a_aload_n B d_Ro_digestFrom_12 rfl rfl ?_
    refine gf_Ro_there B d_Ro_digestFrom_13 fl_Ro_16 ?_
    refine a_iload B d_Ro_digestFrom_16 rfl ?_
    refine a_zald B ly_3 _ rfl (by first | assumption | omega) d_Ro_digestFrom_18 ?_
    rw [hth _ (by omega)]
    first | refine b_if_ne_b B 33 d_Ro_digestFrom_19 rfl (fun c_19 => ?_) (fun c_19 => ?_) | refine a_if_ne B 33 d_Ro_digestFrom_19 rfl (fun c_19 => ?_) (fun c_19 => ?_)
    · skip
      refine a_iconst B d_Ro_digestFrom_33 ci_0 ?_
      refine a_istore (lv1 := [(0, _), (1, _), (3, _), (5, _), (6, _)]) B d_Ro_digestFrom_34 (by decide) rfl ?_
      refine a_for (lf := fun j => [(0, rV 1), (1, lV h), (3, lV (dgIn (fun j => nI (pl i j)) j (dgRows th pl i h))), (5, iV (nI i)), (6, iV (nI j))]) (τ := fun j => σ) 10 (fun j hj ihj => ?_) ?_ 0 (Nat.zero_le _)
      · skip
        refine a_iload B d_Ro_digestFrom_36 rfl ?_
        refine a_bipush B d_Ro_digestFrom_38 cb_10 ?_
        first | refine b_icmp_ge B 67 d_Ro_digestFrom_40 rfl (by omega) (by omega) (fun c_40 => ?_) (fun c_40 => ?_) | refine a_icmp_ge B 67 d_Ro_digestFrom_40 rfl (fun c_40 => ?_) (fun c_40 => ?_)
        · skip
          exact absurd c_40 (by omega)
        refine a_ldc2 B d_Ro_digestFrom_43 kl_Ro_33 ?_
        refine a_lload_n B d_Ro_digestFrom_46 rfl rfl ?_
        refine a_lmul B d_Ro_digestFrom_47 ?_
        refine a_aload_n B d_Ro_digestFrom_48 rfl rfl ?_
        refine gf_Ro_places B d_Ro_digestFrom_49 fl_Ro_11 ?_
        refine a_iload B d_Ro_digestFrom_52 rfl ?_
        refine al_pl B _ rfl (by first | assumption | omega) d_Ro_digestFrom_54 ?_
        refine a_iload B d_Ro_digestFrom_55 rfl ?_
        refine a_iald B (ly_pl (by first | assumption | omega)) _ rfl (by first | assumption | omega) d_Ro_digestFrom_57 ?_
        rw [hpl _ _ (by omega) (by omega)]
        refine a_i2l B d_Ro_digestFrom_58 ?_
        refine a_ladd B d_Ro_digestFrom_59 ?_
        refine a_lstore_n (lv1 := [(0, _), (1, _), (3, _), (5, _), (6, _)]) B d_Ro_digestFrom_60 rfl (by decide) rfl ?_
        first | refine b_iinc (lv1 := [(0, _), (1, _), (3, _), (5, _), (6, _)]) B d_Ro_digestFrom_61 rfl ci_1 (by decide) rfl ?_ | refine a_iinc (lv1 := [(0, _), (1, _), (3, _), (5, _), (6, _)]) B d_Ro_digestFrom_61 rfl rfl (by decide) rfl ?_
        refine a_goto B 36 d_Ro_digestFrom_64 rfl ?_
        exact ihj
      · skip
        refine a_iload B d_Ro_digestFrom_36 rfl ?_
        refine a_bipush B d_Ro_digestFrom_38 cb_10 ?_
        first | refine b_icmp_ge B 67 d_Ro_digestFrom_40 rfl (by omega) (by omega) (fun c_40 => ?_) (fun c_40 => ?_) | refine a_icmp_ge B 67 d_Ro_digestFrom_40 rfl (fun c_40 => ?_) (fun c_40 => ?_)
        · skip
          first | refine b_iinc (lv1 := [(0, _), (1, _), (3, _), (5, _), (6, _)]) B d_Ro_digestFrom_67 rfl ci_1 (by decide) rfl ?_ | refine a_iinc (lv1 := [(0, _), (1, _), (3, _), (5, _), (6, _)]) B d_Ro_digestFrom_67 rfl rfl (by decide) rfl ?_
          refine a_goto B 5 d_Ro_digestFrom_70 rfl ?_
          refine a_sub (lv1 := [(0, _), (1, _), (3, _), (5, _)]) rfl ?_
          have e : dgRows th pl (i + 1) h = dgIn (fun j => nI (pl i j)) 10 (dgRows th pl i h) := by simp [dgRows, dgRow, c_19]
          rw [e] at ihi
          exact ihi
        exact absurd c_40 (by omega)
    refine a_ldc2 B d_Ro_digestFrom_22 kl_Ro_33 ?_
    refine a_lload_n B d_Ro_digestFrom_25 rfl rfl ?_
    refine a_lmul B d_Ro_digestFrom_26 ?_
    refine a_lconst (v := 1) B d_Ro_digestFrom_27 rfl ?_
    refine a_lsub B d_Ro_digestFrom_28 ?_
    refine a_lstore_n (lv1 := [(0, _), (1, _), (3, _), (5, _)]) B d_Ro_digestFrom_29 rfl (by decide) rfl ?_
    refine a_goto B 67 d_Ro_digestFrom_30 rfl ?_
    first | refine b_iinc (lv1 := [(0, _), (1, _), (3, _), (5, _)]) B d_Ro_digestFrom_67 rfl ci_1 (by decide) rfl ?_ | refine a_iinc (lv1 := [(0, _), (1, _), (3, _), (5, _)]) B d_Ro_digestFrom_67 rfl rfl (by decide) rfl ?_
    refine a_goto B 5 d_Ro_digestFrom_70 rfl ?_
    have e : dgRows th pl (i + 1) h = 31 * dgRows th pl i h - 1 := by simp [dgRows, dgRow, c_19]
    rw [e] at ihi
    exact ihi
  · skip
    refine a_iload B d_Ro_digestFrom_5 rfl ?_
    refine a_bipush B d_Ro_digestFrom_7 cb_10 ?_
    first | refine b_icmp_ge B 73 d_Ro_digestFrom_9 rfl (by omega) (by omega) (fun c_9 => ?_) (fun c_9 => ?_) | refine a_icmp_ge B 73 d_Ro_digestFrom_9 rfl (fun c_9 => ?_) (fun c_9 => ?_)
    · skip
      refine a_lload_n B d_Ro_digestFrom_73 rfl rfl ?_
      exact Rt _ _ _ _ d_Ro_digestFrom_74 ⟨rfl, rfl⟩
    exact absurd c_9 (by omega)
