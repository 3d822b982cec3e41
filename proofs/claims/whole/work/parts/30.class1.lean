/-! the class: what its private methods tell, and the calls on leaves and rows -/
theorem TrC_of {σ τ : AH} {t : Nat} {T : TT} (h : TrC σ t T) (e : ∀ k, tI t ≤ k → k ≤ tI t + 10 → τ.1 k = σ.1 k) : TrC τ t T := by
  rcases h with ⟨h1, h2⟩ | ⟨h1, h2, h3, h4, h5, h6⟩
  · exact Or.inl ⟨h1, by rw [e _ (by omega) (by omega)]; exact h2⟩
  · exact Or.inr ⟨h1, by rw [e _ (by omega) (by omega)]; exact h2, h3, h4.of rfl rfl rfl rfl rfl (e _ (by omega) (by omega)) (e _ (by omega) (by omega)) (e _ (by omega) (by omega)) (e _ (by omega) (by omega)) (e _ (by omega) (by omega)) (e _ (by omega) (by omega)), h5.of (e _ (by omega) (by omega)) (e _ (by omega) (by omega)) (e _ (by omega) (by omega)), h6.of (e _ (by omega) (by omega)) (e _ (by omega) (by omega))⟩
theorem MiC_of {σ τ : AH} {S : Sp} (h : MiC σ S) (e0 : τ.1 0 = σ.1 0) (e11 : τ.1 11 = σ.1 11) (e14 : τ.1 14 = σ.1 14) (e15 : τ.1 15 = σ.1 15) (e16 : τ.1 16 = σ.1 16) (e17 : τ.1 17 = σ.1 17) (e18 : τ.1 18 = σ.1 18) : MiC τ S := by
  unfold MiC at h ⊢
  rw [e0, e11, e14, e15, e16, e17, e18]
  exact h
/-- nothing of the class changes but cells that a claim names -/
theorem RelC_rows {S : Sp} {σ τ : AH} {n : Nat} {th : Nat → Bool} {pl : Nat → Nat → Nat} (h : RelC S σ) (hR : RoC τ n th pl) (e : ∀ k, k ≠ 1 → k ≠ 3 → (k < 20 ∨ 30 ≤ k) → τ.1 k = σ.1 k) : RelC (pR (pN S n) th pl) τ := by
  obtain ⟨h1, h2, h3, h4⟩ := h
  refine ⟨hR, fun t ht => TrC_of (h2 t ht) (fun k q1 q2 => e k (by have : 58 ≤ tI t := Nat.le_add_right _ _; omega) (by have : 58 ≤ tI t := Nat.le_add_right _ _; omega) (by have : 58 ≤ tI t := Nat.le_add_right _ _; omega)), ?_, ?_⟩
  · exact MiC_of (S := S) h3 (e _ (by decide) (by decide) (by decide)) (e _ (by decide) (by decide) (by decide)) (e _ (by decide) (by decide) (by decide)) (e _ (by decide) (by decide) (by decide)) (e _ (by decide) (by decide) (by decide)) (e _ (by decide) (by decide) (by decide)) (e _ (by decide) (by decide) (by decide))
  · exact h4.of (e _ (by decide) (by decide) (by decide)) (fun a ha => e _ (by omega) (by omega) (by omega))
theorem RelC_asked {S : Sp} {σ : AH} {v : Int32} (h : RelC S σ) : RelC (pA S v) (up1 σ 0 (upd (σ.1 0) 10 v)) := by
  obtain ⟨h1, h2, h3, h4⟩ := h
  have e : ∀ k, k ≠ 0 → (up1 σ 0 (upd (σ.1 0) 10 v)).1 k = σ.1 k := fun k hk => up1_o hk
  refine ⟨h1.of (e _ (by decide)) (e _ (by decide)) (fun i hi => e _ (by omega)), fun t ht => TrC_of (h2 t ht) (fun k q1 q2 => e k (by have : 58 ≤ tI t := Nat.le_add_right _ _; omega)), ?_, h4.of (e _ (by decide)) (fun a ha => e _ (by omega))⟩
  obtain ⟨m1, m2, m3, m4, m5⟩ := h3
  unfold MiC
  rw [up1_s, e 15 (by decide), e 16 (by decide), e 17 (by decide), e 18 (by decide), e 11 (by decide), e 14 (by decide)]
  exact ⟨by rw [upd_s]; rfl, m2, m3, by rw [upd_o (by decide)]; exact m4, m5⟩
def ansH (σ : AH) (w : Nat) : AH := up1 (up1 σ 15 (upd (σ.1 15) 1 (nI w))) 16 (upd (σ.1 16) w (σ.1 16 w + 1))
theorem ansH_o {σ : AH} {w k : Nat} (h1 : k ≠ 15) (h2 : k ≠ 16) : (ansH σ w).1 k = σ.1 k := by
  unfold ansH
  rw [up1_o h2, up1_o h1]
theorem RelC_fnd {S : Sp} {σ : AH} {w : Nat} (h : RelC S σ) (hw : w < 6) : RelC (fnd S w) (ansH σ w) := by
  obtain ⟨h1, h2, h3, h4⟩ := h
  have e : ∀ k, k ≠ 15 → k ≠ 16 → (ansH σ w).1 k = σ.1 k := fun k => ansH_o
  refine ⟨h1.of (e _ (by decide) (by decide)) (e _ (by decide) (by decide)) (fun i hi => e _ (by omega) (by omega)), fun t ht => TrC_of (h2 t ht) (fun k q1 q2 => e k (by have : 58 ≤ tI t := Nat.le_add_right _ _; omega) (by have : 58 ≤ tI t := Nat.le_add_right _ _; omega)), ?_, h4.of (e _ (by decide) (by decide)) (fun a ha => e _ (by omega) (by omega))⟩
  obtain ⟨m1, m2, m3, m4, m5⟩ := h3
  unfold MiC
  rw [e 0 (by decide) (by decide), e 17 (by decide) (by decide), e 18 (by decide) (by decide), e 11 (by decide) (by decide), e 14 (by decide) (by decide)]
  refine ⟨m1, ?_, fun f hf => ?_, m4, m5⟩
  · unfold ansH
    rw [up1_o (by decide), up1_s, upd_s]
    rfl
  · unfold ansH
    rw [up1_s]
    show upd (σ.1 16) w (σ.1 16 w + 1) f = upd (sFs S) w (sFs S w + 1) f
    by_cases e9 : f = w
    · rw [e9, upd_s, upd_s, m3 w hw]
    · rw [upd_o e9, upd_o e9]; exact m3 f hf
theorem frC_ans {σ : AH} {w : Nat} : frC σ (ansH σ w) := fun k hk => ansH_o (by omega) (by omega)
theorem isS_t {α : Type} {o : Option α} (h : o.isSome = true) : ∃ i, o = some i := Option.isSome_iff_exists.mp h
theorem isS_f {α : Type} {o : Option α} (h : o.isSome = false) : o = none := by cases o with | none => rfl | some x => cases h
theorem rng_out {n : Nat} {x : Int32} (h : ¬ (0 ≤ x ∧ x < nI n)) : rngQ n x = none := if_neg h
theorem rng_in {n : Nat} {x : Int32} (h1 : 0 ≤ x) (h2 : x < nI n) : (rngQ n x).isSome = true := by unfold rngQ; rw [if_pos ⟨h1, h2⟩]; rfl
theorem rng_lo {n : Nat} {x : Int32} (h : x < 0) : (rngQ n x).isSome = false := by rw [rng_out (fun q => absurd q.1 (Int32.not_le.mpr h))]; rfl
theorem rng_hi {n : Nat} {x : Int32} (h : nI n ≤ x) : (rngQ n x).isSome = false := by rw [rng_out (fun q => absurd q.2 (Int32.not_lt.mpr h))]; rfl
theorem d_Lo_isRow_0 : decode prog_1_method_36_code 0 = .ok (.iload_n 0, 1) := by decide +kernel
theorem d_Lo_isRow_1 : decode prog_1_method_36_code 1 = .ok (.ifCond .lt 13, 3) := by decide +kernel
theorem d_Lo_isRow_4 : decode prog_1_method_36_code 4 = .ok (.iload_n 0, 1) := by decide +kernel
theorem d_Lo_isRow_5 : decode prog_1_method_36_code 5 = .ok (.bipush 10, 2) := by decide +kernel
theorem d_Lo_isRow_7 : decode prog_1_method_36_code 7 = .ok (.if_icmp .ge 7, 3) := by decide +kernel
theorem d_Lo_isRow_10 : decode prog_1_method_36_code 10 = .ok (.iconst 1, 1) := by decide +kernel
theorem d_Lo_isRow_11 : decode prog_1_method_36_code 11 = .ok (.goto 4, 3) := by decide +kernel
theorem d_Lo_isRow_14 : decode prog_1_method_36_code 14 = .ok (.iconst 0, 1) := by decide +kernel
theorem d_Lo_isRow_15 : decode prog_1_method_36_code 15 = .ok (.ireturn, 1) := by decide +kernel
set_option maxHeartbeats 4000000 in
set_option maxRecDepth 20000 in
theorem t_Lo_isRow {g : GG} (G : Gok g) {σ : AH} (x : Int32) : TerI g 0 m_Lo_isRow [iV x] σ (fun r τ => r = bI (rngQ 10 x).isSome ∧ τ = σ) := by
  refine TerI.mkZ G (by decide +kernel) rfl (Nat.le_of_ble_eq_true rfl) (fun K B Rt => ?_)
  have B : Cx g K prog_1_method_36_code 1 R_Lo 0 := B
  have Rt : RetZ g K prog_1_method_36_code 1 (fun r τ => r = bI (rngQ 10 x).isSome ∧ τ = σ) := Rt
  show AW g K 1 0 [(0, iV x)] [] σ
  refine a_iload_n B d_Lo_isRow_0 rfl rfl ?_
  refine a_if_lt B 14 d_Lo_isRow_1 rfl (fun c_1 => ?_) (fun c_1 => ?_)
  · skip
    refine a_iconst B d_Lo_isRow_14 ci_0 ?_
    exact Rt _ _ _ _ d_Lo_isRow_15 (by first | exact Or.inl rfl | exact Or.inr rfl) ⟨by first | exact bI_t (rng_in (Int32.not_lt.mp c_1) (Int32.not_le.mp c_7)) | exact bI_f (rng_lo c_1) | exact bI_f (rng_hi c_7), rfl⟩
  refine a_iload_n B d_Lo_isRow_4 rfl rfl ?_
  refine a_bipush B d_Lo_isRow_5 cb_10 ?_
  first | refine b_icmp_ge B 14 d_Lo_isRow_7 rfl (by omega) (by omega) (fun c_7 => ?_) (fun c_7 => ?_) | refine a_icmp_ge B 14 d_Lo_isRow_7 rfl (fun c_7 => ?_) (fun c_7 => ?_)
  · skip
    refine a_iconst B d_Lo_isRow_14 ci_0 ?_
    exact Rt _ _ _ _ d_Lo_isRow_15 (by first | exact Or.inl rfl | exact Or.inr rfl) ⟨by first | exact bI_t (rng_in (Int32.not_lt.mp c_1) (Int32.not_le.mp c_7)) | exact bI_f (rng_lo c_1) | exact bI_f (rng_hi c_7), rfl⟩
  refine a_iconst B d_Lo_isRow_10 ci_1 ?_
  refine a_goto B 15 d_Lo_isRow_11 rfl ?_
  exact Rt _ _ _ _ d_Lo_isRow_15 (by first | exact Or.inl rfl | exact Or.inr rfl) ⟨by first | exact bI_t (rng_in (Int32.not_lt.mp c_1) (Int32.not_le.mp c_7)) | exact bI_f (rng_lo c_1) | exact bI_f (rng_hi c_7), rfl⟩
theorem d_Lo_isTree_0 : decode prog_1_method_37_code 0 = .ok (.iload_n 0, 1) := by decide +kernel
theorem d_Lo_isTree_1 : decode prog_1_method_37_code 1 = .ok (.ifCond .lt 12, 3) := by decide +kernel
theorem d_Lo_isTree_4 : decode prog_1_method_37_code 4 = .ok (.iload_n 0, 1) := by decide +kernel
theorem d_Lo_isTree_5 : decode prog_1_method_37_code 5 = .ok (.iconst 4, 1) := by decide +kernel
theorem d_Lo_isTree_6 : decode prog_1_method_37_code 6 = .ok (.if_icmp .ge 7, 3) := by decide +kernel
theorem d_Lo_isTree_9 : decode prog_1_method_37_code 9 = .ok (.iconst 1, 1) := by decide +kernel
theorem d_Lo_isTree_10 : decode prog_1_method_37_code 10 = .ok (.goto 4, 3) := by decide +kernel
theorem d_Lo_isTree_13 : decode prog_1_method_37_code 13 = .ok (.iconst 0, 1) := by decide +kernel
theorem d_Lo_isTree_14 : decode prog_1_method_37_code 14 = .ok (.ireturn, 1) := by decide +kernel
set_option maxHeartbeats 4000000 in
set_option maxRecDepth 20000 in
theorem t_Lo_isTree {g : GG} (G : Gok g) {σ : AH} (x : Int32) : TerI g 0 m_Lo_isTree [iV x] σ (fun r τ => r = bI (rngQ 4 x).isSome ∧ τ = σ) := by
  refine TerI.mkZ G (by decide +kernel) rfl (Nat.le_of_ble_eq_true rfl) (fun K B Rt => ?_)
  have B : Cx g K prog_1_method_37_code 1 R_Lo 0 := B
  have Rt : RetZ g K prog_1_method_37_code 1 (fun r τ => r = bI (rngQ 4 x).isSome ∧ τ = σ) := Rt
  show AW g K 1 0 [(0, iV x)] [] σ
  refine a_iload_n B d_Lo_isTree_0 rfl rfl ?_
  refine a_if_lt B 13 d_Lo_isTree_1 rfl (fun c_1 => ?_) (fun c_1 => ?_)
  · skip
    refine a_iconst B d_Lo_isTree_13 ci_0 ?_
    exact Rt _ _ _ _ d_Lo_isTree_14 (by first | exact Or.inl rfl | exact Or.inr rfl) ⟨by first | exact bI_t (rng_in (Int32.not_lt.mp c_1) (Int32.not_le.mp c_6)) | exact bI_f (rng_lo c_1) | exact bI_f (rng_hi c_6), rfl⟩
  refine a_iload_n B d_Lo_isTree_4 rfl rfl ?_
  refine a_iconst B d_Lo_isTree_5 ci_4 ?_
  first | refine b_icmp_ge B 13 d_Lo_isTree_6 rfl (by omega) (by omega) (fun c_6 => ?_) (fun c_6 => ?_) | refine a_icmp_ge B 13 d_Lo_isTree_6 rfl (fun c_6 => ?_) (fun c_6 => ?_)
  · skip
    refine a_iconst B d_Lo_isTree_13 ci_0 ?_
    exact Rt _ _ _ _ d_Lo_isTree_14 (by first | exact Or.inl rfl | exact Or.inr rfl) ⟨by first | exact bI_t (rng_in (Int32.not_lt.mp c_1) (Int32.not_le.mp c_6)) | exact bI_f (rng_lo c_1) | exact bI_f (rng_hi c_6), rfl⟩
  refine a_iconst B d_Lo_isTree_9 ci_1 ?_
  refine a_goto B 14 d_Lo_isTree_10 rfl ?_
  exact Rt _ _ _ _ d_Lo_isTree_14 (by first | exact Or.inl rfl | exact Or.inr rfl) ⟨by first | exact bI_t (rng_in (Int32.not_lt.mp c_1) (Int32.not_le.mp c_6)) | exact bI_f (rng_lo c_1) | exact bI_f (rng_hi c_6), rfl⟩
theorem d_Lo_isLeaf_0 : decode prog_1_method_39_code 0 = .ok (.iload_n 1, 1) := by decide +kernel
theorem d_Lo_isLeaf_1 : decode prog_1_method_39_code 1 = .ok (.ifCond .lt 18, 3) := by decide +kernel
theorem d_Lo_isLeaf_4 : decode prog_1_method_39_code 4 = .ok (.iload_n 1, 1) := by decide +kernel
theorem d_Lo_isLeaf_5 : decode prog_1_method_39_code 5 = .ok (.aload_n 0, 1) := by decide +kernel
theorem d_Lo_isLeaf_6 : decode prog_1_method_39_code 6 = .ok (.getfield 12, 3) := by decide +kernel
theorem d_Lo_isLeaf_9 : decode prog_1_method_39_code 9 = .ok (.getfield 74, 3) := by decide +kernel
theorem d_Lo_isLeaf_12 : decode prog_1_method_39_code 12 = .ok (.if_icmp .ge 7, 3) := by decide +kernel
theorem d_Lo_isLeaf_15 : decode prog_1_method_39_code 15 = .ok (.iconst 1, 1) := by decide +kernel
theorem d_Lo_isLeaf_16 : decode prog_1_method_39_code 16 = .ok (.goto 4, 3) := by decide +kernel
theorem d_Lo_isLeaf_19 : decode prog_1_method_39_code 19 = .ok (.iconst 0, 1) := by decide +kernel
theorem d_Lo_isLeaf_20 : decode prog_1_method_39_code 20 = .ok (.ireturn, 1) := by decide +kernel
set_option maxHeartbeats 4000000 in
set_option maxRecDepth 20000 in
theorem t_Lo_isLeaf {g : GG} (G : Gok g) {σ : AH} {S : Sp} (hS : RelC S σ) (x : Int32) : TerI g 0 m_Lo_isLeaf [rV 0, iV x] σ (fun r τ => r = bI (rngQ (sN S) x).isSome ∧ τ = σ) := by
  refine TerI.mkZ G (by decide +kernel) rfl (Nat.le_of_ble_eq_true rfl) (fun K B Rt => ?_)
  have B : Cx g K prog_1_method_39_code 2 R_Lo 0 := B
  have Rt : RetZ g K prog_1_method_39_code 2 (fun r τ => r = bI (rngQ (sN S) x).isSome ∧ τ = σ) := Rt
  show AW g K 2 0 [(0, rV 0), (1, iV x)] [] σ
  refine a_iload_n B d_Lo_isLeaf_0 rfl rfl ?_
  refine a_if_lt B 19 d_Lo_isLeaf_1 rfl (fun c_1 => ?_) (fun c_1 => ?_)
  · skip
    refine a_iconst B d_Lo_isLeaf_19 ci_0 ?_
    exact Rt _ _ _ _ d_Lo_isLeaf_20 (by first | exact Or.inl rfl | exact Or.inr rfl) ⟨by first | exact bI_t (rng_in (Int32.not_lt.mp c_1) (Int32.not_le.mp c_12)) | exact bI_f (rng_lo c_1) | exact bI_f (rng_hi c_12), rfl⟩
  refine a_iload_n B d_Lo_isLeaf_4 rfl rfl ?_
  refine a_aload_n B d_Lo_isLeaf_5 rfl rfl ?_
  refine gf_Lo_rows B d_Lo_isLeaf_6 fl_Lo_12 ?_
  refine gf_Ro_leafCount B d_Lo_isLeaf_9 fl_Lo_74 ?_
  rw [hS.1.1]
  first | refine b_icmp_ge B 19 d_Lo_isLeaf_12 rfl (by omega) (by omega) (fun c_12 => ?_) (fun c_12 => ?_) | refine a_icmp_ge B 19 d_Lo_isLeaf_12 rfl (fun c_12 => ?_) (fun c_12 => ?_)
  · skip
    refine a_iconst B d_Lo_isLeaf_19 ci_0 ?_
    exact Rt _ _ _ _ d_Lo_isLeaf_20 (by first | exact Or.inl rfl | exact Or.inr rfl) ⟨by first | exact bI_t (rng_in (Int32.not_lt.mp c_1) (Int32.not_le.mp c_12)) | exact bI_f (rng_lo c_1) | exact bI_f (rng_hi c_12), rfl⟩
  refine a_iconst B d_Lo_isLeaf_15 ci_1 ?_
  refine a_goto B 20 d_Lo_isLeaf_16 rfl ?_
  exact Rt _ _ _ _ d_Lo_isLeaf_20 (by first | exact Or.inl rfl | exact Or.inr rfl) ⟨by first | exact bI_t (rng_in (Int32.not_lt.mp c_1) (Int32.not_le.mp c_12)) | exact bI_f (rng_lo c_1) | exact bI_f (rng_hi c_12), rfl⟩
theorem d_Lo_isAxis_0 : decode prog_1_method_40_code 0 = .ok (.iload_n 1, 1) := by decide +kernel
theorem d_Lo_isAxis_1 : decode prog_1_method_40_code 1 = .ok (.ifCond .lt 18, 3) := by decide +kernel
theorem d_Lo_isAxis_4 : decode prog_1_method_40_code 4 = .ok (.iload_n 1, 1) := by decide +kernel
theorem d_Lo_isAxis_5 : decode prog_1_method_40_code 5 = .ok (.aload_n 0, 1) := by decide +kernel
theorem d_Lo_isAxis_6 : decode prog_1_method_40_code 6 = .ok (.getfield 40, 3) := by decide +kernel
theorem d_Lo_isAxis_9 : decode prog_1_method_40_code 9 = .ok (.getfield 213, 3) := by decide +kernel
theorem d_Lo_isAxis_12 : decode prog_1_method_40_code 12 = .ok (.if_icmp .ge 7, 3) := by decide +kernel
theorem d_Lo_isAxis_15 : decode prog_1_method_40_code 15 = .ok (.iconst 1, 1) := by decide +kernel
theorem d_Lo_isAxis_16 : decode prog_1_method_40_code 16 = .ok (.goto 4, 3) := by decide +kernel
theorem d_Lo_isAxis_19 : decode prog_1_method_40_code 19 = .ok (.iconst 0, 1) := by decide +kernel
theorem d_Lo_isAxis_20 : decode prog_1_method_40_code 20 = .ok (.ireturn, 1) := by decide +kernel
set_option maxHeartbeats 4000000 in
set_option maxRecDepth 20000 in
theorem t_Lo_isAxis {g : GG} (G : Gok g) {σ : AH} {S : Sp} (hS : RelC S σ) (x : Int32) : TerI g 0 m_Lo_isAxis [rV 0, iV x] σ (fun r τ => r = bI (rngQ (sMx S) x).isSome ∧ τ = σ) := by
  refine TerI.mkZ G (by decide +kernel) rfl (Nat.le_of_ble_eq_true rfl) (fun K B Rt => ?_)
  have B : Cx g K prog_1_method_40_code 2 R_Lo 0 := B
  have Rt : RetZ g K prog_1_method_40_code 2 (fun r τ => r = bI (rngQ (sMx S) x).isSome ∧ τ = σ) := Rt
  show AW g K 2 0 [(0, rV 0), (1, iV x)] [] σ
  refine a_iload_n B d_Lo_isAxis_0 rfl rfl ?_
  refine a_if_lt B 19 d_Lo_isAxis_1 rfl (fun c_1 => ?_) (fun c_1 => ?_)
  · skip
    refine a_iconst B d_Lo_isAxis_19 ci_0 ?_
    exact Rt _ _ _ _ d_Lo_isAxis_20 (by first | exact Or.inl rfl | exact Or.inr rfl) ⟨by first | exact bI_t (rng_in (Int32.not_lt.mp c_1) (Int32.not_le.mp c_12)) | exact bI_f (rng_lo c_1) | exact bI_f (rng_hi c_12), rfl⟩
  refine a_iload_n B d_Lo_isAxis_4 rfl rfl ?_
  refine a_aload_n B d_Lo_isAxis_5 rfl rfl ?_
  refine gf_Lo_axesLaid B d_Lo_isAxis_6 fl_Lo_40 ?_
  refine gf_Ax_axisCount B d_Lo_isAxis_9 fl_Lo_213 ?_
  rw [hS.2.2.2.1]
  first | refine b_icmp_ge B 19 d_Lo_isAxis_12 rfl (by omega) (by omega) (fun c_12 => ?_) (fun c_12 => ?_) | refine a_icmp_ge B 19 d_Lo_isAxis_12 rfl (fun c_12 => ?_) (fun c_12 => ?_)
  · skip
    refine a_iconst B d_Lo_isAxis_19 ci_0 ?_
    exact Rt _ _ _ _ d_Lo_isAxis_20 (by first | exact Or.inl rfl | exact Or.inr rfl) ⟨by first | exact bI_t (rng_in (Int32.not_lt.mp c_1) (Int32.not_le.mp c_12)) | exact bI_f (rng_lo c_1) | exact bI_f (rng_hi c_12), rfl⟩
  refine a_iconst B d_Lo_isAxis_15 ci_1 ?_
  refine a_goto B 20 d_Lo_isAxis_16 rfl ?_
  exact Rt _ _ _ _ d_Lo_isAxis_20 (by first | exact Or.inl rfl | exact Or.inr rfl) ⟨by first | exact bI_t (rng_in (Int32.not_lt.mp c_1) (Int32.not_le.mp c_12)) | exact bI_f (rng_lo c_1) | exact bI_f (rng_hi c_12), rfl⟩
theorem ht_le {x : Int32} : x < nI 1000001 ↔ x ≤ 1000000 := by
  rw [Int32.lt_iff_toInt_lt, Int32.le_iff_toInt_le, nI_toInt (by decide), show (1000000 : Int32).toInt = 1000000 from by decide]
  omega
theorem d_Lo_isHeight_0 : decode prog_1_method_38_code 0 = .ok (.iload_n 0, 1) := by decide +kernel
theorem d_Lo_isHeight_1 : decode prog_1_method_38_code 1 = .ok (.ifCond .lt 13, 3) := by decide +kernel
theorem d_Lo_isHeight_4 : decode prog_1_method_38_code 4 = .ok (.iload_n 0, 1) := by decide +kernel
theorem d_Lo_isHeight_5 : decode prog_1_method_38_code 5 = .ok (.ldc 247, 2) := by decide +kernel
theorem d_Lo_isHeight_7 : decode prog_1_method_38_code 7 = .ok (.if_icmp .gt 7, 3) := by decide +kernel
theorem d_Lo_isHeight_10 : decode prog_1_method_38_code 10 = .ok (.iconst 1, 1) := by decide +kernel
theorem d_Lo_isHeight_11 : decode prog_1_method_38_code 11 = .ok (.goto 4, 3) := by decide +kernel
theorem d_Lo_isHeight_14 : decode prog_1_method_38_code 14 = .ok (.iconst 0, 1) := by decide +kernel
theorem d_Lo_isHeight_15 : decode prog_1_method_38_code 15 = .ok (.ireturn, 1) := by decide +kernel
set_option maxHeartbeats 4000000 in
set_option maxRecDepth 20000 in
theorem t_Lo_isHeight {g : GG} (G : Gok g) {σ : AH} (x : Int32) : TerI g 0 m_Lo_isHeight [iV x] σ (fun r τ => r = bI (rngQ 1000001 x).isSome ∧ τ = σ) := by
  refine TerI.mkZ G (by decide +kernel) rfl (Nat.le_of_ble_eq_true rfl) (fun K B Rt => ?_)
  have B : Cx g K prog_1_method_38_code 1 R_Lo 0 := B
  have Rt : RetZ g K prog_1_method_38_code 1 (fun r τ => r = bI (rngQ 1000001 x).isSome ∧ τ = σ) := Rt
  show AW g K 1 0 [(0, iV x)] [] σ
  refine a_iload_n B d_Lo_isHeight_0 rfl rfl ?_
  refine a_if_lt B 14 d_Lo_isHeight_1 rfl (fun c_1 => ?_) (fun c_1 => ?_)
  · skip
    refine a_iconst B d_Lo_isHeight_14 ci_0 ?_
    exact Rt _ _ _ _ d_Lo_isHeight_15 (by first | exact Or.inl rfl | exact Or.inr rfl) ⟨by first | exact bI_t (rng_in (Int32.not_lt.mp c_1) (ht_le.mpr (Int32.not_lt.mp c_7))) | exact bI_f (rng_lo c_1) | exact bI_f (rng_hi (Int32.not_lt.mp (fun q => absurd (ht_le.mp q) (Int32.not_le.mpr c_7)))), rfl⟩
  refine a_iload_n B d_Lo_isHeight_4 rfl rfl ?_
  refine a_ldc B d_Lo_isHeight_5 kl_Lo_247 ?_
  first | refine b_icmp_gt B 14 d_Lo_isHeight_7 rfl (by omega) (by omega) (fun c_7 => ?_) (fun c_7 => ?_) | refine a_icmp_gt B 14 d_Lo_isHeight_7 rfl (fun c_7 => ?_) (fun c_7 => ?_)
  · skip
    refine a_iconst B d_Lo_isHeight_14 ci_0 ?_
    exact Rt _ _ _ _ d_Lo_isHeight_15 (by first | exact Or.inl rfl | exact Or.inr rfl) ⟨by first | exact bI_t (rng_in (Int32.not_lt.mp c_1) (ht_le.mpr (Int32.not_lt.mp c_7))) | exact bI_f (rng_lo c_1) | exact bI_f (rng_hi (Int32.not_lt.mp (fun q => absurd (ht_le.mp q) (Int32.not_le.mpr c_7)))), rfl⟩
  refine a_iconst B d_Lo_isHeight_10 ci_1 ?_
  refine a_goto B 15 d_Lo_isHeight_11 rfl ?_
  exact Rt _ _ _ _ d_Lo_isHeight_15 (by first | exact Or.inl rfl | exact Or.inr rfl) ⟨by first | exact bI_t (rng_in (Int32.not_lt.mp c_1) (ht_le.mpr (Int32.not_lt.mp c_7))) | exact bI_f (rng_lo c_1) | exact bI_f (rng_hi (Int32.not_lt.mp (fun q => absurd (ht_le.mp q) (Int32.not_le.mpr c_7)))), rfl⟩
theorem d_Lo_hasPlaces_0 : decode prog_1_method_41_code 0 = .ok (.iload_n 0, 1) := by decide +kernel
theorem d_Lo_hasPlaces_1 : decode prog_1_method_41_code 1 = .ok (.ifCond .lt 21, 3) := by decide +kernel
theorem d_Lo_hasPlaces_4 : decode prog_1_method_41_code 4 = .ok (.iload_n 0, 1) := by decide +kernel
theorem d_Lo_hasPlaces_5 : decode prog_1_method_41_code 5 = .ok (.bipush 10, 2) := by decide +kernel
theorem d_Lo_hasPlaces_7 : decode prog_1_method_41_code 7 = .ok (.if_icmp .gt 15, 3) := by decide +kernel
theorem d_Lo_hasPlaces_10 : decode prog_1_method_41_code 10 = .ok (.iload_n 1, 1) := by decide +kernel
theorem d_Lo_hasPlaces_11 : decode prog_1_method_41_code 11 = .ok (.bipush 10, 2) := by decide +kernel
theorem d_Lo_hasPlaces_13 : decode prog_1_method_41_code 13 = .ok (.iload_n 0, 1) := by decide +kernel
theorem d_Lo_hasPlaces_14 : decode prog_1_method_41_code 14 = .ok (.isub, 1) := by decide +kernel
theorem d_Lo_hasPlaces_15 : decode prog_1_method_41_code 15 = .ok (.if_icmp .gt 7, 3) := by decide +kernel
theorem d_Lo_hasPlaces_18 : decode prog_1_method_41_code 18 = .ok (.iconst 1, 1) := by decide +kernel
theorem d_Lo_hasPlaces_19 : decode prog_1_method_41_code 19 = .ok (.goto 4, 3) := by decide +kernel
theorem d_Lo_hasPlaces_22 : decode prog_1_method_41_code 22 = .ok (.iconst 0, 1) := by decide +kernel
theorem d_Lo_hasPlaces_23 : decode prog_1_method_41_code 23 = .ok (.ireturn, 1) := by decide +kernel
set_option maxHeartbeats 4000000 in
set_option maxRecDepth 20000 in
theorem t_Lo_hasPlaces {g : GG} (G : Gok g) {σ : AH} (x n : Int32) : TerI g 0 m_Lo_hasPlaces [iV x, iV n] σ (fun r τ => r = bI (hasP x n) ∧ τ = σ) := by
  refine TerI.mkZ G (by decide +kernel) rfl (Nat.le_of_ble_eq_true rfl) (fun K B Rt => ?_)
  have B : Cx g K prog_1_method_41_code 2 R_Lo 0 := B
  have Rt : RetZ g K prog_1_method_41_code 2 (fun r τ => r = bI (hasP x n) ∧ τ = σ) := Rt
  show AW g K 2 0 [(0, iV x), (1, iV n)] [] σ
  refine a_iload_n B d_Lo_hasPlaces_0 rfl rfl ?_
  refine a_if_lt B 22 d_Lo_hasPlaces_1 rfl (fun c_1 => ?_) (fun c_1 => ?_)
  · skip
    refine a_iconst B d_Lo_hasPlaces_22 ci_0 ?_
    exact Rt _ _ _ _ d_Lo_hasPlaces_23 (by first | exact Or.inl rfl | exact Or.inr rfl) ⟨by first | (refine bI_t ?_; have q1 := Int32.not_lt.mp c_1; have q2 : x ≤ 10 := Int32.not_lt.mp c_7; have q3 : n ≤ 10 - x := Int32.not_lt.mp c_15; simp [hasP, q1, q2, q3]; done) | (refine bI_f ?_; have q1 : ¬ n ≤ 10 - x := Int32.not_le.mpr c_15; simp [hasP, q1]; done) | (refine bI_f ?_; have q1 : ¬ x ≤ 10 := Int32.not_le.mpr c_7; simp [hasP, q1]; done) | (refine bI_f ?_; have q1 : ¬ 0 ≤ x := Int32.not_le.mpr c_1; simp [hasP, q1]; done), rfl⟩
  refine a_iload_n B d_Lo_hasPlaces_4 rfl rfl ?_
  refine a_bipush B d_Lo_hasPlaces_5 cb_10 ?_
  first | refine b_icmp_gt B 22 d_Lo_hasPlaces_7 rfl (by omega) (by omega) (fun c_7 => ?_) (fun c_7 => ?_) | refine a_icmp_gt B 22 d_Lo_hasPlaces_7 rfl (fun c_7 => ?_) (fun c_7 => ?_)
  · skip
    refine a_iconst B d_Lo_hasPlaces_22 ci_0 ?_
    exact Rt _ _ _ _ d_Lo_hasPlaces_23 (by first | exact Or.inl rfl | exact Or.inr rfl) ⟨by first | (refine bI_t ?_; have q1 := Int32.not_lt.mp c_1; have q2 : x ≤ 10 := Int32.not_lt.mp c_7; have q3 : n ≤ 10 - x := Int32.not_lt.mp c_15; simp [hasP, q1, q2, q3]; done) | (refine bI_f ?_; have q1 : ¬ n ≤ 10 - x := Int32.not_le.mpr c_15; simp [hasP, q1]; done) | (refine bI_f ?_; have q1 : ¬ x ≤ 10 := Int32.not_le.mpr c_7; simp [hasP, q1]; done) | (refine bI_f ?_; have q1 : ¬ 0 ≤ x := Int32.not_le.mpr c_1; simp [hasP, q1]; done), rfl⟩
  refine a_iload_n B d_Lo_hasPlaces_10 rfl rfl ?_
  refine a_bipush B d_Lo_hasPlaces_11 cb_10 ?_
  refine a_iload_n B d_Lo_hasPlaces_13 rfl rfl ?_
  first | refine b_isub B (by omega) d_Lo_hasPlaces_14 ?_ | refine a_isub B d_Lo_hasPlaces_14 ?_
  first | refine b_icmp_gt B 22 d_Lo_hasPlaces_15 rfl (by omega) (by omega) (fun c_15 => ?_) (fun c_15 => ?_) | refine a_icmp_gt B 22 d_Lo_hasPlaces_15 rfl (fun c_15 => ?_) (fun c_15 => ?_)
  · skip
    refine a_iconst B d_Lo_hasPlaces_22 ci_0 ?_
    exact Rt _ _ _ _ d_Lo_hasPlaces_23 (by first | exact Or.inl rfl | exact Or.inr rfl) ⟨by first | (refine bI_t ?_; have q1 := Int32.not_lt.mp c_1; have q2 : x ≤ 10 := Int32.not_lt.mp c_7; have q3 : n ≤ 10 - x := Int32.not_lt.mp c_15; simp [hasP, q1, q2, q3]; done) | (refine bI_f ?_; have q1 : ¬ n ≤ 10 - x := Int32.not_le.mpr c_15; simp [hasP, q1]; done) | (refine bI_f ?_; have q1 : ¬ x ≤ 10 := Int32.not_le.mpr c_7; simp [hasP, q1]; done) | (refine bI_f ?_; have q1 : ¬ 0 ≤ x := Int32.not_le.mpr c_1; simp [hasP, q1]; done), rfl⟩
  refine a_iconst B d_Lo_hasPlaces_18 ci_1 ?_
  refine a_goto B 23 d_Lo_hasPlaces_19 rfl ?_
  exact Rt _ _ _ _ d_Lo_hasPlaces_23 (by first | exact Or.inl rfl | exact Or.inr rfl) ⟨by first | (refine bI_t ?_; have q1 := Int32.not_lt.mp c_1; have q2 : x ≤ 10 := Int32.not_lt.mp c_7; have q3 : n ≤ 10 - x := Int32.not_lt.mp c_15; simp [hasP, q1, q2, q3]; done) | (refine bI_f ?_; have q1 : ¬ n ≤ 10 - x := Int32.not_le.mpr c_15; simp [hasP, q1]; done) | (refine bI_f ?_; have q1 : ¬ x ≤ 10 := Int32.not_le.mpr c_7; simp [hasP, q1]; done) | (refine bI_f ?_; have q1 : ¬ 0 ≤ x := Int32.not_le.mpr c_1; simp [hasP, q1]; done), rfl⟩
theorem lv_arg {S : Sp} {x : Int32} (hn : sN S ≤ 10) (h1 : ¬ x < nI (sN S)) (h2 : x ≤ nI 10) : ∃ n, sN S ≤ n ∧ n ≤ 10 ∧ x = nI n := by
  have q1 : (sN S : Int) ≤ x.toInt := by have := Int32.le_iff_toInt_le.mp (Int32.not_lt.mp h1); rw [nI_toInt (by omega)] at this; exact this
  have q2 : x.toInt ≤ 10 := by have := Int32.le_iff_toInt_le.mp h2; rw [nI_toInt (by decide)] at this; exact this
  refine ⟨x.toInt.toNat, by omega, by omega, ?_⟩
  apply Int32.toInt_inj.mp
  rw [nI_toInt (by omega)]
  omega
theorem d_Lo_leaves_0 : decode prog_1_method_2_code 0 = .ok (.iload_n 1, 1) := by decide +kernel
theorem d_Lo_leaves_1 : decode prog_1_method_2_code 1 = .ok (.aload_n 0, 1) := by decide +kernel
theorem d_Lo_leaves_2 : decode prog_1_method_2_code 2 = .ok (.getfield 12, 3) := by decide +kernel
theorem d_Lo_leaves_5 : decode prog_1_method_2_code 5 = .ok (.getfield 74, 3) := by decide +kernel
theorem d_Lo_leaves_8 : decode prog_1_method_2_code 8 = .ok (.if_icmp .lt 9, 3) := by decide +kernel
theorem d_Lo_leaves_11 : decode prog_1_method_2_code 11 = .ok (.iload_n 1, 1) := by decide +kernel
theorem d_Lo_leaves_12 : decode prog_1_method_2_code 12 = .ok (.bipush 10, 2) := by decide +kernel
theorem d_Lo_leaves_14 : decode prog_1_method_2_code 14 = .ok (.if_icmp .le 5, 3) := by decide +kernel
theorem d_Lo_leaves_17 : decode prog_1_method_2_code 17 = .ok (.iconst (-1), 1) := by decide +kernel
theorem d_Lo_leaves_18 : decode prog_1_method_2_code 18 = .ok (.ireturn, 1) := by decide +kernel
theorem d_Lo_leaves_19 : decode prog_1_method_2_code 19 = .ok (.aload_n 0, 1) := by decide +kernel
theorem d_Lo_leaves_20 : decode prog_1_method_2_code 20 = .ok (.getfield 12, 3) := by decide +kernel
theorem d_Lo_leaves_23 : decode prog_1_method_2_code 23 = .ok (.iload_n 1, 1) := by decide +kernel
theorem d_Lo_leaves_24 : decode prog_1_method_2_code 24 = .ok (.putfield 74, 3) := by decide +kernel
theorem d_Lo_leaves_27 : decode prog_1_method_2_code 27 = .ok (.iload_n 1, 1) := by decide +kernel
theorem d_Lo_leaves_28 : decode prog_1_method_2_code 28 = .ok (.ireturn, 1) := by decide +kernel
set_option maxHeartbeats 4000000 in
set_option maxRecDepth 20000 in
theorem tC_leaves {g : GG} (G : Gok g) {σ : AH} {S : Sp} (hS : RelC S σ) (x : Int32) : TerI g 0 m_Lo_leaves [rV 0, iV x] σ (fun r τ => r = (sp_leaves S x).1 ∧ RelC (sp_leaves S x).2 τ ∧ frC σ τ) := by
  refine TerI.mk G (by decide +kernel) rfl (Nat.le_of_ble_eq_true rfl) (fun K B Rt => ?_)
  have B : Cx g K prog_1_method_2_code 2 R_Lo 0 := B
  have Rt : RetI g K prog_1_method_2_code 2 (fun r τ => r = (sp_leaves S x).1 ∧ RelC (sp_leaves S x).2 τ ∧ frC σ τ) := Rt
  show AW g K 2 0 [(0, rV 0), (1, iV x)] [] σ
  obtain ⟨hN, hn, hth, hpl, hbd⟩ := id hS.1
  refine a_iload_n B d_Lo_leaves_0 rfl rfl ?_
  refine a_aload_n B d_Lo_leaves_1 rfl rfl ?_
  refine gf_Lo_rows B d_Lo_leaves_2 fl_Lo_12 ?_
  refine gf_Ro_leafCount B d_Lo_leaves_5 fl_Lo_74 ?_
  rw [hN]
  first | refine b_icmp_lt B 17 d_Lo_leaves_8 rfl (by omega) (by omega) (fun c_8 => ?_) (fun c_8 => ?_) | refine a_icmp_lt B 17 d_Lo_leaves_8 rfl (fun c_8 => ?_) (fun c_8 => ?_)
  · skip
    refine a_iconst B d_Lo_leaves_17 ci_m1 ?_
    exact Rt _ _ _ _ d_Lo_leaves_18 (by have e : sp_leaves S x = RB S := (if_pos (by first | exact Or.inl c_8 | exact Or.inr (Int32.not_le.mp c_14))); rw [e]; exact ⟨rfl, hS, fun _ _ => rfl⟩)
  refine a_iload_n B d_Lo_leaves_11 rfl rfl ?_
  refine a_bipush B d_Lo_leaves_12 cb_10 ?_
  first | refine b_icmp_le B 19 d_Lo_leaves_14 rfl (by omega) (by omega) (fun c_14 => ?_) (fun c_14 => ?_) | refine a_icmp_le B 19 d_Lo_leaves_14 rfl (fun c_14 => ?_) (fun c_14 => ?_)
  · skip
    obtain ⟨n, n1, n2, rfl⟩ := lv_arg hn c_8 c_14
    refine a_aload_n B d_Lo_leaves_19 rfl rfl ?_
    refine gf_Lo_rows B d_Lo_leaves_20 fl_Lo_12 ?_
    refine a_iload_n B d_Lo_leaves_23 rfl rfl ?_
    refine pf_Ro_leafCount B d_Lo_leaves_24 fl_Lo_74 ?_
    refine a_iload_n B d_Lo_leaves_27 rfl rfl ?_
    exact Rt _ _ _ _ d_Lo_leaves_28 (by have e : sp_leaves S (nI n) = (nI n, pN S n) := (by rw [sp_leaves, if_neg (fun q => q.elim c_8 (Int32.not_lt.mpr c_14)), nI_clamp (by omega)]); rw [e]; exact ⟨rfl, RelC_rows hS ⟨by rw [up1_s, upd_s], n2, fun i hi => by rw [up1_o (by decide)]; exact hth i hi, fun i j hi hj => by rw [up1_o (by omega)]; exact hpl i j hi hj, hbd⟩ (fun k q1 q3 q20 => up1_o q1), fun k hk => up1_o (by omega)⟩)
  refine a_iconst B d_Lo_leaves_17 ci_m1 ?_
  exact Rt _ _ _ _ d_Lo_leaves_18 (by have e : sp_leaves S x = RB S := (if_pos (by first | exact Or.inl c_8 | exact Or.inr (Int32.not_le.mp c_14))); rw [e]; exact ⟨rfl, hS, fun _ _ => rfl⟩)
theorem RoC_row {σ : AH} {n : Nat} {th : Nat → Bool} {pl : Nat → Nat → Nat} {i : Nat} {b : Bool} {f : Nat → Nat} {F : Nat → Int32} (h : RoC σ n th pl) (hi : i < 10) (hf : ∀ j, j < 10 → F j = nI (f j)) (hb : ∀ j, f j ≤ 10000) : RoC (up1 (up1 σ 3 (upd (σ.1 3) i (bI b))) (20 + i) F) n (va_up th i b) (va_up pl i f) := by
  obtain ⟨a1, a2, a3, a4, a5⟩ := h
  refine ⟨by rw [up1_o (by omega), up1_o (by omega)]; exact a1, a2, fun k hk => ?_, fun k j hk hj => ?_, fun k j => ?_⟩
  · rw [up1_o (by omega), up1_s]
    by_cases e : k = i
    · rw [e, upd_s, va_up_s]
    · rw [upd_o e, va_up_o e]; exact a3 k hk
  · by_cases e : k = i
    · rw [e, up1_s, va_up_s]; exact hf j hj
    · rw [up1_o (by omega), up1_o (by omega), va_up_o e]; exact a4 k j hk hj
  · by_cases e : k = i
    · rw [e, va_up_s]; exact hb j
    · rw [va_up_o e]; exact a5 k j
theorem d_Lo_row_0 : decode prog_1_method_3_code 0 = .ok (.iload_n 1, 1) := by decide +kernel
theorem d_Lo_row_1 : decode prog_1_method_3_code 1 = .ok (.invokestatic 77, 3) := by decide +kernel
theorem d_Lo_row_4 : decode prog_1_method_3_code 4 = .ok (.ifCond .ne 5, 3) := by decide +kernel
theorem d_Lo_row_7 : decode prog_1_method_3_code 7 = .ok (.iconst (-1), 1) := by decide +kernel
theorem d_Lo_row_8 : decode prog_1_method_3_code 8 = .ok (.ireturn, 1) := by decide +kernel
theorem d_Lo_row_9 : decode prog_1_method_3_code 9 = .ok (.aload_n 0, 1) := by decide +kernel
theorem d_Lo_row_10 : decode prog_1_method_3_code 10 = .ok (.getfield 12, 3) := by decide +kernel
theorem d_Lo_row_13 : decode prog_1_method_3_code 13 = .ok (.getfield 81, 3) := by decide +kernel
theorem d_Lo_row_16 : decode prog_1_method_3_code 16 = .ok (.iload_n 1, 1) := by decide +kernel
theorem d_Lo_row_17 : decode prog_1_method_3_code 17 = .ok (.baload, 1) := by decide +kernel
theorem d_Lo_row_18 : decode prog_1_method_3_code 18 = .ok (.ifCond .eq 7, 3) := by decide +kernel
theorem d_Lo_row_21 : decode prog_1_method_3_code 21 = .ok (.iconst 1, 1) := by decide +kernel
theorem d_Lo_row_22 : decode prog_1_method_3_code 22 = .ok (.goto 4, 3) := by decide +kernel
theorem d_Lo_row_25 : decode prog_1_method_3_code 25 = .ok (.iconst 0, 1) := by decide +kernel
theorem d_Lo_row_26 : decode prog_1_method_3_code 26 = .ok (.istore_n 2, 1) := by decide +kernel
theorem d_Lo_row_27 : decode prog_1_method_3_code 27 = .ok (.aload_n 0, 1) := by decide +kernel
theorem d_Lo_row_28 : decode prog_1_method_3_code 28 = .ok (.getfield 12, 3) := by decide +kernel
theorem d_Lo_row_31 : decode prog_1_method_3_code 31 = .ok (.getfield 81, 3) := by decide +kernel
theorem d_Lo_row_34 : decode prog_1_method_3_code 34 = .ok (.iload_n 1, 1) := by decide +kernel
theorem d_Lo_row_35 : decode prog_1_method_3_code 35 = .ok (.iconst 1, 1) := by decide +kernel
theorem d_Lo_row_36 : decode prog_1_method_3_code 36 = .ok (.bastore, 1) := by decide +kernel
theorem d_Lo_row_37 : decode prog_1_method_3_code 37 = .ok (.aload_n 0, 1) := by decide +kernel
theorem d_Lo_row_38 : decode prog_1_method_3_code 38 = .ok (.getfield 12, 3) := by decide +kernel
theorem d_Lo_row_41 : decode prog_1_method_3_code 41 = .ok (.getfield 85, 3) := by decide +kernel
theorem d_Lo_row_44 : decode prog_1_method_3_code 44 = .ok (.iload_n 1, 1) := by decide +kernel
theorem d_Lo_row_45 : decode prog_1_method_3_code 45 = .ok (.aaload, 1) := by decide +kernel
theorem d_Lo_row_46 : decode prog_1_method_3_code 46 = .ok (.iconst 0, 1) := by decide +kernel
theorem d_Lo_row_47 : decode prog_1_method_3_code 47 = .ok (.invokestatic 55, 3) := by decide +kernel
theorem d_Lo_row_50 : decode prog_1_method_3_code 50 = .ok (.iload_n 2, 1) := by decide +kernel
theorem d_Lo_row_51 : decode prog_1_method_3_code 51 = .ok (.ireturn, 1) := by decide +kernel
set_option maxHeartbeats 4000000 in
set_option maxRecDepth 20000 in
theorem tC_row {g : GG} (G : Gok g) {σ : AH} {S : Sp} (hS : RelC S σ) (x : Int32) : TerI g 1 m_Lo_row [rV 0, iV x] σ (fun r τ => r = (sp_row S x).1 ∧ RelC (sp_row S x).2 τ ∧ frC σ τ) := by
  refine TerI.mk G (by decide +kernel) rfl (Nat.le_of_ble_eq_true rfl) (fun K B Rt => ?_)
  have B : Cx g K prog_1_method_3_code 3 R_Lo 1 := B
  have Rt : RetI g K prog_1_method_3_code 3 (fun r τ => r = (sp_row S x).1 ∧ RelC (sp_row S x).2 τ ∧ frC σ τ) := Rt
  show AW g K 3 0 [(0, rV 0), (1, iV x)] [] σ
  obtain ⟨hN, hn, hth, hpl, hbd⟩ := id hS.1
  refine a_iload_n B d_Lo_row_0 rfl rfl ?_
  refine a_callSI B (t_Lo_isRow G x) d_Lo_row_1 ok_Lo_isRow ml_Lo_77 rfl (by decide) (by decide) rfl (Nat.le_of_ble_eq_true rfl) (fun r_1 τ_1 h_1 => ?_)
  obtain ⟨hr_1, hs_1⟩ := h_1
  subst hr_1
  replace hs_1 := hs_1.symm
  subst hs_1
  first | refine b_if_ne_b B 9 d_Lo_row_4 rfl (fun c_4 => ?_) (fun c_4 => ?_) | refine a_if_ne B 9 d_Lo_row_4 rfl (fun c_4 => ?_) (fun c_4 => ?_)
  · skip
    obtain ⟨i, hqi⟩ := isS_t c_4
    obtain ⟨hi, rfl⟩ := rngQ_some (by decide) hqi
    refine a_aload_n B d_Lo_row_9 rfl rfl ?_
    refine gf_Lo_rows B d_Lo_row_10 fl_Lo_12 ?_
    refine gf_Ro_there B d_Lo_row_13 fl_Lo_81 ?_
    refine a_iload_n B d_Lo_row_16 rfl rfl ?_
    refine a_zald B ly_3 _ rfl (by first | assumption | omega) d_Lo_row_17 ?_
    rw [hth i hi]
    first | refine b_if_eq_b B 25 d_Lo_row_18 rfl (fun c_18 => ?_) (fun c_18 => ?_) | refine a_if_eq B 25 d_Lo_row_18 rfl (fun c_18 => ?_) (fun c_18 => ?_)
    · skip
      refine a_iconst B d_Lo_row_25 ci_0 ?_
      refine a_istore_n (lv1 := [(0, _), (1, _), (2, _)]) B d_Lo_row_26 rfl (by decide) rfl ?_
      refine a_aload_n B d_Lo_row_27 rfl rfl ?_
      refine gf_Lo_rows B d_Lo_row_28 fl_Lo_12 ?_
      refine gf_Ro_there B d_Lo_row_31 fl_Lo_81 ?_
      refine a_iload_n B d_Lo_row_34 rfl rfl ?_
      refine a_iconst B d_Lo_row_35 ci_1 ?_
      refine a_zast B ly_3 _ rfl (by first | assumption | omega) rfl d_Lo_row_36 ?_
      refine a_aload_n B d_Lo_row_37 rfl rfl ?_
      refine gf_Lo_rows B d_Lo_row_38 fl_Lo_12 ?_
      refine gf_Ro_places B d_Lo_row_41 fl_Lo_85 ?_
      refine a_iload_n B d_Lo_row_44 rfl rfl ?_
      refine al_pl B _ rfl (by first | assumption | omega) d_Lo_row_45 ?_
      refine a_iconst B d_Lo_row_46 ci_0 ?_
      refine a_callSV B (t_Ar_fillI G (ly_pl hi) (nI 0)) d_Lo_row_47 ok_Ar_fill_IIV ml_Lo_55 rfl (by decide) (by decide) rfl (Nat.le_of_ble_eq_true rfl) (fun τ_47 h_47 => ?_)
      subst h_47
      refine a_iload_n B d_Lo_row_50 rfl rfl ?_
      exact Rt _ _ _ _ d_Lo_row_51 (by have e : sp_row S (nI i) = (bI (sTh S i), pR S (va_up (sTh S) i true) (va_up (sPl S) i (fun _ => 0))) := (by rw [sp_row, hqi]); rw [e]; exact ⟨by rw [c_18]; rfl, RelC_rows hS (RoC_row (b := true) hS.1 hi (fun j hj => by rw [up1_o (by omega)]; simp [fillF, hj]) (fun j => Nat.zero_le _)) (fun k q1 q3 q20 => by rw [up1_o (by omega), up1_o q3]), fun k hk => by rw [up1_o (by omega), up1_o (by omega)]⟩)
    refine a_iconst B d_Lo_row_21 ci_1 ?_
    refine a_goto B 26 d_Lo_row_22 rfl ?_
    refine a_istore_n (lv1 := [(0, _), (1, _), (2, _)]) B d_Lo_row_26 rfl (by decide) rfl ?_
    refine a_aload_n B d_Lo_row_27 rfl rfl ?_
    refine gf_Lo_rows B d_Lo_row_28 fl_Lo_12 ?_
    refine gf_Ro_there B d_Lo_row_31 fl_Lo_81 ?_
    refine a_iload_n B d_Lo_row_34 rfl rfl ?_
    refine a_iconst B d_Lo_row_35 ci_1 ?_
    refine a_zast B ly_3 _ rfl (by first | assumption | omega) rfl d_Lo_row_36 ?_
    refine a_aload_n B d_Lo_row_37 rfl rfl ?_
    refine gf_Lo_rows B d_Lo_row_38 fl_Lo_12 ?_
    refine gf_Ro_places B d_Lo_row_41 fl_Lo_85 ?_
    refine a_iload_n B d_Lo_row_44 rfl rfl ?_
    refine al_pl B _ rfl (by first | assumption | omega) d_Lo_row_45 ?_
    refine a_iconst B d_Lo_row_46 ci_0 ?_
    refine a_callSV B (t_Ar_fillI G (ly_pl hi) (nI 0)) d_Lo_row_47 ok_Ar_fill_IIV ml_Lo_55 rfl (by decide) (by decide) rfl (Nat.le_of_ble_eq_true rfl) (fun τ_47 h_47 => ?_)
    subst h_47
    refine a_iload_n B d_Lo_row_50 rfl rfl ?_
    exact Rt _ _ _ _ d_Lo_row_51 (by have e : sp_row S (nI i) = (bI (sTh S i), pR S (va_up (sTh S) i true) (va_up (sPl S) i (fun _ => 0))) := (by rw [sp_row, hqi]); rw [e]; exact ⟨by rw [c_18]; rfl, RelC_rows hS (RoC_row (b := true) hS.1 hi (fun j hj => by rw [up1_o (by omega)]; simp [fillF, hj]) (fun j => Nat.zero_le _)) (fun k q1 q3 q20 => by rw [up1_o (by omega), up1_o q3]), fun k hk => by rw [up1_o (by omega), up1_o (by omega)]⟩)
  have hqi := isS_f c_4
  refine a_iconst B d_Lo_row_7 ci_m1 ?_
  exact Rt _ _ _ _ d_Lo_row_8 (by have e : sp_row S x = RB S := (by rw [sp_row, hqi]); rw [e]; exact ⟨rfl, hS, (fun _ _ => rfl)⟩)
theorem d_Lo_tear_0 : decode prog_1_method_5_code 0 = .ok (.iload_n 1, 1) := by decide +kernel
theorem d_Lo_tear_1 : decode prog_1_method_5_code 1 = .ok (.invokestatic 77, 3) := by decide +kernel
theorem d_Lo_tear_4 : decode prog_1_method_5_code 4 = .ok (.ifCond .ne 5, 3) := by decide +kernel
theorem d_Lo_tear_7 : decode prog_1_method_5_code 7 = .ok (.iconst (-1), 1) := by decide +kernel
theorem d_Lo_tear_8 : decode prog_1_method_5_code 8 = .ok (.ireturn, 1) := by decide +kernel
theorem d_Lo_tear_9 : decode prog_1_method_5_code 9 = .ok (.aload_n 0, 1) := by decide +kernel
theorem d_Lo_tear_10 : decode prog_1_method_5_code 10 = .ok (.getfield 12, 3) := by decide +kernel
theorem d_Lo_tear_13 : decode prog_1_method_5_code 13 = .ok (.getfield 81, 3) := by decide +kernel
theorem d_Lo_tear_16 : decode prog_1_method_5_code 16 = .ok (.iload_n 1, 1) := by decide +kernel
theorem d_Lo_tear_17 : decode prog_1_method_5_code 17 = .ok (.baload, 1) := by decide +kernel
theorem d_Lo_tear_18 : decode prog_1_method_5_code 18 = .ok (.ifCond .ne 12, 3) := by decide +kernel
theorem d_Lo_tear_21 : decode prog_1_method_5_code 21 = .ok (.aload_n 0, 1) := by decide +kernel
theorem d_Lo_tear_22 : decode prog_1_method_5_code 22 = .ok (.getfield 47, 3) := by decide +kernel
theorem d_Lo_tear_25 : decode prog_1_method_5_code 25 = .ok (.iconst 1, 1) := by decide +kernel
theorem d_Lo_tear_26 : decode prog_1_method_5_code 26 = .ok (.invokevirtual 89, 3) := by decide +kernel
theorem d_Lo_tear_29 : decode prog_1_method_5_code 29 = .ok (.ireturn, 1) := by decide +kernel
theorem d_Lo_tear_30 : decode prog_1_method_5_code 30 = .ok (.aload_n 0, 1) := by decide +kernel
theorem d_Lo_tear_31 : decode prog_1_method_5_code 31 = .ok (.getfield 12, 3) := by decide +kernel
theorem d_Lo_tear_34 : decode prog_1_method_5_code 34 = .ok (.getfield 81, 3) := by decide +kernel
theorem d_Lo_tear_37 : decode prog_1_method_5_code 37 = .ok (.iload_n 1, 1) := by decide +kernel
theorem d_Lo_tear_38 : decode prog_1_method_5_code 38 = .ok (.iconst 0, 1) := by decide +kernel
theorem d_Lo_tear_39 : decode prog_1_method_5_code 39 = .ok (.bastore, 1) := by decide +kernel
theorem d_Lo_tear_40 : decode prog_1_method_5_code 40 = .ok (.iconst 1, 1) := by decide +kernel
theorem d_Lo_tear_41 : decode prog_1_method_5_code 41 = .ok (.ireturn, 1) := by decide +kernel
set_option maxHeartbeats 4000000 in
set_option maxRecDepth 20000 in
theorem tC_tear {g : GG} (G : Gok g) {σ : AH} {S : Sp} (hS : RelC S σ) (x : Int32) : TerI g 1 m_Lo_tear [rV 0, iV x] σ (fun r τ => r = (sp_tear S x).1 ∧ RelC (sp_tear S x).2 τ ∧ frC σ τ) := by
  refine TerI.mk G (by decide +kernel) rfl (Nat.le_of_ble_eq_true rfl) (fun K B Rt => ?_)
  have B : Cx g K prog_1_method_5_code 2 R_Lo 1 := B
  have Rt : RetI g K prog_1_method_5_code 2 (fun r τ => r = (sp_tear S x).1 ∧ RelC (sp_tear S x).2 τ ∧ frC σ τ) := Rt
  show AW g K 2 0 [(0, rV 0), (1, iV x)] [] σ
  obtain ⟨hN, hn, hth, hpl, hbd⟩ := id hS.1
  refine a_iload_n B d_Lo_tear_0 rfl rfl ?_
  refine a_callSI B (t_Lo_isRow G x) d_Lo_tear_1 ok_Lo_isRow ml_Lo_77 rfl (by decide) (by decide) rfl (Nat.le_of_ble_eq_true rfl) (fun r_1 τ_1 h_1 => ?_)
  obtain ⟨hr_1, hs_1⟩ := h_1
  subst hr_1
  replace hs_1 := hs_1.symm
  subst hs_1
  first | refine b_if_ne_b B 9 d_Lo_tear_4 rfl (fun c_4 => ?_) (fun c_4 => ?_) | refine a_if_ne B 9 d_Lo_tear_4 rfl (fun c_4 => ?_) (fun c_4 => ?_)
  · skip
    obtain ⟨i, hqi⟩ := isS_t c_4
    obtain ⟨hi, rfl⟩ := rngQ_some (by decide) hqi
    refine a_aload_n B d_Lo_tear_9 rfl rfl ?_
    refine gf_Lo_rows B d_Lo_tear_10 fl_Lo_12 ?_
    refine gf_Ro_there B d_Lo_tear_13 fl_Lo_81 ?_
    refine a_iload_n B d_Lo_tear_16 rfl rfl ?_
    refine a_zald B ly_3 _ rfl (by first | assumption | omega) d_Lo_tear_17 ?_
    rw [hth i hi]
    first | refine b_if_ne_b B 30 d_Lo_tear_18 rfl (fun c_18 => ?_) (fun c_18 => ?_) | refine a_if_ne B 30 d_Lo_tear_18 rfl (fun c_18 => ?_) (fun c_18 => ?_)
    · skip
      refine a_aload_n B d_Lo_tear_30 rfl rfl ?_
      refine gf_Lo_rows B d_Lo_tear_31 fl_Lo_12 ?_
      refine gf_Ro_there B d_Lo_tear_34 fl_Lo_81 ?_
      refine a_iload_n B d_Lo_tear_37 rfl rfl ?_
      refine a_iconst B d_Lo_tear_38 ci_0 ?_
      refine a_zast B ly_3 _ rfl (by first | assumption | omega) rfl d_Lo_tear_39 ?_
      refine a_iconst B d_Lo_tear_40 ci_1 ?_
      exact Rt _ _ _ _ d_Lo_tear_41 (by have e : sp_tear S (nI i) = (1, pR S (va_up (sTh S) i false) (sPl S)) := (by rw [sp_tear, hqi]; exact if_neg (by rw [c_18]; decide)); rw [e]; exact ⟨rfl, RelC_rows hS ⟨by rw [up1_o (by decide)]; exact hN, hn, fun k hk => by rw [up1_s]; (by_cases e9 : k = i; rw [e9, upd_s, va_up_s]; rfl; rw [upd_o e9, va_up_o e9]; exact hth k hk), fun k j hk hj => by rw [up1_o (by omega)]; exact hpl k j hk hj, hbd⟩ (fun k q1 q3 q20 => up1_o q3), fun k hk => up1_o (by omega)⟩)
    refine a_aload_n B d_Lo_tear_21 rfl rfl ?_
    refine gf_Lo_found B d_Lo_tear_22 fl_Lo_47 ?_
    refine a_iconst B d_Lo_tear_25 ci_1 ?_
    refine a_callVI (ci := 2) B (t_Fi_answer G 1 (by decide)) d_Lo_tear_26 ok_Fi_answer ml_Lo_89 ly_15 rfl rfl (by decide) (by decide) rfl (Nat.le_of_ble_eq_true rfl) (fun r_26 τ_26 h_26 => ?_)
    obtain ⟨hr_26, hs_26⟩ := h_26
    subst hr_26
    subst hs_26
    exact Rt _ _ _ _ d_Lo_tear_29 (by have e : sp_tear S (nI i) = RF S 1 := (by rw [sp_tear, hqi]; exact if_pos c_18); rw [e]; exact ⟨rfl, RelC_fnd hS (by decide), frC_ans⟩)
  have hqi := isS_f c_4
  refine a_iconst B d_Lo_tear_7 ci_m1 ?_
  exact Rt _ _ _ _ d_Lo_tear_8 (by have e : sp_tear S x = RB S := (by rw [sp_tear, hqi]); rw [e]; exact ⟨rfl, hS, (fun _ _ => rfl)⟩)
