/-! the reference: its cells hold the state -/
def RoM (σ : AH) (n : Nat) (th : Nat → Bool) (pl : Nat → Nat → Nat) : Prop := σ.1 106 3 = nI n ∧ n ≤ 10 ∧ (∀ i, i < 10 → σ.1 108 i = bI (th i)) ∧ (∀ i j, i < 10 → j < 10 → σ.1 109 (10 * i + j) = nI (pl i j)) ∧ (∀ i j, pl i j ≤ 10000)
def TmA (σ : AH) (t : Nat) (T : TT) : Prop := σ.1 111 t = nI (tN T) ∧ (∀ v, v < 2 * tN T - 2 → σ.1 114 (20 * t + v) = nI (tU T v)) ∧ σ.1 114 (20 * t + (2 * tN T - 2)) = -9 ∧ (∀ v, v < 2 * tN T - 1 → σ.1 115 (20 * t + v) = nI (tH T v)) ∧ (∀ v, v < 2 * tN T - 1 → σ.1 117 (20 * t + v) = bI (tD T v)) ∧ (∀ v, v < 2 * tN T - 1 → σ.1 118 (20 * t + v) = nI (tM T v))
def TmB (σ : AH) (t : Nat) (T : TT) : Prop := (∀ l, l < tN T → σ.1 112 (20 * t + l) = -9 ∧ σ.1 113 (20 * t + l) = -9) ∧ (∀ j, tN T ≤ j → j < 2 * tN T - 1 → σ.1 112 (20 * t + j) = nI (tL T j) ∧ σ.1 113 (20 * t + j) = nI (tR T j))
def TmC (σ : AH) (t : Nat) (T : TT) : Prop := ∀ v, v < 2 * tN T - 1 → σ.1 116 (20 * t + v) = tC T v
def TrM (σ : AH) (t : Nat) (T : TT) : Prop := σ.1 111 t = nI (tN T) ∧ (tN T ≠ 0 → Wf T ∧ TmA σ t T ∧ TmB σ t T ∧ TmC σ t T)
def MiM (σ : AH) (S : Sp) : Prop := σ.1 106 0 = nI (sFi S) ∧ (∀ f, f < 6 → σ.1 107 f = sFs S f) ∧ σ.1 106 2 = sAs S ∧ σ.1 106 22 = nI (sKn S) ∧ sKn S ≤ 10 ∧ (sKn S ≠ 0 → ∀ l, l < 10 → σ.1 124 l = sKp S l) ∧ (∃ b, σ.1 106 25 = bI b ∧ (b = true → ∀ l, l < 10 → σ.1 125 l = sGr S l) ∧ (b = false → ∀ l, l < 10 → sGr S l = -9)) ∧ σ.1 106 29 = nI (sLn S) ∧ sLn S ≤ 8 ∧ (∀ i, i < sLn S → σ.1 128 i = nI (sLd S i))
def AxM (σ : AH) (m : Nat) (W : Nat → Nat → Int) : Prop := σ.1 106 26 = nI m ∧ m ≤ 8 ∧ (∀ a b, a < 8 → b < 8 → σ.1 126 (8 * a + b) = zI (W a b)) ∧ okW W
def RelM (S : Sp) (σ : AH) : Prop := RoM σ (sN S) (sTh S) (sPl S) ∧ (∀ t, t < 4 → TrM σ t (sT S t)) ∧ MiM σ S ∧ AxM σ (sMx S) (sWo S)
/-- what the reference leaves: the class's cells -/
def frM (σ τ : AH) : Prop := ∀ k, k < 106 → τ.1 k = σ.1 k
theorem RoM.of {σ τ : AH} {n : Nat} {th : Nat → Bool} {pl : Nat → Nat → Nat} (h : RoM σ n th pl) (h3 : τ.1 106 3 = σ.1 106 3) (h8 : τ.1 108 = σ.1 108) (h9 : τ.1 109 = σ.1 109) : RoM τ n th pl := by
  unfold RoM at h ⊢
  rw [h3, h8, h9]
  exact h
theorem TmA.at {σ τ : AH} {t : Nat} {T : TT} (h : TmA σ t T) (hn : 1 ≤ tN T) (hn2 : tN T ≤ 10) (e1 : τ.1 111 t = σ.1 111 t) (e : ∀ k v, 111 < k → k ≤ 118 → v < 20 → τ.1 k (20 * t + v) = σ.1 k (20 * t + v)) : TmA τ t T := by
  obtain ⟨a1, a2, a3, a4, a5, a6⟩ := h
  exact ⟨by rw [e1]; exact a1, fun v hv => by rw [e _ _ (by omega) (by omega) (by omega)]; exact a2 v hv, by rw [e _ _ (by omega) (by omega) (by omega)]; exact a3, fun v hv => by rw [e _ _ (by omega) (by omega) (by omega)]; exact a4 v hv, fun v hv => by rw [e _ _ (by omega) (by omega) (by omega)]; exact a5 v hv, fun v hv => by rw [e _ _ (by omega) (by omega) (by omega)]; exact a6 v hv⟩
theorem TmB.at {σ τ : AH} {t : Nat} {T : TT} (h : TmB σ t T) (hn : 1 ≤ tN T) (hn2 : tN T ≤ 10) (e : ∀ k v, 111 < k → k ≤ 113 → v < 20 → τ.1 k (20 * t + v) = σ.1 k (20 * t + v)) : TmB τ t T := by
  obtain ⟨a1, a2⟩ := h
  exact ⟨fun v hv => by rw [e _ _ (by omega) (by omega) (by omega), e _ _ (by omega) (by omega) (by omega)]; exact a1 v hv, fun v hv hv2 => by rw [e _ _ (by omega) (by omega) (by omega), e _ _ (by omega) (by omega) (by omega)]; exact a2 v hv hv2⟩
theorem TmC.at {σ τ : AH} {t : Nat} {T : TT} (h : TmC σ t T) (hn2 : tN T ≤ 10) (e : ∀ v, v < 20 → τ.1 116 (20 * t + v) = σ.1 116 (20 * t + v)) : TmC τ t T := fun v hv => by rw [e _ (by omega)]; exact h v hv
theorem TrM.at {σ τ : AH} {t : Nat} {T : TT} (h : TrM σ t T) (e1 : τ.1 111 t = σ.1 111 t) (e : ∀ k v, 111 < k → k ≤ 118 → v < 20 → τ.1 k (20 * t + v) = σ.1 k (20 * t + v)) : TrM τ t T := by
  refine ⟨by rw [e1]; exact h.1, fun hn => ?_⟩
  obtain ⟨w, a, b, c⟩ := h.2 hn
  exact ⟨w, a.at w.1 w.2.1 e1 e, b.at w.1 w.2.1 (fun k v q1 q2 q3 => e k v q1 (by omega) q3), c.at w.2.1 (fun v q => e 116 v (by decide) (by decide) q)⟩
theorem TrM.of {σ τ : AH} {t : Nat} {T : TT} (h : TrM σ t T) (e : ∀ k, 111 ≤ k → k ≤ 118 → τ.1 k = σ.1 k) : TrM τ t T := h.at (by rw [e _ (by decide) (by decide)]) (fun k v q1 q2 _ => by rw [e k (by omega) q2])
theorem MiM_of {σ τ : AH} {S : Sp} (h : MiM σ S) (e0 : τ.1 106 0 = σ.1 106 0) (e2 : τ.1 106 2 = σ.1 106 2) (e22 : τ.1 106 22 = σ.1 106 22) (e25 : τ.1 106 25 = σ.1 106 25) (e29 : τ.1 106 29 = σ.1 106 29) (e107 : τ.1 107 = σ.1 107) (e124 : τ.1 124 = σ.1 124) (e125 : τ.1 125 = σ.1 125) (e128 : τ.1 128 = σ.1 128) : MiM τ S := by
  unfold MiM at h ⊢
  rw [e0, e2, e22, e25, e29, e107, e124, e125, e128]
  exact h
theorem AxM.of {σ τ : AH} {m : Nat} {W : Nat → Nat → Int} (h : AxM σ m W) (e26 : τ.1 106 26 = σ.1 106 26) (e126 : τ.1 126 = σ.1 126) : AxM τ m W := by
  unfold AxM at h ⊢
  rw [e26, e126]
  exact h
/-- cells for work alone change -/
def wkM (σ τ : AH) : Prop := (∀ k, k ≠ 106 → k ≠ 110 → (k < 119 ∨ 123 < k) → k ≠ 127 → τ.1 k = σ.1 k) ∧ ∀ j, j ≠ 15 → j ≠ 16 → τ.1 106 j = σ.1 106 j
theorem RelM_wk {S : Sp} {σ τ : AH} (h : RelM S σ) (e : wkM σ τ) : RelM S τ := by
  obtain ⟨h1, h2, h3, h4⟩ := h
  obtain ⟨e, f⟩ := e
  have e' : ∀ k, k ≠ 106 → k ≠ 110 → (k < 119 ∨ 123 < k) → k ≠ 127 → τ.1 k = σ.1 k := e
  refine ⟨h1.of (f _ (by decide) (by decide)) (e _ (by decide) (by decide) (by decide) (by decide)) (e _ (by decide) (by decide) (by decide) (by decide)), fun t ht => (h2 t ht).of (fun k q1 q2 => e k (by omega) (by omega) (by omega) (by omega)), ?_, h4.of (f _ (by decide) (by decide)) (e _ (by decide) (by decide) (by decide) (by decide))⟩
  exact MiM_of h3 (f _ (by decide) (by decide)) (f _ (by decide) (by decide)) (f _ (by decide) (by decide)) (f _ (by decide) (by decide)) (f _ (by decide) (by decide)) (e _ (by decide) (by decide) (by decide) (by decide)) (e _ (by decide) (by decide) (by decide) (by decide)) (e _ (by decide) (by decide) (by decide) (by decide)) (e _ (by decide) (by decide) (by decide) (by decide))
theorem wkM_fr {σ τ : AH} (h : wkM σ τ) : frM σ τ := fun k hk => h.1 k (by omega) (by omega) (by omega) (by omega)
theorem wkM_rfl {σ : AH} : wkM σ σ := ⟨fun _ _ _ _ _ => rfl, fun _ _ _ => rfl⟩
theorem wkM_tr {σ τ υ : AH} (h : wkM σ τ) (h' : wkM τ υ) : wkM σ υ := ⟨fun k a b c d => (h'.1 k a b c d).trans (h.1 k a b c d), fun j a b => (h'.2 j a b).trans (h.2 j a b)⟩
theorem wkM_up {σ : AH} {k : Nat} {f : Nat → Int32} (hk : k = 110 ∨ (119 ≤ k ∧ k ≤ 123) ∨ k = 127) : wkM σ (up1 σ k f) := ⟨fun j a b c d => up1_o (by omega), fun j _ _ => by rw [up1_o (by omega)]⟩
theorem frM_tr {σ τ υ : AH} (h : frM σ τ) (h' : frM τ υ) : frM σ υ := fun k hk => (h' k hk).trans (h k hk)
theorem RelM_rows {S : Sp} {σ τ : AH} {n : Nat} {th : Nat → Bool} {pl : Nat → Nat → Nat} (h : RelM S σ) (hR : RoM τ n th pl) (e : ∀ k, 111 ≤ k → τ.1 k = σ.1 k) (e7 : τ.1 107 = σ.1 107) (f : ∀ j, j ≠ 3 → τ.1 106 j = σ.1 106 j) : RelM (pR (pN S n) th pl) τ := by
  obtain ⟨h1, h2, h3, h4⟩ := h
  refine ⟨hR, fun t ht => (h2 t ht).of (fun k q1 q2 => e k (by omega)), ?_, h4.of (f _ (by decide)) (e _ (by decide))⟩
  exact MiM_of (S := S) h3 (f _ (by decide)) (f _ (by decide)) (f _ (by decide)) (f _ (by decide)) (f _ (by decide)) e7 (e _ (by decide)) (e _ (by decide)) (e _ (by decide))
def askH (σ : AH) (v : Int32) : AH := up1 σ 106 (upd (σ.1 106) 2 v)
theorem askH_o {σ : AH} {v : Int32} {k : Nat} (h : k ≠ 106) : (askH σ v).1 k = σ.1 k := up1_o h
theorem askH_f {σ : AH} {v : Int32} {j : Nat} (h : j ≠ 2) : (askH σ v).1 106 j = σ.1 106 j := by
  unfold askH
  rw [up1_s, upd_o h]
theorem RelM_asked {S : Sp} {σ : AH} {v : Int32} (h : RelM S σ) : RelM (pA S v) (askH σ v) := by
  obtain ⟨h1, h2, h3, h4⟩ := h
  refine ⟨h1.of (askH_f (by decide)) (askH_o (by decide)) (askH_o (by decide)), fun t ht => (h2 t ht).of (fun k q1 q2 => askH_o (by omega)), ?_, h4.of (askH_f (by decide)) (askH_o (by decide))⟩
  obtain ⟨m1, m2, m3, m4, m5, m6, m7, m8, m9, m10⟩ := h3
  refine ⟨by rw [askH_f (by decide)]; exact m1, by rw [askH_o (by decide)]; exact m2, by unfold askH; rw [up1_s, upd_s]; rfl, by rw [askH_f (by decide)]; exact m4, m5, by rw [askH_o (by decide)]; exact m6, by rw [askH_f (by decide), askH_o (by decide)]; exact m7, by rw [askH_f (by decide)]; exact m8, m9, by rw [askH_o (by decide)]; exact m10⟩
def meetH (σ : AH) (w : Nat) : AH := up1 (up1 σ 106 (upd (σ.1 106) 0 (nI w))) 107 (upd (σ.1 107) w (σ.1 107 w + 1))
theorem meetH_o {σ : AH} {w k : Nat} (h1 : k ≠ 106) (h2 : k ≠ 107) : (meetH σ w).1 k = σ.1 k := by
  unfold meetH
  rw [up1_o h2, up1_o h1]
theorem meetH_f {σ : AH} {w j : Nat} (h : j ≠ 0) : (meetH σ w).1 106 j = σ.1 106 j := by
  unfold meetH
  rw [up1_o (by decide), up1_s, upd_o h]
theorem RelM_fnd {S : Sp} {σ : AH} {w : Nat} (h : RelM S σ) (hw : w < 6) : RelM (fnd S w) (meetH σ w) := by
  obtain ⟨h1, h2, h3, h4⟩ := h
  refine ⟨h1.of (meetH_f (by decide)) (meetH_o (by decide) (by decide)) (meetH_o (by decide) (by decide)), fun t ht => (h2 t ht).of (fun k q1 q2 => meetH_o (by omega) (by omega)), ?_, h4.of (meetH_f (by decide)) (meetH_o (by decide) (by decide))⟩
  obtain ⟨m1, m2, m3, m4, m5, m6, m7, m8, m9, m10⟩ := h3
  refine ⟨by unfold meetH; rw [up1_o (by decide), up1_s, upd_s]; rfl, fun f hf => ?_, by rw [meetH_f (by decide)]; exact m3, by rw [meetH_f (by decide)]; exact m4, m5, by rw [meetH_o (by decide) (by decide)]; exact m6, by rw [meetH_f (by decide), meetH_o (by decide) (by decide)]; exact m7, by rw [meetH_f (by decide)]; exact m8, m9, by rw [meetH_o (by decide) (by decide)]; exact m10⟩
  unfold meetH
  rw [up1_s]
  show upd (σ.1 107) w (σ.1 107 w + 1) f = upd (sFs S) w (sFs S w + 1) f
  by_cases e9 : f = w
  · rw [e9, upd_s, upd_s, m2 w hw]
  · rw [upd_o e9, upd_o e9]; exact m2 f hf
theorem frM_meet {σ : AH} {w : Nat} : frM σ (meetH σ w) := fun k hk => meetH_o (by omega) (by omega)
theorem frM_ask {σ : AH} {v : Int32} : frM σ (askH σ v) := fun k hk => askH_o (by omega)
def PM {α : Type} (Q : An ⊕ α) (σ : AH) (r : Int32) (τ : AH) : Prop := (∃ q, Q = .inl q ∧ r = q.1 ∧ RelM q.2 τ ∧ frM σ τ) ∨ (∃ a, Q = .inr a ∧ r = nI 0 ∧ τ = σ)
theorem in_rng {n : Nat} {x : Int32} (hn : n < 2 ^ 30) : decide (nI 0 ≤ x ∧ x ≤ nI n - nI 1) = (rngQ n x).isSome := by
  have e : x ≤ nI n - nI 1 ↔ x < nI n := by
    rw [Int32.le_iff_toInt_le, Int32.lt_iff_toInt_lt, pk_sub_toInt hn (by decide), nI_toInt (by omega)]
    omega
  unfold rngQ
  by_cases h : 0 ≤ x ∧ x < nI n
  · rw [if_pos h, decide_eq_true (show nI 0 ≤ x ∧ x ≤ nI n - nI 1 from ⟨h.1, e.mpr h.2⟩)]; rfl
  · rw [if_neg h, decide_eq_false (fun q => h ⟨q.1, e.mp q.2⟩)]; rfl
theorem in_rngP {n : Nat} {x : Int32} (h1 : 1 ≤ n) (hn : n < 2 ^ 30) : decide (nI 0 ≤ x ∧ x ≤ nI (n - 1)) = (rngQ n x).isSome := by
  rw [← in_rng hn, nI_sub' h1]
theorem d_Mo_in_0 : decode prog_9_method_3_code 0 = .ok (.iload_n 0, 1) := by decide +kernel
theorem d_Mo_in_1 : decode prog_9_method_3_code 1 = .ok (.iload_n 1, 1) := by decide +kernel
theorem d_Mo_in_2 : decode prog_9_method_3_code 2 = .ok (.if_icmp .lt 12, 3) := by decide +kernel
theorem d_Mo_in_5 : decode prog_9_method_3_code 5 = .ok (.iload_n 0, 1) := by decide +kernel
theorem d_Mo_in_6 : decode prog_9_method_3_code 6 = .ok (.iload_n 2, 1) := by decide +kernel
theorem d_Mo_in_7 : decode prog_9_method_3_code 7 = .ok (.if_icmp .gt 7, 3) := by decide +kernel
theorem d_Mo_in_10 : decode prog_9_method_3_code 10 = .ok (.iconst 1, 1) := by decide +kernel
theorem d_Mo_in_11 : decode prog_9_method_3_code 11 = .ok (.goto 4, 3) := by decide +kernel
theorem d_Mo_in_14 : decode prog_9_method_3_code 14 = .ok (.iconst 0, 1) := by decide +kernel
theorem d_Mo_in_15 : decode prog_9_method_3_code 15 = .ok (.ireturn, 1) := by decide +kernel
set_option maxHeartbeats 4000000 in
set_option maxRecDepth 20000 in
theorem t_Mo_in {g : GG} (G : Gok g) {σ : AH} (x a b : Int32) : TerI g 0 m_Mo_in [iV x, iV a, iV b] σ (fun r τ => r = bI (decide (a ≤ x ∧ x ≤ b)) ∧ τ = σ) := by
  refine TerI.mkZ G (by decide +kernel) rfl (Nat.le_of_ble_eq_true rfl) (fun K B Rt => ?_)
  have B : Cx g K prog_9_method_3_code 3 R_Mo 0 := B
  have Rt : RetZ g K prog_9_method_3_code 3 (fun r τ => r = bI (decide (a ≤ x ∧ x ≤ b)) ∧ τ = σ) := Rt
  show AW g K 3 0 [(0, iV x), (1, iV a), (2, iV b)] [] σ
  refine a_iload_n B d_Mo_in_0 rfl rfl ?_
  refine a_iload_n B d_Mo_in_1 rfl rfl ?_
  first | refine b_icmp_lt B 14 d_Mo_in_2 rfl (by omega) (by omega) (fun c_2 => ?_) (fun c_2 => ?_) | refine a_icmp_lt B 14 d_Mo_in_2 rfl (fun c_2 => ?_) (fun c_2 => ?_)
  · skip
    refine a_iconst B d_Mo_in_14 ci_0 ?_
    exact Rt _ _ _ _ d_Mo_in_15 (by first | exact Or.inl rfl | exact Or.inr rfl) ⟨by first | exact bI_t (decide_eq_true ⟨Int32.not_lt.mp c_2, Int32.not_lt.mp c_7⟩) | exact bI_f (decide_eq_false (fun q => absurd q.1 (Int32.not_le.mpr c_2))) | exact bI_f (decide_eq_false (fun q => absurd q.2 (Int32.not_le.mpr c_7))), rfl⟩
  refine a_iload_n B d_Mo_in_5 rfl rfl ?_
  refine a_iload_n B d_Mo_in_6 rfl rfl ?_
  first | refine b_icmp_gt B 14 d_Mo_in_7 rfl (by omega) (by omega) (fun c_7 => ?_) (fun c_7 => ?_) | refine a_icmp_gt B 14 d_Mo_in_7 rfl (fun c_7 => ?_) (fun c_7 => ?_)
  · skip
    refine a_iconst B d_Mo_in_14 ci_0 ?_
    exact Rt _ _ _ _ d_Mo_in_15 (by first | exact Or.inl rfl | exact Or.inr rfl) ⟨by first | exact bI_t (decide_eq_true ⟨Int32.not_lt.mp c_2, Int32.not_lt.mp c_7⟩) | exact bI_f (decide_eq_false (fun q => absurd q.1 (Int32.not_le.mpr c_2))) | exact bI_f (decide_eq_false (fun q => absurd q.2 (Int32.not_le.mpr c_7))), rfl⟩
  refine a_iconst B d_Mo_in_10 ci_1 ?_
  refine a_goto B 15 d_Mo_in_11 rfl ?_
  exact Rt _ _ _ _ d_Mo_in_15 (by first | exact Or.inl rfl | exact Or.inr rfl) ⟨by first | exact bI_t (decide_eq_true ⟨Int32.not_lt.mp c_2, Int32.not_lt.mp c_7⟩) | exact bI_f (decide_eq_false (fun q => absurd q.1 (Int32.not_le.mpr c_2))) | exact bI_f (decide_eq_false (fun q => absurd q.2 (Int32.not_le.mpr c_7))), rfl⟩
theorem d_Mo_meets_0 : decode prog_9_method_4_code 0 = .ok (.aload_n 0, 1) := by decide +kernel
theorem d_Mo_meets_1 : decode prog_9_method_4_code 1 = .ok (.iload_n 1, 1) := by decide +kernel
theorem d_Mo_meets_2 : decode prog_9_method_4_code 2 = .ok (.putfield 77, 3) := by decide +kernel
theorem d_Mo_meets_5 : decode prog_9_method_4_code 5 = .ok (.aload_n 0, 1) := by decide +kernel
theorem d_Mo_meets_6 : decode prog_9_method_4_code 6 = .ok (.getfield 7, 3) := by decide +kernel
theorem d_Mo_meets_9 : decode prog_9_method_4_code 9 = .ok (.iload_n 1, 1) := by decide +kernel
theorem d_Mo_meets_10 : decode prog_9_method_4_code 10 = .ok (.dup2, 1) := by decide +kernel
theorem d_Mo_meets_11 : decode prog_9_method_4_code 11 = .ok (.iaload, 1) := by decide +kernel
theorem d_Mo_meets_12 : decode prog_9_method_4_code 12 = .ok (.iconst 1, 1) := by decide +kernel
theorem d_Mo_meets_13 : decode prog_9_method_4_code 13 = .ok (.iadd, 1) := by decide +kernel
theorem d_Mo_meets_14 : decode prog_9_method_4_code 14 = .ok (.iastore, 1) := by decide +kernel
theorem d_Mo_meets_15 : decode prog_9_method_4_code 15 = .ok (.bipush (-3), 2) := by decide +kernel
theorem d_Mo_meets_17 : decode prog_9_method_4_code 17 = .ok (.ireturn, 1) := by decide +kernel
set_option maxHeartbeats 4000000 in
set_option maxRecDepth 20000 in
theorem t_Mo_meets {g : GG} (G : Gok g) {σ : AH} (w : Nat) (hw : w < 6) : TerI g 0 m_Mo_meets [rV 106, iV (nI w)] σ (fun r τ => r = -3 ∧ τ = meetH σ w) := by
  refine TerI.mk G (by decide +kernel) rfl (Nat.le_of_ble_eq_true rfl) (fun K B Rt => ?_)
  have B : Cx g K prog_9_method_4_code 2 R_Mo 0 := B
  have Rt : RetI g K prog_9_method_4_code 2 (fun r τ => r = -3 ∧ τ = meetH σ w) := Rt
  show AW g K 2 0 [(0, rV 106), (1, iV (nI w))] [] σ
  refine a_aload_n B d_Mo_meets_0 rfl rfl ?_
  refine a_iload_n B d_Mo_meets_1 rfl rfl ?_
  refine pf_Mo_finding B d_Mo_meets_2 fl_Mo_77 ?_
  refine a_aload_n B d_Mo_meets_5 rfl rfl ?_
  refine gf_Mo_findings B d_Mo_meets_6 fl_Mo_7 ?_
  refine a_iload_n B d_Mo_meets_9 rfl rfl ?_
  refine a_dup2 B d_Mo_meets_10 rfl rfl ?_
  refine a_iald B ly_107 _ rfl (by first | assumption | omega) d_Mo_meets_11 ?_
  rw [up1_o (by decide)]
  refine a_iconst B d_Mo_meets_12 ci_1 ?_
  first | refine b_iadd B d_Mo_meets_13 ?_ | refine a_iadd B d_Mo_meets_13 ?_
  refine a_iast B ly_107 _ rfl (by first | assumption | omega) d_Mo_meets_14 ?_
  rw [up1_o (by decide)]
  refine a_bipush B d_Mo_meets_15 cb_m3 ?_
  exact Rt _ _ _ _ d_Mo_meets_17 ⟨rfl, rfl⟩
theorem d_Mo_ask_0 : decode prog_9_method_5_code 0 = .ok (.aload_n 0, 1) := by decide +kernel
theorem d_Mo_ask_1 : decode prog_9_method_5_code 1 = .ok (.iload_n 1, 1) := by decide +kernel
theorem d_Mo_ask_2 : decode prog_9_method_5_code 2 = .ok (.putfield 81, 3) := by decide +kernel
theorem d_Mo_ask_5 : decode prog_9_method_5_code 5 = .ok (.iload_n 2, 1) := by decide +kernel
theorem d_Mo_ask_6 : decode prog_9_method_5_code 6 = .ok (.ireturn, 1) := by decide +kernel
set_option maxHeartbeats 4000000 in
set_option maxRecDepth 20000 in
theorem t_Mo_ask {g : GG} (G : Gok g) {σ : AH} (v a : Int32) : TerI g 0 m_Mo_ask [rV 106, iV v, iV a] σ (fun r τ => r = a ∧ τ = askH σ v) := by
  refine TerI.mk G (by decide +kernel) rfl (Nat.le_of_ble_eq_true rfl) (fun K B Rt => ?_)
  have B : Cx g K prog_9_method_5_code 3 R_Mo 0 := B
  have Rt : RetI g K prog_9_method_5_code 3 (fun r τ => r = a ∧ τ = askH σ v) := Rt
  show AW g K 3 0 [(0, rV 106), (1, iV v), (2, iV a)] [] σ
  refine a_aload_n B d_Mo_ask_0 rfl rfl ?_
  refine a_iload_n B d_Mo_ask_1 rfl rfl ?_
  refine pf_Mo_asked B d_Mo_ask_2 fl_Mo_81 ?_
  refine a_iload_n B d_Mo_ask_5 rfl rfl ?_
  exact Rt _ _ _ _ d_Mo_ask_6 ⟨rfl, rfl⟩
theorem d_Mo_isNumber_0 : decode prog_9_method_7_code 0 = .ok (.iload_n 0, 1) := by decide +kernel
theorem d_Mo_isNumber_1 : decode prog_9_method_7_code 1 = .ok (.iconst 0, 1) := by decide +kernel
theorem d_Mo_isNumber_2 : decode prog_9_method_7_code 2 = .ok (.bipush 9, 2) := by decide +kernel
theorem d_Mo_isNumber_4 : decode prog_9_method_7_code 4 = .ok (.invokestatic 87, 3) := by decide +kernel
theorem d_Mo_isNumber_7 : decode prog_9_method_7_code 7 = .ok (.ireturn, 1) := by decide +kernel
set_option maxHeartbeats 4000000 in
set_option maxRecDepth 20000 in
theorem t_Mo_isNumber {g : GG} (G : Gok g) {σ : AH} (x : Int32) : TerI g 1 m_Mo_isNumber [iV x] σ (fun r τ => r = bI (rngQ 10 x).isSome ∧ τ = σ) := by
  refine TerI.mkZ G (by decide +kernel) rfl (Nat.le_of_ble_eq_true rfl) (fun K B Rt => ?_)
  have B : Cx g K prog_9_method_7_code 1 R_Mo 1 := B
  have Rt : RetZ g K prog_9_method_7_code 1 (fun r τ => r = bI (rngQ 10 x).isSome ∧ τ = σ) := Rt
  show AW g K 1 0 [(0, iV x)] [] σ
  refine a_iload_n B d_Mo_isNumber_0 rfl rfl ?_
  refine a_iconst B d_Mo_isNumber_1 ci_0 ?_
  refine a_bipush B d_Mo_isNumber_2 cb_9 ?_
  refine a_callSI B (t_Mo_in G x (nI 0) (nI 9)) d_Mo_isNumber_4 ok_Mo_in ml_Mo_87 rfl (by decide) (by decide) rfl (Nat.le_of_ble_eq_true rfl) (fun r_4 τ_4 h_4 => ?_)
  obtain ⟨hr_4, hs_4⟩ := h_4
  subst hr_4
  replace hs_4 := hs_4.symm
  subst hs_4
  exact Rt _ _ _ _ d_Mo_isNumber_7 (bI_01 _) ⟨congrArg bI (in_rngP (n := 10) (by decide) (by decide)), rfl⟩
theorem d_Mo_isTree_0 : decode prog_9_method_16_code 0 = .ok (.iload_n 0, 1) := by decide +kernel
theorem d_Mo_isTree_1 : decode prog_9_method_16_code 1 = .ok (.iconst 0, 1) := by decide +kernel
theorem d_Mo_isTree_2 : decode prog_9_method_16_code 2 = .ok (.iconst 3, 1) := by decide +kernel
theorem d_Mo_isTree_3 : decode prog_9_method_16_code 3 = .ok (.invokestatic 87, 3) := by decide +kernel
theorem d_Mo_isTree_6 : decode prog_9_method_16_code 6 = .ok (.ireturn, 1) := by decide +kernel
set_option maxHeartbeats 4000000 in
set_option maxRecDepth 20000 in
theorem t_Mo_isTree {g : GG} (G : Gok g) {σ : AH} (x : Int32) : TerI g 1 m_Mo_isTree [iV x] σ (fun r τ => r = bI (rngQ 4 x).isSome ∧ τ = σ) := by
  refine TerI.mkZ G (by decide +kernel) rfl (Nat.le_of_ble_eq_true rfl) (fun K B Rt => ?_)
  have B : Cx g K prog_9_method_16_code 1 R_Mo 1 := B
  have Rt : RetZ g K prog_9_method_16_code 1 (fun r τ => r = bI (rngQ 4 x).isSome ∧ τ = σ) := Rt
  show AW g K 1 0 [(0, iV x)] [] σ
  refine a_iload_n B d_Mo_isTree_0 rfl rfl ?_
  refine a_iconst B d_Mo_isTree_1 ci_0 ?_
  refine a_iconst B d_Mo_isTree_2 ci_3 ?_
  refine a_callSI B (t_Mo_in G x (nI 0) (nI 3)) d_Mo_isTree_3 ok_Mo_in ml_Mo_87 rfl (by decide) (by decide) rfl (Nat.le_of_ble_eq_true rfl) (fun r_3 τ_3 h_3 => ?_)
  obtain ⟨hr_3, hs_3⟩ := h_3
  subst hr_3
  replace hs_3 := hs_3.symm
  subst hs_3
  exact Rt _ _ _ _ d_Mo_isTree_6 (bI_01 _) ⟨congrArg bI (in_rngP (n := 4) (by decide) (by decide)), rfl⟩
theorem tnc_lv {n : Nat} {v : Int32} (hn : n ≤ 10) (h : nI n ≤ v ∧ v ≤ nI 10) : ∃ k, n ≤ k ∧ k ≤ 10 ∧ v = nI k := by
  have q1 : (n : Int) ≤ v.toInt := by have := Int32.le_iff_toInt_le.mp h.1; rw [nI_toInt (by omega)] at this; exact this
  have q2 : v.toInt ≤ 10 := by have := Int32.le_iff_toInt_le.mp h.2; rw [nI_toInt (by decide)] at this; exact this
  refine ⟨v.toInt.toNat, by omega, by omega, Int32.toInt_inj.mp ?_⟩
  rw [nI_toInt (by omega)]
  omega
theorem d_Mo_leaves_0 : decode prog_9_method_6_code 0 = .ok (.iload_n 1, 1) := by decide +kernel
theorem d_Mo_leaves_1 : decode prog_9_method_6_code 1 = .ok (.aload_n 0, 1) := by decide +kernel
theorem d_Mo_leaves_2 : decode prog_9_method_6_code 2 = .ok (.getfield 84, 3) := by decide +kernel
theorem d_Mo_leaves_5 : decode prog_9_method_6_code 5 = .ok (.bipush 10, 2) := by decide +kernel
theorem d_Mo_leaves_7 : decode prog_9_method_6_code 7 = .ok (.invokestatic 87, 3) := by decide +kernel
theorem d_Mo_leaves_10 : decode prog_9_method_6_code 10 = .ok (.ifCond .ne 5, 3) := by decide +kernel
theorem d_Mo_leaves_13 : decode prog_9_method_6_code 13 = .ok (.iconst (-1), 1) := by decide +kernel
theorem d_Mo_leaves_14 : decode prog_9_method_6_code 14 = .ok (.ireturn, 1) := by decide +kernel
theorem d_Mo_leaves_15 : decode prog_9_method_6_code 15 = .ok (.aload_n 0, 1) := by decide +kernel
theorem d_Mo_leaves_16 : decode prog_9_method_6_code 16 = .ok (.iload_n 1, 1) := by decide +kernel
theorem d_Mo_leaves_17 : decode prog_9_method_6_code 17 = .ok (.putfield 84, 3) := by decide +kernel
theorem d_Mo_leaves_20 : decode prog_9_method_6_code 20 = .ok (.iload_n 1, 1) := by decide +kernel
theorem d_Mo_leaves_21 : decode prog_9_method_6_code 21 = .ok (.ireturn, 1) := by decide +kernel
set_option maxHeartbeats 4000000 in
set_option maxRecDepth 20000 in
theorem tM_leaves {g : GG} (G : Gok g) {σ : AH} {S : Sp} (hS : RelM S σ) (x : Int32) : TerI g 1 m_Mo_leaves [rV 106, iV x] σ (fun r τ => r = (sp_leaves S x).1 ∧ RelM (sp_leaves S x).2 τ ∧ frM σ τ) := by
  refine TerI.mk G (by decide +kernel) rfl (Nat.le_of_ble_eq_true rfl) (fun K B Rt => ?_)
  have B : Cx g K prog_9_method_6_code 2 R_Mo 1 := B
  have Rt : RetI g K prog_9_method_6_code 2 (fun r τ => r = (sp_leaves S x).1 ∧ RelM (sp_leaves S x).2 τ ∧ frM σ τ) := Rt
  show AW g K 2 0 [(0, rV 106), (1, iV x)] [] σ
  obtain ⟨hN, hn, hth, hpl, hbd⟩ := id hS.1
  refine a_iload_n B d_Mo_leaves_0 rfl rfl ?_
  refine a_aload_n B d_Mo_leaves_1 rfl rfl ?_
  refine gf_Mo_leaves B d_Mo_leaves_2 fl_Mo_84 ?_
  rw [hN]
  refine a_bipush B d_Mo_leaves_5 cb_10 ?_
  refine a_callSI B (t_Mo_in G x (nI (sN S)) (nI 10)) d_Mo_leaves_7 ok_Mo_in ml_Mo_87 rfl (by decide) (by decide) rfl (Nat.le_of_ble_eq_true rfl) (fun r_7 τ_7 h_7 => ?_)
  obtain ⟨hr_7, hs_7⟩ := h_7
  subst hr_7
  replace hs_7 := hs_7.symm
  subst hs_7
  first | refine b_if_ne_b B 15 d_Mo_leaves_10 rfl (fun c_10 => ?_) (fun c_10 => ?_) | refine a_if_ne B 15 d_Mo_leaves_10 rfl (fun c_10 => ?_) (fun c_10 => ?_)
  · skip
    have c_10 := of_decide_eq_true c_10
    obtain ⟨k, hk1, hk2, rfl⟩ := tnc_lv hn c_10
    refine a_aload_n B d_Mo_leaves_15 rfl rfl ?_
    refine a_iload_n B d_Mo_leaves_16 rfl rfl ?_
    refine pf_Mo_leaves B d_Mo_leaves_17 fl_Mo_84 ?_
    refine a_iload_n B d_Mo_leaves_20 rfl rfl ?_
    exact Rt _ _ _ _ d_Mo_leaves_21 (by have e : sp_leaves S (nI k) = (nI k, pN S k) := (by rw [sp_leaves, if_neg (fun q => q.elim (Int32.not_lt.mpr c_10.1) (Int32.not_lt.mpr c_10.2)), nI_clamp (by omega)]); rw [e]; exact ⟨rfl, RelM_rows hS ⟨by rw [up1_s, upd_s], hk2, by rw [up1_o (by decide)]; exact hth, by rw [up1_o (by decide)]; exact hpl, hbd⟩ (fun k9 q => up1_o (by omega)) (up1_o (by decide)) (fun j hj => by rw [up1_s, upd_o hj]), fun k9 hk9 => up1_o (by omega)⟩)
  have c_10 := of_decide_eq_false c_10
  refine a_iconst B d_Mo_leaves_13 ci_m1 ?_
  exact Rt _ _ _ _ d_Mo_leaves_14 (by have e : sp_leaves S x = RB S := (by rw [sp_leaves]; exact if_pos (Decidable.byContradiction (fun q => c_10 ⟨Int32.not_lt.mp (fun h => q (Or.inl h)), Int32.not_lt.mp (fun h => q (Or.inr h))⟩))); rw [e]; exact ⟨rfl, hS, (fun _ _ => rfl)⟩)
def rwQ (S : Sp) (x : Int32) : An ⊕ Nat := match rngQ 10 x with
  | none => .inl (RB S)
  | some i => if sTh S i = false then .inl (RF S 1) else .inr i
theorem rwQ_neg {S : Sp} {x : Int32} {r : An} (h : rwQ S x = .inl r) : r.1 = -1 ∨ r.1 = -3 ∨ r.1 = -4 := by
  unfold rwQ at h
  split at h
  · cases h; exact Or.inl rfl
  · split at h
    · cases h; exact Or.inr (Or.inl rfl)
    · cases h
theorem rwQ_ok {S : Sp} {x : Int32} {i : Nat} (h : rwQ S x = .inr i) : i < 10 ∧ x = nI i ∧ sTh S i = true ∧ rngQ 10 x = some i := by
  unfold rwQ at h
  split at h
  · cases h
  · next t' ht =>
    split at h
    · cases h
    · next hn =>
      cases h
      exact ⟨(rngQ_some (by decide) ht).1, (rngQ_some (by decide) ht).2, by cases hb : sTh S i with | true => rfl | false => exact absurd hb hn, ht⟩
theorem rwQ_inl {S : Sp} {x : Int32} {q : An} (h : rwQ S x = .inl q) : (rngQ 10 x = none ∧ q = RB S) ∨ ∃ i, rngQ 10 x = some i ∧ sTh S i = false ∧ q = RF S 1 := by
  unfold rwQ at h
  split at h
  · next hr => cases h; exact Or.inl ⟨hr, rfl⟩
  · next t' ht =>
    split at h
    · next hb => cases h; exact Or.inr ⟨t', ht, hb, rfl⟩
    · cases h
theorem d_Mo_looked_0 : decode prog_9_method_8_code 0 = .ok (.iload_n 1, 1) := by decide +kernel
theorem d_Mo_looked_1 : decode prog_9_method_8_code 1 = .ok (.invokestatic 91, 3) := by decide +kernel
theorem d_Mo_looked_4 : decode prog_9_method_8_code 4 = .ok (.ifCond .ne 7, 3) := by decide +kernel
theorem d_Mo_looked_7 : decode prog_9_method_8_code 7 = .ok (.iconst (-1), 1) := by decide +kernel
theorem d_Mo_looked_8 : decode prog_9_method_8_code 8 = .ok (.goto 21, 3) := by decide +kernel
theorem d_Mo_looked_11 : decode prog_9_method_8_code 11 = .ok (.aload_n 0, 1) := by decide +kernel
theorem d_Mo_looked_12 : decode prog_9_method_8_code 12 = .ok (.getfield 13, 3) := by decide +kernel
theorem d_Mo_looked_15 : decode prog_9_method_8_code 15 = .ok (.iload_n 1, 1) := by decide +kernel
theorem d_Mo_looked_16 : decode prog_9_method_8_code 16 = .ok (.baload, 1) := by decide +kernel
theorem d_Mo_looked_17 : decode prog_9_method_8_code 17 = .ok (.ifCond .eq 7, 3) := by decide +kernel
theorem d_Mo_looked_20 : decode prog_9_method_8_code 20 = .ok (.iconst 0, 1) := by decide +kernel
theorem d_Mo_looked_21 : decode prog_9_method_8_code 21 = .ok (.goto 8, 3) := by decide +kernel
theorem d_Mo_looked_24 : decode prog_9_method_8_code 24 = .ok (.aload_n 0, 1) := by decide +kernel
theorem d_Mo_looked_25 : decode prog_9_method_8_code 25 = .ok (.iconst 1, 1) := by decide +kernel
theorem d_Mo_looked_26 : decode prog_9_method_8_code 26 = .ok (.invokevirtual 95, 3) := by decide +kernel
theorem d_Mo_looked_29 : decode prog_9_method_8_code 29 = .ok (.ireturn, 1) := by decide +kernel
set_option maxHeartbeats 4000000 in
set_option maxRecDepth 20000 in
theorem t_Mo_looked {g : GG} (G : Gok g) {σ : AH} {S : Sp} (hS : RelM S σ) (x : Int32) : TerI g 2 m_Mo_looked [rV 106, iV x] σ (PM (rwQ S x) σ) := by
  refine TerI.mk G (by decide +kernel) rfl (Nat.le_of_ble_eq_true rfl) (fun K B Rt => ?_)
  have B : Cx g K prog_9_method_8_code 2 R_Mo 2 := B
  have Rt : RetI g K prog_9_method_8_code 2 (PM (rwQ S x) σ) := Rt
  show AW g K 2 0 [(0, rV 106), (1, iV x)] [] σ
  obtain ⟨hN, hn, hth, hpl, hbd⟩ := id hS.1
  refine a_iload_n B d_Mo_looked_0 rfl rfl ?_
  refine a_callSI B (t_Mo_isNumber G x) d_Mo_looked_1 ok_Mo_isNumber ml_Mo_91 rfl (by decide) (by decide) rfl (Nat.le_of_ble_eq_true rfl) (fun r_1 τ_1 h_1 => ?_)
  obtain ⟨hr_1, hs_1⟩ := h_1
  subst hr_1
  replace hs_1 := hs_1.symm
  subst hs_1
  first | refine b_if_ne_b B 11 d_Mo_looked_4 rfl (fun c_4 => ?_) (fun c_4 => ?_) | refine a_if_ne B 11 d_Mo_looked_4 rfl (fun c_4 => ?_) (fun c_4 => ?_)
  · skip
    obtain ⟨i, hqi⟩ := isS_t c_4
    obtain ⟨hi, rfl⟩ := rngQ_some (by omega) hqi
    refine a_aload_n B d_Mo_looked_11 rfl rfl ?_
    refine gf_Mo_isRow B d_Mo_looked_12 fl_Mo_13 ?_
    refine a_iload_n B d_Mo_looked_15 rfl rfl ?_
    refine a_zald B ly_108 _ rfl (by first | assumption | omega) d_Mo_looked_16 ?_
    rw [hth i hi]
    first | refine b_if_eq_b B 24 d_Mo_looked_17 rfl (fun c_17 => ?_) (fun c_17 => ?_) | refine a_if_eq B 24 d_Mo_looked_17 rfl (fun c_17 => ?_) (fun c_17 => ?_)
    · skip
      refine a_aload_n B d_Mo_looked_24 rfl rfl ?_
      refine a_iconst B d_Mo_looked_25 ci_1 ?_
      refine a_callVI (ci := 7) B (t_Mo_meets G 1 (by decide)) d_Mo_looked_26 ok_Mo_meets ml_Mo_95 ly_106 rfl rfl (by decide) (by decide) rfl (Nat.le_of_ble_eq_true rfl) (fun r_26 τ_26 h_26 => ?_)
      obtain ⟨hr_26, hs_26⟩ := h_26
      subst hr_26
      subst hs_26
      exact Rt _ _ _ _ d_Mo_looked_29 (by first | exact Or.inl ⟨RB S, by rw [rwQ, hqi], rfl, hS, fun _ _ => rfl⟩ | exact Or.inl ⟨RF S 1, (by rw [rwQ, hqi]; exact if_pos c_17), rfl, RelM_fnd hS (by decide), frM_meet⟩ | exact Or.inr ⟨i, (by rw [rwQ, hqi]; exact if_neg (by rw [c_17]; decide)), rfl, rfl⟩)
    refine a_iconst B d_Mo_looked_20 ci_0 ?_
    refine a_goto B 29 d_Mo_looked_21 rfl ?_
    exact Rt _ _ _ _ d_Mo_looked_29 (by first | exact Or.inl ⟨RB S, by rw [rwQ, hqi], rfl, hS, fun _ _ => rfl⟩ | exact Or.inl ⟨RF S 1, (by rw [rwQ, hqi]; exact if_pos c_17), rfl, RelM_fnd hS (by decide), frM_meet⟩ | exact Or.inr ⟨i, (by rw [rwQ, hqi]; exact if_neg (by rw [c_17]; decide)), rfl, rfl⟩)
  have hqi := isS_f c_4
  refine a_iconst B d_Mo_looked_7 ci_m1 ?_
  refine a_goto B 29 d_Mo_looked_8 rfl ?_
  exact Rt _ _ _ _ d_Mo_looked_29 (by first | exact Or.inl ⟨RB S, by rw [rwQ, hqi], rfl, hS, fun _ _ => rfl⟩ | exact Or.inl ⟨RF S 1, (by rw [rwQ, hqi]; exact if_pos c_17), rfl, RelM_fnd hS (by decide), frM_meet⟩ | exact Or.inr ⟨i, (by rw [rwQ, hqi]; exact if_neg (by rw [c_17]; decide)), rfl, rfl⟩)
def fillG (f : Nat → Int32) (a n : Nat) (v : Int32) : Nat → Int32 := fun k => if a ≤ k ∧ k < a + n then v else f k
theorem fillG_0 {f : Nat → Int32} {a : Nat} {v : Int32} : fillG f a 0 v = f := by
  funext k
  exact if_neg (by omega)
theorem fillG_s {f : Nat → Int32} {a n : Nat} {v : Int32} : upd (fillG f a n v) (a + n) v = fillG f a (n + 1) v := by
  funext k
  unfold fillG
  by_cases e : k = a + n
  · rw [e, upd_s, if_pos (by omega)]
  · rw [upd_o e]
    by_cases e2 : a ≤ k ∧ k < a + n
    · rw [if_pos e2, if_pos (by omega)]
    · rw [if_neg e2, if_neg (by omega)]
theorem RoM_place {σ τ : AH} {n : Nat} {th : Nat → Bool} {pl : Nat → Nat → Nat} {i : Nat} {f : Nat → Nat} (h : RoM σ n th pl) (hi : i < 10) (h3 : τ.1 106 3 = σ.1 106 3) (h8 : τ.1 108 = σ.1 108) (hf : ∀ j, j < 10 → τ.1 109 (10 * i + j) = nI (f j)) (ho : ∀ k j, k < 10 → k ≠ i → j < 10 → τ.1 109 (10 * k + j) = σ.1 109 (10 * k + j)) (hb : ∀ j, f j ≤ 10000) : RoM τ n th (va_up pl i f) := by
  obtain ⟨a1, a2, a3, a4, a5⟩ := h
  refine ⟨by rw [h3]; exact a1, a2, by rw [h8]; exact a3, fun k j hk hj => ?_, fun k j => ?_⟩
  · by_cases e : k = i
    · rw [e, va_up_s]; exact hf j hj
    · rw [ho k j hk e hj, va_up_o e]; exact a4 k j hk hj
  · by_cases e : k = i
    · rw [e, va_up_s]; exact hb j
    · rw [va_up_o e]; exact a5 k j
theorem RoM_there {σ : AH} {n : Nat} {th : Nat → Bool} {pl : Nat → Nat → Nat} {i : Nat} {b : Bool} (h : RoM σ n th pl) : RoM (up1 σ 108 (upd (σ.1 108) i (bI b))) n (va_up th i b) pl := by
  obtain ⟨a1, a2, a3, a4, a5⟩ := h
  refine ⟨by rw [up1_o (by decide)]; exact a1, a2, fun k hk => ?_, by rw [up1_o (by decide)]; exact a4, a5⟩
  rw [up1_s]
  by_cases e : k = i
  · rw [e, upd_s, va_up_s]
  · rw [upd_o e, va_up_o e]; exact a3 k hk
theorem d_Mo_row_0 : decode prog_9_method_9_code 0 = .ok (.iload_n 1, 1) := by decide +kernel
theorem d_Mo_row_1 : decode prog_9_method_9_code 1 = .ok (.invokestatic 91, 3) := by decide +kernel
theorem d_Mo_row_4 : decode prog_9_method_9_code 4 = .ok (.ifCond .ne 5, 3) := by decide +kernel
theorem d_Mo_row_7 : decode prog_9_method_9_code 7 = .ok (.iconst (-1), 1) := by decide +kernel
theorem d_Mo_row_8 : decode prog_9_method_9_code 8 = .ok (.ireturn, 1) := by decide +kernel
theorem d_Mo_row_9 : decode prog_9_method_9_code 9 = .ok (.aload_n 0, 1) := by decide +kernel
theorem d_Mo_row_10 : decode prog_9_method_9_code 10 = .ok (.getfield 13, 3) := by decide +kernel
theorem d_Mo_row_13 : decode prog_9_method_9_code 13 = .ok (.iload_n 1, 1) := by decide +kernel
theorem d_Mo_row_14 : decode prog_9_method_9_code 14 = .ok (.baload, 1) := by decide +kernel
theorem d_Mo_row_15 : decode prog_9_method_9_code 15 = .ok (.ifCond .eq 7, 3) := by decide +kernel
theorem d_Mo_row_18 : decode prog_9_method_9_code 18 = .ok (.iconst 1, 1) := by decide +kernel
theorem d_Mo_row_19 : decode prog_9_method_9_code 19 = .ok (.goto 4, 3) := by decide +kernel
theorem d_Mo_row_22 : decode prog_9_method_9_code 22 = .ok (.iconst 0, 1) := by decide +kernel
theorem d_Mo_row_23 : decode prog_9_method_9_code 23 = .ok (.istore_n 2, 1) := by decide +kernel
theorem d_Mo_row_24 : decode prog_9_method_9_code 24 = .ok (.aload_n 0, 1) := by decide +kernel
theorem d_Mo_row_25 : decode prog_9_method_9_code 25 = .ok (.getfield 13, 3) := by decide +kernel
theorem d_Mo_row_28 : decode prog_9_method_9_code 28 = .ok (.iload_n 1, 1) := by decide +kernel
theorem d_Mo_row_29 : decode prog_9_method_9_code 29 = .ok (.iconst 1, 1) := by decide +kernel
theorem d_Mo_row_30 : decode prog_9_method_9_code 30 = .ok (.bastore, 1) := by decide +kernel
theorem d_Mo_row_31 : decode prog_9_method_9_code 31 = .ok (.iconst 0, 1) := by decide +kernel
theorem d_Mo_row_32 : decode prog_9_method_9_code 32 = .ok (.istore_n 3, 1) := by decide +kernel
theorem d_Mo_row_33 : decode prog_9_method_9_code 33 = .ok (.iload_n 3, 1) := by decide +kernel
theorem d_Mo_row_34 : decode prog_9_method_9_code 34 = .ok (.bipush 10, 2) := by decide +kernel
theorem d_Mo_row_36 : decode prog_9_method_9_code 36 = .ok (.if_icmp .ge 21, 3) := by decide +kernel
theorem d_Mo_row_39 : decode prog_9_method_9_code 39 = .ok (.aload_n 0, 1) := by decide +kernel
theorem d_Mo_row_40 : decode prog_9_method_9_code 40 = .ok (.getfield 17, 3) := by decide +kernel
theorem d_Mo_row_43 : decode prog_9_method_9_code 43 = .ok (.bipush 10, 2) := by decide +kernel
theorem d_Mo_row_45 : decode prog_9_method_9_code 45 = .ok (.iload_n 1, 1) := by decide +kernel
theorem d_Mo_row_46 : decode prog_9_method_9_code 46 = .ok (.imul, 1) := by decide +kernel
theorem d_Mo_row_47 : decode prog_9_method_9_code 47 = .ok (.iload_n 3, 1) := by decide +kernel
theorem d_Mo_row_48 : decode prog_9_method_9_code 48 = .ok (.iadd, 1) := by decide +kernel
theorem d_Mo_row_49 : decode prog_9_method_9_code 49 = .ok (.iconst 0, 1) := by decide +kernel
theorem d_Mo_row_50 : decode prog_9_method_9_code 50 = .ok (.iastore, 1) := by decide +kernel
theorem d_Mo_row_51 : decode prog_9_method_9_code 51 = .ok (.iinc 3 1, 3) := by decide +kernel
theorem d_Mo_row_54 : decode prog_9_method_9_code 54 = .ok (.goto (-21), 3) := by decide +kernel
theorem d_Mo_row_57 : decode prog_9_method_9_code 57 = .ok (.iload_n 2, 1) := by decide +kernel
theorem d_Mo_row_58 : decode prog_9_method_9_code 58 = .ok (.ireturn, 1) := by decide +kernel
set_option maxHeartbeats 4000000 in
set_option maxRecDepth 20000 in
theorem tM_row {g : GG} (G : Gok g) {σ : AH} {S : Sp} (hS : RelM S σ) (x : Int32) : TerI g 2 m_Mo_row [rV 106, iV x] σ (fun r τ => r = (sp_row S x).1 ∧ RelM (sp_row S x).2 τ ∧ frM σ τ) := by
  refine TerI.mk G (by decide +kernel) rfl (Nat.le_of_ble_eq_true rfl) (fun K B Rt => ?_)
  have B : Cx g K prog_9_method_9_code 4 R_Mo 2 := B
  have Rt : RetI g K prog_9_method_9_code 4 (fun r τ => r = (sp_row S x).1 ∧ RelM (sp_row S x).2 τ ∧ frM σ τ) := Rt
  show AW g K 4 0 [(0, rV 106), (1, iV x)] [] σ
  obtain ⟨hN, hn, hth, hpl, hbd⟩ := id hS.1
  refine a_iload_n B d_Mo_row_0 rfl rfl ?_
  refine a_callSI B (t_Mo_isNumber G x) d_Mo_row_1 ok_Mo_isNumber ml_Mo_91 rfl (by decide) (by decide) rfl (Nat.le_of_ble_eq_true rfl) (fun r_1 τ_1 h_1 => ?_)
  obtain ⟨hr_1, hs_1⟩ := h_1
  subst hr_1
  replace hs_1 := hs_1.symm
  subst hs_1
  first | refine b_if_ne_b B 9 d_Mo_row_4 rfl (fun c_4 => ?_) (fun c_4 => ?_) | refine a_if_ne B 9 d_Mo_row_4 rfl (fun c_4 => ?_) (fun c_4 => ?_)
  · skip
    obtain ⟨i, hqi⟩ := isS_t c_4
    obtain ⟨hi, rfl⟩ := rngQ_some (by omega) hqi
    refine a_aload_n B d_Mo_row_9 rfl rfl ?_
    refine gf_Mo_isRow B d_Mo_row_10 fl_Mo_13 ?_
    refine a_iload_n B d_Mo_row_13 rfl rfl ?_
    refine a_zald B ly_108 _ rfl (by first | assumption | omega) d_Mo_row_14 ?_
    rw [hth i hi]
    first | refine b_if_eq_b B 22 d_Mo_row_15 rfl (fun c_15 => ?_) (fun c_15 => ?_) | refine a_if_eq B 22 d_Mo_row_15 rfl (fun c_15 => ?_) (fun c_15 => ?_)
    · skip
      refine a_iconst B d_Mo_row_22 ci_0 ?_
      first | rw [show (nI 1 : Int32) = bI (sTh S i) by rw [c_15]; rfl] | rw [show (nI 0 : Int32) = bI (sTh S i) by rw [c_15]; rfl]
      refine a_istore_n (lv1 := [(0, _), (1, _), (2, _)]) B d_Mo_row_23 rfl (by decide) rfl ?_
      refine a_aload_n B d_Mo_row_24 rfl rfl ?_
      refine gf_Mo_isRow B d_Mo_row_25 fl_Mo_13 ?_
      refine a_iload_n B d_Mo_row_28 rfl rfl ?_
      refine a_iconst B d_Mo_row_29 ci_1 ?_
      refine a_zast B ly_108 _ rfl (by first | assumption | omega) rfl d_Mo_row_30 ?_
      refine a_iconst B d_Mo_row_31 ci_0 ?_
      refine a_istore_n (lv1 := [(0, _), (1, _), (2, _), (3, _)]) B d_Mo_row_32 rfl (by decide) rfl ?_
      have e0 : up1 σ 108 (upd (σ.1 108) i (nI 1)) = up1 (up1 σ 108 (upd (σ.1 108) i (bI true))) 109 (fillG (σ.1 109) (10 * i) 0 (nI 0)) := (by rw [fillG_0, show σ.1 109 = (up1 σ 108 (upd (σ.1 108) i (bI true))).1 109 from (up1_o (by decide)).symm, up1_self]; rfl)
      rw [e0]
      refine a_for (lf := fun j => [(0, rV 106), (1, iV (nI i)), (2, iV (bI (sTh S i))), (3, iV (nI j))]) (τ := fun j => up1 (up1 σ 108 (upd (σ.1 108) i (bI true))) 109 (fillG (σ.1 109) (10 * i) j (nI 0))) 10 (fun j hj ihj => ?_) ?_ 0 (Nat.zero_le _)
      · skip
        refine a_iload_n B d_Mo_row_33 rfl rfl ?_
        refine a_bipush B d_Mo_row_34 cb_10 ?_
        first | refine b_icmp_ge B 57 d_Mo_row_36 rfl (by omega) (by omega) (fun c_36 => ?_) (fun c_36 => ?_) | refine a_icmp_ge B 57 d_Mo_row_36 rfl (fun c_36 => ?_) (fun c_36 => ?_)
        · skip
          exact absurd c_36 (by omega)
        refine a_aload_n B d_Mo_row_39 rfl rfl ?_
        refine gf_Mo_rows B d_Mo_row_40 fl_Mo_17 ?_
        refine a_bipush B d_Mo_row_43 cb_10 ?_
        refine a_iload_n B d_Mo_row_45 rfl rfl ?_
        first | refine b_imul B d_Mo_row_46 ?_ | refine a_imul B d_Mo_row_46 ?_
        refine a_iload_n B d_Mo_row_47 rfl rfl ?_
        first | refine b_iadd B d_Mo_row_48 ?_ | refine a_iadd B d_Mo_row_48 ?_
        refine a_iconst B d_Mo_row_49 ci_0 ?_
        refine a_iast B ly_109 _ rfl (by first | assumption | omega) d_Mo_row_50 ?_
        first | refine b_iinc (lv1 := [(0, _), (1, _), (2, _), (3, _)]) B d_Mo_row_51 rfl ci_1 (by decide) rfl ?_ | refine a_iinc (lv1 := [(0, _), (1, _), (2, _), (3, _)]) B d_Mo_row_51 rfl rfl (by decide) rfl ?_
        refine a_goto B 33 d_Mo_row_54 rfl ?_
        rw [up1_s, up1_up1, fillG_s]
        exact ihj
      · skip
        refine a_iload_n B d_Mo_row_33 rfl rfl ?_
        refine a_bipush B d_Mo_row_34 cb_10 ?_
        first | refine b_icmp_ge B 57 d_Mo_row_36 rfl (by omega) (by omega) (fun c_36 => ?_) (fun c_36 => ?_) | refine a_icmp_ge B 57 d_Mo_row_36 rfl (fun c_36 => ?_) (fun c_36 => ?_)
        · skip
          refine a_iload_n B d_Mo_row_57 rfl rfl ?_
          exact Rt _ _ _ _ d_Mo_row_58 (by have e : sp_row S (nI i) = (bI (sTh S i), pR S (va_up (sTh S) i true) (va_up (sPl S) i (fun _ => 0))) := (by rw [sp_row, hqi]); rw [e]; exact ⟨rfl, RelM_rows hS (RoM_place (τ := up1 (up1 σ 108 (upd (σ.1 108) i (bI true))) 109 (fillG (σ.1 109) (10 * i) 10 (nI 0))) (RoM_there hS.1) hi (by rw [up1_o (by decide)]) (by rw [up1_o (by decide)]) (fun j hj => by rw [up1_s]; exact if_pos (by omega)) (fun k j hk hne hj => by rw [up1_s, up1_o (by decide)]; exact if_neg (by omega)) (fun j => Nat.zero_le _)) (fun k q => by rw [up1_o (by omega), up1_o (by omega)]) (by rw [up1_o (by omega), up1_o (by omega)]) (fun j _ => by rw [up1_o (by omega), up1_o (by omega)]), fun k hk => by rw [up1_o (by omega), up1_o (by omega)]⟩)
        exact absurd c_36 (by omega)
    refine a_iconst B d_Mo_row_18 ci_1 ?_
    refine a_goto B 23 d_Mo_row_19 rfl ?_
    first | rw [show (nI 1 : Int32) = bI (sTh S i) by rw [c_15]; rfl] | rw [show (nI 0 : Int32) = bI (sTh S i) by rw [c_15]; rfl]
    refine a_istore_n (lv1 := [(0, _), (1, _), (2, _)]) B d_Mo_row_23 rfl (by decide) rfl ?_
    refine a_aload_n B d_Mo_row_24 rfl rfl ?_
    refine gf_Mo_isRow B d_Mo_row_25 fl_Mo_13 ?_
    refine a_iload_n B d_Mo_row_28 rfl rfl ?_
    refine a_iconst B d_Mo_row_29 ci_1 ?_
    refine a_zast B ly_108 _ rfl (by first | assumption | omega) rfl d_Mo_row_30 ?_
    refine a_iconst B d_Mo_row_31 ci_0 ?_
    refine a_istore_n (lv1 := [(0, _), (1, _), (2, _), (3, _)]) B d_Mo_row_32 rfl (by decide) rfl ?_
    have e0 : up1 σ 108 (upd (σ.1 108) i (nI 1)) = up1 (up1 σ 108 (upd (σ.1 108) i (bI true))) 109 (fillG (σ.1 109) (10 * i) 0 (nI 0)) := (by rw [fillG_0, show σ.1 109 = (up1 σ 108 (upd (σ.1 108) i (bI true))).1 109 from (up1_o (by decide)).symm, up1_self]; rfl)
    rw [e0]
    refine a_for (lf := fun j => [(0, rV 106), (1, iV (nI i)), (2, iV (bI (sTh S i))), (3, iV (nI j))]) (τ := fun j => up1 (up1 σ 108 (upd (σ.1 108) i (bI true))) 109 (fillG (σ.1 109) (10 * i) j (nI 0))) 10 (fun j hj ihj => ?_) ?_ 0 (Nat.zero_le _)
    · skip
      refine a_iload_n B d_Mo_row_33 rfl rfl ?_
      refine a_bipush B d_Mo_row_34 cb_10 ?_
      first | refine b_icmp_ge B 57 d_Mo_row_36 rfl (by omega) (by omega) (fun c_36 => ?_) (fun c_36 => ?_) | refine a_icmp_ge B 57 d_Mo_row_36 rfl (fun c_36 => ?_) (fun c_36 => ?_)
      · skip
        exact absurd c_36 (by omega)
      refine a_aload_n B d_Mo_row_39 rfl rfl ?_
      refine gf_Mo_rows B d_Mo_row_40 fl_Mo_17 ?_
      refine a_bipush B d_Mo_row_43 cb_10 ?_
      refine a_iload_n B d_Mo_row_45 rfl rfl ?_
      first | refine b_imul B d_Mo_row_46 ?_ | refine a_imul B d_Mo_row_46 ?_
      refine a_iload_n B d_Mo_row_47 rfl rfl ?_
      first | refine b_iadd B d_Mo_row_48 ?_ | refine a_iadd B d_Mo_row_48 ?_
      refine a_iconst B d_Mo_row_49 ci_0 ?_
      refine a_iast B ly_109 _ rfl (by first | assumption | omega) d_Mo_row_50 ?_
      first | refine b_iinc (lv1 := [(0, _), (1, _), (2, _), (3, _)]) B d_Mo_row_51 rfl ci_1 (by decide) rfl ?_ | refine a_iinc (lv1 := [(0, _), (1, _), (2, _), (3, _)]) B d_Mo_row_51 rfl rfl (by decide) rfl ?_
      refine a_goto B 33 d_Mo_row_54 rfl ?_
      rw [up1_s, up1_up1, fillG_s]
      exact ihj
    · skip
      refine a_iload_n B d_Mo_row_33 rfl rfl ?_
      refine a_bipush B d_Mo_row_34 cb_10 ?_
      first | refine b_icmp_ge B 57 d_Mo_row_36 rfl (by omega) (by omega) (fun c_36 => ?_) (fun c_36 => ?_) | refine a_icmp_ge B 57 d_Mo_row_36 rfl (fun c_36 => ?_) (fun c_36 => ?_)
      · skip
        refine a_iload_n B d_Mo_row_57 rfl rfl ?_
        exact Rt _ _ _ _ d_Mo_row_58 (by have e : sp_row S (nI i) = (bI (sTh S i), pR S (va_up (sTh S) i true) (va_up (sPl S) i (fun _ => 0))) := (by rw [sp_row, hqi]); rw [e]; exact ⟨rfl, RelM_rows hS (RoM_place (τ := up1 (up1 σ 108 (upd (σ.1 108) i (bI true))) 109 (fillG (σ.1 109) (10 * i) 10 (nI 0))) (RoM_there hS.1) hi (by rw [up1_o (by decide)]) (by rw [up1_o (by decide)]) (fun j hj => by rw [up1_s]; exact if_pos (by omega)) (fun k j hk hne hj => by rw [up1_s, up1_o (by decide)]; exact if_neg (by omega)) (fun j => Nat.zero_le _)) (fun k q => by rw [up1_o (by omega), up1_o (by omega)]) (by rw [up1_o (by omega), up1_o (by omega)]) (fun j _ => by rw [up1_o (by omega), up1_o (by omega)]), fun k hk => by rw [up1_o (by omega), up1_o (by omega)]⟩)
      exact absurd c_36 (by omega)
  have hqi := isS_f c_4
  refine a_iconst B d_Mo_row_7 ci_m1 ?_
  exact Rt _ _ _ _ d_Mo_row_8 (by have e : sp_row S x = RB S := (by rw [sp_row, hqi]); rw [e]; exact ⟨rfl, hS, (fun _ _ => rfl)⟩)
