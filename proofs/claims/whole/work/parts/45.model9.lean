/-! the reference: the best turns -/
theorem cd_eq {f g : Nat → Nat} : ∀ n, (∀ j, j < n → f j = g j) → cdL ((List.range n).map f) = cdL ((List.range n).map g)
  | 0, _ => rfl
  | n + 1, h => by rw [cd_range, cd_range, cd_eq n (fun j hj => h j (by omega)), h n (by omega)]
theorem cd_less {f g : Nat → Nat} {i : Nat} (hi : ∀ j, j < i → f j = g j) (hl : f i < g i) : ∀ k, i < k → (∀ j, j < k → f j < 16) → cdL ((List.range k).map f) < cdL ((List.range k).map g)
  | 0, h, _ => absurd h (Nat.not_lt_zero i)
  | k + 1, h, hf => by
    rw [cd_range, cd_range]
    have h16 := hf k (by omega)
    by_cases e : i = k
    · subst e
      rw [cd_eq i hi]
      omega
    · have := cd_less hi hl k (by omega) (fun j hj => hf j (by omega))
      omega
theorem posT_jn {T T' : TT} (hW : Wf T) (h1 : tN T' = tN T) (h2 : tU T' = tU T) (h3 : tM T' = tM T) (h4 : ∀ v, tN T ≤ v → v < 2 * tN T - 1 → tL T' v = tL T v ∧ tR T' v = tR T v) (v : Nat) : posT T' v = posT T v := by
  have key : ∀ f v, posF T' f v = posF T f v := by
    intro f
    induction f with
    | zero => intro v; rfl
    | succ f ih =>
      intro v
      show (if v < 2 * tN T' - 2 then posF T' f (tU T' v) + (if tR T' (tU T' v) = v then cB (tM T' (tL T' (tU T' v))) else 0) else 0) = (if v < 2 * tN T - 2 then posF T f (tU T v) + (if tR T (tU T v) = v then cB (tM T (tL T (tU T v))) else 0) else 0)
      rw [h1]
      by_cases hv : v < 2 * tN T - 2
      · obtain ⟨u1, u2, u3, u4⟩ := hW.2.2.2.1 v hv
        rw [if_pos hv, if_pos hv, ih, h2, h3, (h4 _ u1 u3).1, (h4 _ u1 u3).2]
      · rw [if_neg hv, if_neg hv]
  exact key 20 v
theorem price_jn {T T' : TT} (hW : Wf T) {u : Nat → Nat → Nat} (h1 : tN T' = tN T) (h2 : tU T' = tU T) (h3 : tM T' = tM T) (h4 : ∀ v, tN T ≤ v → v < 2 * tN T - 1 → tL T' v = tL T v ∧ tR T' v = tR T v) : priceT u T' = priceT u T := by
  have e : ordT T' = ordT T := by
    funext i
    unfold ordT
    rw [h1]
    exact sumTo_congr (fun k _ => by rw [posT_jn hW h1 h2 h3 h4])
  unfold priceT
  rw [e, h1]
def bestG (T : TT) (b v : Nat) : Bool := decide (tN T ≤ v) && (decide (v < 2 * tN T - 1) && b.testBit (v - tN T))
theorem bestG_in {T : TT} {b v : Nat} (h1 : tN T ≤ v) (h2 : v < 2 * tN T - 1) : bestG T b v = b.testBit (v - tN T) := by
  unfold bestG
  rw [decide_eq_true h1, decide_eq_true h2]
  rfl
theorem price_best {T : TT} (hW : Wf T) {u : Nat → Nat → Nat} : priceT u (bestT T u) = priceT u (setT T (bestS T u)) := by
  refine price_jn (T := setT T (bestS T u)) (Wf_turn hW) rfl rfl rfl (fun v h1 h2 => ?_)
  have e := bestG_in (b := bestS T u) (show tN T ≤ v from h1) h2
  constructor
  · show (if bestG T (bestS T u) v then tR T v else tL T v) = (if (bestS T u).testBit (v - tN T) then tR T v else tL T v)
    rw [e]
  · show (if bestG T (bestS T u) v then tL T v else tR T v) = (if (bestS T u).testBit (v - tN T) then tL T v else tR T v)
    rw [e]
theorem price_le {T : TT} {u : Nat → Nat → Nat} (hu : ∀ a b, u a b ≤ 10000) (hn : tN T ≤ 10) : priceT u T ≤ 100000 := by
  have := sumTo_le (f := fun i => u (ordT T i) (ordT T (i + 1))) (c := 10000) (fun k => hu _ _) (tN T - 1)
  unfold priceT
  omega
theorem ordL_cd {T : TT} (hW : Wf T) : cdL (ordL T) < 1099511627776 := by
  have h10 := hW.2.1
  have h := cd_lt (ordL T) (fun x hx => by
    obtain ⟨i, hi, rfl⟩ := List.mem_map.mp hx
    have := (pos_ord hW (List.mem_range.mp hi)).1
    omega)
  have hl : (ordL T).length = tN T := by unfold ordL; simp
  rw [hl] at h
  exact Nat.lt_of_lt_of_le h (Nat.pow_le_pow_right (by decide) h10)
theorem key_lt {A B : TT} (hA : Wf A) (hB : Wf B) {u : Nat → Nat → Nat} : keyT u A < keyT u B ↔ priceT u A < priceT u B ∨ (priceT u A = priceT u B ∧ cdL (ordL A) < cdL (ordL B)) := by
  have c1 := ordL_cd hA
  have c2 := ordL_cd hB
  unfold keyT keyL
  rw [price_L hA, price_L hB, show (2 : Nat) ^ 40 = 1099511627776 by decide]
  omega
theorem TmB_back {τ : AH} {t s : Nat} {T : TT} (h : TmB τ t (setT (setT T s) s)) : TmB τ t T := by
  refine ⟨h.1, fun j h1 h2 => ?_⟩
  obtain ⟨q1, q2⟩ := h.2 j h1 h2
  refine ⟨q1.trans ?_, q2.trans ?_⟩
  · show nI (if s.testBit (j - tN T) then (if s.testBit (j - tN T) then tL T j else tR T j) else (if s.testBit (j - tN T) then tR T j else tL T j)) = _
    cases s.testBit (j - tN T) <;> rfl
  · show nI (if s.testBit (j - tN T) then (if s.testBit (j - tN T) then tR T j else tL T j) else (if s.testBit (j - tN T) then tL T j else tR T j)) = _
    cases s.testBit (j - tN T) <;> rfl
theorem Wf_set {T : TT} {s : Nat} (hW : Wf T) : Wf (setT T s) := Wf_turn hW
def btB : Option Nat → Int32
  | none => -9
  | some b => nI b
def btL (T : TT) (u : Nat → Nat → Nat) : Option Nat → Int32
  | none => nI 0
  | some b => nI (priceT u (setT T b))
def BtI (t : Nat) (T : TT) (o : Option Nat) (σ τ : AH) : Prop := (∀ k, k ≠ 112 → k ≠ 113 → k ≠ 120 → k ≠ 121 → k ≠ 122 → τ.1 k = σ.1 k) ∧ tfM t σ τ ∧ ∀ b, o = some b → ∀ j, j < tN T → τ.1 122 j = nI (ordT (setT T b) j)
theorem BtI_sz {t : Nat} {T : TT} {o : Option Nat} {σ τ : AH} (h : BtI t T o σ τ) {n : Nat} (e : σ.1 111 t = nI n) : τ.1 111 t = nI n := by rw [h.1 111 (by decide) (by decide) (by decide) (by decide) (by decide)]; exact e
theorem BtI_A {t s : Nat} {T : TT} {o : Option Nat} {σ τ : AH} (h : BtI t T o σ τ) (e : TmA σ t T) : TmA τ t (setT T s) := e.fl (fun k q2 q3 q6 q1 q8 => h.1 k q2 q3 (by omega) (by omega) (by omega))
theorem BtI_A0 {t : Nat} {T : TT} {o : Option Nat} {σ τ : AH} (h : BtI t T o σ τ) (e : TmA σ t T) : TmA τ t T := e.fl (fun k q2 q3 q6 q1 q8 => h.1 k q2 q3 (by omega) (by omega) (by omega))
theorem BtI_R {t : Nat} {T : TT} {o : Option Nat} {σ τ : AH} (h : BtI t T o σ τ) {n : Nat} {th : Nat → Bool} {pl : Nat → Nat → Nat} (e : RoM σ n th pl) : RoM τ n th pl := e.of (by rw [h.1 106 (by decide) (by decide) (by decide) (by decide) (by decide)]) (h.1 108 (by decide) (by decide) (by decide) (by decide) (by decide)) (h.1 109 (by decide) (by decide) (by decide) (by decide) (by decide))
theorem BtI_fl {t : Nat} {T : TT} {o : Option Nat} {σ τ υ : AH} (h : BtI t T o σ τ) (e : flM t τ υ) : BtI t T o σ υ := ⟨fun k a b c d f => (e.1 k a b).trans (h.1 k a b c d f), tfM_tr h.2.1 e.2, fun b hb j hj => by rw [e.1 122 (by decide) (by decide)]; exact h.2.2 b hb j hj⟩
theorem BtI_or {t : Nat} {T U : TT} {o : Option Nat} {σ τ υ : AH} (h : BtI t T o σ τ) (e : OrM τ υ U) : BtI t T o σ υ := ⟨fun k a b c d f => (e.1 k c d).trans (h.1 k a b c d f), tfM_tr h.2.1 (tfM_wk e.wk), fun b hb j hj => by rw [e.1 122 (by decide) (by decide)]; exact h.2.2 b hb j hj⟩
theorem d_Mo_isAhead_0 : decode prog_9_method_38_code 0 = .ok (.iconst 0, 1) := by decide +kernel
theorem d_Mo_isAhead_1 : decode prog_9_method_38_code 1 = .ok (.istore_n 2, 1) := by decide +kernel
theorem d_Mo_isAhead_2 : decode prog_9_method_38_code 2 = .ok (.iload_n 2, 1) := by decide +kernel
theorem d_Mo_isAhead_3 : decode prog_9_method_38_code 3 = .ok (.iload_n 1, 1) := by decide +kernel
theorem d_Mo_isAhead_4 : decode prog_9_method_38_code 4 = .ok (.if_icmp .ge 45, 3) := by decide +kernel
theorem d_Mo_isAhead_7 : decode prog_9_method_38_code 7 = .ok (.aload_n 0, 1) := by decide +kernel
theorem d_Mo_isAhead_8 : decode prog_9_method_38_code 8 = .ok (.getfield 50, 3) := by decide +kernel
theorem d_Mo_isAhead_11 : decode prog_9_method_38_code 11 = .ok (.iload_n 2, 1) := by decide +kernel
theorem d_Mo_isAhead_12 : decode prog_9_method_38_code 12 = .ok (.iaload, 1) := by decide +kernel
theorem d_Mo_isAhead_13 : decode prog_9_method_38_code 13 = .ok (.aload_n 0, 1) := by decide +kernel
theorem d_Mo_isAhead_14 : decode prog_9_method_38_code 14 = .ok (.getfield 56, 3) := by decide +kernel
theorem d_Mo_isAhead_17 : decode prog_9_method_38_code 17 = .ok (.iload_n 2, 1) := by decide +kernel
theorem d_Mo_isAhead_18 : decode prog_9_method_38_code 18 = .ok (.iaload, 1) := by decide +kernel
theorem d_Mo_isAhead_19 : decode prog_9_method_38_code 19 = .ok (.if_icmp .eq 24, 3) := by decide +kernel
theorem d_Mo_isAhead_22 : decode prog_9_method_38_code 22 = .ok (.aload_n 0, 1) := by decide +kernel
theorem d_Mo_isAhead_23 : decode prog_9_method_38_code 23 = .ok (.getfield 50, 3) := by decide +kernel
theorem d_Mo_isAhead_26 : decode prog_9_method_38_code 26 = .ok (.iload_n 2, 1) := by decide +kernel
theorem d_Mo_isAhead_27 : decode prog_9_method_38_code 27 = .ok (.iaload, 1) := by decide +kernel
theorem d_Mo_isAhead_28 : decode prog_9_method_38_code 28 = .ok (.aload_n 0, 1) := by decide +kernel
theorem d_Mo_isAhead_29 : decode prog_9_method_38_code 29 = .ok (.getfield 56, 3) := by decide +kernel
theorem d_Mo_isAhead_32 : decode prog_9_method_38_code 32 = .ok (.iload_n 2, 1) := by decide +kernel
theorem d_Mo_isAhead_33 : decode prog_9_method_38_code 33 = .ok (.iaload, 1) := by decide +kernel
theorem d_Mo_isAhead_34 : decode prog_9_method_38_code 34 = .ok (.if_icmp .ge 7, 3) := by decide +kernel
theorem d_Mo_isAhead_37 : decode prog_9_method_38_code 37 = .ok (.iconst 1, 1) := by decide +kernel
theorem d_Mo_isAhead_38 : decode prog_9_method_38_code 38 = .ok (.goto 4, 3) := by decide +kernel
theorem d_Mo_isAhead_41 : decode prog_9_method_38_code 41 = .ok (.iconst 0, 1) := by decide +kernel
theorem d_Mo_isAhead_42 : decode prog_9_method_38_code 42 = .ok (.ireturn, 1) := by decide +kernel
theorem d_Mo_isAhead_43 : decode prog_9_method_38_code 43 = .ok (.iinc 2 1, 3) := by decide +kernel
theorem d_Mo_isAhead_46 : decode prog_9_method_38_code 46 = .ok (.goto (-44), 3) := by decide +kernel
theorem d_Mo_isAhead_49 : decode prog_9_method_38_code 49 = .ok (.iconst 0, 1) := by decide +kernel
theorem d_Mo_isAhead_50 : decode prog_9_method_38_code 50 = .ok (.ireturn, 1) := by decide +kernel
set_option maxHeartbeats 4000000 in
set_option maxRecDepth 20000 in
theorem t_Mo_isAhead {g : GG} (G : Gok g) {σ : AH} {n : Nat} {f g9 : Nat → Nat} (hn : n ≤ 10) (hf : ∀ j, j < n → σ.1 120 j = nI (f j) ∧ f j < 16) (hg : ∀ j, j < n → σ.1 122 j = nI (g9 j) ∧ g9 j < 16) : TerI g 0 m_Mo_isAhead [rV 106, iV (nI n)] σ (fun r τ => r = bI (decide (cdL ((List.range n).map f) < cdL ((List.range n).map g9))) ∧ τ = σ) := by
  refine TerI.mkZ G (by decide +kernel) rfl (Nat.le_of_ble_eq_true rfl) (fun K B Rt => ?_)
  have B : Cx g K prog_9_method_38_code 3 R_Mo 0 := B
  have Rt : RetZ g K prog_9_method_38_code 3 (fun r τ => r = bI (decide (cdL ((List.range n).map f) < cdL ((List.range n).map g9))) ∧ τ = σ) := Rt
  show AW g K 3 0 [(0, rV 106), (1, iV (nI n))] [] σ
  refine a_iconst B d_Mo_isAhead_0 ci_0 ?_
  refine a_istore_n (lv1 := [(0, _), (1, _), (2, _)]) B d_Mo_isAhead_1 rfl (by decide) rfl ?_
  refine a_forR n (fun i lv τ => lv = [(0, rV 106), (1, iV (nI n)), (2, iV (nI i))] ∧ τ = σ ∧ ∀ j, j < i → f j = g9 j) (fun i lv τ hi hI ihi => ?_) (fun lv τ hI => ?_) 0 (Nat.zero_le _) _ _ ⟨rfl, rfl, fun _ h => absurd h (Nat.not_lt_zero _)⟩
  · skip
    obtain ⟨rfl, rfl, hE⟩ := hI
    refine a_iload_n B d_Mo_isAhead_2 rfl rfl ?_
    refine a_iload_n B d_Mo_isAhead_3 rfl rfl ?_
    first | refine b_icmp_ge B 49 d_Mo_isAhead_4 rfl (by omega) (by omega) (fun c_4 => ?_) (fun c_4 => ?_) | refine a_icmp_ge B 49 d_Mo_isAhead_4 rfl (fun c_4 => ?_) (fun c_4 => ?_)
    · skip
      exact absurd c_4 (by omega)
    have q1 := hf i hi
    have q2 := hg i hi
    refine a_aload_n B d_Mo_isAhead_7 rfl rfl ?_
    refine gf_Mo_order B d_Mo_isAhead_8 fl_Mo_50 ?_
    refine a_iload_n B d_Mo_isAhead_11 rfl rfl ?_
    refine a_iald B ly_120 _ rfl (by first | assumption | omega) d_Mo_isAhead_12 ?_
    rw [q1.1]
    refine a_aload_n B d_Mo_isAhead_13 rfl rfl ?_
    refine gf_Mo_bestOrder B d_Mo_isAhead_14 fl_Mo_56 ?_
    refine a_iload_n B d_Mo_isAhead_17 rfl rfl ?_
    refine a_iald B ly_122 _ rfl (by first | assumption | omega) d_Mo_isAhead_18 ?_
    rw [q2.1]
    first | refine b_icmp_eq B 43 d_Mo_isAhead_19 rfl (by omega) (by omega) (fun c_19 => ?_) (fun c_19 => ?_) | refine a_icmp_eq B 43 d_Mo_isAhead_19 rfl (fun c_19 => ?_) (fun c_19 => ?_)
    · skip
      first | refine b_iinc (lv1 := [(0, _), (1, _), (2, _)]) B d_Mo_isAhead_43 rfl ci_1 (by decide) rfl ?_ | refine a_iinc (lv1 := [(0, _), (1, _), (2, _)]) B d_Mo_isAhead_43 rfl rfl (by decide) rfl ?_
      refine a_goto B 2 d_Mo_isAhead_46 rfl ?_
      refine ihi _ _ ⟨rfl, rfl, fun j hj => ?_⟩
      by_cases e : j = i
      · rw [e]; exact c_19
      · exact hE j (by omega)
    refine a_aload_n B d_Mo_isAhead_22 rfl rfl ?_
    refine gf_Mo_order B d_Mo_isAhead_23 fl_Mo_50 ?_
    refine a_iload_n B d_Mo_isAhead_26 rfl rfl ?_
    refine a_iald B ly_120 _ rfl (by first | assumption | omega) d_Mo_isAhead_27 ?_
    rw [q1.1]
    refine a_aload_n B d_Mo_isAhead_28 rfl rfl ?_
    refine gf_Mo_bestOrder B d_Mo_isAhead_29 fl_Mo_56 ?_
    refine a_iload_n B d_Mo_isAhead_32 rfl rfl ?_
    refine a_iald B ly_122 _ rfl (by first | assumption | omega) d_Mo_isAhead_33 ?_
    rw [q2.1]
    first | refine b_icmp_ge B 41 d_Mo_isAhead_34 rfl (by omega) (by omega) (fun c_34 => ?_) (fun c_34 => ?_) | refine a_icmp_ge B 41 d_Mo_isAhead_34 rfl (fun c_34 => ?_) (fun c_34 => ?_)
    · skip
      refine a_iconst B d_Mo_isAhead_41 ci_0 ?_
      exact Rt _ _ _ _ d_Mo_isAhead_42 (by first | exact Or.inl rfl | exact Or.inr rfl) ⟨by first | exact bI_t (decide_eq_true (cd_less hE c_34 n hi (fun j hj => (hf j hj).2))) | exact bI_f (decide_eq_false (by have := cd_less (fun j hj => (hE j hj).symm) (show g9 i < f i by omega) n hi (fun j hj => (hg j hj).2); omega)), rfl⟩
    refine a_iconst B d_Mo_isAhead_37 ci_1 ?_
    refine a_goto B 42 d_Mo_isAhead_38 rfl ?_
    exact Rt _ _ _ _ d_Mo_isAhead_42 (by first | exact Or.inl rfl | exact Or.inr rfl) ⟨by first | exact bI_t (decide_eq_true (cd_less hE c_34 n hi (fun j hj => (hf j hj).2))) | exact bI_f (decide_eq_false (by have := cd_less (fun j hj => (hE j hj).symm) (show g9 i < f i by omega) n hi (fun j hj => (hg j hj).2); omega)), rfl⟩
  · skip
    obtain ⟨rfl, rfl, hE⟩ := hI
    refine a_iload_n B d_Mo_isAhead_2 rfl rfl ?_
    refine a_iload_n B d_Mo_isAhead_3 rfl rfl ?_
    first | refine b_icmp_ge B 49 d_Mo_isAhead_4 rfl (by omega) (by omega) (fun c_4 => ?_) (fun c_4 => ?_) | refine a_icmp_ge B 49 d_Mo_isAhead_4 rfl (fun c_4 => ?_) (fun c_4 => ?_)
    · skip
      refine a_iconst B d_Mo_isAhead_49 ci_0 ?_
      exact Rt _ _ _ _ d_Mo_isAhead_50 (by first | exact Or.inl rfl | exact Or.inr rfl) ⟨bI_f (decide_eq_false (by rw [cd_eq n hE]; omega)), rfl⟩
    exact absurd c_4 (by omega)
theorem d_Mo_best_0 : decode prog_9_method_39_code 0 = .ok (.aload_n 0, 1) := by decide +kernel
theorem d_Mo_best_1 : decode prog_9_method_39_code 1 = .ok (.iload_n 1, 1) := by decide +kernel
theorem d_Mo_best_2 : decode prog_9_method_39_code 2 = .ok (.invokevirtual 133, 3) := by decide +kernel
theorem d_Mo_best_5 : decode prog_9_method_39_code 5 = .ok (.istore_n 2, 1) := by decide +kernel
theorem d_Mo_best_6 : decode prog_9_method_39_code 6 = .ok (.iload_n 2, 1) := by decide +kernel
theorem d_Mo_best_7 : decode prog_9_method_39_code 7 = .ok (.ifCond .ge 5, 3) := by decide +kernel
theorem d_Mo_best_10 : decode prog_9_method_39_code 10 = .ok (.iload_n 2, 1) := by decide +kernel
theorem d_Mo_best_11 : decode prog_9_method_39_code 11 = .ok (.ireturn, 1) := by decide +kernel
theorem d_Mo_best_12 : decode prog_9_method_39_code 12 = .ok (.aload_n 0, 1) := by decide +kernel
theorem d_Mo_best_13 : decode prog_9_method_39_code 13 = .ok (.iload_n 1, 1) := by decide +kernel
theorem d_Mo_best_14 : decode prog_9_method_39_code 14 = .ok (.invokevirtual 157, 3) := by decide +kernel
theorem d_Mo_best_17 : decode prog_9_method_39_code 17 = .ok (.istore_n 3, 1) := by decide +kernel
theorem d_Mo_best_18 : decode prog_9_method_39_code 18 = .ok (.bipush (-9), 2) := by decide +kernel
theorem d_Mo_best_20 : decode prog_9_method_39_code 20 = .ok (.istore 4, 2) := by decide +kernel
theorem d_Mo_best_22 : decode prog_9_method_39_code 22 = .ok (.iconst 0, 1) := by decide +kernel
theorem d_Mo_best_23 : decode prog_9_method_39_code 23 = .ok (.istore 5, 2) := by decide +kernel
theorem d_Mo_best_25 : decode prog_9_method_39_code 25 = .ok (.iconst 0, 1) := by decide +kernel
theorem d_Mo_best_26 : decode prog_9_method_39_code 26 = .ok (.istore 6, 2) := by decide +kernel
theorem d_Mo_best_28 : decode prog_9_method_39_code 28 = .ok (.iload 6, 2) := by decide +kernel
theorem d_Mo_best_30 : decode prog_9_method_39_code 30 = .ok (.iconst 1, 1) := by decide +kernel
theorem d_Mo_best_31 : decode prog_9_method_39_code 31 = .ok (.aload_n 0, 1) := by decide +kernel
theorem d_Mo_best_32 : decode prog_9_method_39_code 32 = .ok (.getfield 23, 3) := by decide +kernel
theorem d_Mo_best_35 : decode prog_9_method_39_code 35 = .ok (.iload_n 1, 1) := by decide +kernel
theorem d_Mo_best_36 : decode prog_9_method_39_code 36 = .ok (.iaload, 1) := by decide +kernel
theorem d_Mo_best_37 : decode prog_9_method_39_code 37 = .ok (.iconst 1, 1) := by decide +kernel
theorem d_Mo_best_38 : decode prog_9_method_39_code 38 = .ok (.isub, 1) := by decide +kernel
theorem d_Mo_best_39 : decode prog_9_method_39_code 39 = .ok (.ishl, 1) := by decide +kernel
theorem d_Mo_best_40 : decode prog_9_method_39_code 40 = .ok (.if_icmp .ge 109, 3) := by decide +kernel
theorem d_Mo_best_43 : decode prog_9_method_39_code 43 = .ok (.aload_n 0, 1) := by decide +kernel
theorem d_Mo_best_44 : decode prog_9_method_39_code 44 = .ok (.iload_n 1, 1) := by decide +kernel
theorem d_Mo_best_45 : decode prog_9_method_39_code 45 = .ok (.iload 6, 2) := by decide +kernel
theorem d_Mo_best_47 : decode prog_9_method_39_code 47 = .ok (.invokevirtual 160, 3) := by decide +kernel
theorem d_Mo_best_50 : decode prog_9_method_39_code 50 = .ok (.ifCond .eq 93, 3) := by decide +kernel
theorem d_Mo_best_53 : decode prog_9_method_39_code 53 = .ok (.aload_n 0, 1) := by decide +kernel
theorem d_Mo_best_54 : decode prog_9_method_39_code 54 = .ok (.iload_n 1, 1) := by decide +kernel
theorem d_Mo_best_55 : decode prog_9_method_39_code 55 = .ok (.invokevirtual 157, 3) := by decide +kernel
theorem d_Mo_best_58 : decode prog_9_method_39_code 58 = .ok (.istore 7, 2) := by decide +kernel
theorem d_Mo_best_60 : decode prog_9_method_39_code 60 = .ok (.iload 4, 2) := by decide +kernel
theorem d_Mo_best_62 : decode prog_9_method_39_code 62 = .ok (.ifCond .lt 30, 3) := by decide +kernel
theorem d_Mo_best_65 : decode prog_9_method_39_code 65 = .ok (.iload 7, 2) := by decide +kernel
theorem d_Mo_best_67 : decode prog_9_method_39_code 67 = .ok (.iload 5, 2) := by decide +kernel
theorem d_Mo_best_69 : decode prog_9_method_39_code 69 = .ok (.if_icmp .lt 23, 3) := by decide +kernel
theorem d_Mo_best_72 : decode prog_9_method_39_code 72 = .ok (.iload 7, 2) := by decide +kernel
theorem d_Mo_best_74 : decode prog_9_method_39_code 74 = .ok (.iload 5, 2) := by decide +kernel
theorem d_Mo_best_76 : decode prog_9_method_39_code 76 = .ok (.if_icmp .ne 58, 3) := by decide +kernel
theorem d_Mo_best_79 : decode prog_9_method_39_code 79 = .ok (.aload_n 0, 1) := by decide +kernel
theorem d_Mo_best_80 : decode prog_9_method_39_code 80 = .ok (.aload_n 0, 1) := by decide +kernel
theorem d_Mo_best_81 : decode prog_9_method_39_code 81 = .ok (.getfield 23, 3) := by decide +kernel
theorem d_Mo_best_84 : decode prog_9_method_39_code 84 = .ok (.iload_n 1, 1) := by decide +kernel
theorem d_Mo_best_85 : decode prog_9_method_39_code 85 = .ok (.iaload, 1) := by decide +kernel
theorem d_Mo_best_86 : decode prog_9_method_39_code 86 = .ok (.invokevirtual 164, 3) := by decide +kernel
theorem d_Mo_best_89 : decode prog_9_method_39_code 89 = .ok (.ifCond .eq 45, 3) := by decide +kernel
theorem d_Mo_best_92 : decode prog_9_method_39_code 92 = .ok (.iload 6, 2) := by decide +kernel
theorem d_Mo_best_94 : decode prog_9_method_39_code 94 = .ok (.istore 4, 2) := by decide +kernel
theorem d_Mo_best_96 : decode prog_9_method_39_code 96 = .ok (.iload 7, 2) := by decide +kernel
theorem d_Mo_best_98 : decode prog_9_method_39_code 98 = .ok (.istore 5, 2) := by decide +kernel
theorem d_Mo_best_100 : decode prog_9_method_39_code 100 = .ok (.iconst 0, 1) := by decide +kernel
theorem d_Mo_best_101 : decode prog_9_method_39_code 101 = .ok (.istore 8, 2) := by decide +kernel
theorem d_Mo_best_103 : decode prog_9_method_39_code 103 = .ok (.iload 8, 2) := by decide +kernel
theorem d_Mo_best_105 : decode prog_9_method_39_code 105 = .ok (.aload_n 0, 1) := by decide +kernel
theorem d_Mo_best_106 : decode prog_9_method_39_code 106 = .ok (.getfield 23, 3) := by decide +kernel
theorem d_Mo_best_109 : decode prog_9_method_39_code 109 = .ok (.iload_n 1, 1) := by decide +kernel
theorem d_Mo_best_110 : decode prog_9_method_39_code 110 = .ok (.iaload, 1) := by decide +kernel
theorem d_Mo_best_111 : decode prog_9_method_39_code 111 = .ok (.if_icmp .ge 23, 3) := by decide +kernel
theorem d_Mo_best_114 : decode prog_9_method_39_code 114 = .ok (.aload_n 0, 1) := by decide +kernel
theorem d_Mo_best_115 : decode prog_9_method_39_code 115 = .ok (.getfield 56, 3) := by decide +kernel
theorem d_Mo_best_118 : decode prog_9_method_39_code 118 = .ok (.iload 8, 2) := by decide +kernel
theorem d_Mo_best_120 : decode prog_9_method_39_code 120 = .ok (.aload_n 0, 1) := by decide +kernel
theorem d_Mo_best_121 : decode prog_9_method_39_code 121 = .ok (.getfield 50, 3) := by decide +kernel
theorem d_Mo_best_124 : decode prog_9_method_39_code 124 = .ok (.iload 8, 2) := by decide +kernel
theorem d_Mo_best_126 : decode prog_9_method_39_code 126 = .ok (.iaload, 1) := by decide +kernel
theorem d_Mo_best_127 : decode prog_9_method_39_code 127 = .ok (.iastore, 1) := by decide +kernel
theorem d_Mo_best_128 : decode prog_9_method_39_code 128 = .ok (.iinc 8 1, 3) := by decide +kernel
theorem d_Mo_best_131 : decode prog_9_method_39_code 131 = .ok (.goto (-28), 3) := by decide +kernel
theorem d_Mo_best_134 : decode prog_9_method_39_code 134 = .ok (.aload_n 0, 1) := by decide +kernel
theorem d_Mo_best_135 : decode prog_9_method_39_code 135 = .ok (.iload_n 1, 1) := by decide +kernel
theorem d_Mo_best_136 : decode prog_9_method_39_code 136 = .ok (.iload 6, 2) := by decide +kernel
theorem d_Mo_best_138 : decode prog_9_method_39_code 138 = .ok (.invokevirtual 160, 3) := by decide +kernel
theorem d_Mo_best_141 : decode prog_9_method_39_code 141 = .ok (.istore 8, 2) := by decide +kernel
theorem d_Mo_best_143 : decode prog_9_method_39_code 143 = .ok (.iinc 6 1, 3) := by decide +kernel
theorem d_Mo_best_146 : decode prog_9_method_39_code 146 = .ok (.goto (-118), 3) := by decide +kernel
theorem d_Mo_best_149 : decode prog_9_method_39_code 149 = .ok (.aload_n 0, 1) := by decide +kernel
theorem d_Mo_best_150 : decode prog_9_method_39_code 150 = .ok (.iload_n 1, 1) := by decide +kernel
theorem d_Mo_best_151 : decode prog_9_method_39_code 151 = .ok (.iload 4, 2) := by decide +kernel
theorem d_Mo_best_153 : decode prog_9_method_39_code 153 = .ok (.invokevirtual 160, 3) := by decide +kernel
theorem d_Mo_best_156 : decode prog_9_method_39_code 156 = .ok (.istore 6, 2) := by decide +kernel
theorem d_Mo_best_158 : decode prog_9_method_39_code 158 = .ok (.aload_n 0, 1) := by decide +kernel
theorem d_Mo_best_159 : decode prog_9_method_39_code 159 = .ok (.getfield 23, 3) := by decide +kernel
theorem d_Mo_best_162 : decode prog_9_method_39_code 162 = .ok (.iload_n 1, 1) := by decide +kernel
theorem d_Mo_best_163 : decode prog_9_method_39_code 163 = .ok (.iaload, 1) := by decide +kernel
theorem d_Mo_best_164 : decode prog_9_method_39_code 164 = .ok (.istore 7, 2) := by decide +kernel
theorem d_Mo_best_166 : decode prog_9_method_39_code 166 = .ok (.iload 7, 2) := by decide +kernel
theorem d_Mo_best_168 : decode prog_9_method_39_code 168 = .ok (.aload_n 0, 1) := by decide +kernel
theorem d_Mo_best_169 : decode prog_9_method_39_code 169 = .ok (.iload_n 1, 1) := by decide +kernel
theorem d_Mo_best_170 : decode prog_9_method_39_code 170 = .ok (.invokevirtual 123, 3) := by decide +kernel
theorem d_Mo_best_173 : decode prog_9_method_39_code 173 = .ok (.if_icmp .ge 38, 3) := by decide +kernel
theorem d_Mo_best_176 : decode prog_9_method_39_code 176 = .ok (.aload_n 0, 1) := by decide +kernel
theorem d_Mo_best_177 : decode prog_9_method_39_code 177 = .ok (.getfield 38, 3) := by decide +kernel
theorem d_Mo_best_180 : decode prog_9_method_39_code 180 = .ok (.bipush 20, 2) := by decide +kernel
theorem d_Mo_best_182 : decode prog_9_method_39_code 182 = .ok (.iload_n 1, 1) := by decide +kernel
theorem d_Mo_best_183 : decode prog_9_method_39_code 183 = .ok (.imul, 1) := by decide +kernel
theorem d_Mo_best_184 : decode prog_9_method_39_code 184 = .ok (.iload 7, 2) := by decide +kernel
theorem d_Mo_best_186 : decode prog_9_method_39_code 186 = .ok (.iadd, 1) := by decide +kernel
theorem d_Mo_best_187 : decode prog_9_method_39_code 187 = .ok (.dup2, 1) := by decide +kernel
theorem d_Mo_best_188 : decode prog_9_method_39_code 188 = .ok (.iaload, 1) := by decide +kernel
theorem d_Mo_best_189 : decode prog_9_method_39_code 189 = .ok (.iload 4, 2) := by decide +kernel
theorem d_Mo_best_191 : decode prog_9_method_39_code 191 = .ok (.iload 7, 2) := by decide +kernel
theorem d_Mo_best_193 : decode prog_9_method_39_code 193 = .ok (.aload_n 0, 1) := by decide +kernel
theorem d_Mo_best_194 : decode prog_9_method_39_code 194 = .ok (.getfield 23, 3) := by decide +kernel
theorem d_Mo_best_197 : decode prog_9_method_39_code 197 = .ok (.iload_n 1, 1) := by decide +kernel
theorem d_Mo_best_198 : decode prog_9_method_39_code 198 = .ok (.iaload, 1) := by decide +kernel
theorem d_Mo_best_199 : decode prog_9_method_39_code 199 = .ok (.isub, 1) := by decide +kernel
theorem d_Mo_best_200 : decode prog_9_method_39_code 200 = .ok (.ishr, 1) := by decide +kernel
theorem d_Mo_best_201 : decode prog_9_method_39_code 201 = .ok (.iconst 1, 1) := by decide +kernel
theorem d_Mo_best_202 : decode prog_9_method_39_code 202 = .ok (.iand, 1) := by decide +kernel
theorem d_Mo_best_203 : decode prog_9_method_39_code 203 = .ok (.iadd, 1) := by decide +kernel
theorem d_Mo_best_204 : decode prog_9_method_39_code 204 = .ok (.iastore, 1) := by decide +kernel
theorem d_Mo_best_205 : decode prog_9_method_39_code 205 = .ok (.iinc 7 1, 3) := by decide +kernel
theorem d_Mo_best_208 : decode prog_9_method_39_code 208 = .ok (.goto (-42), 3) := by decide +kernel
theorem d_Mo_best_211 : decode prog_9_method_39_code 211 = .ok (.aload_n 0, 1) := by decide +kernel
theorem d_Mo_best_212 : decode prog_9_method_39_code 212 = .ok (.iload 5, 2) := by decide +kernel
theorem d_Mo_best_214 : decode prog_9_method_39_code 214 = .ok (.iload_n 3, 1) := by decide +kernel
theorem d_Mo_best_215 : decode prog_9_method_39_code 215 = .ok (.iload 5, 2) := by decide +kernel
theorem d_Mo_best_217 : decode prog_9_method_39_code 217 = .ok (.isub, 1) := by decide +kernel
theorem d_Mo_best_218 : decode prog_9_method_39_code 218 = .ok (.invokevirtual 108, 3) := by decide +kernel
theorem d_Mo_best_221 : decode prog_9_method_39_code 221 = .ok (.ireturn, 1) := by decide +kernel
set_option maxHeartbeats 4000000 in
set_option maxRecDepth 20000 in
theorem tM_best {g : GG} (G : Gok g) {σ : AH} {S : Sp} (hS : RelM S σ) (x : Int32) : TerI g 3 m_Mo_best [rV 106, iV x] σ (fun r τ => r = (sp_best S x).1 ∧ RelM (sp_best S x).2 τ ∧ frM σ τ) := by
  refine TerI.mk G (by decide +kernel) rfl (Nat.le_of_ble_eq_true rfl) (fun K B Rt => ?_)
  have B : Cx g K prog_9_method_39_code 9 R_Mo 3 := B
  have Rt : RetI g K prog_9_method_39_code 9 (fun r τ => r = (sp_best S x).1 ∧ RelM (sp_best S x).2 τ ∧ frM σ τ) := Rt
  show AW g K 9 0 [(0, rV 106), (1, iV x)] [] σ
  obtain ⟨hN, hn, hth, hpl, hbd⟩ := id hS.1
  refine a_aload_n B d_Mo_best_0 rfl rfl ?_
  refine a_iload_n B d_Mo_best_1 rfl rfl ?_
  refine a_callVI (ci := 7) B (t_Mo_askedFor G hS x) d_Mo_best_2 ok_Mo_askedFor ml_Mo_133 ly_106 rfl rfl (by decide) (by decide) rfl (Nat.le_of_ble_eq_true rfl) (fun r_2 τ_2 h_2 => ?_)
  rcases h_2 with ⟨q, hq, hr9, hR9, hF9⟩ | ⟨t, hq, hr9, hs9⟩
  · skip
    subst hr9
    refine a_istore_n (lv1 := [(0, _), (1, _), (2, _)]) B d_Mo_best_5 rfl (by decide) rfl ?_
    refine a_iload_n B d_Mo_best_6 rfl rfl ?_
    refine a_if_ge B 12 d_Mo_best_7 rfl (fun c9 => absurd (neg_nz (trQ_neg hq)).2 (Int32.not_lt.mpr c9)) (fun _ => ?_)
    refine a_iload_n B d_Mo_best_10 rfl rfl ?_
    exact Rt _ _ _ _ d_Mo_best_11 (by have e : sp_best S x = q := (by rw [sp_best, hq]); rw [e]; exact ⟨rfl, hR9, hF9⟩)
  · skip
    subst hr9
    replace hs9 := hs9.symm
    subst hs9
    obtain ⟨ht, rfl, hn⟩ := trQ_ok hq
    obtain ⟨tW, tA, tB, tX⟩ := (hS.2.1 t ht).2 hn
    obtain ⟨a1, a2, a3, a4, a5, a6⟩ := id tA
    have w1 := tW.1
    have w10 := tW.2.1
    refine a_istore_n (lv1 := [(0, _), (1, _), (2, _)]) B d_Mo_best_5 rfl (by decide) rfl ?_
    refine a_iload_n B d_Mo_best_6 rfl rfl ?_
    refine b_if_ge B 12 d_Mo_best_7 rfl (by first | assumption | omega) ?_
    refine a_aload_n B d_Mo_best_12 rfl rfl ?_
    refine a_iload_n B d_Mo_best_13 rfl rfl ?_
    refine a_callVI (ci := 7) B (t_Mo_priceOf G ht tW tA tB hS.1) d_Mo_best_14 ok_Mo_priceOf ml_Mo_157 ly_106 rfl rfl (by decide) (by decide) rfl (Nat.le_of_ble_eq_true rfl) (fun r_14 τ_14 h_14 => ?_)
    obtain ⟨hr_14, h_14⟩ := h_14
    subst hr_14
    have hp9 := pow9 w10
    refine a_istore_n (lv1 := [(0, _), (1, _), (2, _), (3, _)]) B d_Mo_best_17 rfl (by decide) rfl ?_
    refine a_bipush B d_Mo_best_18 cb_m9 ?_
    refine a_istore (lv1 := [(0, _), (1, _), (2, _), (3, _), (4, _)]) B d_Mo_best_20 (by decide) rfl ?_
    refine a_iconst B d_Mo_best_22 ci_0 ?_
    refine a_istore (lv1 := [(0, _), (1, _), (2, _), (3, _), (4, _), (5, _)]) B d_Mo_best_23 (by decide) rfl ?_
    refine a_iconst B d_Mo_best_25 ci_0 ?_
    refine a_istore (lv1 := [(0, _), (1, _), (2, _), (3, _), (4, _), (5, _), (6, _)]) B d_Mo_best_26 (by decide) rfl ?_
    refine a_forR (2 ^ (tN (sT S t) - 1)) (fun s lv τ => lv = [(0, rV 106), (1, iV (nI t)), (2, iV (nI 0)), (3, iV (nI (priceT (uS S) (sT S t)))), (4, iV (btB (btS (sT S t) (uS S) s))), (5, iV (btL (sT S t) (uS S) (btS (sT S t) (uS S) s))), (6, iV (nI s))] ∧ TmB τ t (sT S t) ∧ BtI t (sT S t) (btS (sT S t) (uS S) s) σ τ) (fun s lv τ hs9 hI ihs => ?_) (fun lv τ hI => ?_) 0 (Nat.zero_le _) _ _ ⟨rfl, tB.of (h_14.1 _ (by decide) (by decide)) (h_14.1 _ (by decide) (by decide)), fun k a b c d f => h_14.1 k c d, tfM_wk h_14.wk, fun b hb => by cases hb⟩
    · skip
      obtain ⟨rfl, hB, hI⟩ := hI
      refine a_iload B d_Mo_best_28 rfl ?_
      refine a_iconst B d_Mo_best_30 ci_1 ?_
      refine a_aload_n B d_Mo_best_31 rfl rfl ?_
      refine gf_Mo_sizes B d_Mo_best_32 fl_Mo_23 ?_
      refine a_iload_n B d_Mo_best_35 rfl rfl ?_
      refine a_iald B ly_111 _ rfl (by first | assumption | omega) d_Mo_best_36 ?_
      rw [BtI_sz hI a1]
      refine a_iconst B d_Mo_best_37 ci_1 ?_
      first | refine b_isub B (by omega) d_Mo_best_38 ?_ | refine a_isub B d_Mo_best_38 ?_
      refine a_ishl B d_Mo_best_39 ?_
      rw [show nI 1 <<< (nI (tN (sT S t) - 1) &&& 31) = nI (2 ^ (tN (sT S t) - 1)) from nI_pow (by omega)]
      first | refine b_icmp_ge B 149 d_Mo_best_40 rfl (by omega) (by omega) (fun c_40 => ?_) (fun c_40 => ?_) | refine a_icmp_ge B 149 d_Mo_best_40 rfl (fun c_40 => ?_) (fun c_40 => ?_)
      · skip
        exact absurd c_40 (by omega)
      refine a_aload_n B d_Mo_best_43 rfl rfl ?_
      refine a_iload_n B d_Mo_best_44 rfl rfl ?_
      refine a_iload B d_Mo_best_45 rfl ?_
      refine a_callVI (ci := 7) B (t_Mo_flips G ht tW (BtI_A0 hI tA) hB (s := s) (by omega)) d_Mo_best_47 ok_Mo_flips ml_Mo_160 ly_106 rfl rfl (by decide) (by decide) rfl (Nat.le_of_ble_eq_true rfl) (fun r_47 τ_47 h_47 => ?_)
      obtain ⟨hr_47, hy, hn9, hfl⟩ := h_47
      subst hr_47
      first | refine b_if_eq_b B 143 d_Mo_best_50 rfl (fun c_50 => ?_) (fun c_50 => ?_) | refine a_if_eq B 143 d_Mo_best_50 rfl (fun c_50 => ?_) (fun c_50 => ?_)
      · skip
        first | refine b_iinc (lv1 := [(0, _), (1, _), (2, _), (3, _), (4, _), (5, _), (6, _)]) B d_Mo_best_143 rfl ci_1 (by decide) rfl ?_ | refine a_iinc (lv1 := [(0, _), (1, _), (2, _), (3, _), (4, _), (5, _), (6, _)]) B d_Mo_best_143 rfl rfl (by decide) rfl ?_
        refine a_goto B 28 d_Mo_best_146 rfl ?_
        have e9 := hn9 c_50
        subst e9
        exact ihs _ _ ⟨by rw [show btS (sT S t) (uS S) (s + 1) = btS (sT S t) (uS S) s from amF_no c_50], hB, by rw [show btS (sT S t) (uS S) (s + 1) = btS (sT S t) (uS S) s from amF_no c_50]; exact hI⟩
      have hyB := hy c_50
      refine a_aload_n B d_Mo_best_53 rfl rfl ?_
      refine a_iload_n B d_Mo_best_54 rfl rfl ?_
      refine a_callVI (ci := 7) B (t_Mo_priceOf G ht (Wf_set tW) (BtI_A (BtI_fl hI hfl) tA) hyB (BtI_R (BtI_fl hI hfl) hS.1)) d_Mo_best_55 ok_Mo_priceOf ml_Mo_157 ly_106 rfl rfl (by decide) (by decide) rfl (Nat.le_of_ble_eq_true rfl) (fun r_55 τ_55 h_55 => ?_)
      obtain ⟨hr_55, hO5⟩ := h_55
      subst hr_55
      have hJ5 : BtI t (sT S t) (btS (sT S t) (uS S) s) σ τ_55 := BtI_or (BtI_fl hI hfl) hO5
      have hB5 : TmB τ_55 t (setT (sT S t) s) := hyB.of (hO5.1 _ (by decide) (by decide)) (hO5.1 _ (by decide) (by decide))
      have pb1 : priceT (uS S) (setT (sT S t) s) ≤ 100000 := price_le (unl_le hbd) w10
      have H134 : ∀ (o9 : Option Nat) (τ9 : AH), btS (sT S t) (uS S) (s + 1) = o9 → TmB τ9 t (setT (sT S t) s) → BtI t (sT S t) o9 σ τ9 → AW g K 9 134 [(0, rV 106), (1, iV (nI t)), (2, iV (nI 0)), (3, iV (nI (priceT (uS S) (sT S t)))), (4, iV (btB (o9))), (5, iV (btL (sT S t) (uS S) (o9))), (6, iV (nI s))] [] τ9 := by
        intro o9 τ9 ho9 hB9 hJ
        refine a_aload_n B d_Mo_best_134 rfl rfl ?_
        refine a_iload_n B d_Mo_best_135 rfl rfl ?_
        refine a_iload B d_Mo_best_136 rfl ?_
        refine a_callVI (ci := 7) B (t_Mo_flips G ht (Wf_set tW) (BtI_A hJ tA) hB9 (s := s) (by omega)) d_Mo_best_138 ok_Mo_flips ml_Mo_160 ly_106 rfl rfl (by decide) (by decide) rfl (Nat.le_of_ble_eq_true rfl) (fun r_138 τ_138 h_138 => ?_)
        obtain ⟨hr_138, hy_138, hn_138, hf_138⟩ := h_138
        subst hr_138
        refine a_istore (lv1 := [(0, _), (1, _), (2, _), (3, _), (4, _), (5, _), (6, _), (8, _)]) B d_Mo_best_141 (by decide) rfl ?_
        first | refine b_iinc (lv1 := [(0, _), (1, _), (2, _), (3, _), (4, _), (5, _), (6, _), (8, _)]) B d_Mo_best_143 rfl ci_1 (by decide) rfl ?_ | refine a_iinc (lv1 := [(0, _), (1, _), (2, _), (3, _), (4, _), (5, _), (6, _), (8, _)]) B d_Mo_best_143 rfl rfl (by decide) rfl ?_
        refine a_goto B 28 d_Mo_best_146 rfl ?_
        refine a_sub (lv1 := [(0, _), (1, _), (2, _), (3, _), (4, _), (5, _), (6, _)]) rfl ?_
        exact ihs _ _ ⟨by rw [ho9], TmB_back (hy_138 c_50), by rw [ho9]; exact BtI_fl hJ hf_138⟩
      have H92 : btS (sT S t) (uS S) (s + 1) = some s → AW g K 9 92 [(0, rV 106), (1, iV (nI t)), (2, iV (nI 0)), (3, iV (nI (priceT (uS S) (sT S t)))), (6, iV (nI s)), (7, iV (nI (priceT (uS S) (setT (sT S t) s))))] [] τ_55 := by
        intro h92
        refine a_iload B d_Mo_best_92 rfl ?_
        refine a_istore (lv1 := [(0, _), (1, _), (2, _), (3, _), (4, _), (6, _), (7, _)]) B d_Mo_best_94 (by decide) rfl ?_
        refine a_iload B d_Mo_best_96 rfl ?_
        refine a_istore (lv1 := [(0, _), (1, _), (2, _), (3, _), (4, _), (5, _), (6, _), (7, _)]) B d_Mo_best_98 (by decide) rfl ?_
        refine a_iconst B d_Mo_best_100 ci_0 ?_
        refine a_istore (lv1 := [(0, _), (1, _), (2, _), (3, _), (4, _), (5, _), (6, _), (7, _), (8, _)]) B d_Mo_best_101 (by decide) rfl ?_
        refine a_forR (tN (sT S t)) (fun i lv τ => lv = [(0, rV 106), (1, iV (nI t)), (2, iV (nI 0)), (3, iV (nI (priceT (uS S) (sT S t)))), (4, iV (nI s)), (5, iV (nI (priceT (uS S) (setT (sT S t) s)))), (6, iV (nI s)), (7, iV (nI (priceT (uS S) (setT (sT S t) s)))), (8, iV (nI i))] ∧ (∀ k, k ≠ 122 → τ.1 k = τ_55.1 k) ∧ ∀ j, j < i → τ.1 122 j = nI (ordT (setT (sT S t) s) j)) (fun i lv τ hi hI ihi => ?_) (fun lv τ hI => ?_) 0 (Nat.zero_le _) _ _ ⟨rfl, fun _ _ => rfl, fun _ h => absurd h (Nat.not_lt_zero _)⟩
        · skip
          obtain ⟨rfl, hF8, hQ8⟩ := hI
          refine a_iload B d_Mo_best_103 rfl ?_
          refine a_aload_n B d_Mo_best_105 rfl rfl ?_
          refine gf_Mo_sizes B d_Mo_best_106 fl_Mo_23 ?_
          refine a_iload_n B d_Mo_best_109 rfl rfl ?_
          refine a_iald B ly_111 _ rfl (by first | assumption | omega) d_Mo_best_110 ?_
          rw [hF8 111 (by decide), BtI_sz hJ5 a1]
          first | refine b_icmp_ge B 134 d_Mo_best_111 rfl (by omega) (by omega) (fun c_111 => ?_) (fun c_111 => ?_) | refine a_icmp_ge B 134 d_Mo_best_111 rfl (fun c_111 => ?_) (fun c_111 => ?_)
          · skip
            exact absurd c_111 (by omega)
          refine a_aload_n B d_Mo_best_114 rfl rfl ?_
          refine gf_Mo_bestOrder B d_Mo_best_115 fl_Mo_56 ?_
          refine a_iload B d_Mo_best_118 rfl ?_
          refine a_aload_n B d_Mo_best_120 rfl rfl ?_
          refine gf_Mo_order B d_Mo_best_121 fl_Mo_50 ?_
          refine a_iload B d_Mo_best_124 rfl ?_
          refine a_iald B ly_120 _ rfl (by first | assumption | omega) d_Mo_best_126 ?_
          rw [hF8 120 (by decide), hO5.ord (Wf_set tW) (i := i) hi]
          refine a_iast B ly_122 _ rfl (by first | assumption | omega) d_Mo_best_127 ?_
          first | refine b_iinc (lv1 := [(0, _), (1, _), (2, _), (3, _), (4, _), (5, _), (6, _), (7, _), (8, _)]) B d_Mo_best_128 rfl ci_1 (by decide) rfl ?_ | refine a_iinc (lv1 := [(0, _), (1, _), (2, _), (3, _), (4, _), (5, _), (6, _), (7, _), (8, _)]) B d_Mo_best_128 rfl rfl (by decide) rfl ?_
          refine a_goto B 103 d_Mo_best_131 rfl ?_
          refine ihi _ _ ⟨rfl, fun k q => by rw [up1_o q]; exact hF8 k q, fun j hj => ?_⟩
          rw [up1_s]
          by_cases e : j = i
          · rw [e, upd_s]
          · rw [upd_o e]; exact hQ8 j (by omega)
        · skip
          obtain ⟨rfl, hF8, hQ8⟩ := hI
          refine a_iload B d_Mo_best_103 rfl ?_
          refine a_aload_n B d_Mo_best_105 rfl rfl ?_
          refine gf_Mo_sizes B d_Mo_best_106 fl_Mo_23 ?_
          refine a_iload_n B d_Mo_best_109 rfl rfl ?_
          refine a_iald B ly_111 _ rfl (by first | assumption | omega) d_Mo_best_110 ?_
          rw [hF8 111 (by decide), BtI_sz hJ5 a1]
          first | refine b_icmp_ge B 134 d_Mo_best_111 rfl (by omega) (by omega) (fun c_111 => ?_) (fun c_111 => ?_) | refine a_icmp_ge B 134 d_Mo_best_111 rfl (fun c_111 => ?_) (fun c_111 => ?_)
          · skip
            refine a_sub (lv1 := [(0, _), (1, _), (2, _), (3, _), (4, _), (5, _), (6, _)]) rfl ?_
            refine H134 (some s) τ h92 (hB5.of (hF8 _ (by decide)) (hF8 _ (by decide))) ⟨fun k a b c d f => (hF8 k f).trans (hJ5.1 k a b c d f), tfM_tr hJ5.2.1 (tfM_wk ⟨fun k a b c d => hF8 k (by omega), fun j _ _ => by rw [hF8 106 (by decide)]⟩), fun b hb j hj => ?_⟩
            cases hb
            exact hQ8 j hj
          exact absurd c_111 (by omega)
      refine a_istore (lv1 := [(0, _), (1, _), (2, _), (3, _), (4, _), (5, _), (6, _), (7, _)]) B d_Mo_best_58 (by decide) rfl ?_
      cases hq : btS (sT S t) (uS S) s
      · skip
        refine a_iload B d_Mo_best_60 rfl ?_
        refine a_if_lt B 92 d_Mo_best_62 rfl (fun _ => ?_) (fun c9 => absurd (by decide) c9)
        refine a_sub (lv1 := [(0, _), (1, _), (2, _), (3, _), (6, _), (7, _)]) rfl ?_
        first | exact H92 (amF_first c_50 hq) | exact H92 (amF_less c_50 hq (hklt.mpr (Or.inl c_69))) | exact H92 (amF_less c_50 hq (hklt.mpr (Or.inr ⟨c_76, of_decide_eq_true c_89⟩)))
      · skip
        rename_i b
        have hb1 := ((btS_ok s).1 b hq).1
        have hb2 : b < 2 ^ 31 := by omega
        have pb2 : priceT (uS S) (setT (sT S t) b) ≤ 100000 := price_le (unl_le hbd) w10
        rw [hq] at hJ5
        show AW g K 9 _ [(0, rV 106), (1, iV (nI t)), (2, iV (nI 0)), (3, iV (nI (priceT (uS S) (sT S t)))), (4, iV (nI b)), (5, iV (nI (priceT (uS S) (setT (sT S t) b)))), (6, iV (nI s)), (7, iV (nI (priceT (uS S) (setT (sT S t) s))))] [] τ_55
        have hklt := key_lt (u := uS S) (Wf_set (s := s) tW) (Wf_set (s := b) tW)
        refine a_iload B d_Mo_best_60 rfl ?_
        refine b_if_lt B 92 d_Mo_best_62 rfl (by first | assumption | omega) ?_
        refine a_iload B d_Mo_best_65 rfl ?_
        refine a_iload B d_Mo_best_67 rfl ?_
        first | refine b_icmp_lt B 92 d_Mo_best_69 rfl (by omega) (by omega) (fun c_69 => ?_) (fun c_69 => ?_) | refine a_icmp_lt B 92 d_Mo_best_69 rfl (fun c_69 => ?_) (fun c_69 => ?_)
        · skip
          refine a_sub (lv1 := [(0, _), (1, _), (2, _), (3, _), (6, _), (7, _)]) rfl ?_
          first | exact H92 (amF_first c_50 hq) | exact H92 (amF_less c_50 hq (hklt.mpr (Or.inl c_69))) | exact H92 (amF_less c_50 hq (hklt.mpr (Or.inr ⟨c_76, of_decide_eq_true c_89⟩)))
        refine a_iload B d_Mo_best_72 rfl ?_
        refine a_iload B d_Mo_best_74 rfl ?_
        first | refine b_icmp_ne B 134 d_Mo_best_76 rfl (by omega) (by omega) (fun c_76 => ?_) (fun c_76 => ?_) | refine a_icmp_ne B 134 d_Mo_best_76 rfl (fun c_76 => ?_) (fun c_76 => ?_)
        · skip
          refine a_sub (lv1 := [(0, _), (1, _), (2, _), (3, _), (4, _), (5, _), (6, _)]) rfl ?_
          first | exact H134 (some b) τ_55 (amF_keep c_50 hq (fun q => (hklt.mp q).elim (fun q => absurd q (Nat.not_lt.mpr c_69)) (fun q => c_76 q.1))) hB5 hJ5 | exact H134 (some b) τ_55 (amF_keep c_50 hq (fun q => (hklt.mp q).elim (fun q => absurd q (Nat.not_lt.mpr c_69)) (fun q => absurd q.2 (of_decide_eq_false c_89)))) hB5 hJ5
        refine a_aload_n B d_Mo_best_79 rfl rfl ?_
        refine a_aload_n B d_Mo_best_80 rfl rfl ?_
        refine gf_Mo_sizes B d_Mo_best_81 fl_Mo_23 ?_
        refine a_iload_n B d_Mo_best_84 rfl rfl ?_
        refine a_iald B ly_111 _ rfl (by first | assumption | omega) d_Mo_best_85 ?_
        rw [BtI_sz hJ5 a1]
        refine a_callVI (ci := 7) B (t_Mo_isAhead G w10 (f := ordT (setT (sT S t) s)) (g9 := ordT (setT (sT S t) b)) (fun j hj => ⟨by rw [hO5.ord (Wf_set tW) hj], by have := (pos_ord (T := (setT (sT S t) s)) (Wf_set tW) hj).1; have e9 : tN (setT (sT S t) s) = tN (sT S t) := rfl; omega⟩) (fun j hj => ⟨hJ5.2.2 b rfl j hj, by have := (pos_ord (T := setT (sT S t) b) (Wf_set tW) hj).1; have e9 : tN (setT (sT S t) b) = tN (sT S t) := rfl; omega⟩)) d_Mo_best_86 ok_Mo_isAhead ml_Mo_164 ly_106 rfl rfl (by decide) (by decide) rfl (Nat.le_of_ble_eq_true rfl) (fun r_86 τ_86 h_86 => ?_)
        obtain ⟨hr_86, hs_86⟩ := h_86
        subst hr_86
        replace hs_86 := hs_86.symm
        subst hs_86
        first | refine b_if_eq_b B 134 d_Mo_best_89 rfl (fun c_89 => ?_) (fun c_89 => ?_) | refine a_if_eq B 134 d_Mo_best_89 rfl (fun c_89 => ?_) (fun c_89 => ?_)
        · skip
          refine a_sub (lv1 := [(0, _), (1, _), (2, _), (3, _), (4, _), (5, _), (6, _)]) rfl ?_
          first | exact H134 (some b) τ_55 (amF_keep c_50 hq (fun q => (hklt.mp q).elim (fun q => absurd q (Nat.not_lt.mpr c_69)) (fun q => c_76 q.1))) hB5 hJ5 | exact H134 (some b) τ_55 (amF_keep c_50 hq (fun q => (hklt.mp q).elim (fun q => absurd q (Nat.not_lt.mpr c_69)) (fun q => absurd q.2 (of_decide_eq_false c_89)))) hB5 hJ5
        refine a_sub (lv1 := [(0, _), (1, _), (2, _), (3, _), (6, _), (7, _)]) rfl ?_
        first | exact H92 (amF_first c_50 hq) | exact H92 (amF_less c_50 hq (hklt.mpr (Or.inl c_69))) | exact H92 (amF_less c_50 hq (hklt.mpr (Or.inr ⟨c_76, of_decide_eq_true c_89⟩)))
    · skip
      obtain ⟨rfl, hB, hI⟩ := hI
      obtain ⟨hbs1, hbs2, hbs3, -⟩ := bestS_ok (T := sT S t) (u := uS S)
      rw [hbs1]
      show AW g K 9 28 [(0, rV 106), (1, iV (nI t)), (2, iV (nI 0)), (3, iV (nI (priceT (uS S) (sT S t)))), (4, iV (nI (bestS (sT S t) (uS S)))), (5, iV (nI (priceT (uS S) (setT (sT S t) (bestS (sT S t) (uS S)))))), (6, iV (nI (2 ^ (tN (sT S t) - 1))))] [] τ
      refine a_iload B d_Mo_best_28 rfl ?_
      refine a_iconst B d_Mo_best_30 ci_1 ?_
      refine a_aload_n B d_Mo_best_31 rfl rfl ?_
      refine gf_Mo_sizes B d_Mo_best_32 fl_Mo_23 ?_
      refine a_iload_n B d_Mo_best_35 rfl rfl ?_
      refine a_iald B ly_111 _ rfl (by first | assumption | omega) d_Mo_best_36 ?_
      rw [BtI_sz hI a1]
      refine a_iconst B d_Mo_best_37 ci_1 ?_
      first | refine b_isub B (by omega) d_Mo_best_38 ?_ | refine a_isub B d_Mo_best_38 ?_
      refine a_ishl B d_Mo_best_39 ?_
      rw [show nI 1 <<< (nI (tN (sT S t) - 1) &&& 31) = nI (2 ^ (tN (sT S t) - 1)) from nI_pow (by omega)]
      first | refine b_icmp_ge B 149 d_Mo_best_40 rfl (by omega) (by omega) (fun c_40 => ?_) (fun c_40 => ?_) | refine a_icmp_ge B 149 d_Mo_best_40 rfl (fun c_40 => ?_) (fun c_40 => ?_)
      · skip
        refine a_aload_n B d_Mo_best_149 rfl rfl ?_
        refine a_iload_n B d_Mo_best_150 rfl rfl ?_
        refine a_iload B d_Mo_best_151 rfl ?_
        refine a_callVI (ci := 7) B (t_Mo_flips G ht tW (BtI_A0 hI tA) hB (s := (bestS (sT S t) (uS S))) (by omega)) d_Mo_best_153 ok_Mo_flips ml_Mo_160 ly_106 rfl rfl (by decide) (by decide) rfl (Nat.le_of_ble_eq_true rfl) (fun r_153 τ_153 h_153 => ?_)
        obtain ⟨hr_153, hy_153, hn_153, hf_153⟩ := h_153
        subst hr_153
        have hB153 := hy_153 hbs3
        refine a_istore (lv1 := [(0, _), (1, _), (2, _), (3, _), (4, _), (5, _), (6, _)]) B d_Mo_best_156 (by decide) rfl ?_
        refine a_aload_n B d_Mo_best_158 rfl rfl ?_
        refine gf_Mo_sizes B d_Mo_best_159 fl_Mo_23 ?_
        refine a_iload_n B d_Mo_best_162 rfl rfl ?_
        refine a_iald B ly_111 _ rfl (by first | assumption | omega) d_Mo_best_163 ?_
        rw [hf_153.1 111 (by decide) (by decide), BtI_sz hI a1]
        refine a_istore (lv1 := [(0, _), (1, _), (2, _), (3, _), (4, _), (5, _), (6, _), (7, _)]) B d_Mo_best_164 (by decide) rfl ?_
        refine a_sub (lv1 := [(0, _), (1, _), (3, _), (4, _), (5, _), (7, _)]) rfl ?_
        refine a_forR (tN (sT S t) - 1) (fun i lv τ => lv = [(0, rV 106), (1, iV (nI t)), (3, iV (nI (priceT (uS S) (sT S t)))), (4, iV (nI (bestS (sT S t) (uS S)))), (5, iV (nI (priceT (uS S) (setT (sT S t) (bestS (sT S t) (uS S)))))), (7, iV (nI (tN (sT S t) + i)))] ∧ (∀ k, k ≠ 116 → τ.1 k = τ_153.1 k) ∧ tfM t τ_153 τ ∧ (∀ v, v < 2 * tN (sT S t) - 1 → τ.1 116 (20 * t + v) = if (decide (v < tN (sT S t) + i) && bestG (sT S t) (bestS (sT S t) (uS S)) v) then tC (sT S t) v + 1 else tC (sT S t) v)) (fun i lv τ hi hI9 ihi => ?_) (fun lv τ hI9 => ?_) 0 (Nat.zero_le _) _ _ ⟨rfl, fun _ _ => rfl, tfM_rfl, fun v hv => by (rw [hf_153.1 116 (by decide) (by decide), hI.1 116 (by decide) (by decide) (by decide) (by decide) (by decide), tX v hv]; by_cases e : v < tN (sT S t); rw [show bestG (sT S t) (bestS (sT S t) (uS S)) v = false from by unfold bestG; rw [decide_eq_false (Nat.not_le.mpr e)]; rfl, Bool.and_false]; rfl; rw [decide_eq_false (p := v < tN (sT S t) + 0) (by omega)]; rfl)⟩
        · skip
          obtain ⟨rfl, hF7, hT7, hQ7⟩ := hI9
          have z7 : τ.1 111 t = nI (tN (sT S t)) := (by rw [hF7 111 (by decide), hf_153.1 111 (by decide) (by decide)]; exact BtI_sz hI a1)
          refine a_iload B d_Mo_best_166 rfl ?_
          refine a_aload_n B d_Mo_best_168 rfl rfl ?_
          refine a_iload_n B d_Mo_best_169 rfl rfl ?_
          refine a_callVI (ci := 7) B (t_Mo_nodes G ht w1 w10 z7) d_Mo_best_170 ok_Mo_nodes ml_Mo_123 ly_106 rfl rfl (by decide) (by decide) rfl (Nat.le_of_ble_eq_true rfl) (fun r_170 τ_170 h_170 => ?_)
          obtain ⟨hr_170, hs_170⟩ := h_170
          subst hr_170
          replace hs_170 := hs_170.symm
          subst hs_170
          first | refine b_icmp_ge B 211 d_Mo_best_173 rfl (by omega) (by omega) (fun c_173 => ?_) (fun c_173 => ?_) | refine a_icmp_ge B 211 d_Mo_best_173 rfl (fun c_173 => ?_) (fun c_173 => ?_)
          · skip
            exact absurd c_173 (by omega)
          refine a_aload_n B d_Mo_best_176 rfl rfl ?_
          refine gf_Mo_turned B d_Mo_best_177 fl_Mo_38 ?_
          refine a_bipush B d_Mo_best_180 cb_20 ?_
          refine a_iload_n B d_Mo_best_182 rfl rfl ?_
          first | refine b_imul B d_Mo_best_183 ?_ | refine a_imul B d_Mo_best_183 ?_
          refine a_iload B d_Mo_best_184 rfl ?_
          first | refine b_iadd B d_Mo_best_186 ?_ | refine a_iadd B d_Mo_best_186 ?_
          refine a_dup2 B d_Mo_best_187 rfl rfl ?_
          refine a_iald B ly_116 _ rfl (by first | assumption | omega) d_Mo_best_188 ?_
          refine a_iload B d_Mo_best_189 rfl ?_
          refine a_iload B d_Mo_best_191 rfl ?_
          refine a_aload_n B d_Mo_best_193 rfl rfl ?_
          refine gf_Mo_sizes B d_Mo_best_194 fl_Mo_23 ?_
          refine a_iload_n B d_Mo_best_197 rfl rfl ?_
          refine a_iald B ly_111 _ rfl (by first | assumption | omega) d_Mo_best_198 ?_
          rw [z7]
          first | refine b_isub B (by omega) d_Mo_best_199 ?_ | refine a_isub B d_Mo_best_199 ?_
          rw [show tN (sT S t) + i - tN (sT S t) = i by omega]
          refine a_ishr B d_Mo_best_200 ?_
          refine a_iconst B d_Mo_best_201 ci_1 ?_
          refine a_iand B d_Mo_best_202 ?_
          rw [bit_atN (by omega) (by omega)]
          first | refine b_iadd B d_Mo_best_203 ?_ | refine a_iadd B d_Mo_best_203 ?_
          refine a_iast B ly_116 _ rfl (by first | assumption | omega) d_Mo_best_204 ?_
          first | refine b_iinc (lv1 := [(0, _), (1, _), (3, _), (4, _), (5, _), (7, _)]) B d_Mo_best_205 rfl ci_1 (by decide) rfl ?_ | refine a_iinc (lv1 := [(0, _), (1, _), (3, _), (4, _), (5, _), (7, _)]) B d_Mo_best_205 rfl rfl (by decide) rfl ?_
          refine a_goto B 166 d_Mo_best_208 rfl ?_
          refine ihi _ _ ⟨rfl, fun k q => by rw [up1_o q]; exact hF7 k q, tfM_tr hT7 (tfM_up (by decide) (by decide) (by omega)), fun v hv => ?_⟩
          rw [up1_s]
          by_cases e : v = tN (sT S t) + i
          · rw [e, upd_s, hQ7 _ (by omega), bestG_in (by omega) (by omega), decide_eq_false (show ¬ tN (sT S t) + i < tN (sT S t) + i by omega), decide_eq_true (show tN (sT S t) + i < tN (sT S t) + (i + 1) by omega), show tN (sT S t) + i - tN (sT S t) = i by omega, bit_tb]
            cases (bestS (sT S t) (uS S)).testBit i
            · exact Int32.add_zero _
            · rfl
          · rw [upd_o (by omega), hQ7 v hv, show decide (v < tN (sT S t) + (i + 1)) = decide (v < tN (sT S t) + i) from decide_eq_decide.mpr (by omega)]
        · skip
          obtain ⟨rfl, hF7, hT7, hQ7⟩ := hI9
          have z7 : τ.1 111 t = nI (tN (sT S t)) := (by rw [hF7 111 (by decide), hf_153.1 111 (by decide) (by decide)]; exact BtI_sz hI a1)
          refine a_iload B d_Mo_best_166 rfl ?_
          refine a_aload_n B d_Mo_best_168 rfl rfl ?_
          refine a_iload_n B d_Mo_best_169 rfl rfl ?_
          refine a_callVI (ci := 7) B (t_Mo_nodes G ht w1 w10 z7) d_Mo_best_170 ok_Mo_nodes ml_Mo_123 ly_106 rfl rfl (by decide) (by decide) rfl (Nat.le_of_ble_eq_true rfl) (fun r_170 τ_170 h_170 => ?_)
          obtain ⟨hr_170, hs_170⟩ := h_170
          subst hr_170
          replace hs_170 := hs_170.symm
          subst hs_170
          first | refine b_icmp_ge B 211 d_Mo_best_173 rfl (by omega) (by omega) (fun c_173 => ?_) (fun c_173 => ?_) | refine a_icmp_ge B 211 d_Mo_best_173 rfl (fun c_173 => ?_) (fun c_173 => ?_)
          · skip
            have pb0 : True := trivial
            refine a_aload_n B d_Mo_best_211 rfl rfl ?_
            refine a_iload B d_Mo_best_212 rfl ?_
            refine a_iload_n B d_Mo_best_214 rfl rfl ?_
            refine a_iload B d_Mo_best_215 rfl ?_
            first | refine b_isub B (by omega) d_Mo_best_217 ?_ | refine a_isub B d_Mo_best_217 ?_
            refine a_callVI (ci := 7) B (t_Mo_ask G _ _) d_Mo_best_218 ok_Mo_ask ml_Mo_108 ly_106 rfl rfl (by decide) (by decide) rfl (Nat.le_of_ble_eq_true rfl) (fun r_218 τ_218 h_218 => ?_)
            obtain ⟨hr_218, hs_218⟩ := h_218
            subst hr_218
            subst hs_218
            exact Rt _ _ _ _ d_Mo_best_221 (by have e : sp_best S (nI t) = (nI (priceT (uS S) (sT S t)) - nI (priceT (uS S) (bestT (sT S t) (uS S))), pA (pT S t (bestT (sT S t) (uS S))) (nI (priceT (uS S) (bestT (sT S t) (uS S))))) := (by rw [sp_best, hq]); rw [e, price_best tW]; exact ⟨rfl, RelM_asked (RelM_tree hS (T := bestT (sT S t) (uS S)) ⟨z7, fun _ => ⟨Wf_flips tW, (BtI_A0 hI tA).fl (fun k q2 q3 q6 _ _ => (hF7 k q6).trans (hf_153.1 k q2 q3)), TmB_cg (f := fun v => (bestS (sT S t) (uS S)).testBit (v - tN (sT S t))) (f' := bestG (sT S t) (bestS (sT S t) (uS S))) (hB153.of (hF7 _ (by decide)) (hF7 _ (by decide))) (fun v h1 h2 => (bestG_in h1 h2).symm), fun v hv => by (have hv : v < 2 * tN (sT S t) - 1 := hv; rw [hQ7 v hv, decide_eq_true (show v < tN (sT S t) + (tN (sT S t) - 1) by omega)]; rfl)⟩⟩ (tfM_tr (tfM_tr hI.2.1 hf_153.2) hT7)), frM_tr (frM_tr (tfM_fr (tfM_tr hI.2.1 hf_153.2)) (tfM_fr hT7)) frM_ask⟩)
          exact absurd c_173 (by omega)
      exact absurd c_40 (by omega)
