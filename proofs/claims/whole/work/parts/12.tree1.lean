/-! methods of the class's tree that only read -/
theorem a_forR {g : GG} {K : AK} {nL : Nat} {pc : Nat} {st : List AV} (n : Nat) (I : Nat → LV → AH → Prop) (hstep : ∀ i lv τ, i < n → I i lv τ → (∀ lv' τ', I (i + 1) lv' τ' → AW g K nL pc lv' st τ') → AW g K nL pc lv st τ) (hend : ∀ lv τ, I n lv τ → AW g K nL pc lv st τ) : ∀ i, i ≤ n → ∀ lv τ, I i lv τ → AW g K nL pc lv st τ := by
  have key : ∀ k i, i + k = n → ∀ lv τ, I i lv τ → AW g K nL pc lv st τ := by
    intro k
    induction k with
    | zero =>
      intro i h lv τ hI
      have : i = n := by omega
      subst this
      exact hend lv τ hI
    | succ k ih =>
      intro i h lv τ hI
      exact hstep i lv τ (by omega) hI (fun lv' τ' hI' => ih (i + 1) (by omega) lv' τ' hI')
  intro i h
  exact key (n - i) i (by omega)
theorem bit_atN {m l : Nat} (hm : m < 1024) (hl : l < 32) : (nI m >>> (nI l &&& 31)) &&& nI 1 = nI ((m >>> l) % 2) := bit_at hm hl
theorem bI_t {b : Bool} (h : b = true) : nI 1 = bI b := by rw [h]; rfl
theorem bI_f {b : Bool} (h : b = false) : nI 0 = bI b := by rw [h]; rfl
theorem tb_1 {m l : Nat} (h : (m >>> l) % 2 = 1) : m.testBit l = true := by
  rw [bit_tb] at h
  cases hb : m.testBit l with
  | true => rfl
  | false => rw [hb] at h; simp at h
theorem tb_0 {m l : Nat} (h : ¬ (m >>> l) % 2 = 1) : m.testBit l = false := by
  rw [bit_tb] at h
  cases hb : m.testBit l with
  | true => rw [hb] at h; simp at h
  | false => rfl
def isOfT (T : TT) (v k : Nat) : Bool := if k = 1 then decide (v < tN T) else decide (tN T ≤ v) && (decide (k = 2) || tD T v)
def kindT (T : TT) (v : Nat) : Nat := if v < tN T then 1 else if tD T v then 3 else 2
def tellT (T : TT) (v w : Nat) : Int32 :=
  if w = 0 then nI (kindT T v) else if w = 1 then (if v < tN T then -9 else nI (tL T v)) else if w = 2 then (if v < tN T then -9 else nI (tR T v))
  else if w = 3 then nI (tH T v) else if w = 4 then nI (cB (tM T v)) else if v < 2 * tN T - 2 then nI (tU T v) else -9
def heldT (T : TT) (e : Nat) : Nat := cntB (fun k => tD T (tN T + k)) (e - tN T)
def belowT (T : TT) (e : Nat) : Nat := cntB (fun k => tD T (tN T + k) && decide (tM T (tN T + k) &&& tM T e ≠ 0)) (e - tN T)
def mayT (T : TT) (s : Nat) : Bool := decide (∀ k, k < tN T - 1 → ¬ (tD T (tN T + k) = true ∧ s.testBit k = true))
/-- pairs of a leaf of each set, the first ahead by the places -/
def paG (mA mB : Nat) (pl : Nat → Int32) (x y : Nat) : Nat := if mA.testBit x && (decide (0 ≤ pl x) && (mB.testBit y && decide (pl x < pl y))) then 1 else 0
def paN (n mA mB : Nat) (pl : Nat → Int32) : Nat := sumTo (fun x => sumTo (paG mA mB pl x) n) n
def pa (mA mB : Nat) (pl : Nat → Int32) : Nat := paN 10 mA mB pl
/-- PRICE of the order -/
def priceT (u : Nat → Nat → Nat) (T : TT) : Nat := sumTo (fun i => u (ordT T i) (ordT T (i + 1))) (tN T - 1)
/-- crossings of the order with places, join by join -/
def crossT (T : TT) (pl : Nat → Int32) : Nat := sumTo (fun k => pa (tM T (tR T (tN T + k))) (tM T (tL T (tN T + k))) pl) (tN T - 1)
def leastT (T : TT) (pl : Nat → Int32) : Nat := sumTo (fun k => if tD T (tN T + k) then pa (tM T (tR T (tN T + k))) (tM T (tL T (tN T + k))) pl else min (pa (tM T (tR T (tN T + k))) (tM T (tL T (tN T + k))) pl) (pa (tM T (tL T (tN T + k))) (tM T (tR T (tN T + k))) pl)) (tN T - 1)
theorem sumTo_zero {f : Nat → Nat} {n : Nat} (h : ∀ k, k < n → f k = 0) : sumTo f n = 0 := by
  rw [sumTo_congr h]
  have := sumTo_le (f := fun _ => 0) (c := 0) (fun _ => Nat.le_refl 0) n
  omega
theorem sumTo_ext {f : Nat → Nat} {n : Nat} : ∀ {m : Nat}, n ≤ m → (∀ k, n ≤ k → k < m → f k = 0) → sumTo f n = sumTo f m
  | 0, h, _ => by rw [show n = 0 by omega]
  | m + 1, h, hz => by
    by_cases e : n = m + 1
    · rw [e]
    · show sumTo f n = sumTo f m + f m
      rw [hz m (by omega) (by omega), ← sumTo_ext (m := m) (by omega) (fun k h1 h2 => hz k h1 (by omega))]
      rfl
theorem paN_pa {n mA mB : Nat} {pl : Nat → Int32} (hn : n ≤ 10) (hA : ∀ x, n ≤ x → mA.testBit x = false) (hB : ∀ x, n ≤ x → mB.testBit x = false) : paN n mA mB pl = pa mA mB pl := by
  unfold pa paN
  have e : ∀ x, sumTo (paG mA mB pl x) n = sumTo (paG mA mB pl x) 10 := fun x => sumTo_ext hn (fun y h1 h2 => by simp [paG, hB y h1])
  rw [sumTo_congr (fun x _ => e x)]
  exact sumTo_ext hn (fun x h1 h2 => sumTo_zero (fun y _ => by simp [paG, hA x h1]))
theorem pa_le (mA mB : Nat) (pl : Nat → Int32) : pa mA mB pl ≤ 100 := by
  unfold pa paN
  have h1 : ∀ x, sumTo (paG mA mB pl x) 10 ≤ 10 := fun x => by
    have := sumTo_le (f := paG mA mB pl x) (c := 1) (fun y => by unfold paG; split <;> omega) 10
    omega
  have := sumTo_le (f := fun x => sumTo (paG mA mB pl x) 10) (c := 10) h1 10
  omega
theorem hasL_lt {T : TT} (hW : Wf T) : ∀ (v x : Nat), v < 2 * tN T - 1 → hasL T v x = true → x < tN T := by
  intro v
  induction v using Nat.strongRecOn with
  | ind v ih =>
    intro x hv h
    by_cases hl : v < tN T
    · rw [hasL_leaf hW hl] at h
      have := of_decide_eq_true h
      omega
    · have h1 : tN T ≤ v := by omega
      obtain ⟨a, b, c, d, e⟩ := hW.2.2.1 v h1 hv
      rw [hasL_join hW h1 hv] at h
      rcases Bool.or_eq_true_iff.mp h with h | h
      · exact ih _ a x (by omega) h
      · exact ih _ b x (by omega) h
theorem tM_hi {T : TT} (hW : Wf T) {v : Nat} (hv : v < 2 * tN T - 1) : ∀ x, tN T ≤ x → (tM T v).testBit x = false := fun x hx => by
  cases h : (tM T v).testBit x with
  | false => rfl
  | true => have := hasL_lt hW v x hv h; omega
theorem sumTo_succ (f : Nat → Nat) (n : Nat) : sumTo f (n + 1) = sumTo f n + f n := rfl
theorem paG_a {mA mB x y : Nat} {pl : Nat → Int32} (h : mA.testBit x = false) : paG mA mB pl x y = 0 := by simp [paG, h]
theorem paG_b {mA mB x y : Nat} {pl : Nat → Int32} (h : mB.testBit y = false) : paG mA mB pl x y = 0 := by simp [paG, h]
theorem paG_n {mA mB x y : Nat} {pl : Nat → Int32} (h : ¬ 0 ≤ pl x) : paG mA mB pl x y = 0 := by simp [paG, h]
theorem paG_c {mA mB x y : Nat} {pl : Nat → Int32} (h : pl y ≤ pl x) : paG mA mB pl x y = 0 := by
  have : ¬ pl x < pl y := Int32.not_lt.mpr h
  simp [paG, this]
theorem paG_1 {mA mB x y : Nat} {pl : Nat → Int32} (h1 : mA.testBit x = true) (h2 : 0 ≤ pl x) (h3 : mB.testBit y = true) (h4 : pl x < pl y) : paG mA mB pl x y = 1 := by simp [paG, h1, h2, h3, h4]
theorem d_Tr_holdsLeaf_0 : decode prog_7_method_5_code 0 = .ok (.aload_n 0, 1) := by decide +kernel
theorem d_Tr_holdsLeaf_1 : decode prog_7_method_5_code 1 = .ok (.getfield 27, 3) := by decide +kernel
theorem d_Tr_holdsLeaf_4 : decode prog_7_method_5_code 4 = .ok (.iload_n 1, 1) := by decide +kernel
theorem d_Tr_holdsLeaf_5 : decode prog_7_method_5_code 5 = .ok (.iaload, 1) := by decide +kernel
theorem d_Tr_holdsLeaf_6 : decode prog_7_method_5_code 6 = .ok (.iload_n 2, 1) := by decide +kernel
theorem d_Tr_holdsLeaf_7 : decode prog_7_method_5_code 7 = .ok (.ishr, 1) := by decide +kernel
theorem d_Tr_holdsLeaf_8 : decode prog_7_method_5_code 8 = .ok (.iconst 1, 1) := by decide +kernel
theorem d_Tr_holdsLeaf_9 : decode prog_7_method_5_code 9 = .ok (.iand, 1) := by decide +kernel
theorem d_Tr_holdsLeaf_10 : decode prog_7_method_5_code 10 = .ok (.iconst 1, 1) := by decide +kernel
theorem d_Tr_holdsLeaf_11 : decode prog_7_method_5_code 11 = .ok (.if_icmp .ne 7, 3) := by decide +kernel
theorem d_Tr_holdsLeaf_14 : decode prog_7_method_5_code 14 = .ok (.iconst 1, 1) := by decide +kernel
theorem d_Tr_holdsLeaf_15 : decode prog_7_method_5_code 15 = .ok (.goto 4, 3) := by decide +kernel
theorem d_Tr_holdsLeaf_18 : decode prog_7_method_5_code 18 = .ok (.iconst 0, 1) := by decide +kernel
theorem d_Tr_holdsLeaf_19 : decode prog_7_method_5_code 19 = .ok (.ireturn, 1) := by decide +kernel
set_option maxHeartbeats 4000000 in
set_option maxRecDepth 20000 in
theorem t_Tr_holdsLeaf {g : GG} (G : Gok g) {σ : AH} {t : Nat} {T : TT} (ht : t < 4) (hW : Wf T) (hA : RtA σ t T) {v x : Nat} (hv : v < 2 * tN T - 1) (hx : x < 10) : TerI g 0 m_Tr_holdsLeaf [rV (tI t), iV (nI v), iV (nI x)] σ (fun r τ => r = bI (hasL T v x) ∧ τ = σ) := by
  refine TerI.mkZ G (by decide +kernel) rfl (Nat.le_of_ble_eq_true rfl) (fun K B Rt => ?_)
  have B : Cx g K prog_7_method_5_code 3 R_Tr 0 := B
  have Rt : RetZ g K prog_7_method_5_code 3 (fun r τ => r = bI (hasL T v x) ∧ τ = σ) := Rt
  show AW g K 3 0 [(0, rV (tI t)), (1, iV (nI v)), (2, iV (nI x))] [] σ
  obtain ⟨a12, a13, a3, a3t, a4, a5, a6, a8⟩ := hA
  obtain ⟨w1, w10, wj, wu, wl, wm, wt, wb, wh⟩ := id hW
  have hbv := wb v hv
  refine a_aload_n B d_Tr_holdsLeaf_0 rfl rfl ?_
  refine gf_Tr_leafSet B (by first | assumption | omega) d_Tr_holdsLeaf_1 fl_Tr_27 ?_
  refine a_iload_n B d_Tr_holdsLeaf_4 rfl rfl ?_
  refine a_iald B (ly_T_leafSet (by first | assumption | omega)) _ rfl (by first | assumption | omega) d_Tr_holdsLeaf_5 ?_
  rw [a6 v hv]
  refine a_iload_n B d_Tr_holdsLeaf_6 rfl rfl ?_
  refine a_ishr B d_Tr_holdsLeaf_7 ?_
  refine a_iconst B d_Tr_holdsLeaf_8 ci_1 ?_
  refine a_iand B d_Tr_holdsLeaf_9 ?_
  rw [bit_atN hbv (by omega)]
  refine a_iconst B d_Tr_holdsLeaf_10 ci_1 ?_
  first | refine b_icmp_ne B 18 d_Tr_holdsLeaf_11 rfl (by omega) (by omega) (fun c_11 => ?_) (fun c_11 => ?_) | refine a_icmp_ne B 18 d_Tr_holdsLeaf_11 rfl (fun c_11 => ?_) (fun c_11 => ?_)
  · skip
    refine a_iconst B d_Tr_holdsLeaf_18 ci_0 ?_
    exact Rt _ _ _ _ d_Tr_holdsLeaf_19 (by first | exact Or.inl rfl | exact Or.inr rfl) ⟨by first | exact bI_t (tb_1 c_11) | exact bI_f (tb_0 c_11), rfl⟩
  refine a_iconst B d_Tr_holdsLeaf_14 ci_1 ?_
  refine a_goto B 19 d_Tr_holdsLeaf_15 rfl ?_
  exact Rt _ _ _ _ d_Tr_holdsLeaf_19 (by first | exact Or.inl rfl | exact Or.inr rfl) ⟨by first | exact bI_t (tb_1 c_11) | exact bI_f (tb_0 c_11), rfl⟩
theorem d_Tr_isOf_0 : decode prog_7_method_4_code 0 = .ok (.iload_n 2, 1) := by decide +kernel
theorem d_Tr_isOf_1 : decode prog_7_method_4_code 1 = .ok (.iconst 1, 1) := by decide +kernel
theorem d_Tr_isOf_2 : decode prog_7_method_4_code 2 = .ok (.if_icmp .ne 17, 3) := by decide +kernel
theorem d_Tr_isOf_5 : decode prog_7_method_4_code 5 = .ok (.iload_n 1, 1) := by decide +kernel
theorem d_Tr_isOf_6 : decode prog_7_method_4_code 6 = .ok (.aload_n 0, 1) := by decide +kernel
theorem d_Tr_isOf_7 : decode prog_7_method_4_code 7 = .ok (.getfield 50, 3) := by decide +kernel
theorem d_Tr_isOf_10 : decode prog_7_method_4_code 10 = .ok (.if_icmp .ge 7, 3) := by decide +kernel
theorem d_Tr_isOf_13 : decode prog_7_method_4_code 13 = .ok (.iconst 1, 1) := by decide +kernel
theorem d_Tr_isOf_14 : decode prog_7_method_4_code 14 = .ok (.goto 4, 3) := by decide +kernel
theorem d_Tr_isOf_17 : decode prog_7_method_4_code 17 = .ok (.iconst 0, 1) := by decide +kernel
theorem d_Tr_isOf_18 : decode prog_7_method_4_code 18 = .ok (.ireturn, 1) := by decide +kernel
theorem d_Tr_isOf_19 : decode prog_7_method_4_code 19 = .ok (.iload_n 1, 1) := by decide +kernel
theorem d_Tr_isOf_20 : decode prog_7_method_4_code 20 = .ok (.aload_n 0, 1) := by decide +kernel
theorem d_Tr_isOf_21 : decode prog_7_method_4_code 21 = .ok (.getfield 50, 3) := by decide +kernel
theorem d_Tr_isOf_24 : decode prog_7_method_4_code 24 = .ok (.if_icmp .lt 21, 3) := by decide +kernel
theorem d_Tr_isOf_27 : decode prog_7_method_4_code 27 = .ok (.iload_n 2, 1) := by decide +kernel
theorem d_Tr_isOf_28 : decode prog_7_method_4_code 28 = .ok (.iconst 2, 1) := by decide +kernel
theorem d_Tr_isOf_29 : decode prog_7_method_4_code 29 = .ok (.if_icmp .eq 12, 3) := by decide +kernel
theorem d_Tr_isOf_32 : decode prog_7_method_4_code 32 = .ok (.aload_n 0, 1) := by decide +kernel
theorem d_Tr_isOf_33 : decode prog_7_method_4_code 33 = .ok (.getfield 33, 3) := by decide +kernel
theorem d_Tr_isOf_36 : decode prog_7_method_4_code 36 = .ok (.iload_n 1, 1) := by decide +kernel
theorem d_Tr_isOf_37 : decode prog_7_method_4_code 37 = .ok (.baload, 1) := by decide +kernel
theorem d_Tr_isOf_38 : decode prog_7_method_4_code 38 = .ok (.ifCond .eq 7, 3) := by decide +kernel
theorem d_Tr_isOf_41 : decode prog_7_method_4_code 41 = .ok (.iconst 1, 1) := by decide +kernel
theorem d_Tr_isOf_42 : decode prog_7_method_4_code 42 = .ok (.goto 4, 3) := by decide +kernel
theorem d_Tr_isOf_45 : decode prog_7_method_4_code 45 = .ok (.iconst 0, 1) := by decide +kernel
theorem d_Tr_isOf_46 : decode prog_7_method_4_code 46 = .ok (.ireturn, 1) := by decide +kernel
set_option maxHeartbeats 4000000 in
set_option maxRecDepth 20000 in
theorem t_Tr_isOf {g : GG} (G : Gok g) {σ : AH} {t : Nat} {T : TT} (ht : t < 4) (hW : Wf T) (hA : RtA σ t T) {v k : Nat} (hv : v < 2 * tN T - 1) (hk : k < 4) : TerI g 0 m_Tr_isOf [rV (tI t), iV (nI v), iV (nI k)] σ (fun r τ => r = bI (isOfT T v k) ∧ τ = σ) := by
  refine TerI.mkZ G (by decide +kernel) rfl (Nat.le_of_ble_eq_true rfl) (fun K B Rt => ?_)
  have B : Cx g K prog_7_method_4_code 3 R_Tr 0 := B
  have Rt : RetZ g K prog_7_method_4_code 3 (fun r τ => r = bI (isOfT T v k) ∧ τ = σ) := Rt
  show AW g K 3 0 [(0, rV (tI t)), (1, iV (nI v)), (2, iV (nI k))] [] σ
  obtain ⟨a12, a13, a3, a3t, a4, a5, a6, a8⟩ := hA
  obtain ⟨w1, w10, wj, wu, wl, wm, wt, wb, wh⟩ := id hW
  refine a_iload_n B d_Tr_isOf_0 rfl rfl ?_
  refine a_iconst B d_Tr_isOf_1 ci_1 ?_
  first | refine b_icmp_ne B 19 d_Tr_isOf_2 rfl (by omega) (by omega) (fun c_2 => ?_) (fun c_2 => ?_) | refine a_icmp_ne B 19 d_Tr_isOf_2 rfl (fun c_2 => ?_) (fun c_2 => ?_)
  · skip
    refine a_iload_n B d_Tr_isOf_19 rfl rfl ?_
    refine a_aload_n B d_Tr_isOf_20 rfl rfl ?_
    refine gf_Tr_leafCount B (by first | assumption | omega) d_Tr_isOf_21 fl_Tr_50 ?_
    rw [a12]
    first | refine b_icmp_lt B 45 d_Tr_isOf_24 rfl (by omega) (by omega) (fun c_24 => ?_) (fun c_24 => ?_) | refine a_icmp_lt B 45 d_Tr_isOf_24 rfl (fun c_24 => ?_) (fun c_24 => ?_)
    · skip
      refine a_iconst B d_Tr_isOf_45 ci_0 ?_
      exact Rt _ _ _ _ d_Tr_isOf_46 (by first | exact Or.inl rfl | exact Or.inr rfl) ⟨by first | (refine bI_t ?_; simp [isOfT, c_2, c_24, c_29]; done) | (refine bI_t ?_; simp [isOfT, c_2, c_24, c_38]; done) | (refine bI_f ?_; simp [isOfT, c_2, c_24, c_29, c_38]; done) | (refine bI_f ?_; simp [isOfT, c_2]; omega), rfl⟩
    refine a_iload_n B d_Tr_isOf_27 rfl rfl ?_
    refine a_iconst B d_Tr_isOf_28 ci_2 ?_
    first | refine b_icmp_eq B 41 d_Tr_isOf_29 rfl (by omega) (by omega) (fun c_29 => ?_) (fun c_29 => ?_) | refine a_icmp_eq B 41 d_Tr_isOf_29 rfl (fun c_29 => ?_) (fun c_29 => ?_)
    · skip
      refine a_iconst B d_Tr_isOf_41 ci_1 ?_
      refine a_goto B 46 d_Tr_isOf_42 rfl ?_
      exact Rt _ _ _ _ d_Tr_isOf_46 (by first | exact Or.inl rfl | exact Or.inr rfl) ⟨by first | (refine bI_t ?_; simp [isOfT, c_2, c_24, c_29]; done) | (refine bI_t ?_; simp [isOfT, c_2, c_24, c_38]; done) | (refine bI_f ?_; simp [isOfT, c_2, c_24, c_29, c_38]; done) | (refine bI_f ?_; simp [isOfT, c_2]; omega), rfl⟩
    refine a_aload_n B d_Tr_isOf_32 rfl rfl ?_
    refine gf_Tr_held B (by first | assumption | omega) d_Tr_isOf_33 fl_Tr_33 ?_
    refine a_iload_n B d_Tr_isOf_36 rfl rfl ?_
    refine a_zald B (ly_T_held (by first | assumption | omega)) _ rfl (by first | assumption | omega) d_Tr_isOf_37 ?_
    rw [a8 v hv]
    first | refine b_if_eq_b B 45 d_Tr_isOf_38 rfl (fun c_38 => ?_) (fun c_38 => ?_) | refine a_if_eq B 45 d_Tr_isOf_38 rfl (fun c_38 => ?_) (fun c_38 => ?_)
    · skip
      refine a_iconst B d_Tr_isOf_45 ci_0 ?_
      exact Rt _ _ _ _ d_Tr_isOf_46 (by first | exact Or.inl rfl | exact Or.inr rfl) ⟨by first | (refine bI_t ?_; simp [isOfT, c_2, c_24, c_29]; done) | (refine bI_t ?_; simp [isOfT, c_2, c_24, c_38]; done) | (refine bI_f ?_; simp [isOfT, c_2, c_24, c_29, c_38]; done) | (refine bI_f ?_; simp [isOfT, c_2]; omega), rfl⟩
    refine a_iconst B d_Tr_isOf_41 ci_1 ?_
    refine a_goto B 46 d_Tr_isOf_42 rfl ?_
    exact Rt _ _ _ _ d_Tr_isOf_46 (by first | exact Or.inl rfl | exact Or.inr rfl) ⟨by first | (refine bI_t ?_; simp [isOfT, c_2, c_24, c_29]; done) | (refine bI_t ?_; simp [isOfT, c_2, c_24, c_38]; done) | (refine bI_f ?_; simp [isOfT, c_2, c_24, c_29, c_38]; done) | (refine bI_f ?_; simp [isOfT, c_2]; omega), rfl⟩
  refine a_iload_n B d_Tr_isOf_5 rfl rfl ?_
  refine a_aload_n B d_Tr_isOf_6 rfl rfl ?_
  refine gf_Tr_leafCount B (by first | assumption | omega) d_Tr_isOf_7 fl_Tr_50 ?_
  rw [a12]
  first | refine b_icmp_ge B 17 d_Tr_isOf_10 rfl (by omega) (by omega) (fun c_10 => ?_) (fun c_10 => ?_) | refine a_icmp_ge B 17 d_Tr_isOf_10 rfl (fun c_10 => ?_) (fun c_10 => ?_)
  · skip
    refine a_iconst B d_Tr_isOf_17 ci_0 ?_
    exact Rt _ _ _ _ d_Tr_isOf_18 (by first | exact Or.inl rfl | exact Or.inr rfl) ⟨by first | (refine bI_t ?_; simp [isOfT, c_2, c_10]; done) | (refine bI_f ?_; simp [isOfT, c_2]; omega), rfl⟩
  refine a_iconst B d_Tr_isOf_13 ci_1 ?_
  refine a_goto B 18 d_Tr_isOf_14 rfl ?_
  exact Rt _ _ _ _ d_Tr_isOf_18 (by first | exact Or.inl rfl | exact Or.inr rfl) ⟨by first | (refine bI_t ?_; simp [isOfT, c_2, c_10]; done) | (refine bI_f ?_; simp [isOfT, c_2]; omega), rfl⟩
theorem d_Tr_kindOf_0 : decode prog_7_method_6_code 0 = .ok (.iload_n 1, 1) := by decide +kernel
theorem d_Tr_kindOf_1 : decode prog_7_method_6_code 1 = .ok (.aload_n 0, 1) := by decide +kernel
theorem d_Tr_kindOf_2 : decode prog_7_method_6_code 2 = .ok (.getfield 50, 3) := by decide +kernel
theorem d_Tr_kindOf_5 : decode prog_7_method_6_code 5 = .ok (.if_icmp .ge 5, 3) := by decide +kernel
theorem d_Tr_kindOf_8 : decode prog_7_method_6_code 8 = .ok (.iconst 1, 1) := by decide +kernel
theorem d_Tr_kindOf_9 : decode prog_7_method_6_code 9 = .ok (.ireturn, 1) := by decide +kernel
theorem d_Tr_kindOf_10 : decode prog_7_method_6_code 10 = .ok (.aload_n 0, 1) := by decide +kernel
theorem d_Tr_kindOf_11 : decode prog_7_method_6_code 11 = .ok (.getfield 33, 3) := by decide +kernel
theorem d_Tr_kindOf_14 : decode prog_7_method_6_code 14 = .ok (.iload_n 1, 1) := by decide +kernel
theorem d_Tr_kindOf_15 : decode prog_7_method_6_code 15 = .ok (.baload, 1) := by decide +kernel
theorem d_Tr_kindOf_16 : decode prog_7_method_6_code 16 = .ok (.ifCond .eq 7, 3) := by decide +kernel
theorem d_Tr_kindOf_19 : decode prog_7_method_6_code 19 = .ok (.iconst 3, 1) := by decide +kernel
theorem d_Tr_kindOf_20 : decode prog_7_method_6_code 20 = .ok (.goto 4, 3) := by decide +kernel
theorem d_Tr_kindOf_23 : decode prog_7_method_6_code 23 = .ok (.iconst 2, 1) := by decide +kernel
theorem d_Tr_kindOf_24 : decode prog_7_method_6_code 24 = .ok (.ireturn, 1) := by decide +kernel
set_option maxHeartbeats 4000000 in
set_option maxRecDepth 20000 in
theorem t_Tr_kindOf {g : GG} (G : Gok g) {σ : AH} {t : Nat} {T : TT} (ht : t < 4) (hW : Wf T) (hA : RtA σ t T) {v : Nat} (hv : v < 2 * tN T - 1) : TerI g 0 m_Tr_kindOf [rV (tI t), iV (nI v)] σ (fun r τ => r = nI (kindT T v) ∧ τ = σ) := by
  refine TerI.mk G (by decide +kernel) rfl (Nat.le_of_ble_eq_true rfl) (fun K B Rt => ?_)
  have B : Cx g K prog_7_method_6_code 2 R_Tr 0 := B
  have Rt : RetI g K prog_7_method_6_code 2 (fun r τ => r = nI (kindT T v) ∧ τ = σ) := Rt
  show AW g K 2 0 [(0, rV (tI t)), (1, iV (nI v))] [] σ
  obtain ⟨a12, a13, a3, a3t, a4, a5, a6, a8⟩ := hA
  obtain ⟨w1, w10, wj, wu, wl, wm, wt, wb, wh⟩ := id hW
  refine a_iload_n B d_Tr_kindOf_0 rfl rfl ?_
  refine a_aload_n B d_Tr_kindOf_1 rfl rfl ?_
  refine gf_Tr_leafCount B (by first | assumption | omega) d_Tr_kindOf_2 fl_Tr_50 ?_
  rw [a12]
  first | refine b_icmp_ge B 10 d_Tr_kindOf_5 rfl (by omega) (by omega) (fun c_5 => ?_) (fun c_5 => ?_) | refine a_icmp_ge B 10 d_Tr_kindOf_5 rfl (fun c_5 => ?_) (fun c_5 => ?_)
  · skip
    refine a_aload_n B d_Tr_kindOf_10 rfl rfl ?_
    refine gf_Tr_held B (by first | assumption | omega) d_Tr_kindOf_11 fl_Tr_33 ?_
    refine a_iload_n B d_Tr_kindOf_14 rfl rfl ?_
    refine a_zald B (ly_T_held (by first | assumption | omega)) _ rfl (by first | assumption | omega) d_Tr_kindOf_15 ?_
    rw [a8 v hv]
    first | refine b_if_eq_b B 23 d_Tr_kindOf_16 rfl (fun c_16 => ?_) (fun c_16 => ?_) | refine a_if_eq B 23 d_Tr_kindOf_16 rfl (fun c_16 => ?_) (fun c_16 => ?_)
    · skip
      refine a_iconst B d_Tr_kindOf_23 ci_2 ?_
      exact Rt _ _ _ _ d_Tr_kindOf_24 ⟨by first | simp [kindT, show ¬ v < tN T by omega, c_16], rfl⟩
    refine a_iconst B d_Tr_kindOf_19 ci_3 ?_
    refine a_goto B 24 d_Tr_kindOf_20 rfl ?_
    exact Rt _ _ _ _ d_Tr_kindOf_24 ⟨by first | simp [kindT, show ¬ v < tN T by omega, c_16], rfl⟩
  refine a_iconst B d_Tr_kindOf_8 ci_1 ?_
  exact Rt _ _ _ _ d_Tr_kindOf_9 ⟨by rw [kindT, if_pos c_5], rfl⟩
theorem d_Tr_tell_0 : decode prog_7_method_7_code 0 = .ok (.iload_n 2, 1) := by decide +kernel
theorem d_Tr_tell_1 : decode prog_7_method_7_code 1 = .ok (.tableswitch 69 0 4 #[35, 41, 48, 55, 62], 35) := by decide +kernel
theorem d_Tr_tell_36 : decode prog_7_method_7_code 36 = .ok (.aload_n 0, 1) := by decide +kernel
theorem d_Tr_tell_37 : decode prog_7_method_7_code 37 = .ok (.iload_n 1, 1) := by decide +kernel
theorem d_Tr_tell_38 : decode prog_7_method_7_code 38 = .ok (.invokevirtual 63, 3) := by decide +kernel
theorem d_Tr_tell_41 : decode prog_7_method_7_code 41 = .ok (.ireturn, 1) := by decide +kernel
theorem d_Tr_tell_42 : decode prog_7_method_7_code 42 = .ok (.aload_n 0, 1) := by decide +kernel
theorem d_Tr_tell_43 : decode prog_7_method_7_code 43 = .ok (.getfield 9, 3) := by decide +kernel
theorem d_Tr_tell_46 : decode prog_7_method_7_code 46 = .ok (.iload_n 1, 1) := by decide +kernel
theorem d_Tr_tell_47 : decode prog_7_method_7_code 47 = .ok (.iaload, 1) := by decide +kernel
theorem d_Tr_tell_48 : decode prog_7_method_7_code 48 = .ok (.ireturn, 1) := by decide +kernel
theorem d_Tr_tell_49 : decode prog_7_method_7_code 49 = .ok (.aload_n 0, 1) := by decide +kernel
theorem d_Tr_tell_50 : decode prog_7_method_7_code 50 = .ok (.getfield 15, 3) := by decide +kernel
theorem d_Tr_tell_53 : decode prog_7_method_7_code 53 = .ok (.iload_n 1, 1) := by decide +kernel
theorem d_Tr_tell_54 : decode prog_7_method_7_code 54 = .ok (.iaload, 1) := by decide +kernel
theorem d_Tr_tell_55 : decode prog_7_method_7_code 55 = .ok (.ireturn, 1) := by decide +kernel
theorem d_Tr_tell_56 : decode prog_7_method_7_code 56 = .ok (.aload_n 0, 1) := by decide +kernel
theorem d_Tr_tell_57 : decode prog_7_method_7_code 57 = .ok (.getfield 21, 3) := by decide +kernel
theorem d_Tr_tell_60 : decode prog_7_method_7_code 60 = .ok (.iload_n 1, 1) := by decide +kernel
theorem d_Tr_tell_61 : decode prog_7_method_7_code 61 = .ok (.iaload, 1) := by decide +kernel
theorem d_Tr_tell_62 : decode prog_7_method_7_code 62 = .ok (.ireturn, 1) := by decide +kernel
theorem d_Tr_tell_63 : decode prog_7_method_7_code 63 = .ok (.aload_n 0, 1) := by decide +kernel
theorem d_Tr_tell_64 : decode prog_7_method_7_code 64 = .ok (.getfield 24, 3) := by decide +kernel
theorem d_Tr_tell_67 : decode prog_7_method_7_code 67 = .ok (.iload_n 1, 1) := by decide +kernel
theorem d_Tr_tell_68 : decode prog_7_method_7_code 68 = .ok (.iaload, 1) := by decide +kernel
theorem d_Tr_tell_69 : decode prog_7_method_7_code 69 = .ok (.ireturn, 1) := by decide +kernel
theorem d_Tr_tell_70 : decode prog_7_method_7_code 70 = .ok (.aload_n 0, 1) := by decide +kernel
theorem d_Tr_tell_71 : decode prog_7_method_7_code 71 = .ok (.getfield 18, 3) := by decide +kernel
theorem d_Tr_tell_74 : decode prog_7_method_7_code 74 = .ok (.iload_n 1, 1) := by decide +kernel
theorem d_Tr_tell_75 : decode prog_7_method_7_code 75 = .ok (.iaload, 1) := by decide +kernel
theorem d_Tr_tell_76 : decode prog_7_method_7_code 76 = .ok (.ireturn, 1) := by decide +kernel
set_option maxHeartbeats 4000000 in
set_option maxRecDepth 20000 in
theorem t_Tr_tell {g : GG} (G : Gok g) {σ : AH} {t : Nat} {T : TT} (ht : t < 4) (hW : Wf T) (hA : RtA σ t T) (hB : RtB σ t T) {v w : Nat} (hv : v < 2 * tN T - 1) (hw : w < 6) : TerI g 1 m_Tr_tell [rV (tI t), iV (nI v), iV (nI w)] σ (fun r τ => r = tellT T v w ∧ τ = σ) := by
  refine TerI.mk G (by decide +kernel) rfl (Nat.le_of_ble_eq_true rfl) (fun K B Rt => ?_)
  have B : Cx g K prog_7_method_7_code 3 R_Tr 1 := B
  have Rt : RetI g K prog_7_method_7_code 3 (fun r τ => r = tellT T v w ∧ τ = σ) := Rt
  show AW g K 3 0 [(0, rV (tI t)), (1, iV (nI v)), (2, iV (nI w))] [] σ
  have hA0 := hA
  obtain ⟨a12, a13, a3, a3t, a4, a5, a6, a8⟩ := hA
  obtain ⟨b0, b1, b7⟩ := hB
  obtain ⟨w1, w10, wj, wu, wl, wm, wt, wb, wh⟩ := id hW
  refine a_iload_n B d_Tr_tell_0 rfl rfl ?_
  rcases (by omega : w = 0 ∨ w = 1 ∨ w = 2 ∨ w = 3 ∨ w = 4 ∨ w = 5) with rfl | rfl | rfl | rfl | rfl | rfl
  · refine a_tableIn B 36 d_Tr_tell_1 (by decide +kernel) (by decide +kernel) (off := 35) (by decide +kernel) (by decide) ?_
    refine a_aload_n B d_Tr_tell_36 rfl rfl ?_
    refine a_iload_n B d_Tr_tell_37 rfl rfl ?_
    refine a_callVI (ci := 5) B (t_Tr_kindOf G ht hW hA0 hv) d_Tr_tell_38 ok_Tr_kindOf ml_Tr_63 (ly_T (by first | assumption | omega)) rfl rfl (by decide) (by decide) rfl (Nat.le_of_ble_eq_true rfl) (fun r_38 τ_38 h_38 => ?_)
    obtain ⟨hr_38, hs_38⟩ := h_38
    subst hr_38
    replace hs_38 := hs_38.symm
    subst hs_38
    exact Rt _ _ _ _ d_Tr_tell_41 ⟨rfl, rfl⟩
  · refine a_tableIn B 42 d_Tr_tell_1 (by decide +kernel) (by decide +kernel) (off := 41) (by decide +kernel) (by decide) ?_
    refine a_aload_n B d_Tr_tell_42 rfl rfl ?_
    refine gf_Tr_left B (by first | assumption | omega) d_Tr_tell_43 fl_Tr_9 ?_
    refine a_iload_n B d_Tr_tell_46 rfl rfl ?_
    refine a_iald B (ly_T_left (by first | assumption | omega)) _ rfl (by first | assumption | omega) d_Tr_tell_47 ?_
    exact Rt _ _ _ _ d_Tr_tell_48 ⟨by by_cases h : v < tN T; simp [tellT, h, (b0 v h).1]; simp [tellT, h, (b1 v (by omega) hv).1], rfl⟩
  · refine a_tableIn B 49 d_Tr_tell_1 (by decide +kernel) (by decide +kernel) (off := 48) (by decide +kernel) (by decide) ?_
    refine a_aload_n B d_Tr_tell_49 rfl rfl ?_
    refine gf_Tr_right B (by first | assumption | omega) d_Tr_tell_50 fl_Tr_15 ?_
    refine a_iload_n B d_Tr_tell_53 rfl rfl ?_
    refine a_iald B (ly_T_right (by first | assumption | omega)) _ rfl (by first | assumption | omega) d_Tr_tell_54 ?_
    exact Rt _ _ _ _ d_Tr_tell_55 ⟨by by_cases h : v < tN T; simp [tellT, h, (b0 v h).2]; simp [tellT, h, (b1 v (by omega) hv).2], rfl⟩
  · refine a_tableIn B 56 d_Tr_tell_1 (by decide +kernel) (by decide +kernel) (off := 55) (by decide +kernel) (by decide) ?_
    refine a_aload_n B d_Tr_tell_56 rfl rfl ?_
    refine gf_Tr_height B (by first | assumption | omega) d_Tr_tell_57 fl_Tr_21 ?_
    refine a_iload_n B d_Tr_tell_60 rfl rfl ?_
    refine a_iald B (ly_T_height (by first | assumption | omega)) _ rfl (by first | assumption | omega) d_Tr_tell_61 ?_
    exact Rt _ _ _ _ d_Tr_tell_62 ⟨by simp [tellT, a4 v hv], rfl⟩
  · refine a_tableIn B 63 d_Tr_tell_1 (by decide +kernel) (by decide +kernel) (off := 62) (by decide +kernel) (by decide) ?_
    refine a_aload_n B d_Tr_tell_63 rfl rfl ?_
    refine gf_Tr_size B (by first | assumption | omega) d_Tr_tell_64 fl_Tr_24 ?_
    refine a_iload_n B d_Tr_tell_67 rfl rfl ?_
    refine a_iald B (ly_T_size (by first | assumption | omega)) _ rfl (by first | assumption | omega) d_Tr_tell_68 ?_
    exact Rt _ _ _ _ d_Tr_tell_69 ⟨by simp [tellT, a5 v hv], rfl⟩
  · refine a_tableOut B 70 d_Tr_tell_1 (by decide +kernel) (by decide) ?_
    refine a_aload_n B d_Tr_tell_70 rfl rfl ?_
    refine gf_Tr_above B (by first | assumption | omega) d_Tr_tell_71 fl_Tr_18 ?_
    refine a_iload_n B d_Tr_tell_74 rfl rfl ?_
    refine a_iald B (ly_T_above (by first | assumption | omega)) _ rfl (by first | assumption | omega) d_Tr_tell_75 ?_
    exact Rt _ _ _ _ d_Tr_tell_76 ⟨by by_cases h : v < 2 * tN T - 2; simp [tellT, h, a3 v h]; simp [tellT, show v = 2 * tN T - 2 by omega, a3t], rfl⟩
theorem d_Tr_heldUpTo_0 : decode prog_7_method_12_code 0 = .ok (.iconst 0, 1) := by decide +kernel
theorem d_Tr_heldUpTo_1 : decode prog_7_method_12_code 1 = .ok (.istore_n 2, 1) := by decide +kernel
theorem d_Tr_heldUpTo_2 : decode prog_7_method_12_code 2 = .ok (.aload_n 0, 1) := by decide +kernel
theorem d_Tr_heldUpTo_3 : decode prog_7_method_12_code 3 = .ok (.getfield 50, 3) := by decide +kernel
theorem d_Tr_heldUpTo_6 : decode prog_7_method_12_code 6 = .ok (.istore_n 3, 1) := by decide +kernel
theorem d_Tr_heldUpTo_7 : decode prog_7_method_12_code 7 = .ok (.iload_n 3, 1) := by decide +kernel
theorem d_Tr_heldUpTo_8 : decode prog_7_method_12_code 8 = .ok (.iload_n 1, 1) := by decide +kernel
theorem d_Tr_heldUpTo_9 : decode prog_7_method_12_code 9 = .ok (.if_icmp .ge 21, 3) := by decide +kernel
theorem d_Tr_heldUpTo_12 : decode prog_7_method_12_code 12 = .ok (.aload_n 0, 1) := by decide +kernel
theorem d_Tr_heldUpTo_13 : decode prog_7_method_12_code 13 = .ok (.getfield 33, 3) := by decide +kernel
theorem d_Tr_heldUpTo_16 : decode prog_7_method_12_code 16 = .ok (.iload_n 3, 1) := by decide +kernel
theorem d_Tr_heldUpTo_17 : decode prog_7_method_12_code 17 = .ok (.baload, 1) := by decide +kernel
theorem d_Tr_heldUpTo_18 : decode prog_7_method_12_code 18 = .ok (.ifCond .eq 6, 3) := by decide +kernel
theorem d_Tr_heldUpTo_21 : decode prog_7_method_12_code 21 = .ok (.iinc 2 1, 3) := by decide +kernel
theorem d_Tr_heldUpTo_24 : decode prog_7_method_12_code 24 = .ok (.iinc 3 1, 3) := by decide +kernel
theorem d_Tr_heldUpTo_27 : decode prog_7_method_12_code 27 = .ok (.goto (-20), 3) := by decide +kernel
theorem d_Tr_heldUpTo_30 : decode prog_7_method_12_code 30 = .ok (.iload_n 2, 1) := by decide +kernel
theorem d_Tr_heldUpTo_31 : decode prog_7_method_12_code 31 = .ok (.ireturn, 1) := by decide +kernel
set_option maxHeartbeats 4000000 in
set_option maxRecDepth 20000 in
theorem t_Tr_heldUpTo {g : GG} (G : Gok g) {σ : AH} {t : Nat} {T : TT} (ht : t < 4) (hW : Wf T) (hA : RtA σ t T) {e : Nat} (h1 : tN T ≤ e) (h2 : e ≤ 2 * tN T - 1) : TerI g 0 m_Tr_heldUpTo [rV (tI t), iV (nI e)] σ (fun r τ => r = nI (heldT T e) ∧ τ = σ) := by
  refine TerI.mk G (by decide +kernel) rfl (Nat.le_of_ble_eq_true rfl) (fun K B Rt => ?_)
  have B : Cx g K prog_7_method_12_code 4 R_Tr 0 := B
  have Rt : RetI g K prog_7_method_12_code 4 (fun r τ => r = nI (heldT T e) ∧ τ = σ) := Rt
  show AW g K 4 0 [(0, rV (tI t)), (1, iV (nI e))] [] σ
  obtain ⟨a12, a13, a3, a3t, a4, a5, a6, a8⟩ := hA
  obtain ⟨w1, w10, wj, wu, wl, wm, wt, wb, wh⟩ := id hW
  refine a_iconst B d_Tr_heldUpTo_0 ci_0 ?_
  refine a_istore_n (lv1 := [(0, _), (1, _), (2, _)]) B d_Tr_heldUpTo_1 rfl (by decide) rfl ?_
  refine a_aload_n B d_Tr_heldUpTo_2 rfl rfl ?_
  refine gf_Tr_leafCount B (by first | assumption | omega) d_Tr_heldUpTo_3 fl_Tr_50 ?_
  rw [a12]
  refine a_istore_n (lv1 := [(0, _), (1, _), (2, _), (3, _)]) B d_Tr_heldUpTo_6 rfl (by decide) rfl ?_
  refine a_for (lf := fun i => [(0, rV (tI t)), (1, iV (nI e)), (2, iV (nI (cntB (fun k => tD T (tN T + k)) i))), (3, iV (nI (tN T + i)))]) (τ := fun i => σ) (e - tN T) (fun i hi ihi => ?_) ?_ 0 (Nat.zero_le _)
  · skip
    refine a_iload_n B d_Tr_heldUpTo_7 rfl rfl ?_
    refine a_iload_n B d_Tr_heldUpTo_8 rfl rfl ?_
    first | refine b_icmp_ge B 30 d_Tr_heldUpTo_9 rfl (by omega) (by omega) (fun c_9 => ?_) (fun c_9 => ?_) | refine a_icmp_ge B 30 d_Tr_heldUpTo_9 rfl (fun c_9 => ?_) (fun c_9 => ?_)
    · skip
      exact absurd c_9 (by omega)
    refine a_aload_n B d_Tr_heldUpTo_12 rfl rfl ?_
    refine gf_Tr_held B (by first | assumption | omega) d_Tr_heldUpTo_13 fl_Tr_33 ?_
    refine a_iload_n B d_Tr_heldUpTo_16 rfl rfl ?_
    refine a_zald B (ly_T_held (by first | assumption | omega)) _ rfl (by first | assumption | omega) d_Tr_heldUpTo_17 ?_
    rw [a8 _ (by omega)]
    first | refine b_if_eq_b B 24 d_Tr_heldUpTo_18 rfl (fun c_18 => ?_) (fun c_18 => ?_) | refine a_if_eq B 24 d_Tr_heldUpTo_18 rfl (fun c_18 => ?_) (fun c_18 => ?_)
    · skip
      first | refine b_iinc (lv1 := [(0, _), (1, _), (2, _), (3, _)]) B d_Tr_heldUpTo_24 rfl ci_1 (by decide) rfl ?_ | refine a_iinc (lv1 := [(0, _), (1, _), (2, _), (3, _)]) B d_Tr_heldUpTo_24 rfl rfl (by decide) rfl ?_
      refine a_goto B 7 d_Tr_heldUpTo_27 rfl ?_
      first | (have e : cntB (fun k => tD T (tN T + k)) (i + 1) = cntB (fun k => tD T (tN T + k)) i + 1 := by simp [cntB, c_18]) | (have e : cntB (fun k => tD T (tN T + k)) (i + 1) = cntB (fun k => tD T (tN T + k)) i := by simp [cntB, c_18])
      rw [e] at ihi
      exact ihi
    first | refine b_iinc (lv1 := [(0, _), (1, _), (2, _), (3, _)]) B d_Tr_heldUpTo_21 rfl ci_1 (by decide) rfl ?_ | refine a_iinc (lv1 := [(0, _), (1, _), (2, _), (3, _)]) B d_Tr_heldUpTo_21 rfl rfl (by decide) rfl ?_
    first | refine b_iinc (lv1 := [(0, _), (1, _), (2, _), (3, _)]) B d_Tr_heldUpTo_24 rfl ci_1 (by decide) rfl ?_ | refine a_iinc (lv1 := [(0, _), (1, _), (2, _), (3, _)]) B d_Tr_heldUpTo_24 rfl rfl (by decide) rfl ?_
    refine a_goto B 7 d_Tr_heldUpTo_27 rfl ?_
    first | (have e : cntB (fun k => tD T (tN T + k)) (i + 1) = cntB (fun k => tD T (tN T + k)) i + 1 := by simp [cntB, c_18]) | (have e : cntB (fun k => tD T (tN T + k)) (i + 1) = cntB (fun k => tD T (tN T + k)) i := by simp [cntB, c_18])
    rw [e] at ihi
    exact ihi
  · skip
    refine a_iload_n B d_Tr_heldUpTo_7 rfl rfl ?_
    refine a_iload_n B d_Tr_heldUpTo_8 rfl rfl ?_
    first | refine b_icmp_ge B 30 d_Tr_heldUpTo_9 rfl (by omega) (by omega) (fun c_9 => ?_) (fun c_9 => ?_) | refine a_icmp_ge B 30 d_Tr_heldUpTo_9 rfl (fun c_9 => ?_) (fun c_9 => ?_)
    · skip
      refine a_iload_n B d_Tr_heldUpTo_30 rfl rfl ?_
      exact Rt _ _ _ _ d_Tr_heldUpTo_31 ⟨rfl, rfl⟩
    exact absurd c_9 (by omega)
theorem nI_and (a b : Nat) : nI a &&& nI b = nI (a &&& b) := by
  apply Int32.toBitVec_inj.mp
  show BitVec.ofNat 32 a &&& BitVec.ofNat 32 b = BitVec.ofNat 32 (a &&& b)
  rw [BitVec.ofNat_and]
theorem nI_or (a b : Nat) : nI a ||| nI b = nI (a ||| b) := by
  apply Int32.toBitVec_inj.mp
  show BitVec.ofNat 32 a ||| BitVec.ofNat 32 b = BitVec.ofNat 32 (a ||| b)
  rw [BitVec.ofNat_or]
theorem nI_z {a : Nat} (ha : a < 2 ^ 31) (h : nI a = 0) : a = 0 := (nI_inj' ha (by decide)).mp (h.trans nI_0.symm)
theorem d_Tr_heldBelow_0 : decode prog_7_method_13_code 0 = .ok (.iconst 0, 1) := by decide +kernel
theorem d_Tr_heldBelow_1 : decode prog_7_method_13_code 1 = .ok (.istore_n 2, 1) := by decide +kernel
theorem d_Tr_heldBelow_2 : decode prog_7_method_13_code 2 = .ok (.aload_n 0, 1) := by decide +kernel
theorem d_Tr_heldBelow_3 : decode prog_7_method_13_code 3 = .ok (.getfield 50, 3) := by decide +kernel
theorem d_Tr_heldBelow_6 : decode prog_7_method_13_code 6 = .ok (.istore_n 3, 1) := by decide +kernel
theorem d_Tr_heldBelow_7 : decode prog_7_method_13_code 7 = .ok (.iload_n 3, 1) := by decide +kernel
theorem d_Tr_heldBelow_8 : decode prog_7_method_13_code 8 = .ok (.iload_n 1, 1) := by decide +kernel
theorem d_Tr_heldBelow_9 : decode prog_7_method_13_code 9 = .ok (.if_icmp .ge 37, 3) := by decide +kernel
theorem d_Tr_heldBelow_12 : decode prog_7_method_13_code 12 = .ok (.aload_n 0, 1) := by decide +kernel
theorem d_Tr_heldBelow_13 : decode prog_7_method_13_code 13 = .ok (.getfield 33, 3) := by decide +kernel
theorem d_Tr_heldBelow_16 : decode prog_7_method_13_code 16 = .ok (.iload_n 3, 1) := by decide +kernel
theorem d_Tr_heldBelow_17 : decode prog_7_method_13_code 17 = .ok (.baload, 1) := by decide +kernel
theorem d_Tr_heldBelow_18 : decode prog_7_method_13_code 18 = .ok (.ifCond .eq 22, 3) := by decide +kernel
theorem d_Tr_heldBelow_21 : decode prog_7_method_13_code 21 = .ok (.aload_n 0, 1) := by decide +kernel
theorem d_Tr_heldBelow_22 : decode prog_7_method_13_code 22 = .ok (.getfield 27, 3) := by decide +kernel
theorem d_Tr_heldBelow_25 : decode prog_7_method_13_code 25 = .ok (.iload_n 3, 1) := by decide +kernel
theorem d_Tr_heldBelow_26 : decode prog_7_method_13_code 26 = .ok (.iaload, 1) := by decide +kernel
theorem d_Tr_heldBelow_27 : decode prog_7_method_13_code 27 = .ok (.aload_n 0, 1) := by decide +kernel
theorem d_Tr_heldBelow_28 : decode prog_7_method_13_code 28 = .ok (.getfield 27, 3) := by decide +kernel
theorem d_Tr_heldBelow_31 : decode prog_7_method_13_code 31 = .ok (.iload_n 1, 1) := by decide +kernel
theorem d_Tr_heldBelow_32 : decode prog_7_method_13_code 32 = .ok (.iaload, 1) := by decide +kernel
theorem d_Tr_heldBelow_33 : decode prog_7_method_13_code 33 = .ok (.iand, 1) := by decide +kernel
theorem d_Tr_heldBelow_34 : decode prog_7_method_13_code 34 = .ok (.ifCond .eq 6, 3) := by decide +kernel
theorem d_Tr_heldBelow_37 : decode prog_7_method_13_code 37 = .ok (.iinc 2 1, 3) := by decide +kernel
theorem d_Tr_heldBelow_40 : decode prog_7_method_13_code 40 = .ok (.iinc 3 1, 3) := by decide +kernel
theorem d_Tr_heldBelow_43 : decode prog_7_method_13_code 43 = .ok (.goto (-36), 3) := by decide +kernel
theorem d_Tr_heldBelow_46 : decode prog_7_method_13_code 46 = .ok (.iload_n 2, 1) := by decide +kernel
theorem d_Tr_heldBelow_47 : decode prog_7_method_13_code 47 = .ok (.ireturn, 1) := by decide +kernel
set_option maxHeartbeats 4000000 in
set_option maxRecDepth 20000 in
theorem t_Tr_heldBelow {g : GG} (G : Gok g) {σ : AH} {t : Nat} {T : TT} (ht : t < 4) (hW : Wf T) (hA : RtA σ t T) {e : Nat} (h1 : tN T ≤ e) (h2 : e < 2 * tN T - 1) : TerI g 0 m_Tr_heldBelow [rV (tI t), iV (nI e)] σ (fun r τ => r = nI (belowT T e) ∧ τ = σ) := by
  refine TerI.mk G (by decide +kernel) rfl (Nat.le_of_ble_eq_true rfl) (fun K B Rt => ?_)
  have B : Cx g K prog_7_method_13_code 4 R_Tr 0 := B
  have Rt : RetI g K prog_7_method_13_code 4 (fun r τ => r = nI (belowT T e) ∧ τ = σ) := Rt
  show AW g K 4 0 [(0, rV (tI t)), (1, iV (nI e))] [] σ
  obtain ⟨a12, a13, a3, a3t, a4, a5, a6, a8⟩ := hA
  obtain ⟨w1, w10, wj, wu, wl, wm, wt, wb, wh⟩ := id hW
  refine a_iconst B d_Tr_heldBelow_0 ci_0 ?_
  refine a_istore_n (lv1 := [(0, _), (1, _), (2, _)]) B d_Tr_heldBelow_1 rfl (by decide) rfl ?_
  refine a_aload_n B d_Tr_heldBelow_2 rfl rfl ?_
  refine gf_Tr_leafCount B (by first | assumption | omega) d_Tr_heldBelow_3 fl_Tr_50 ?_
  rw [a12]
  refine a_istore_n (lv1 := [(0, _), (1, _), (2, _), (3, _)]) B d_Tr_heldBelow_6 rfl (by decide) rfl ?_
  refine a_for (lf := fun i => [(0, rV (tI t)), (1, iV (nI e)), (2, iV (nI (cntB (fun k => tD T (tN T + k) && decide (tM T (tN T + k) &&& tM T e ≠ 0)) i))), (3, iV (nI (tN T + i)))]) (τ := fun i => σ) (e - tN T) (fun i hi ihi => ?_) ?_ 0 (Nat.zero_le _)
  · skip
    refine a_iload_n B d_Tr_heldBelow_7 rfl rfl ?_
    refine a_iload_n B d_Tr_heldBelow_8 rfl rfl ?_
    first | refine b_icmp_ge B 46 d_Tr_heldBelow_9 rfl (by omega) (by omega) (fun c_9 => ?_) (fun c_9 => ?_) | refine a_icmp_ge B 46 d_Tr_heldBelow_9 rfl (fun c_9 => ?_) (fun c_9 => ?_)
    · skip
      exact absurd c_9 (by omega)
    refine a_aload_n B d_Tr_heldBelow_12 rfl rfl ?_
    refine gf_Tr_held B (by first | assumption | omega) d_Tr_heldBelow_13 fl_Tr_33 ?_
    refine a_iload_n B d_Tr_heldBelow_16 rfl rfl ?_
    refine a_zald B (ly_T_held (by first | assumption | omega)) _ rfl (by first | assumption | omega) d_Tr_heldBelow_17 ?_
    rw [a8 _ (by omega)]
    first | refine b_if_eq_b B 40 d_Tr_heldBelow_18 rfl (fun c_18 => ?_) (fun c_18 => ?_) | refine a_if_eq B 40 d_Tr_heldBelow_18 rfl (fun c_18 => ?_) (fun c_18 => ?_)
    · skip
      first | refine b_iinc (lv1 := [(0, _), (1, _), (2, _), (3, _)]) B d_Tr_heldBelow_40 rfl ci_1 (by decide) rfl ?_ | refine a_iinc (lv1 := [(0, _), (1, _), (2, _), (3, _)]) B d_Tr_heldBelow_40 rfl rfl (by decide) rfl ?_
      refine a_goto B 7 d_Tr_heldBelow_43 rfl ?_
      first | (have e : cntB (fun k => tD T (tN T + k) && decide (tM T (tN T + k) &&& tM T e ≠ 0)) (i + 1) = cntB (fun k => tD T (tN T + k) && decide (tM T (tN T + k) &&& tM T e ≠ 0)) i + 1 := by simp [cntB, c_18]) | (have e : cntB (fun k => tD T (tN T + k) && decide (tM T (tN T + k) &&& tM T e ≠ 0)) (i + 1) = cntB (fun k => tD T (tN T + k) && decide (tM T (tN T + k) &&& tM T e ≠ 0)) i + 1 := by simp [cntB, c_18, c_34]) | (have e : cntB (fun k => tD T (tN T + k) && decide (tM T (tN T + k) &&& tM T e ≠ 0)) (i + 1) = cntB (fun k => tD T (tN T + k) && decide (tM T (tN T + k) &&& tM T e ≠ 0)) i := by simp [cntB, c_18]) | (have e : cntB (fun k => tD T (tN T + k) && decide (tM T (tN T + k) &&& tM T e ≠ 0)) (i + 1) = cntB (fun k => tD T (tN T + k) && decide (tM T (tN T + k) &&& tM T e ≠ 0)) i := by simp [cntB, c_18, c_34])
      rw [e] at ihi
      exact ihi
    refine a_aload_n B d_Tr_heldBelow_21 rfl rfl ?_
    refine gf_Tr_leafSet B (by first | assumption | omega) d_Tr_heldBelow_22 fl_Tr_27 ?_
    refine a_iload_n B d_Tr_heldBelow_25 rfl rfl ?_
    refine a_iald B (ly_T_leafSet (by first | assumption | omega)) _ rfl (by first | assumption | omega) d_Tr_heldBelow_26 ?_
    rw [a6 _ (by omega)]
    refine a_aload_n B d_Tr_heldBelow_27 rfl rfl ?_
    refine gf_Tr_leafSet B (by first | assumption | omega) d_Tr_heldBelow_28 fl_Tr_27 ?_
    refine a_iload_n B d_Tr_heldBelow_31 rfl rfl ?_
    refine a_iald B (ly_T_leafSet (by first | assumption | omega)) _ rfl (by first | assumption | omega) d_Tr_heldBelow_32 ?_
    rw [a6 _ (by omega)]
    refine a_iand B d_Tr_heldBelow_33 ?_
    rw [nI_and]
    first | refine b_if_eq_b B 40 d_Tr_heldBelow_34 rfl (fun c_34 => ?_) (fun c_34 => ?_) | refine a_if_eq B 40 d_Tr_heldBelow_34 rfl (fun c_34 => ?_) (fun c_34 => ?_)
    · skip
      have c_34 : tM T (tN T + i) &&& tM T e = 0 := nI_z (Nat.lt_of_le_of_lt Nat.and_le_right (by have := wb e (by omega); omega)) c_34
      first | refine b_iinc (lv1 := [(0, _), (1, _), (2, _), (3, _)]) B d_Tr_heldBelow_40 rfl ci_1 (by decide) rfl ?_ | refine a_iinc (lv1 := [(0, _), (1, _), (2, _), (3, _)]) B d_Tr_heldBelow_40 rfl rfl (by decide) rfl ?_
      refine a_goto B 7 d_Tr_heldBelow_43 rfl ?_
      first | (have e : cntB (fun k => tD T (tN T + k) && decide (tM T (tN T + k) &&& tM T e ≠ 0)) (i + 1) = cntB (fun k => tD T (tN T + k) && decide (tM T (tN T + k) &&& tM T e ≠ 0)) i + 1 := by simp [cntB, c_18]) | (have e : cntB (fun k => tD T (tN T + k) && decide (tM T (tN T + k) &&& tM T e ≠ 0)) (i + 1) = cntB (fun k => tD T (tN T + k) && decide (tM T (tN T + k) &&& tM T e ≠ 0)) i + 1 := by simp [cntB, c_18, c_34]) | (have e : cntB (fun k => tD T (tN T + k) && decide (tM T (tN T + k) &&& tM T e ≠ 0)) (i + 1) = cntB (fun k => tD T (tN T + k) && decide (tM T (tN T + k) &&& tM T e ≠ 0)) i := by simp [cntB, c_18]) | (have e : cntB (fun k => tD T (tN T + k) && decide (tM T (tN T + k) &&& tM T e ≠ 0)) (i + 1) = cntB (fun k => tD T (tN T + k) && decide (tM T (tN T + k) &&& tM T e ≠ 0)) i := by simp [cntB, c_18, c_34])
      rw [e] at ihi
      exact ihi
    have c_34 : ¬ tM T (tN T + i) &&& tM T e = 0 := fun q => c_34 (by rw [q]; exact nI_0)
    first | refine b_iinc (lv1 := [(0, _), (1, _), (2, _), (3, _)]) B d_Tr_heldBelow_37 rfl ci_1 (by decide) rfl ?_ | refine a_iinc (lv1 := [(0, _), (1, _), (2, _), (3, _)]) B d_Tr_heldBelow_37 rfl rfl (by decide) rfl ?_
    first | refine b_iinc (lv1 := [(0, _), (1, _), (2, _), (3, _)]) B d_Tr_heldBelow_40 rfl ci_1 (by decide) rfl ?_ | refine a_iinc (lv1 := [(0, _), (1, _), (2, _), (3, _)]) B d_Tr_heldBelow_40 rfl rfl (by decide) rfl ?_
    refine a_goto B 7 d_Tr_heldBelow_43 rfl ?_
    first | (have e : cntB (fun k => tD T (tN T + k) && decide (tM T (tN T + k) &&& tM T e ≠ 0)) (i + 1) = cntB (fun k => tD T (tN T + k) && decide (tM T (tN T + k) &&& tM T e ≠ 0)) i + 1 := by simp [cntB, c_18]) | (have e : cntB (fun k => tD T (tN T + k) && decide (tM T (tN T + k) &&& tM T e ≠ 0)) (i + 1) = cntB (fun k => tD T (tN T + k) && decide (tM T (tN T + k) &&& tM T e ≠ 0)) i + 1 := by simp [cntB, c_18, c_34]) | (have e : cntB (fun k => tD T (tN T + k) && decide (tM T (tN T + k) &&& tM T e ≠ 0)) (i + 1) = cntB (fun k => tD T (tN T + k) && decide (tM T (tN T + k) &&& tM T e ≠ 0)) i := by simp [cntB, c_18]) | (have e : cntB (fun k => tD T (tN T + k) && decide (tM T (tN T + k) &&& tM T e ≠ 0)) (i + 1) = cntB (fun k => tD T (tN T + k) && decide (tM T (tN T + k) &&& tM T e ≠ 0)) i := by simp [cntB, c_18, c_34])
    rw [e] at ihi
    exact ihi
  · skip
    refine a_iload_n B d_Tr_heldBelow_7 rfl rfl ?_
    refine a_iload_n B d_Tr_heldBelow_8 rfl rfl ?_
    first | refine b_icmp_ge B 46 d_Tr_heldBelow_9 rfl (by omega) (by omega) (fun c_9 => ?_) (fun c_9 => ?_) | refine a_icmp_ge B 46 d_Tr_heldBelow_9 rfl (fun c_9 => ?_) (fun c_9 => ?_)
    · skip
      refine a_iload_n B d_Tr_heldBelow_46 rfl rfl ?_
      exact Rt _ _ _ _ d_Tr_heldBelow_47 ⟨rfl, rfl⟩
    exact absurd c_9 (by omega)
theorem d_Tr_mayTurn_0 : decode prog_7_method_11_code 0 = .ok (.aload_n 0, 1) := by decide +kernel
theorem d_Tr_mayTurn_1 : decode prog_7_method_11_code 1 = .ok (.getfield 50, 3) := by decide +kernel
theorem d_Tr_mayTurn_4 : decode prog_7_method_11_code 4 = .ok (.istore_n 2, 1) := by decide +kernel
theorem d_Tr_mayTurn_5 : decode prog_7_method_11_code 5 = .ok (.iload_n 2, 1) := by decide +kernel
theorem d_Tr_mayTurn_6 : decode prog_7_method_11_code 6 = .ok (.aload_n 0, 1) := by decide +kernel
theorem d_Tr_mayTurn_7 : decode prog_7_method_11_code 7 = .ok (.getfield 54, 3) := by decide +kernel
theorem d_Tr_mayTurn_10 : decode prog_7_method_11_code 10 = .ok (.if_icmp .ge 34, 3) := by decide +kernel
theorem d_Tr_mayTurn_13 : decode prog_7_method_11_code 13 = .ok (.aload_n 0, 1) := by decide +kernel
theorem d_Tr_mayTurn_14 : decode prog_7_method_11_code 14 = .ok (.getfield 33, 3) := by decide +kernel
theorem d_Tr_mayTurn_17 : decode prog_7_method_11_code 17 = .ok (.iload_n 2, 1) := by decide +kernel
theorem d_Tr_mayTurn_18 : decode prog_7_method_11_code 18 = .ok (.baload, 1) := by decide +kernel
theorem d_Tr_mayTurn_19 : decode prog_7_method_11_code 19 = .ok (.ifCond .eq 19, 3) := by decide +kernel
theorem d_Tr_mayTurn_22 : decode prog_7_method_11_code 22 = .ok (.iload_n 1, 1) := by decide +kernel
theorem d_Tr_mayTurn_23 : decode prog_7_method_11_code 23 = .ok (.iload_n 2, 1) := by decide +kernel
theorem d_Tr_mayTurn_24 : decode prog_7_method_11_code 24 = .ok (.aload_n 0, 1) := by decide +kernel
theorem d_Tr_mayTurn_25 : decode prog_7_method_11_code 25 = .ok (.getfield 50, 3) := by decide +kernel
theorem d_Tr_mayTurn_28 : decode prog_7_method_11_code 28 = .ok (.isub, 1) := by decide +kernel
theorem d_Tr_mayTurn_29 : decode prog_7_method_11_code 29 = .ok (.ishr, 1) := by decide +kernel
theorem d_Tr_mayTurn_30 : decode prog_7_method_11_code 30 = .ok (.iconst 1, 1) := by decide +kernel
theorem d_Tr_mayTurn_31 : decode prog_7_method_11_code 31 = .ok (.iand, 1) := by decide +kernel
theorem d_Tr_mayTurn_32 : decode prog_7_method_11_code 32 = .ok (.iconst 1, 1) := by decide +kernel
theorem d_Tr_mayTurn_33 : decode prog_7_method_11_code 33 = .ok (.if_icmp .ne 5, 3) := by decide +kernel
theorem d_Tr_mayTurn_36 : decode prog_7_method_11_code 36 = .ok (.iconst 0, 1) := by decide +kernel
theorem d_Tr_mayTurn_37 : decode prog_7_method_11_code 37 = .ok (.ireturn, 1) := by decide +kernel
theorem d_Tr_mayTurn_38 : decode prog_7_method_11_code 38 = .ok (.iinc 2 1, 3) := by decide +kernel
theorem d_Tr_mayTurn_41 : decode prog_7_method_11_code 41 = .ok (.goto (-36), 3) := by decide +kernel
theorem d_Tr_mayTurn_44 : decode prog_7_method_11_code 44 = .ok (.iconst 1, 1) := by decide +kernel
theorem d_Tr_mayTurn_45 : decode prog_7_method_11_code 45 = .ok (.ireturn, 1) := by decide +kernel
set_option maxHeartbeats 4000000 in
set_option maxRecDepth 20000 in
theorem t_Tr_mayTurn {g : GG} (G : Gok g) {σ : AH} {t : Nat} {T : TT} (ht : t < 4) (hW : Wf T) (hA : RtA σ t T) {s : Nat} (hs : s < 1024) : TerI g 0 m_Tr_mayTurn [rV (tI t), iV (nI s)] σ (fun r τ => r = bI (mayT T s) ∧ τ = σ) := by
  refine TerI.mkZ G (by decide +kernel) rfl (Nat.le_of_ble_eq_true rfl) (fun K B Rt => ?_)
  have B : Cx g K prog_7_method_11_code 3 R_Tr 0 := B
  have Rt : RetZ g K prog_7_method_11_code 3 (fun r τ => r = bI (mayT T s) ∧ τ = σ) := Rt
  show AW g K 3 0 [(0, rV (tI t)), (1, iV (nI s))] [] σ
  obtain ⟨a12, a13, a3, a3t, a4, a5, a6, a8⟩ := hA
  obtain ⟨w1, w10, wj, wu, wl, wm, wt, wb, wh⟩ := id hW
  refine a_aload_n B d_Tr_mayTurn_0 rfl rfl ?_
  refine gf_Tr_leafCount B (by first | assumption | omega) d_Tr_mayTurn_1 fl_Tr_50 ?_
  rw [a12]
  refine a_istore_n (lv1 := [(0, _), (1, _), (2, _)]) B d_Tr_mayTurn_4 rfl (by decide) rfl ?_
  refine a_forR (tN T - 1) (fun i lv τ => lv = [(0, rV (tI t)), (1, iV (nI s)), (2, iV (nI (tN T + i)))] ∧ τ = σ ∧ ∀ k, k < i → ¬ (tD T (tN T + k) = true ∧ s.testBit k = true)) (fun i lv τ hi hI ihi => ?_) (fun lv τ hI => ?_) 0 (Nat.zero_le _) _ _ ⟨rfl, rfl, fun k hk => absurd hk (Nat.not_lt_zero k)⟩
  · skip
    obtain ⟨rfl, rfl, hJ⟩ := hI
    refine a_iload_n B d_Tr_mayTurn_5 rfl rfl ?_
    refine a_aload_n B d_Tr_mayTurn_6 rfl rfl ?_
    refine gf_Tr_nodeCount B (by first | assumption | omega) d_Tr_mayTurn_7 fl_Tr_54 ?_
    rw [a13]
    first | refine b_icmp_ge B 44 d_Tr_mayTurn_10 rfl (by omega) (by omega) (fun c_10 => ?_) (fun c_10 => ?_) | refine a_icmp_ge B 44 d_Tr_mayTurn_10 rfl (fun c_10 => ?_) (fun c_10 => ?_)
    · skip
      exact absurd c_10 (by omega)
    refine a_aload_n B d_Tr_mayTurn_13 rfl rfl ?_
    refine gf_Tr_held B (by first | assumption | omega) d_Tr_mayTurn_14 fl_Tr_33 ?_
    refine a_iload_n B d_Tr_mayTurn_17 rfl rfl ?_
    refine a_zald B (ly_T_held (by first | assumption | omega)) _ rfl (by first | assumption | omega) d_Tr_mayTurn_18 ?_
    rw [a8 _ (by omega)]
    first | refine b_if_eq_b B 38 d_Tr_mayTurn_19 rfl (fun c_19 => ?_) (fun c_19 => ?_) | refine a_if_eq B 38 d_Tr_mayTurn_19 rfl (fun c_19 => ?_) (fun c_19 => ?_)
    · skip
      first | refine b_iinc (lv1 := [(0, _), (1, _), (2, _)]) B d_Tr_mayTurn_38 rfl ci_1 (by decide) rfl ?_ | refine a_iinc (lv1 := [(0, _), (1, _), (2, _)]) B d_Tr_mayTurn_38 rfl rfl (by decide) rfl ?_
      refine a_goto B 5 d_Tr_mayTurn_41 rfl ?_
      refine ihi _ _ ⟨rfl, rfl, fun k hk => ?_⟩
      by_cases e : k = i
      · subst e; rintro ⟨q1, q2⟩; first | (rw [q1] at c_19; exact absurd c_19 (by decide)) | (have c9 := tb_0 c_33; rw [show tN T + k - tN T = k by omega, q2] at c9; cases c9)
      · exact hJ k (by omega)
    refine a_iload_n B d_Tr_mayTurn_22 rfl rfl ?_
    refine a_iload_n B d_Tr_mayTurn_23 rfl rfl ?_
    refine a_aload_n B d_Tr_mayTurn_24 rfl rfl ?_
    refine gf_Tr_leafCount B (by first | assumption | omega) d_Tr_mayTurn_25 fl_Tr_50 ?_
    rw [a12]
    first | refine b_isub B (by omega) d_Tr_mayTurn_28 ?_ | refine a_isub B d_Tr_mayTurn_28 ?_
    refine a_ishr B d_Tr_mayTurn_29 ?_
    refine a_iconst B d_Tr_mayTurn_30 ci_1 ?_
    refine a_iand B d_Tr_mayTurn_31 ?_
    rw [bit_atN hs (by omega)]
    refine a_iconst B d_Tr_mayTurn_32 ci_1 ?_
    first | refine b_icmp_ne B 38 d_Tr_mayTurn_33 rfl (by omega) (by omega) (fun c_33 => ?_) (fun c_33 => ?_) | refine a_icmp_ne B 38 d_Tr_mayTurn_33 rfl (fun c_33 => ?_) (fun c_33 => ?_)
    · skip
      first | refine b_iinc (lv1 := [(0, _), (1, _), (2, _)]) B d_Tr_mayTurn_38 rfl ci_1 (by decide) rfl ?_ | refine a_iinc (lv1 := [(0, _), (1, _), (2, _)]) B d_Tr_mayTurn_38 rfl rfl (by decide) rfl ?_
      refine a_goto B 5 d_Tr_mayTurn_41 rfl ?_
      refine ihi _ _ ⟨rfl, rfl, fun k hk => ?_⟩
      by_cases e : k = i
      · subst e; rintro ⟨q1, q2⟩; first | (rw [q1] at c_19; exact absurd c_19 (by decide)) | (have c9 := tb_0 c_33; rw [show tN T + k - tN T = k by omega, q2] at c9; cases c9)
      · exact hJ k (by omega)
    refine a_iconst B d_Tr_mayTurn_36 ci_0 ?_
    exact Rt _ _ _ _ d_Tr_mayTurn_37 (by first | exact Or.inl rfl | exact Or.inr rfl) ⟨bI_f (decide_eq_false (fun q => q i hi ⟨c_19, by have c9 := tb_1 c_33; rw [show tN T + i - tN T = i by omega] at c9; exact c9⟩)), rfl⟩
  · skip
    obtain ⟨rfl, rfl, hJ⟩ := hI
    refine a_iload_n B d_Tr_mayTurn_5 rfl rfl ?_
    refine a_aload_n B d_Tr_mayTurn_6 rfl rfl ?_
    refine gf_Tr_nodeCount B (by first | assumption | omega) d_Tr_mayTurn_7 fl_Tr_54 ?_
    rw [a13]
    first | refine b_icmp_ge B 44 d_Tr_mayTurn_10 rfl (by omega) (by omega) (fun c_10 => ?_) (fun c_10 => ?_) | refine a_icmp_ge B 44 d_Tr_mayTurn_10 rfl (fun c_10 => ?_) (fun c_10 => ?_)
    · skip
      refine a_iconst B d_Tr_mayTurn_44 ci_1 ?_
      exact Rt _ _ _ _ d_Tr_mayTurn_45 (by first | exact Or.inl rfl | exact Or.inr rfl) ⟨bI_t (decide_eq_true hJ), rfl⟩
    exact absurd c_10 (by omega)
theorem d_Tr_pairsAhead_0 : decode prog_7_method_15_code 0 = .ok (.iconst 0, 1) := by decide +kernel
theorem d_Tr_pairsAhead_1 : decode prog_7_method_15_code 1 = .ok (.istore 4, 2) := by decide +kernel
theorem d_Tr_pairsAhead_3 : decode prog_7_method_15_code 3 = .ok (.iconst 0, 1) := by decide +kernel
theorem d_Tr_pairsAhead_4 : decode prog_7_method_15_code 4 = .ok (.istore 5, 2) := by decide +kernel
theorem d_Tr_pairsAhead_6 : decode prog_7_method_15_code 6 = .ok (.iload 5, 2) := by decide +kernel
theorem d_Tr_pairsAhead_8 : decode prog_7_method_15_code 8 = .ok (.aload_n 0, 1) := by decide +kernel
theorem d_Tr_pairsAhead_9 : decode prog_7_method_15_code 9 = .ok (.getfield 50, 3) := by decide +kernel
theorem d_Tr_pairsAhead_12 : decode prog_7_method_15_code 12 = .ok (.if_icmp .ge 71, 3) := by decide +kernel
theorem d_Tr_pairsAhead_15 : decode prog_7_method_15_code 15 = .ok (.aload_n 0, 1) := by decide +kernel
theorem d_Tr_pairsAhead_16 : decode prog_7_method_15_code 16 = .ok (.iload_n 1, 1) := by decide +kernel
theorem d_Tr_pairsAhead_17 : decode prog_7_method_15_code 17 = .ok (.iload 5, 2) := by decide +kernel
theorem d_Tr_pairsAhead_19 : decode prog_7_method_15_code 19 = .ok (.invokevirtual 77, 3) := by decide +kernel
theorem d_Tr_pairsAhead_22 : decode prog_7_method_15_code 22 = .ok (.ifCond .eq 55, 3) := by decide +kernel
theorem d_Tr_pairsAhead_25 : decode prog_7_method_15_code 25 = .ok (.aload_n 3, 1) := by decide +kernel
theorem d_Tr_pairsAhead_26 : decode prog_7_method_15_code 26 = .ok (.iload 5, 2) := by decide +kernel
theorem d_Tr_pairsAhead_28 : decode prog_7_method_15_code 28 = .ok (.iaload, 1) := by decide +kernel
theorem d_Tr_pairsAhead_29 : decode prog_7_method_15_code 29 = .ok (.ifCond .ge 6, 3) := by decide +kernel
theorem d_Tr_pairsAhead_32 : decode prog_7_method_15_code 32 = .ok (.goto 45, 3) := by decide +kernel
theorem d_Tr_pairsAhead_35 : decode prog_7_method_15_code 35 = .ok (.iconst 0, 1) := by decide +kernel
theorem d_Tr_pairsAhead_36 : decode prog_7_method_15_code 36 = .ok (.istore 6, 2) := by decide +kernel
theorem d_Tr_pairsAhead_38 : decode prog_7_method_15_code 38 = .ok (.iload 6, 2) := by decide +kernel
theorem d_Tr_pairsAhead_40 : decode prog_7_method_15_code 40 = .ok (.aload_n 0, 1) := by decide +kernel
theorem d_Tr_pairsAhead_41 : decode prog_7_method_15_code 41 = .ok (.getfield 50, 3) := by decide +kernel
theorem d_Tr_pairsAhead_44 : decode prog_7_method_15_code 44 = .ok (.if_icmp .ge 33, 3) := by decide +kernel
theorem d_Tr_pairsAhead_47 : decode prog_7_method_15_code 47 = .ok (.aload_n 0, 1) := by decide +kernel
theorem d_Tr_pairsAhead_48 : decode prog_7_method_15_code 48 = .ok (.iload_n 2, 1) := by decide +kernel
theorem d_Tr_pairsAhead_49 : decode prog_7_method_15_code 49 = .ok (.iload 6, 2) := by decide +kernel
theorem d_Tr_pairsAhead_51 : decode prog_7_method_15_code 51 = .ok (.invokevirtual 77, 3) := by decide +kernel
theorem d_Tr_pairsAhead_54 : decode prog_7_method_15_code 54 = .ok (.ifCond .eq 17, 3) := by decide +kernel
theorem d_Tr_pairsAhead_57 : decode prog_7_method_15_code 57 = .ok (.aload_n 3, 1) := by decide +kernel
theorem d_Tr_pairsAhead_58 : decode prog_7_method_15_code 58 = .ok (.iload 5, 2) := by decide +kernel
theorem d_Tr_pairsAhead_60 : decode prog_7_method_15_code 60 = .ok (.iaload, 1) := by decide +kernel
theorem d_Tr_pairsAhead_61 : decode prog_7_method_15_code 61 = .ok (.aload_n 3, 1) := by decide +kernel
theorem d_Tr_pairsAhead_62 : decode prog_7_method_15_code 62 = .ok (.iload 6, 2) := by decide +kernel
theorem d_Tr_pairsAhead_64 : decode prog_7_method_15_code 64 = .ok (.iaload, 1) := by decide +kernel
theorem d_Tr_pairsAhead_65 : decode prog_7_method_15_code 65 = .ok (.if_icmp .ge 6, 3) := by decide +kernel
theorem d_Tr_pairsAhead_68 : decode prog_7_method_15_code 68 = .ok (.iinc 4 1, 3) := by decide +kernel
theorem d_Tr_pairsAhead_71 : decode prog_7_method_15_code 71 = .ok (.iinc 6 1, 3) := by decide +kernel
theorem d_Tr_pairsAhead_74 : decode prog_7_method_15_code 74 = .ok (.goto (-36), 3) := by decide +kernel
theorem d_Tr_pairsAhead_77 : decode prog_7_method_15_code 77 = .ok (.iinc 5 1, 3) := by decide +kernel
theorem d_Tr_pairsAhead_80 : decode prog_7_method_15_code 80 = .ok (.goto (-74), 3) := by decide +kernel
theorem d_Tr_pairsAhead_83 : decode prog_7_method_15_code 83 = .ok (.iload 4, 2) := by decide +kernel
theorem d_Tr_pairsAhead_85 : decode prog_7_method_15_code 85 = .ok (.ireturn, 1) := by decide +kernel
set_option maxHeartbeats 4000000 in
set_option maxRecDepth 20000 in
theorem t_Tr_pairsAhead {g : GG} (G : Gok g) {σ : AH} {t : Nat} {T : TT} (ht : t < 4) (hW : Wf T) (hA : RtA σ t T) {v w k len : Nat} {rs : List (Option Nat)} (hk : layT[k]? = some (0, len, rs)) (hlen : 10 ≤ len) (hv : v < 2 * tN T - 1) (hw : w < 2 * tN T - 1) : TerI g 1 m_Tr_pairsAhead [rV (tI t), iV (nI v), iV (nI w), rV k] σ (fun r τ => r = nI (pa (tM T v) (tM T w) (σ.1 k)) ∧ τ = σ) := by
  refine TerI.mk G (by decide +kernel) rfl (Nat.le_of_ble_eq_true rfl) (fun K B Rt => ?_)
  have B : Cx g K prog_7_method_15_code 7 R_Tr 1 := B
  have Rt : RetI g K prog_7_method_15_code 7 (fun r τ => r = nI (pa (tM T v) (tM T w) (σ.1 k)) ∧ τ = σ) := Rt
  show AW g K 7 0 [(0, rV (tI t)), (1, iV (nI v)), (2, iV (nI w)), (3, rV k)] [] σ
  have hA0 := hA
  obtain ⟨a12, a13, a3, a3t, a4, a5, a6, a8⟩ := hA
  obtain ⟨w1, w10, wj, wu, wl, wm, wt, wb, wh⟩ := id hW
  refine a_iconst B d_Tr_pairsAhead_0 ci_0 ?_
  refine a_istore (lv1 := [(0, _), (1, _), (2, _), (3, _), (4, _)]) B d_Tr_pairsAhead_1 (by decide) rfl ?_
  refine a_iconst B d_Tr_pairsAhead_3 ci_0 ?_
  refine a_istore (lv1 := [(0, _), (1, _), (2, _), (3, _), (4, _), (5, _)]) B d_Tr_pairsAhead_4 (by decide) rfl ?_
  refine a_for (lf := fun i => [(0, rV (tI t)), (1, iV (nI v)), (2, iV (nI w)), (3, rV k), (4, iV (nI (sumTo (fun x => sumTo (paG (tM T v) (tM T w) (σ.1 k) x) (tN T)) i))), (5, iV (nI i))]) (τ := fun i => σ) (tN T) (fun i hi ihi => ?_) ?_ 0 (Nat.zero_le _)
  · skip
    refine a_iload B d_Tr_pairsAhead_6 rfl ?_
    refine a_aload_n B d_Tr_pairsAhead_8 rfl rfl ?_
    refine gf_Tr_leafCount B (by first | assumption | omega) d_Tr_pairsAhead_9 fl_Tr_50 ?_
    rw [a12]
    first | refine b_icmp_ge B 83 d_Tr_pairsAhead_12 rfl (by omega) (by omega) (fun c_12 => ?_) (fun c_12 => ?_) | refine a_icmp_ge B 83 d_Tr_pairsAhead_12 rfl (fun c_12 => ?_) (fun c_12 => ?_)
    · skip
      exact absurd c_12 (by omega)
    refine a_aload_n B d_Tr_pairsAhead_15 rfl rfl ?_
    refine a_iload_n B d_Tr_pairsAhead_16 rfl rfl ?_
    refine a_iload B d_Tr_pairsAhead_17 rfl ?_
    refine a_callVI (ci := 5) B (t_Tr_holdsLeaf G ht hW hA0 hv (by omega)) d_Tr_pairsAhead_19 ok_Tr_holdsLeaf ml_Tr_77 (ly_T (by first | assumption | omega)) rfl rfl (by decide) (by decide) rfl (Nat.le_of_ble_eq_true rfl) (fun r_19 τ_19 h_19 => ?_)
    obtain ⟨hr_19, hs_19⟩ := h_19
    subst hr_19
    replace hs_19 := hs_19.symm
    subst hs_19
    first | refine b_if_eq_b B 77 d_Tr_pairsAhead_22 rfl (fun c_22 => ?_) (fun c_22 => ?_) | refine a_if_eq B 77 d_Tr_pairsAhead_22 rfl (fun c_22 => ?_) (fun c_22 => ?_)
    · skip
      first | refine b_iinc (lv1 := [(0, _), (1, _), (2, _), (3, _), (4, _), (5, _)]) B d_Tr_pairsAhead_77 rfl ci_1 (by decide) rfl ?_ | refine a_iinc (lv1 := [(0, _), (1, _), (2, _), (3, _), (4, _), (5, _)]) B d_Tr_pairsAhead_77 rfl rfl (by decide) rfl ?_
      refine a_goto B 6 d_Tr_pairsAhead_80 rfl ?_
      first | (have e : sumTo (paG (tM T v) (tM T w) (σ.1 k) i) (tN T) = 0 := sumTo_zero (fun y _ => paG_a c_22)) | (have e : sumTo (paG (tM T v) (tM T w) (σ.1 k) i) (tN T) = 0 := sumTo_zero (fun y _ => paG_n c_29))
      rw [sumTo_succ, e, Nat.add_zero] at ihi
      exact ihi
    refine a_aload_n B d_Tr_pairsAhead_25 rfl rfl ?_
    refine a_iload B d_Tr_pairsAhead_26 rfl ?_
    refine a_iald B hk _ rfl (by omega) d_Tr_pairsAhead_28 ?_
    refine a_if_ge B 35 d_Tr_pairsAhead_29 rfl (fun c_29 => ?_) (fun c_29 => ?_)
    · skip
      refine a_iconst B d_Tr_pairsAhead_35 ci_0 ?_
      refine a_istore (lv1 := [(0, _), (1, _), (2, _), (3, _), (4, _), (5, _), (6, _)]) B d_Tr_pairsAhead_36 (by decide) rfl ?_
      refine AW_eq rfl ?_
      refine a_for (lf := fun j => [(0, rV (tI t)), (1, iV (nI v)), (2, iV (nI w)), (3, rV k), (4, iV (nI (sumTo (fun x => sumTo (paG (tM T v) (tM T w) (σ.1 k) x) (tN T)) i + sumTo (paG (tM T v) (tM T w) (σ.1 k) i) j))), (5, iV (nI i)), (6, iV (nI j))]) (τ := fun j => σ) (tN T) (fun j hj ihj => ?_) ?_ 0 (Nat.zero_le _)
      · skip
        refine a_iload B d_Tr_pairsAhead_38 rfl ?_
        refine a_aload_n B d_Tr_pairsAhead_40 rfl rfl ?_
        refine gf_Tr_leafCount B (by first | assumption | omega) d_Tr_pairsAhead_41 fl_Tr_50 ?_
        rw [a12]
        first | refine b_icmp_ge B 77 d_Tr_pairsAhead_44 rfl (by omega) (by omega) (fun c_44 => ?_) (fun c_44 => ?_) | refine a_icmp_ge B 77 d_Tr_pairsAhead_44 rfl (fun c_44 => ?_) (fun c_44 => ?_)
        · skip
          exact absurd c_44 (by omega)
        refine a_aload_n B d_Tr_pairsAhead_47 rfl rfl ?_
        refine a_iload_n B d_Tr_pairsAhead_48 rfl rfl ?_
        refine a_iload B d_Tr_pairsAhead_49 rfl ?_
        refine a_callVI (ci := 5) B (t_Tr_holdsLeaf G ht hW hA0 hw (by omega)) d_Tr_pairsAhead_51 ok_Tr_holdsLeaf ml_Tr_77 (ly_T (by first | assumption | omega)) rfl rfl (by decide) (by decide) rfl (Nat.le_of_ble_eq_true rfl) (fun r_51 τ_51 h_51 => ?_)
        obtain ⟨hr_51, hs_51⟩ := h_51
        subst hr_51
        replace hs_51 := hs_51.symm
        subst hs_51
        first | refine b_if_eq_b B 71 d_Tr_pairsAhead_54 rfl (fun c_54 => ?_) (fun c_54 => ?_) | refine a_if_eq B 71 d_Tr_pairsAhead_54 rfl (fun c_54 => ?_) (fun c_54 => ?_)
        · skip
          first | refine b_iinc (lv1 := [(0, _), (1, _), (2, _), (3, _), (4, _), (5, _), (6, _)]) B d_Tr_pairsAhead_71 rfl ci_1 (by decide) rfl ?_ | refine a_iinc (lv1 := [(0, _), (1, _), (2, _), (3, _), (4, _), (5, _), (6, _)]) B d_Tr_pairsAhead_71 rfl rfl (by decide) rfl ?_
          refine a_goto B 38 d_Tr_pairsAhead_74 rfl ?_
          first | (have e : sumTo (paG (tM T v) (tM T w) (σ.1 k) i) (j + 1) = sumTo (paG (tM T v) (tM T w) (σ.1 k) i) j := by rw [sumTo_succ, paG_b c_54, Nat.add_zero]) | (have e : sumTo (paG (tM T v) (tM T w) (σ.1 k) i) (j + 1) = sumTo (paG (tM T v) (tM T w) (σ.1 k) i) j := by rw [sumTo_succ, paG_c c_65, Nat.add_zero]) | (have e : sumTo (paG (tM T v) (tM T w) (σ.1 k) i) (j + 1) = sumTo (paG (tM T v) (tM T w) (σ.1 k) i) j + 1 := by rw [sumTo_succ, paG_1 c_22 c_29 c_54 (Int32.not_le.mp c_65)])
          rw [e] at ihj
          exact ihj
        refine a_aload_n B d_Tr_pairsAhead_57 rfl rfl ?_
        refine a_iload B d_Tr_pairsAhead_58 rfl ?_
        refine a_iald B hk _ rfl (by omega) d_Tr_pairsAhead_60 ?_
        refine a_aload_n B d_Tr_pairsAhead_61 rfl rfl ?_
        refine a_iload B d_Tr_pairsAhead_62 rfl ?_
        refine a_iald B hk _ rfl (by omega) d_Tr_pairsAhead_64 ?_
        first | refine b_icmp_ge B 71 d_Tr_pairsAhead_65 rfl (by omega) (by omega) (fun c_65 => ?_) (fun c_65 => ?_) | refine a_icmp_ge B 71 d_Tr_pairsAhead_65 rfl (fun c_65 => ?_) (fun c_65 => ?_)
        · skip
          first | refine b_iinc (lv1 := [(0, _), (1, _), (2, _), (3, _), (4, _), (5, _), (6, _)]) B d_Tr_pairsAhead_71 rfl ci_1 (by decide) rfl ?_ | refine a_iinc (lv1 := [(0, _), (1, _), (2, _), (3, _), (4, _), (5, _), (6, _)]) B d_Tr_pairsAhead_71 rfl rfl (by decide) rfl ?_
          refine a_goto B 38 d_Tr_pairsAhead_74 rfl ?_
          first | (have e : sumTo (paG (tM T v) (tM T w) (σ.1 k) i) (j + 1) = sumTo (paG (tM T v) (tM T w) (σ.1 k) i) j := by rw [sumTo_succ, paG_b c_54, Nat.add_zero]) | (have e : sumTo (paG (tM T v) (tM T w) (σ.1 k) i) (j + 1) = sumTo (paG (tM T v) (tM T w) (σ.1 k) i) j := by rw [sumTo_succ, paG_c c_65, Nat.add_zero]) | (have e : sumTo (paG (tM T v) (tM T w) (σ.1 k) i) (j + 1) = sumTo (paG (tM T v) (tM T w) (σ.1 k) i) j + 1 := by rw [sumTo_succ, paG_1 c_22 c_29 c_54 (Int32.not_le.mp c_65)])
          rw [e] at ihj
          exact ihj
        first | refine b_iinc (lv1 := [(0, _), (1, _), (2, _), (3, _), (4, _), (5, _), (6, _)]) B d_Tr_pairsAhead_68 rfl ci_1 (by decide) rfl ?_ | refine a_iinc (lv1 := [(0, _), (1, _), (2, _), (3, _), (4, _), (5, _), (6, _)]) B d_Tr_pairsAhead_68 rfl rfl (by decide) rfl ?_
        first | refine b_iinc (lv1 := [(0, _), (1, _), (2, _), (3, _), (4, _), (5, _), (6, _)]) B d_Tr_pairsAhead_71 rfl ci_1 (by decide) rfl ?_ | refine a_iinc (lv1 := [(0, _), (1, _), (2, _), (3, _), (4, _), (5, _), (6, _)]) B d_Tr_pairsAhead_71 rfl rfl (by decide) rfl ?_
        refine a_goto B 38 d_Tr_pairsAhead_74 rfl ?_
        first | (have e : sumTo (paG (tM T v) (tM T w) (σ.1 k) i) (j + 1) = sumTo (paG (tM T v) (tM T w) (σ.1 k) i) j := by rw [sumTo_succ, paG_b c_54, Nat.add_zero]) | (have e : sumTo (paG (tM T v) (tM T w) (σ.1 k) i) (j + 1) = sumTo (paG (tM T v) (tM T w) (σ.1 k) i) j := by rw [sumTo_succ, paG_c c_65, Nat.add_zero]) | (have e : sumTo (paG (tM T v) (tM T w) (σ.1 k) i) (j + 1) = sumTo (paG (tM T v) (tM T w) (σ.1 k) i) j + 1 := by rw [sumTo_succ, paG_1 c_22 c_29 c_54 (Int32.not_le.mp c_65)])
        rw [e] at ihj
        exact ihj
      · skip
        refine a_iload B d_Tr_pairsAhead_38 rfl ?_
        refine a_aload_n B d_Tr_pairsAhead_40 rfl rfl ?_
        refine gf_Tr_leafCount B (by first | assumption | omega) d_Tr_pairsAhead_41 fl_Tr_50 ?_
        rw [a12]
        first | refine b_icmp_ge B 77 d_Tr_pairsAhead_44 rfl (by omega) (by omega) (fun c_44 => ?_) (fun c_44 => ?_) | refine a_icmp_ge B 77 d_Tr_pairsAhead_44 rfl (fun c_44 => ?_) (fun c_44 => ?_)
        · skip
          first | refine b_iinc (lv1 := [(0, _), (1, _), (2, _), (3, _), (4, _), (5, _), (6, _)]) B d_Tr_pairsAhead_77 rfl ci_1 (by decide) rfl ?_ | refine a_iinc (lv1 := [(0, _), (1, _), (2, _), (3, _), (4, _), (5, _), (6, _)]) B d_Tr_pairsAhead_77 rfl rfl (by decide) rfl ?_
          refine a_goto B 6 d_Tr_pairsAhead_80 rfl ?_
          refine a_sub (lv1 := [(0, _), (1, _), (2, _), (3, _), (4, _), (5, _)]) rfl ?_
          rw [sumTo_succ] at ihi
          exact ihi
        exact absurd c_44 (by omega)
    refine a_goto B 77 d_Tr_pairsAhead_32 rfl ?_
    first | refine b_iinc (lv1 := [(0, _), (1, _), (2, _), (3, _), (4, _), (5, _)]) B d_Tr_pairsAhead_77 rfl ci_1 (by decide) rfl ?_ | refine a_iinc (lv1 := [(0, _), (1, _), (2, _), (3, _), (4, _), (5, _)]) B d_Tr_pairsAhead_77 rfl rfl (by decide) rfl ?_
    refine a_goto B 6 d_Tr_pairsAhead_80 rfl ?_
    first | (have e : sumTo (paG (tM T v) (tM T w) (σ.1 k) i) (tN T) = 0 := sumTo_zero (fun y _ => paG_a c_22)) | (have e : sumTo (paG (tM T v) (tM T w) (σ.1 k) i) (tN T) = 0 := sumTo_zero (fun y _ => paG_n c_29))
    rw [sumTo_succ, e, Nat.add_zero] at ihi
    exact ihi
  · skip
    refine a_iload B d_Tr_pairsAhead_6 rfl ?_
    refine a_aload_n B d_Tr_pairsAhead_8 rfl rfl ?_
    refine gf_Tr_leafCount B (by first | assumption | omega) d_Tr_pairsAhead_9 fl_Tr_50 ?_
    rw [a12]
    first | refine b_icmp_ge B 83 d_Tr_pairsAhead_12 rfl (by omega) (by omega) (fun c_12 => ?_) (fun c_12 => ?_) | refine a_icmp_ge B 83 d_Tr_pairsAhead_12 rfl (fun c_12 => ?_) (fun c_12 => ?_)
    · skip
      refine a_iload B d_Tr_pairsAhead_83 rfl ?_
      exact Rt _ _ _ _ d_Tr_pairsAhead_85 ⟨by rw [← paN_pa (by omega) (tM_hi hW hv) (tM_hi hW hw)]; rfl, rfl⟩
    exact absurd c_12 (by omega)
