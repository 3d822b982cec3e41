/-! where leaves stand: places by the joins above -/
theorem posF_fuel {T : TT} (hW : Wf T) : ∀ (f f' v : Nat), 2 * tN T - 1 - v ≤ f → 2 * tN T - 1 - v ≤ f' → posF T f v = posF T f' v := by
  obtain ⟨w1, w10, wj, wu, wl, wm, wt, wb, wh⟩ := hW
  intro f
  induction f with
  | zero =>
    intro f' v h h'
    cases f' with
    | zero => rfl
    | succ f' =>
      show 0 = if v < 2 * tN T - 2 then _ else 0
      rw [if_neg (by omega)]
  | succ f ih =>
    intro f' v h h'
    cases f' with
    | zero =>
      show (if v < 2 * tN T - 2 then _ else 0) = 0
      rw [if_neg (by omega)]
    | succ f' =>
      show (if v < 2 * tN T - 2 then posF T f (tU T v) + _ else 0) = if v < 2 * tN T - 2 then posF T f' (tU T v) + _ else 0
      by_cases hv : v < 2 * tN T - 2
      · have := (wu v hv).2.1
        rw [if_pos hv, if_pos hv, ih f' (tU T v) (by omega) (by omega)]
      · rw [if_neg hv, if_neg hv]
theorem posT_top {T : TT} : posT T (2 * tN T - 2) = 0 := by
  show (if 2 * tN T - 2 < 2 * tN T - 2 then _ else 0) = 0
  rw [if_neg (by omega)]
theorem posT_eq {T : TT} (hW : Wf T) {v : Nat} (hv : v < 2 * tN T - 2) : posT T v = posT T (tU T v) + (if tR T (tU T v) = v then cB (tM T (tL T (tU T v))) else 0) := by
  have h1 := hW.1
  have h10 := hW.2.1
  have e : posF T 20 v = posF T 21 v := posF_fuel hW 20 21 v (by omega) (by omega)
  unfold posT
  rw [e]
  show (if v < 2 * tN T - 2 then _ else 0) = _
  rw [if_pos hv]
theorem posT_L {T : TT} (hW : Wf T) {j : Nat} (h1 : tN T ≤ j) (h2 : j < 2 * tN T - 1) : posT T (tL T j) = posT T j := by
  obtain ⟨a, b, c, d, e⟩ := hW.2.2.1 j h1 h2
  rw [posT_eq hW (by omega), d, if_neg (fun q => c q.symm)]
  rfl
theorem posT_R {T : TT} (hW : Wf T) {j : Nat} (h1 : tN T ≤ j) (h2 : j < 2 * tN T - 1) : posT T (tR T j) = posT T j + cB (tM T (tL T j)) := by
  obtain ⟨a, b, c, d, e⟩ := hW.2.2.1 j h1 h2
  rw [posT_eq hW (by omega), e, if_pos rfl]
theorem sumTo_add {f f' : Nat → Nat} : ∀ n, sumTo (fun k => f k + f' k) n = sumTo f n + sumTo f' n
  | 0 => rfl
  | n + 1 => by
    show sumTo _ n + (f n + f' n) = (sumTo f n + f n) + (sumTo f' n + f' n)
    rw [sumTo_add n]
    omega
theorem cB_or {a b : Nat} (h : a &&& b = 0) : cB (a ||| b) = cB a + cB b := by
  unfold cB
  rw [← sumTo_add]
  apply sumTo_congr
  intro k _
  rw [bit_tb, bit_tb, bit_tb, Nat.testBit_or]
  have h0 : (a &&& b).testBit k = false := by rw [h]; exact Nat.zero_testBit k
  rw [Nat.testBit_and] at h0
  cases ha : a.testBit k <;> cases hb : b.testBit k <;> simp_all
theorem sumTo_one : ∀ {l n : Nat}, l < n → sumTo (fun k => if k = l then 1 else 0) n = 1
  | l, n + 1, h => by
    show sumTo _ n + (if n = l then 1 else 0) = 1
    by_cases e : n = l
    · subst e
      rw [if_pos rfl]
      have : sumTo (fun k => if k = n then 1 else 0) n = sumTo (fun _ => 0) n := sumTo_congr (fun k hk => if_neg (by omega))
      have z : ∀ n, sumTo (fun _ => 0) n = 0 := fun n => by
        have := sumTo_le (f := fun _ => 0) (c := 0) (fun _ => Nat.le_refl 0) n
        omega
      rw [this, z]
    · rw [if_neg e, sumTo_one (by omega)]
theorem cB_pow {l : Nat} (h : l < 10) : cB (2 ^ l) = 1 := by
  unfold cB
  rw [← sumTo_one h]
  apply sumTo_congr
  intro k _
  rw [bit_tb, Nat.testBit_two_pow]
  by_cases e : l = k
  · subst e; simp
  · have : ¬ k = l := fun q => e q.symm
    simp [e, this]
theorem cB_full {n : Nat} (h : n ≤ 10) : cB (2 ^ n - 1) = n := by
  have key : ∀ m, m ≤ 10 → ∀ k, k ≤ 10 → sumTo (fun i => ((2 ^ m - 1) >>> i) % 2) k = min m k := by decide
  have := key n h 10 (Nat.le_refl 10)
  unfold cB
  rw [this]
  omega
theorem cB_join {T : TT} (hW : Wf T) {j : Nat} (h1 : tN T ≤ j) (h2 : j < 2 * tN T - 1) : cB (tM T j) = cB (tM T (tL T j)) + cB (tM T (tR T j)) := by
  obtain ⟨a, b⟩ := hW.2.2.2.2.2.1 j h1 h2
  rw [a, cB_or b]
theorem hasL_leaf {T : TT} (hW : Wf T) {l x : Nat} (h : l < tN T) : hasL T l x = decide (x = l) := by
  unfold hasL
  rw [hW.2.2.2.2.1 l h, Nat.testBit_two_pow]
  by_cases e : l = x
  · simp [e]
  · have : ¬ x = l := fun q => e q.symm
    simp [e, this]
theorem hasL_join {T : TT} (hW : Wf T) {j x : Nat} (h1 : tN T ≤ j) (h2 : j < 2 * tN T - 1) : hasL T j x = (hasL T (tL T j) x || hasL T (tR T j) x) := by
  unfold hasL
  rw [(hW.2.2.2.2.2.1 j h1 h2).1, Nat.testBit_or]
theorem hasL_dis {T : TT} (hW : Wf T) {j x : Nat} (h1 : tN T ≤ j) (h2 : j < 2 * tN T - 1) : ¬ (hasL T (tL T j) x = true ∧ hasL T (tR T j) x = true) := by
  rintro ⟨a, b⟩
  have h := (hW.2.2.2.2.2.1 j h1 h2).2
  have h0 : (tM T (tL T j) &&& tM T (tR T j)).testBit x = false := by rw [h]; exact Nat.zero_testBit x
  rw [Nat.testBit_and] at h0
  unfold hasL at a b
  rw [a, b] at h0
  cases h0
theorem hasL_top {T : TT} (hW : Wf T) {x : Nat} : hasL T (2 * tN T - 2) x = decide (x < tN T) := by
  unfold hasL
  rw [hW.2.2.2.2.2.2.1, Nat.testBit_two_pow_sub_one]
/-- a node's leaves stand within its places -/
theorem pos_in {T : TT} (hW : Wf T) : ∀ (v x : Nat), v < 2 * tN T - 1 → x < tN T → hasL T v x = true → posT T v ≤ posT T x ∧ posT T x < posT T v + cB (tM T v) := by
  intro v
  induction v using Nat.strongRecOn with
  | ind v ih =>
    intro x hv hx h
    by_cases hl : v < tN T
    · rw [hasL_leaf hW hl] at h
      have e : x = v := of_decide_eq_true h
      subst e
      rw [hW.2.2.2.2.1 x hx, cB_pow (by have := hW.2.1; omega)]
      omega
    · have h1 : tN T ≤ v := by omega
      obtain ⟨a, b, c, d, e⟩ := hW.2.2.1 v h1 hv
      rw [hasL_join hW h1 hv] at h
      have hs := cB_join hW h1 hv
      have p1 := posT_L hW h1 hv
      have p2 := posT_R hW h1 hv
      rcases Bool.or_eq_true_iff.mp h with h | h
      · obtain ⟨q1, q2⟩ := ih _ a x (by omega) hx h
        omega
      · obtain ⟨q1, q2⟩ := ih _ b x (by omega) hx h
        omega
theorem pos_lt {T : TT} (hW : Wf T) {x : Nat} (hx : x < tN T) : posT T x < tN T := by
  have h1 := hW.1
  have h := pos_in hW (2 * tN T - 2) x (by omega) hx (by rw [hasL_top hW]; exact decide_eq_true hx)
  rw [posT_top, hW.2.2.2.2.2.2.1, cB_full hW.2.1] at h
  omega
theorem pos_node {T : TT} (hW : Wf T) : ∀ (k v : Nat), k + v = 2 * tN T - 2 → posT T v + cB (tM T v) ≤ tN T := by
  intro k
  induction k using Nat.strongRecOn with
  | ind k ih =>
    intro v h
    have h1 := hW.1
    by_cases hv : v < 2 * tN T - 2
    · obtain ⟨a, b, c, d⟩ := hW.2.2.2.1 v hv
      have hp := ih (2 * tN T - 2 - tU T v) (by omega) (tU T v) (by omega)
      have hs := cB_join hW a c
      have p1 := posT_L hW a c
      have p2 := posT_R hW a c
      rcases d with d | d
      · rw [d] at p1 hs
        omega
      · rw [d] at p2 hs
        omega
    · have : v = 2 * tN T - 2 := by omega
      subst this
      rw [posT_top, hW.2.2.2.2.2.2.1, cB_full hW.2.1]
      omega
theorem pos_node_lt {T : TT} (hW : Wf T) {v : Nat} (hv : v < 2 * tN T - 1) : posT T v ≤ tN T := by
  have := pos_node hW (2 * tN T - 2 - v) v (by omega)
  omega
/-- every place has its leaf -/
theorem pos_onto {T : TT} (hW : Wf T) : ∀ (v i : Nat), v < 2 * tN T - 1 → posT T v ≤ i → i < posT T v + cB (tM T v) → ∃ x, x < tN T ∧ hasL T v x = true ∧ posT T x = i := by
  intro v
  induction v using Nat.strongRecOn with
  | ind v ih =>
    intro i hv h h'
    by_cases hl : v < tN T
    · rw [hW.2.2.2.2.1 v hl, cB_pow (by have := hW.2.1; omega)] at h'
      exact ⟨v, hl, by rw [hasL_leaf hW hl]; exact decide_eq_true rfl, by omega⟩
    · have h1 : tN T ≤ v := by omega
      obtain ⟨a, b, c, d, e⟩ := hW.2.2.1 v h1 hv
      have hs := cB_join hW h1 hv
      have p1 := posT_L hW h1 hv
      have p2 := posT_R hW h1 hv
      by_cases hi : i < posT T v + cB (tM T (tL T v))
      · obtain ⟨x, x1, x2, x3⟩ := ih _ a i (by omega) (by omega) (by omega)
        exact ⟨x, x1, by rw [hasL_join hW h1 hv, x2]; rfl, x3⟩
      · obtain ⟨x, x1, x2, x3⟩ := ih _ b i (by omega) (by omega) (by omega)
        exact ⟨x, x1, by rw [hasL_join hW h1 hv, x2, Bool.or_true], x3⟩
/-- two leaves are parted by a join -/
theorem parted {T : TT} (hW : Wf T) {x y : Nat} (hx : x < tN T) (hy : y < tN T) (hne : x ≠ y) : ∃ j, tN T ≤ j ∧ j < 2 * tN T - 1 ∧ ((hasL T (tL T j) x = true ∧ hasL T (tR T j) y = true) ∨ (hasL T (tR T j) x = true ∧ hasL T (tL T j) y = true)) := by
  have key : ∀ v, v < 2 * tN T - 1 → hasL T v x = true → hasL T v y = true → ∃ j, tN T ≤ j ∧ j < 2 * tN T - 1 ∧ ((hasL T (tL T j) x = true ∧ hasL T (tR T j) y = true) ∨ (hasL T (tR T j) x = true ∧ hasL T (tL T j) y = true)) := by
    intro v
    induction v using Nat.strongRecOn with
    | ind v ih =>
      intro hv h1 h2
      by_cases hl : v < tN T
      · rw [hasL_leaf hW hl] at h1 h2
        exact absurd ((of_decide_eq_true h1).trans (of_decide_eq_true h2).symm) hne
      · have hj : tN T ≤ v := by omega
        obtain ⟨a, b, c, d, e⟩ := hW.2.2.1 v hj hv
        rw [hasL_join hW hj hv] at h1 h2
        rcases Bool.or_eq_true_iff.mp h1 with h1 | h1 <;> rcases Bool.or_eq_true_iff.mp h2 with h2 | h2
        · exact ih _ a (by omega) h1 h2
        · exact ⟨v, hj, hv, Or.inl ⟨h1, h2⟩⟩
        · exact ⟨v, hj, hv, Or.inr ⟨h1, h2⟩⟩
        · exact ih _ b (by omega) h1 h2
  have h1 := hW.1
  exact key (2 * tN T - 2) (by omega) (by rw [hasL_top hW]; exact decide_eq_true hx) (by rw [hasL_top hW]; exact decide_eq_true hy)
theorem pos_sep {T : TT} (hW : Wf T) {j x y : Nat} (h1 : tN T ≤ j) (h2 : j < 2 * tN T - 1) (hx : x < tN T) (hy : y < tN T) (hl : hasL T (tL T j) x = true) (hr : hasL T (tR T j) y = true) : posT T x < posT T y := by
  obtain ⟨a, b, c, d, e⟩ := hW.2.2.1 j h1 h2
  have p1 := posT_L hW h1 h2
  have p2 := posT_R hW h1 h2
  have q1 := pos_in hW _ x (by omega) hx hl
  have q2 := pos_in hW _ y (by omega) hy hr
  omega
theorem pos_inj {T : TT} (hW : Wf T) {x y : Nat} (hx : x < tN T) (hy : y < tN T) (h : posT T x = posT T y) : x = y := by
  by_cases hne : x = y
  · exact hne
  · obtain ⟨j, h1, h2, h3 | h3⟩ := parted hW hx hy hne
    · have := pos_sep hW h1 h2 hx hy h3.1 h3.2
      omega
    · have := pos_sep hW h1 h2 hy hx h3.2 h3.1
      omega
/-- the leaf at a place -/
def ordT (T : TT) (i : Nat) : Nat := sumTo (fun x => if posT T x = i then x else 0) (tN T)
theorem sumTo_pick {f : Nat → Nat} : ∀ {l n : Nat}, l < n → (∀ k, k < n → k ≠ l → f k = 0) → sumTo f n = f l
  | l, n + 1, h, hz => by
    show sumTo f n + f n = f l
    by_cases e : n = l
    · subst e
      have : sumTo f n = sumTo (fun _ => 0) n := sumTo_congr (fun k hk => hz k (by omega) (by omega))
      have z := sumTo_le (f := fun _ => 0) (c := 0) (fun _ => Nat.le_refl 0) n
      omega
    · rw [sumTo_pick (by omega) (fun k hk hne => hz k (by omega) hne), hz n (by omega) e]
      omega
theorem ord_pos {T : TT} (hW : Wf T) {x : Nat} (hx : x < tN T) : ordT T (posT T x) = x := by
  unfold ordT
  rw [sumTo_pick hx (fun k hk hne => if_neg (fun q => hne (pos_inj hW hk hx q))), if_pos rfl]
theorem pos_ord {T : TT} (hW : Wf T) {i : Nat} (hi : i < tN T) : ordT T i < tN T ∧ posT T (ordT T i) = i := by
  have h1 := hW.1
  obtain ⟨x, x1, -, x3⟩ := pos_onto hW (2 * tN T - 2) i (by omega) (by rw [posT_top]; omega) (by rw [posT_top, hW.2.2.2.2.2.2.1, cB_full hW.2.1]; omega)
  rw [← x3, ord_pos hW x1]
  exact ⟨x1, rfl⟩
