/-! the best order read back, and the turns that make it -/
theorem cd_range {g : Nat → Nat} (m : Nat) : cdL ((List.range (m + 1)).map g) = cdL ((List.range m).map g) * 16 + g m := by
  rw [List.range_succ, List.map_append, cd_app]
  show cdL _ * 16 ^ 1 + (0 * 16 + g m) = _
  omega
theorem cd_digit {g : Nat → Nat} : ∀ (m : Nat), (∀ j, j < m → g j < 16) → ∀ i, i < m → cdL ((List.range m).map g) / 16 ^ i % 16 = g (m - 1 - i)
  | 0, _, i, hi => by omega
  | m + 1, h, i, hi => by
    rw [cd_range]
    have hm := h m (by omega)
    cases i with
    | zero =>
      rw [Nat.pow_zero, Nat.div_one]
      show _ = g m
      omega
    | succ i =>
      have ih := cd_digit m (fun j hj => h j (by omega)) i (by omega)
      rw [Nat.pow_succ, Nat.mul_comm (16 ^ i), ← Nat.div_div_eq_div_mul, show (cdL ((List.range m).map g) * 16 + g m) / 16 = cdL ((List.range m).map g) by omega, ih]
      congr 1
      omega
theorem key_digit {u : Nat → Nat → Nat} {l : List Nat} {i : Nat} (hi : i < 10) : keyL u l / 16 ^ i % 16 = cdL l / 16 ^ i % 16 := by
  unfold keyL
  have e : (2 : Nat) ^ 40 = 16 ^ i * (16 * 16 ^ (9 - i)) := by
    rw [← Nat.pow_succ', ← Nat.pow_add, show i + (9 - i + 1) = 10 by omega]
  rw [e, show prL u l * (16 ^ i * (16 * 16 ^ (9 - i))) = 16 ^ i * (16 * (16 ^ (9 - i) * prL u l)) by
    rw [Nat.mul_comm (prL u l), Nat.mul_assoc, Nat.mul_assoc], Nat.mul_add_div (Nat.pow_pos (by omega)), Nat.mul_add_mod]
theorem ord_inj {T : TT} (hW : Wf T) {i j : Nat} (hi : i < tN T) (hj : j < tN T) (h : ordT T i = ordT T j) : i = j := by
  have h1 := (pos_ord hW hi).2
  have h2 := (pos_ord hW hj).2
  rw [h] at h1
  omega
theorem rd_ok {T : TT} (hW : Wf T) {u : Nat → Nat → Nat} {f : Nat → Int32} : ∀ i, i ≤ tN T → ∀ j, tN T ≤ j + i → j < tN T → rdF f (keyL u (ordL T)) (tN T) i (ordT T j) = nI j
  | 0, _, j, h1, h2 => by omega
  | i + 1, hi, j, h1, h2 => by
    have h10 := hW.2.1
    have hd : keyL u (ordL T) / 16 ^ i % 16 = ordT T (tN T - 1 - i) := by
      rw [key_digit (by omega)]
      exact cd_digit (tN T) (fun j hj => by have := (pos_ord hW hj).1; omega) i (by omega)
    have ho := (pos_ord hW (show tN T - 1 - i < tN T by omega)).1
    rw [rdF, hd, if_pos (by omega)]
    by_cases e : j = tN T - 1 - i
    · rw [← e, upd_s]
    · rw [upd_o (fun q => e (ord_inj hW h2 (by omega) q))]
      exact rd_ok hW i (by omega) j (by omega) h2
theorem rd_pos {T : TT} (hW : Wf T) {u : Nat → Nat → Nat} {f : Nat → Int32} {x : Nat} (hx : x < tN T) : rdF f (keyL u (ordL T)) (tN T) (tN T) x = nI (posT T x) := by
  have h := rd_ok hW (u := u) (f := f) (tN T) (Nat.le_refl _) (posT T x) (by omega) (pos_lt hW hx)
  rw [ord_pos hW hx] at h
  exact h
theorem sumTo_ge {f : Nat → Nat} : ∀ {n k : Nat}, k < n → f k ≤ sumTo f n
  | n + 1, k, h => by
    show f k ≤ sumTo f n + f n
    by_cases e : k = n
    · subst e; omega
    · have := sumTo_ge (f := f) (n := n) (k := k) (by omega)
      omega
theorem pa_0 {a b : Nat} {pl : Nat → Int32} (h : ∀ x y, x < 10 → y < 10 → a.testBit x = true → b.testBit y = true → ¬ pl x < pl y) : pa a b pl = 0 := by
  unfold pa paN
  refine sumTo_zero (fun x hx => sumTo_zero (fun y hy => ?_))
  cases ha : a.testBit x with
  | false => exact paG_a ha
  | true =>
    cases hb : b.testBit y with
    | false => exact paG_b hb
    | true => exact paG_c (Int32.not_lt.mp (h x y hx hy ha hb))
theorem pa_pos {a b x y : Nat} {pl : Nat → Int32} (hx : x < 10) (hy : y < 10) (h1 : a.testBit x = true) (h2 : 0 ≤ pl x) (h3 : b.testBit y = true) (h4 : pl x < pl y) : 0 < pa a b pl := by
  have e := paG_1 h1 h2 h3 h4
  have q1 := sumTo_ge (f := paG a b pl x) (n := 10) hy
  have q2 := sumTo_ge (f := fun x => sumTo (paG a b pl x) 10) (n := 10) hx
  unfold pa paN
  omega
/-- what stands in an order that turns of the tree give, turns the tree to it -/
theorem turns_of {T : TT} (hW : Wf T) {s : Nat} (hm : mayT T s = true) {pl : Nat → Int32} (hp : ∀ x, x < tN T → pl x = nI (posT (setT T s) x)) (v : Nat) : turnsAt T pl v = (decide (tN T ≤ v) && (decide (v < 2 * tN T - 1) && s.testBit (v - tN T))) := by
  have hW2 : Wf (setT T s) := Wf_turn hW
  have h10 := hW.2.1
  by_cases h1 : tN T ≤ v
  · by_cases h2 : v < 2 * tN T - 1
    · obtain ⟨a, b, c, d, e⟩ := hW.2.2.1 v h1 h2
      obtain ⟨x, hx⟩ := hasL_ex hW _ (show tL T v < 2 * tN T - 1 by omega)
      obtain ⟨y, hy⟩ := hasL_ex hW _ (show tR T v < 2 * tN T - 1 by omega)
      have lx := hasL_lt hW _ x (by omega) hx
      have ly := hasL_lt hW _ y (by omega) hy
      have nn : ∀ z, z < tN T → 0 ≤ pl z := fun z hz => by rw [hp z hz]; exact nI_ge0 (by have := pos_lt hW2 (x := z) hz; have h9 : tN (setT T s) = tN T := rfl; omega)
      have lt : ∀ z z', z < tN T → z' < tN T → (pl z < pl z' ↔ posT (setT T s) z < posT (setT T s) z') := fun z z' hz hz' => by
        have q1 := pos_lt hW2 (x := z) hz
        have q2 := pos_lt hW2 (x := z') hz'
        have h9 : tN (setT T s) = tN T := rfl
        rw [hp z hz, hp z' hz', nI_lt' (by omega) (by omega)]
      unfold turnsAt
      simp only [h1, h2, decide_true, Bool.true_and]
      cases hb : s.testBit (v - tN T) with
      | true =>
        have hd := may_vld.mp hm v h1 h2 hb
        have eL : tL (setT T s) v = tR T v := by rw [setT_L, if_pos hb]
        have eR : tR (setT T s) v = tL T v := by rw [setT_R, if_pos hb]
        have sep : ∀ x' y', hasL T (tR T v) x' = true → hasL T (tL T v) y' = true → posT (setT T s) x' < posT (setT T s) y' := fun x' y' q1 q2 =>
          pos_sep hW2 (j := v) h1 h2 (hasL_lt hW _ x' (by omega) q1) (hasL_lt hW _ y' (by omega) q2) (by rw [eL]; exact q1) (by rw [eR]; exact q2)
        have z : pa (tM T (tL T v)) (tM T (tR T v)) pl = 0 := pa_0 (fun x' y' _ _ q1 q2 q3 => by
          have l1 := hasL_lt hW _ x' (by omega) q1
          have l2 := hasL_lt hW _ y' (by omega) q2
          have := (lt x' y' l1 l2).mp q3
          have := sep y' x' q2 q1
          omega)
        have p : 0 < pa (tM T (tR T v)) (tM T (tL T v)) pl := pa_pos (x := y) (y := x) (by omega) (by omega) hy (nn y ly) hx ((lt y x ly lx).mpr (sep y x hy hx))
        rw [hd, z]
        simp [p]
      | false =>
        have eL : tL (setT T s) v = tL T v := by rw [setT_L, hb]; rfl
        have eR : tR (setT T s) v = tR T v := by rw [setT_R, hb]; rfl
        have sep : ∀ x' y', hasL T (tL T v) x' = true → hasL T (tR T v) y' = true → posT (setT T s) x' < posT (setT T s) y' := fun x' y' q1 q2 =>
          pos_sep hW2 (j := v) h1 h2 (hasL_lt hW _ x' (by omega) q1) (hasL_lt hW _ y' (by omega) q2) (by rw [eL]; exact q1) (by rw [eR]; exact q2)
        have z : pa (tM T (tR T v)) (tM T (tL T v)) pl = 0 := pa_0 (fun x' y' _ _ q1 q2 q3 => by
          have l1 := hasL_lt hW _ x' (by omega) q1
          have l2 := hasL_lt hW _ y' (by omega) q2
          have := (lt x' y' l1 l2).mp q3
          have := sep y' x' q2 q1
          omega)
        rw [z]
        simp
    · unfold turnsAt; simp [h2]
  · unfold turnsAt; simp [h1]
theorem look_best {T : TT} (hW : Wf T) {u : Nat → Nat → Nat} {pl : Nat → Int32} (hp : ∀ x, x < tN T → pl x = nI (posT (setT T (bestS T u)) x)) : lookT T pl = bestT T u := by
  obtain ⟨-, -, b2, -⟩ := bestS_ok (T := T) (u := u)
  unfold lookT bestT
  congr 1
  funext v
  exact turns_of hW b2 hp v
theorem pr_range {u : Nat → Nat → Nat} {g : Nat → Nat} : ∀ m, prL u ((List.range (m + 1)).map g) = sumTo (fun i => u (g i) (g (i + 1))) m
  | 0 => rfl
  | m + 1 => by
    have ih := pr_range (u := u) (g := g) m
    rw [List.range_succ, List.map_append]
    have hl : ((List.range (m + 1)).map g).getLast? = some (g m) := by
      rw [List.range_succ, List.map_append, app_last (by simp)]
      rfl
    show prL u (_ ++ g (m + 1) :: []) = _
    rw [pr_app _ hl, ih]
    rfl
theorem price_L {u : Nat → Nat → Nat} {T : TT} (hW : Wf T) : prL u (ordL T) = priceT u T := by
  have h1 := hW.1
  unfold ordL priceT
  have := pr_range (u := u) (g := ordT T) (tN T - 1)
  rw [show tN T - 1 + 1 = tN T by omega] at this
  exact this
