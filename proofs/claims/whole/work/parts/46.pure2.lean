/-! crossings as pairs of leaves; looking takes crossings away; the fewest over all turns -/
theorem sum_cnt {f f' : Nat → Nat} {p : Nat → Bool} : ∀ n, (∀ k, k < n → f' k + (if p k then 1 else 0) ≤ f k) → sumTo f' n + cntB p n ≤ sumTo f n
  | 0, _ => Nat.le_refl _
  | n + 1, h => by
    have h1 := sum_cnt n (fun k hk => h k (by omega))
    have h2 := h n (by omega)
    show sumTo f' n + f' n + (cntB p n + (if p n then 1 else 0)) ≤ sumTo f n + f n
    omega
theorem look_less {T : TT} (hW : Wf T) {pl : Nat → Int32} : crossT (lookT T pl) pl + looksN T pl ≤ crossT T pl := by
  have w1 := hW.1
  unfold crossT looksN
  refine sum_cnt (f := fun k => pa (tM T (tR T (tN T + k))) (tM T (tL T (tN T + k))) pl) (f' := fun k => pa (tM T (tR (lookT T pl) (tN T + k))) (tM T (tL (lookT T pl) (tN T + k))) pl) (p := fun i => turnsAt T pl (tN T + i)) (tN T - 1) (fun k hk => ?_)
  have hL : tL (lookT T pl) (tN T + k) = if turnsAt T pl (tN T + k) then tR T (tN T + k) else tL T (tN T + k) := rfl
  have hR : tR (lookT T pl) (tN T + k) = if turnsAt T pl (tN T + k) then tL T (tN T + k) else tR T (tN T + k) := rfl
  show pa (tM T (tR (lookT T pl) (tN T + k))) (tM T (tL (lookT T pl) (tN T + k))) pl + (if turnsAt T pl (tN T + k) then 1 else 0) ≤ pa (tM T (tR T (tN T + k))) (tM T (tL T (tN T + k))) pl
  rw [hL, hR]
  cases ht : turnsAt T pl (tN T + k) with
  | false => exact Nat.le_refl _
  | true =>
    unfold turnsAt at ht
    simp only [Bool.and_eq_true, decide_eq_true_eq] at ht
    have := ht.2.2.2
    show pa (tM T (tL T (tN T + k))) (tM T (tR T (tN T + k))) pl + 1 ≤ _
    omega
theorem part_uniq {T : TT} (hW : Wf T) {x y j j' : Nat} (hjj : j < j') (h1 : tN T ≤ j) (h2 : j' < 2 * tN T - 1) (a1 : hasL T (tR T j) x = true) (a2 : hasL T (tL T j) y = true) (b1 : hasL T (tR T j') x = true) (b2 : hasL T (tL T j') y = true) : False := by
  obtain ⟨c1, c2, c3, c4, c5⟩ := hW.2.2.1 j' (by omega) h2
  have jx : hasL T j x = true := by rw [hasL_join hW h1 (by omega), a1, Bool.or_true]
  have jy : hasL T j y = true := by rw [hasL_join hW h1 (by omega), a2]; rfl
  rcases Nat.lt_trichotomy j (tR T j') with h | h | h
  · have := (lam hW (tR T j') j h (by omega) jx b1).2 y jy
    exact hasL_dis hW (by omega) h2 ⟨b2, this⟩
  · rw [h] at jy
    exact hasL_dis hW (by omega) h2 ⟨b2, jy⟩
  · have := (lam hW j (tR T j') h (by omega) b1 jx).1
    omega
def prX (T : TT) (x y : Nat) : Bool := decide (x < tN T) && (decide (y < tN T) && decide (posT T y < posT T x))
theorem part_cnt {T : TT} (hW : Wf T) (x y : Nat) : sumTo (fun k => if hasL T (tR T (tN T + k)) x && hasL T (tL T (tN T + k)) y then 1 else 0) (tN T - 1) = if prX T x y then 1 else 0 := by
  have w1 := hW.1
  by_cases hp : prX T x y = true
  · rw [if_pos hp]
    unfold prX at hp
    simp only [Bool.and_eq_true, decide_eq_true_eq] at hp
    obtain ⟨hx, hy, hxy⟩ := hp
    obtain ⟨j, h1, h2, hj⟩ := parted hW hx hy (fun q => by rw [q] at hxy; omega)
    have hj : hasL T (tR T j) x = true ∧ hasL T (tL T j) y = true := by
      rcases hj with hj | hj
      · have := pos_sep hW h1 h2 hx hy hj.1 hj.2
        omega
      · exact hj
    have e : tN T + (j - tN T) = j := by omega
    rw [sumTo_pick (l := j - tN T) (by omega) (fun k hk hne => ?_)]
    · show (if hasL T (tR T (tN T + (j - tN T))) x && hasL T (tL T (tN T + (j - tN T))) y then 1 else 0) = 1
      rw [e, hj.1, hj.2]
      rfl
    · show (if hasL T (tR T (tN T + k)) x && hasL T (tL T (tN T + k)) y then 1 else 0) = 0
      refine if_neg (fun q => ?_)
      rw [Bool.and_eq_true] at q
      rcases Nat.lt_trichotomy (tN T + k) j with h | h | h
      · exact part_uniq hW h (by omega) h2 q.1 q.2 hj.1 hj.2
      · omega
      · exact part_uniq hW h h1 (by omega) hj.1 hj.2 q.1 q.2
  · rw [if_neg hp]
    refine sumTo_zero (fun k hk => if_neg (fun q => hp ?_))
    rw [Bool.and_eq_true] at q
    obtain ⟨c1, c2, -⟩ := hW.2.2.1 (tN T + k) (by omega) (by omega)
    have hx := hasL_lt hW _ _ (by omega) q.1
    have hy := hasL_lt hW _ _ (by omega) q.2
    have := pos_sep hW (j := tN T + k) (by omega) (by omega) hy hx q.2 q.1
    unfold prX
    rw [decide_eq_true hx, decide_eq_true hy, decide_eq_true this]
    rfl
theorem sum_if {p : Nat → Bool} {c : Bool} : ∀ n, sumTo (fun k => if c && p k then 1 else 0) n = if c then sumTo (fun k => if p k then 1 else 0) n else 0
  | 0 => by cases c <;> rfl
  | n + 1 => by
    show sumTo (fun k => if c && p k then 1 else 0) n + (if c && p n then 1 else 0) = _
    rw [sum_if n]
    cases c
    · rfl
    · rfl
theorem sumTo_cg {f f' : Nat → Nat} {n : Nat} (h : f = f') : sumTo f n = sumTo f' n := by rw [h]
/-- crossings, pair by pair -/
theorem cross_pairs {T : TT} (hW : Wf T) {pl : Nat → Int32} : crossT T pl = sumTo (fun x => sumTo (fun y => if (decide (0 ≤ pl x) && decide (pl x < pl y)) && prX T x y then 1 else 0) 10) 10 := by
  have e1 : crossT T pl = sumTo (fun k => sumTo (fun x => sumTo (fun y => if (decide (0 ≤ pl x) && decide (pl x < pl y)) && (hasL T (tR T (tN T + k)) x && hasL T (tL T (tN T + k)) y) then 1 else 0) 10) 10) (tN T - 1) := by
    unfold crossT
    refine sumTo_cg (funext (fun k => ?_))
    show paN 10 _ _ pl = _
    unfold paN
    refine sumTo_cg (funext (fun x => ?_))
    refine sumTo_cg (funext (fun y => ?_))
    unfold paG hasL
    cases (tM T (tR T (tN T + k))).testBit x <;> cases decide (0 ≤ pl x) <;> cases (tM T (tL T (tN T + k))).testBit y <;> cases decide (pl x < pl y) <;> rfl
  rw [e1, sm_swap (f := fun k x => sumTo (fun y => if (decide (0 ≤ pl x) && decide (pl x < pl y)) && (hasL T (tR T (tN T + k)) x && hasL T (tL T (tN T + k)) y) then 1 else 0) 10) (tN T - 1)]
  refine sumTo_cg (funext (fun x => ?_))
  rw [sm_swap (f := fun k y => if (decide (0 ≤ pl x) && decide (pl x < pl y)) && (hasL T (tR T (tN T + k)) x && hasL T (tL T (tN T + k)) y) then 1 else 0) (tN T - 1)]
  refine sumTo_cg (funext (fun y => ?_))
  rw [sum_if (p := fun k => hasL T (tR T (tN T + k)) x && hasL T (tL T (tN T + k)) y) (c := decide (0 ≤ pl x) && decide (pl x < pl y)) (tN T - 1), part_cnt hW]
  cases (decide (0 ≤ pl x) && decide (pl x < pl y)) <;> rfl
theorem pl_lt {U : TT} (hU : Wf U) {x y : Nat} (hx : x < tN U) (hy : y < tN U) : (decide (0 ≤ plT U x) && decide (plT U x < plT U y)) = decide (posT U x < posT U y) := by
  have h1 := pos_lt hU hx
  have h2 := pos_lt hU hy
  have h10 := hU.2.1
  unfold plT
  rw [if_pos hx, if_pos hy, decide_eq_true (nI_ge0 (by omega)), Bool.true_and]
  exact decide_eq_decide.mpr (nI_lt' (by omega) (by omega))
theorem cross_sym {T U : TT} (hT : Wf T) (hU : Wf U) (he : tN T = tN U) : crossT T (plT U) = crossT U (plT T) := by
  rw [cross_pairs hT, cross_pairs hU, sm_swap (f := fun x y => if (decide (0 ≤ plT U x) && decide (plT U x < plT U y)) && prX T x y then 1 else 0) 10]
  refine sumTo_cg (funext (fun y => ?_))
  refine sumTo_cg (funext (fun x => ?_))
  unfold prX
  rw [← he]
  by_cases hx : x < tN T
  · by_cases hy : y < tN T
    · rw [pl_lt hU (by omega) (by omega), pl_lt hT hy hx, decide_eq_true hx, decide_eq_true hy]
      cases decide (posT U x < posT U y) <;> cases decide (posT T y < posT T x) <;> rfl
    · rw [decide_eq_false hy]
      simp
  · rw [decide_eq_false hx]
    simp
theorem cross_100 {T : TT} (hT : Wf T) {pl : Nat → Int32} : crossT T pl ≤ 100 := by
  rw [cross_pairs hT]
  have h1 : ∀ x, sumTo (fun y => if (decide (0 ≤ pl x) && decide (pl x < pl y)) && prX T x y then 1 else 0) 10 ≤ 10 := fun x => by
    have := sumTo_le (f := fun y => if (decide (0 ≤ pl x) && decide (pl x < pl y)) && prX T x y then 1 else 0) (c := 1) (fun y => by show (if _ then 1 else 0) ≤ 1; split <;> omega) 10
    omega
  have := sumTo_le (f := fun x => sumTo (fun y => if (decide (0 ≤ pl x) && decide (pl x < pl y)) && prX T x y then 1 else 0) 10) (c := 10) h1 10
  omega
theorem round_less {p : TT × TT} (hT : Wf p.1) (hU : Wf p.2) (he : tN p.1 = tN p.2) : crossT (fbR p).1 (plT (fbR p).2) + fbN p ≤ crossT p.1 (plT p.2) := by
  have h1 := look_less hT (pl := plT p.2)
  have h2 := look_less hU (pl := plT (lookT p.1 (plT p.2)))
  have hT1 : Wf (lookT p.1 (plT p.2)) := Wf_flips hT
  have hU1 : Wf (lookT p.2 (plT (lookT p.1 (plT p.2)))) := Wf_flips hU
  have e1 := cross_sym hT1 hU he
  have e2 := cross_sym hT1 hU1 he
  show crossT (lookT p.1 (plT p.2)) (plT (lookT p.2 (plT (lookT p.1 (plT p.2))))) + (looksN p.1 (plT p.2) + looksN p.2 (plT (lookT p.1 (plT p.2)))) ≤ crossT p.1 (plT p.2)
  omega
/-- the fewest as the reference seeks it -/
def omn : Option Nat → Nat → Nat
  | none, m => m
  | some b, m => min b m
def inF (T : TT) (pl : Nat → Int32) (b0 : Option Nat) : Nat → Option Nat
  | 0 => b0
  | i + 1 => if mayT T i then some (omn (inF T pl b0 i) (crossT (setT T i) pl)) else inF T pl b0 i
def rfF (T U : TT) : Nat → Option Nat
  | 0 => none
  | s + 1 => if mayT U s then inF T (plT (setT U s)) (rfF T U s) (2 ^ (tN T - 1)) else rfF T U s
theorem inF_y {T : TT} {pl : Nat → Int32} {b0 : Option Nat} {i : Nat} (h : mayT T i = true) : inF T pl b0 (i + 1) = some (omn (inF T pl b0 i) (crossT (setT T i) pl)) := if_pos h
theorem inF_n {T : TT} {pl : Nat → Int32} {b0 : Option Nat} {i : Nat} (h : mayT T i = false) : inF T pl b0 (i + 1) = inF T pl b0 i := if_neg (by rw [h]; decide)
theorem inF_le {T : TT} (hW : Wf T) {pl : Nat → Int32} {b0 : Option Nat} (h0 : ∀ b, b0 = some b → b ≤ 1000) : ∀ i b, inF T pl b0 i = some b → b ≤ 1000
  | 0, b, h => h0 b h
  | i + 1, b, h => by
    cases hm : mayT T i with
    | false => rw [inF_n hm] at h; exact inF_le hW h0 i b h
    | true =>
      rw [inF_y hm] at h
      cases h
      have hc := cross_100 (Wf_set (s := i) hW) (pl := pl)
      cases hq : inF T pl b0 i with
      | none => show crossT (setT T i) pl ≤ 1000; omega
      | some b => exact Nat.le_trans (Nat.min_le_right _ _) (by omega)
theorem rfF_le {T U : TT} (hW : Wf T) : ∀ s b, rfF T U s = some b → b ≤ 1000
  | 0, b, h => by cases h
  | s + 1, b, h => by
    cases hm : mayT U s with
    | false => rw [show rfF T U (s + 1) = rfF T U s from if_neg (by rw [hm]; decide)] at h; exact rfF_le hW s b h
    | true =>
      rw [show rfF T U (s + 1) = inF T (plT (setT U s)) (rfF T U s) (2 ^ (tN T - 1)) from if_pos hm] at h
      exact inF_le hW (rfF_le hW s) _ b h
theorem set_cross {T : TT} {s : Nat} {pl : Nat → Int32} : crossT (setT T s) pl = sumTo (fun k => if s.testBit k then pa (tM T (tL T (tN T + k))) (tM T (tR T (tN T + k))) pl else pa (tM T (tR T (tN T + k))) (tM T (tL T (tN T + k))) pl) (tN T - 1) := by
  unfold crossT
  refine sumTo_cg (funext (fun k => ?_))
  show pa (tM T (if s.testBit (tN T + k - tN T) then tL T (tN T + k) else tR T (tN T + k))) (tM T (if s.testBit (tN T + k - tN T) then tR T (tN T + k) else tL T (tN T + k))) pl = _
  rw [show tN T + k - tN T = k by omega]
  cases s.testBit k <;> rfl
theorem sumTo_mono {f f' : Nat → Nat} : ∀ n, (∀ k, k < n → f k ≤ f' k) → sumTo f n ≤ sumTo f' n
  | 0, _ => Nat.le_refl _
  | n + 1, h => by
    have h1 := sumTo_mono n (fun k hk => h k (by omega))
    have h2 := h n (by omega)
    show sumTo f n + f n ≤ sumTo f' n + f' n
    omega
theorem least_low {T : TT} {s : Nat} {pl : Nat → Int32} (h : mayT T s = true) : leastT T pl ≤ crossT (setT T s) pl := by
  unfold mayT at h
  have h := of_decide_eq_true h
  rw [set_cross]
  unfold leastT
  refine sumTo_mono _ (fun k hk => ?_)
  have hk2 := h k hk
  cases hd : tD T (tN T + k) with
  | true =>
    have hb : s.testBit k = false := by
      cases hb : s.testBit k with
      | false => rfl
      | true => exact absurd ⟨hd, hb⟩ hk2
    show pa _ _ pl ≤ if s.testBit k then _ else _
    rw [hb]
    exact Nat.le_refl _
  | false =>
    show min _ _ ≤ if s.testBit k then _ else _
    split
    · exact Nat.min_le_right _ _
    · exact Nat.min_le_left _ _
def lsG (T : TT) (pl : Nat → Int32) (k : Nat) : Bool := !tD T (tN T + k) && decide (pa (tM T (tL T (tN T + k))) (tM T (tR T (tN T + k))) pl < pa (tM T (tR T (tN T + k))) (tM T (tL T (tN T + k))) pl)
theorem least_at {T : TT} {pl : Nat → Int32} : mayT T (bitsOf (lsG T pl) (tN T - 1)) = true ∧ crossT (setT T (bitsOf (lsG T pl) (tN T - 1))) pl = leastT T pl := by
  constructor
  · unfold mayT
    refine decide_eq_true (fun k hk q => ?_)
    obtain ⟨q1, q2⟩ := q
    rw [bitsOf_bit, decide_eq_true hk, Bool.true_and] at q2
    unfold lsG at q2
    rw [q1] at q2
    cases q2
  · rw [set_cross]
    unfold leastT
    refine sumTo_congr (fun k hk => ?_)
    rw [bitsOf_bit, decide_eq_true hk, Bool.true_and]
    unfold lsG
    cases tD T (tN T + k) with
    | true => rfl
    | false =>
      show (if decide _ then _ else _) = min _ _
      by_cases hl : pa (tM T (tL T (tN T + k))) (tM T (tR T (tN T + k))) pl < pa (tM T (tR T (tN T + k))) (tM T (tL T (tN T + k))) pl
      · rw [decide_eq_true hl, if_pos rfl]; omega
      · rw [decide_eq_false hl]
        show pa (tM T (tR T (tN T + k))) (tM T (tL T (tN T + k))) pl = _
        omega
theorem inF_min {T : TT} {pl : Nat → Int32} {b0 : Option Nat} : ∀ n, (inF T pl b0 n = b0 ∧ ∀ i, i < n → mayT T i = false) ∨ ∃ m, inF T pl b0 n = some (omn b0 m) ∧ (∃ i, i < n ∧ mayT T i = true ∧ crossT (setT T i) pl = m) ∧ ∀ i, i < n → mayT T i = true → m ≤ crossT (setT T i) pl
  | 0 => Or.inl ⟨rfl, fun i hi => absurd hi (Nat.not_lt_zero i)⟩
  | n + 1 => by
    cases hm : mayT T n with
    | false =>
      rw [inF_n hm]
      rcases inF_min (T := T) (pl := pl) (b0 := b0) n with ⟨h1, h2⟩ | ⟨m, h1, ⟨i, h2, h3, h4⟩, h5⟩
      · refine Or.inl ⟨h1, fun i hi => ?_⟩
        by_cases e : i = n
        · rw [e]; exact hm
        · exact h2 i (by omega)
      · refine Or.inr ⟨m, h1, ⟨i, by omega, h3, h4⟩, fun j hj hmj => ?_⟩
        by_cases e : j = n
        · rw [e, hm] at hmj; cases hmj
        · exact h5 j (by omega) hmj
    | true =>
      rw [inF_y hm]
      rcases inF_min (T := T) (pl := pl) (b0 := b0) n with ⟨h1, h2⟩ | ⟨m, h1, ⟨i, h2, h3, h4⟩, h5⟩
      · refine Or.inr ⟨crossT (setT T n) pl, by rw [h1], ⟨n, by omega, hm, rfl⟩, fun j hj hmj => ?_⟩
        by_cases e : j = n
        · rw [e]; exact Nat.le_refl _
        · rw [h2 j (by omega)] at hmj; cases hmj
      · refine Or.inr ⟨min m (crossT (setT T n) pl), ?_, ?_, fun j hj hmj => ?_⟩
        · rw [h1]
          cases b0 with
          | none => rfl
          | some b => show some (min (min b m) _) = some (min b (min m _)); rw [Nat.min_assoc]
        · by_cases hl : m ≤ crossT (setT T n) pl
          · exact ⟨i, by omega, h3, by rw [h4]; omega⟩
          · exact ⟨n, by omega, hm, by omega⟩
        · by_cases e : j = n
          · rw [e]; exact Nat.min_le_right _ _
          · exact Nat.le_trans (Nat.min_le_left _ _) (h5 j (by omega) hmj)
theorem inF_end {T : TT} {pl : Nat → Int32} {b0 : Option Nat} : inF T pl b0 (2 ^ (tN T - 1)) = some (omn b0 (leastT T pl)) := by
  obtain ⟨l1, l2⟩ := least_at (T := T) (pl := pl)
  have l3 := bitsOf_lt (lsG T pl) (tN T - 1)
  rcases inF_min (T := T) (pl := pl) (b0 := b0) (2 ^ (tN T - 1)) with ⟨h1, h2⟩ | ⟨m, h1, ⟨i, h2, h3, h4⟩, h5⟩
  · rw [h2 _ l3] at l1; cases l1
  · have e : m = leastT T pl := by
      have a := least_low (pl := pl) h3
      have b := h5 _ l3 l1
      omega
    rw [h1, e]
theorem least_cross {T : TT} {pl : Nat → Int32} : leastT T pl ≤ crossT T pl := by
  have := least_low (T := T) (s := 0) (pl := pl) mayT_0
  rw [setT_0] at this
  exact this
theorem rfF_fw {T U : TT} : ∀ s, rfF T U (s + 1) = some (fwF T U (s + 1))
  | 0 => by
    show (if mayT U 0 then inF T (plT (setT U 0)) none (2 ^ (tN T - 1)) else none) = some (if mayT U 0 then min (crossT T (plT U)) (leastT T (plT (setT U 0))) else crossT T (plT U))
    rw [if_pos mayT_0, if_pos mayT_0, inF_end, setT_0]
    have := least_cross (T := T) (pl := plT U)
    show some (leastT T (plT U)) = _
    rw [Nat.min_eq_right this]
  | s + 1 => by
    show (if mayT U (s + 1) then inF T (plT (setT U (s + 1))) (rfF T U (s + 1)) (2 ^ (tN T - 1)) else rfF T U (s + 1)) = some (if mayT U (s + 1) then min (fwF T U (s + 1)) (leastT T (plT (setT U (s + 1)))) else fwF T U (s + 1))
    rw [rfF_fw s]
    cases mayT U (s + 1) with
    | true =>
      show inF T _ _ _ = _
      rw [inF_end]
      rfl
    | false => rfl
theorem rfF_end {T U : TT} {n : Nat} (h : 1 ≤ n) : rfF T U n = some (fwF T U n) := by
  obtain ⟨m, rfl⟩ : ∃ m, n = m + 1 := ⟨n - 1, by omega⟩
  exact rfF_fw m
