/-! the best of all turns: by sets of turns, by orders -/
/-- a node's leaves by which joins are turned -/
def sqF (T : TT) (f : Nat → Bool) : Nat → Nat → List Nat
  | 0, v => [v]
  | k + 1, v => if v < tN T then [v] else if f v then sqF T f k (tR T v) ++ sqF T f k (tL T v) else sqF T f k (tL T v) ++ sqF T f k (tR T v)
theorem sqF_fuel {T : TT} (hW : Wf T) (f : Nat → Bool) : ∀ (k k' v : Nat), v < 2 * tN T - 1 → v < k → v < k' → sqF T f k v = sqF T f k' v := by
  intro k
  induction k with
  | zero => intro k' v _ h; omega
  | succ k ih =>
    intro k' v hv h1 h2
    cases k' with
    | zero => omega
    | succ k' =>
      by_cases hl : v < tN T
      · show (if v < tN T then [v] else _) = (if v < tN T then [v] else _)
        rw [if_pos hl, if_pos hl]
      · obtain ⟨a, b, -⟩ := hW.2.2.1 v (by omega) hv
        show (if v < tN T then [v] else if f v then sqF T f k (tR T v) ++ sqF T f k (tL T v) else sqF T f k (tL T v) ++ sqF T f k (tR T v)) = (if v < tN T then [v] else if f v then sqF T f k' (tR T v) ++ sqF T f k' (tL T v) else sqF T f k' (tL T v) ++ sqF T f k' (tR T v))
        rw [ih k' (tL T v) (by omega) (by omega) (by omega), ih k' (tR T v) (by omega) (by omega) (by omega)]
def sqT (T : TT) (f : Nat → Bool) (v : Nat) : List Nat := sqF T f 20 v
theorem sqT_leaf {T : TT} {f : Nat → Bool} {v : Nat} (h : v < tN T) : sqT T f v = [v] := if_pos h
theorem sqT_join {T : TT} (hW : Wf T) {f : Nat → Bool} {v : Nat} (h1 : tN T ≤ v) (h2 : v < 2 * tN T - 1) : sqT T f v = if f v then sqT T f (tR T v) ++ sqT T f (tL T v) else sqT T f (tL T v) ++ sqT T f (tR T v) := by
  have h10 := hW.2.1
  unfold sqT
  have e : sqF T f 20 v = sqF T f 21 v := sqF_fuel hW f 20 21 v h2 (by omega) (by omega)
  rw [e]
  show (if v < tN T then [v] else _) = _
  rw [if_neg (by omega)]
def meetsL (T : TT) (w v : Nat) : Prop := ∃ x, hasL T w x = true ∧ hasL T v x = true
theorem hasL_ex {T : TT} (hW : Wf T) : ∀ v, v < 2 * tN T - 1 → ∃ x, hasL T v x = true := by
  intro v
  induction v using Nat.strongRecOn with
  | ind v ih =>
    intro hv
    by_cases h : v < tN T
    · exact ⟨v, by rw [hasL_leaf hW h]; simp⟩
    · obtain ⟨a, b, -⟩ := hW.2.2.1 v (by omega) hv
      obtain ⟨x, hx⟩ := ih _ a (by omega)
      exact ⟨x, by rw [hasL_join hW (by omega) hv, hx]; rfl⟩
theorem sqT_congr {T : TT} (hW : Wf T) {f f' : Nat → Bool} : ∀ v, v < 2 * tN T - 1 → (∀ w, tN T ≤ w → w ≤ v → meetsL T w v → f w = f' w) → sqT T f v = sqT T f' v := by
  intro v
  induction v using Nat.strongRecOn with
  | ind v ih =>
    intro hv h
    by_cases hl : v < tN T
    · rw [sqT_leaf hl, sqT_leaf hl]
    · have hj : tN T ≤ v := by omega
      obtain ⟨a, b, -⟩ := hW.2.2.1 v hj hv
      have sub1 : ∀ y, hasL T (tL T v) y = true → hasL T v y = true := fun y hy => by rw [hasL_join hW hj hv, hy]; rfl
      have sub2 : ∀ y, hasL T (tR T v) y = true → hasL T v y = true := fun y hy => by rw [hasL_join hW hj hv, hy, Bool.or_true]
      obtain ⟨x, hx⟩ := hasL_ex hW v hv
      rw [sqT_join hW hj hv, sqT_join hW hj hv, h v hj (Nat.le_refl v) ⟨x, hx, hx⟩, ih _ a (by omega) (fun w h1 h2 ⟨y, h3, h4⟩ => h w h1 (by omega) ⟨y, h3, sub1 y h4⟩), ih _ b (by omega) (fun w h1 h2 ⟨y, h3, h4⟩ => h w h1 (by omega) ⟨y, h3, sub2 y h4⟩)]
def vldF (T : TT) (f : Nat → Bool) : Prop := ∀ w, tN T ≤ w → w < 2 * tN T - 1 → f w = true → tD T w = false
theorem sq_VT {T : TT} (hW : Wf T) {f : Nat → Bool} (hf : vldF T f) : ∀ v, v < 2 * tN T - 1 → VT T v (sqT T f v) := by
  intro v
  induction v using Nat.strongRecOn with
  | ind v ih =>
    intro hv
    by_cases hl : v < tN T
    · rw [sqT_leaf hl, VT_leaf hl]
    · have hj : tN T ≤ v := by omega
      obtain ⟨a, b, -⟩ := hW.2.2.1 v hj hv
      rw [VT_join hW hj hv, sqT_join hW hj hv]
      refine ⟨_, _, ih _ a (by omega), ih _ b (by omega), ?_⟩
      cases hb : f v with
      | true => right; exact ⟨hf v hj hv hb, rfl⟩
      | false => left; rfl
theorem VT_sq {T : TT} (hW : Wf T) : ∀ v, v < 2 * tN T - 1 → ∀ l, VT T v l → ∃ f, vldF T f ∧ sqT T f v = l := by
  intro v
  induction v using Nat.strongRecOn with
  | ind v ih =>
    intro hv l hl
    by_cases h : v < tN T
    · exact ⟨fun _ => false, fun w _ _ q => (by cases q), by rw [sqT_leaf h]; exact ((VT_leaf h).mp hl).symm⟩
    · have hj : tN T ≤ v := by omega
      obtain ⟨a, b, c, d, e⟩ := hW.2.2.1 v hj hv
      obtain ⟨l1, l2, q1, q2, q3⟩ := (VT_join hW hj hv).mp hl
      obtain ⟨f1, g1, g2⟩ := ih _ a (by omega) l1 q1
      obtain ⟨f2, g3, g4⟩ := ih _ b (by omega) l2 q2
      have key : ∀ bt : Bool, (bt = true → tD T v = false) → ∃ f, vldF T f ∧ f v = bt ∧ sqT T f (tL T v) = l1 ∧ sqT T f (tR T v) = l2 := by
        intro bt hbt
        refine ⟨fun w => if w = v then bt else if tM T w &&& tM T (tL T v) ≠ 0 then f1 w else f2 w, fun w h1 h2 h3 => ?_, by simp, ?_, ?_⟩
        · dsimp only at h3
          split at h3
          · next e9 => rw [e9]; exact hbt h3
          · split at h3
            · exact g1 w h1 h2 h3
            · exact g3 w h1 h2 h3
        · rw [← g2]
          refine sqT_congr hW _ (by omega) (fun w h1 h2 ⟨x, h3, h4⟩ => ?_)
          have hm : tM T w &&& tM T (tL T v) ≠ 0 := fun q => by
            have h9 : (tM T w &&& tM T (tL T v)).testBit x = false := by rw [q]; exact Nat.zero_testBit x
            rw [Nat.testBit_and] at h9
            have h3 : (tM T w).testBit x = true := h3
            have h4 : (tM T (tL T v)).testBit x = true := h4
            rw [h3, h4] at h9
            cases h9
          rw [if_neg (by omega), if_pos hm]
        · rw [← g4]
          refine sqT_congr hW _ (by omega) (fun w h1 h2 ⟨x, h3, h4⟩ => ?_)
          have hm : ¬ tM T w &&& tM T (tL T v) ≠ 0 := fun q => q (by
            apply Nat.eq_of_testBit_eq
            intro y
            rw [Nat.testBit_and, Nat.zero_testBit]
            cases h5 : (tM T w).testBit y with
            | false => rfl
            | true =>
              have h6 := sub_branch hW hv (show w < v by omega) b e h3 h4 y h5
              cases h7 : (tM T (tL T v)).testBit y with
              | false => rfl
              | true => exact absurd ⟨h7, h6⟩ (hasL_dis hW hj hv))
          rw [if_neg (by omega), if_neg hm]
      rcases q3 with rfl | ⟨hd, rfl⟩
      · obtain ⟨f, k1, k2, k3, k4⟩ := key false (fun q => by cases q)
        exact ⟨f, k1, by rw [sqT_join hW hj hv, k2, k3, k4]; rfl⟩
      · obtain ⟨f, k1, k2, k3, k4⟩ := key true (fun _ => hd)
        exact ⟨f, k1, by rw [sqT_join hW hj hv, k2, k3, k4]; rfl⟩
/-- the order as a list -/
def ordL (T : TT) : List Nat := (List.range (tN T)).map (ordT T)
theorem range_add (a b : Nat) {α : Type} (g : Nat → α) : (List.range (a + b)).map g = (List.range a).map g ++ (List.range b).map (fun i => g (a + i)) := by
  rw [List.range_add, List.map_append, List.map_map]
  rfl
/-- the order of a tree, turned, is its list -/
theorem ord_sq {T : TT} (hW : Wf T) (f : Nat → Bool) : ∀ v, v < 2 * tN T - 1 → (List.range (cB (tM T v))).map (fun i => ordT (turnBy T f) (posT (turnBy T f) v + i)) = sqT T f v := by
  have hW2 : Wf (turnBy T f) := Wf_turn hW
  intro v
  induction v using Nat.strongRecOn with
  | ind v ih =>
    intro hv
    by_cases hl : v < tN T
    · rw [sqT_leaf hl, hW.2.2.2.2.1 v hl, cB_pow (by have := hW.2.1; omega)]
      show [ordT (turnBy T f) (posT (turnBy T f) v + 0)] = [v]
      rw [Nat.add_zero, ord_pos hW2 hl]
    · have hj : tN T ≤ v := by omega
      obtain ⟨a, b, -⟩ := hW.2.2.1 v hj hv
      have iL := ih _ a (by omega)
      have iR := ih _ b (by omega)
      have hs := cB_join hW hj hv
      have pL := posT_L hW2 (j := v) hj hv
      have pR := posT_R hW2 (j := v) hj hv
      rw [sqT_join hW hj hv]
      cases hb : f v with
      | true =>
        have eL : tL (turnBy T f) v = tR T v := by show (if f v then _ else _) = _; rw [hb]; rfl
        have eR : tR (turnBy T f) v = tL T v := by show (if f v then _ else _) = _; rw [hb]; rfl
        rw [eL] at pL pR
        rw [eR] at pR
        rw [pL] at iR
        rw [pR] at iL
        rw [hs, Nat.add_comm, range_add, iR]
        show _ = sqT T f (tR T v) ++ sqT T f (tL T v)
        rw [← iL]
        congr 1
        apply List.map_congr_left
        intro i _
        show ordT _ (posT _ v + (cB (tM T (tR T v)) + i)) = ordT _ (posT _ v + cB (tM T (tR T v)) + i)
        rw [Nat.add_assoc]
      | false =>
        have eL : tL (turnBy T f) v = tL T v := by show (if f v then _ else _) = _; rw [hb]; rfl
        have eR : tR (turnBy T f) v = tR T v := by show (if f v then _ else _) = _; rw [hb]; rfl
        rw [eL] at pL pR
        rw [eR] at pR
        rw [pL] at iL
        rw [pR] at iR
        rw [hs, range_add, iL]
        show _ = sqT T f (tL T v) ++ sqT T f (tR T v)
        rw [← iR]
        congr 1
        apply List.map_congr_left
        intro i _
        show ordT _ (posT _ v + (cB (tM T (tL T v)) + i)) = ordT _ (posT _ v + cB (tM T (tL T v)) + i)
        rw [Nat.add_assoc]
theorem ordL_sq {T : TT} (hW : Wf T) (f : Nat → Bool) : ordL (turnBy T f) = sqT T f (2 * tN T - 2) := by
  have h1 := hW.1
  rw [← ord_sq hW f (2 * tN T - 2) (by omega), hW.2.2.2.2.2.2.1, cB_full hW.2.1]
  unfold ordL
  apply List.map_congr_left
  intro i _
  have : posT (turnBy T f) (2 * tN T - 2) = 0 := posT_top (T := turnBy T f)
  rw [this, Nat.zero_add]
/-- a set of bits out of a function -/
def bitsOf (g : Nat → Bool) (n : Nat) : Nat := sumTo (fun k => if g k then 2 ^ k else 0) n
theorem bitsOf_lt (g : Nat → Bool) : ∀ n, bitsOf g n < 2 ^ n
  | 0 => by show 0 < 1; omega
  | n + 1 => by
    have := bitsOf_lt g n
    show sumTo _ n + (if g n then 2 ^ n else 0) < 2 ^ (n + 1)
    have e : sumTo (fun k => if g k then 2 ^ k else 0) n = bitsOf g n := rfl
    rw [e, Nat.pow_succ]
    split <;> omega
theorem bitsOf_bit (g : Nat → Bool) : ∀ n k, (bitsOf g n).testBit k = (decide (k < n) && g k)
  | 0, k => by show (0 : Nat).testBit k = _; rw [Nat.zero_testBit]; simp
  | n + 1, k => by
    have ih := bitsOf_bit g n k
    have hl := bitsOf_lt g n
    have e : bitsOf g (n + 1) = bitsOf g n + (if g n then 2 ^ n else 0) := rfl
    rw [e]
    cases hg : g n with
    | false =>
      simp only [Bool.false_eq_true, if_false, Nat.add_zero]
      rw [ih]
      by_cases hk : k = n
      · subst hk; simp [hg]
      · have : (k < n + 1) ↔ (k < n) := by omega
        simp [this]
    | true =>
      simp only [if_true]
      rw [Nat.add_comm]
      by_cases hk : k = n
      · subst hk
        rw [Nat.testBit_two_pow_add_eq, ih]
        simp [hg]
      · by_cases hk2 : k < n
        · rw [Nat.testBit_two_pow_add_gt hk2, ih]
          have : k < n + 1 := by omega
          simp [hk2, this]
        · have h2 : 2 ^ n + bitsOf g n < 2 ^ k := by
            have : 2 ^ (n + 1) ≤ 2 ^ k := Nat.pow_le_pow_right (by omega) (by omega)
            rw [Nat.pow_succ] at this
            omega
          rw [Nat.testBit_lt_two_pow h2]
          have : ¬ k < n + 1 := by omega
          simp [this]
theorem may_vld {T : TT} {s : Nat} : mayT T s = true ↔ ∀ w, tN T ≤ w → w < 2 * tN T - 1 → s.testBit (w - tN T) = true → tD T w = false := by
  unfold mayT
  rw [decide_eq_true_eq]
  constructor
  · intro h w h1 h2 h3
    have := h (w - tN T) (by omega)
    rw [show tN T + (w - tN T) = w by omega] at this
    cases hd : tD T w with
    | false => rfl
    | true => exact absurd ⟨hd, h3⟩ this
  · intro h k hk ⟨h1, h2⟩
    have := h (tN T + k) (by omega) (by omega) (by rw [show tN T + k - tN T = k by omega]; exact h2)
    rw [this] at h1
    cases h1
/-- orders by valid sets of turns are just the node's orders at the top -/
theorem set_VT {T : TT} (hW : Wf T) {s : Nat} (h : mayT T s = true) : VT T (2 * tN T - 2) (ordL (setT T s)) := by
  have h1 := hW.1
  have e := ordL_sq hW (fun v => s.testBit (v - tN T))
  unfold setT
  rw [e]
  exact sq_VT hW (fun w h1 h2 h3 => may_vld.mp h w h1 h2 h3) _ (by omega)
theorem VT_set {T : TT} (hW : Wf T) {l : List Nat} (h : VT T (2 * tN T - 2) l) : ∃ s, s < 2 ^ (tN T - 1) ∧ mayT T s = true ∧ ordL (setT T s) = l := by
  have h1 := hW.1
  obtain ⟨f, g1, g2⟩ := VT_sq hW _ (by omega) l h
  have hb : ∀ w, tN T ≤ w → w < 2 * tN T - 1 → (bitsOf (fun k => f (tN T + k)) (tN T - 1)).testBit (w - tN T) = f w := fun w q1 q2 => by
    rw [bitsOf_bit]
    have : w - tN T < tN T - 1 := by omega
    simp only [this, decide_true, Bool.true_and]
    congr 1
    omega
  refine ⟨bitsOf (fun k => f (tN T + k)) (tN T - 1), bitsOf_lt _ _, may_vld.mpr (fun w q1 q2 q3 => g1 w q1 q2 (by rw [← hb w q1 q2]; exact q3)), ?_⟩
  unfold setT
  rw [ordL_sq hW, ← g2]
  exact sqT_congr hW _ (by omega) (fun w q1 q2 _ => hb w q1 (by omega))
/-- the first set of turns with the least price, of these with the first order -/
def keyT (u : Nat → Nat → Nat) (T : TT) : Nat := keyL u (ordL T)
/-- the first with the least key of those that may -/
def amF (may : Nat → Bool) (key : Nat → Nat) : Nat → Option Nat
  | 0 => none
  | s + 1 => if may s then (match amF may key s with
      | none => some s
      | some b => if key s < key b then some s else some b) else amF may key s
theorem amF_no {may : Nat → Bool} {key : Nat → Nat} {s : Nat} (h : may s = false) : amF may key (s + 1) = amF may key s := by
  show (if may s then _ else _) = _
  rw [h]
  rfl
theorem amF_first {may : Nat → Bool} {key : Nat → Nat} {s : Nat} (h : may s = true) (hn : amF may key s = none) : amF may key (s + 1) = some s := by
  show (if may s then _ else _) = _
  rw [if_pos h, hn]
theorem amF_less {may : Nat → Bool} {key : Nat → Nat} {s b : Nat} (h : may s = true) (hb : amF may key s = some b) (hl : key s < key b) : amF may key (s + 1) = some s := by
  show (if may s then _ else _) = _
  rw [if_pos h, hb]
  exact if_pos hl
theorem amF_keep {may : Nat → Bool} {key : Nat → Nat} {s b : Nat} (h : may s = true) (hb : amF may key s = some b) (hl : ¬ key s < key b) : amF may key (s + 1) = some b := by
  show (if may s then _ else _) = _
  rw [if_pos h, hb]
  exact if_neg hl
theorem amF_ok {may : Nat → Bool} {key : Nat → Nat} (k : Nat) : (∀ b, amF may key k = some b → b < k ∧ may b = true ∧ ∀ s, s < k → may s = true → key b ≤ key s) ∧ (amF may key k = none → ∀ s, s < k → may s = false) := by
  induction k with
  | zero => exact ⟨fun b hb => (by cases hb), fun _ s hs => absurd hs (Nat.not_lt_zero s)⟩
  | succ k ih =>
    obtain ⟨ih1, ih2⟩ := ih
    cases hm : may k with
    | false =>
      rw [amF_no hm]
      refine ⟨fun b hb => ?_, fun hn s hs => ?_⟩
      · obtain ⟨q1, q2, q3⟩ := ih1 b hb
        refine ⟨by omega, q2, fun s hs hms => ?_⟩
        by_cases e2 : s = k
        · rw [e2, hm] at hms; cases hms
        · exact q3 s (by omega) hms
      · by_cases e2 : s = k
        · rw [e2]; exact hm
        · exact ih2 hn s (by omega)
    | true =>
      cases hb0 : amF may key k with
      | none =>
        rw [amF_first hm hb0]
        refine ⟨fun b hb => ?_, fun hn => by cases hn⟩
        cases hb
        refine ⟨by omega, hm, fun s hs hms => ?_⟩
        by_cases e2 : s = k
        · rw [e2]; exact Nat.le_refl _
        · rw [ih2 hb0 s (by omega)] at hms; cases hms
      | some b0 =>
        obtain ⟨q1, q2, q3⟩ := ih1 b0 hb0
        by_cases hlt : key k < key b0
        · rw [amF_less hm hb0 hlt]
          refine ⟨fun b hb => ?_, fun hn => by cases hn⟩
          cases hb
          refine ⟨by omega, hm, fun s hs hms => ?_⟩
          by_cases e2 : s = k
          · rw [e2]; exact Nat.le_refl _
          · have := q3 s (by omega) hms; omega
        · rw [amF_keep hm hb0 hlt]
          refine ⟨fun b hb => ?_, fun hn => by cases hn⟩
          cases hb
          refine ⟨by omega, q2, fun s hs hms => ?_⟩
          by_cases e2 : s = k
          · rw [e2]; omega
          · exact q3 s (by omega) hms
def btS (T : TT) (u : Nat → Nat → Nat) : Nat → Option Nat := amF (mayT T) (fun s => keyT u (setT T s))
theorem btS_ok {T : TT} {u : Nat → Nat → Nat} (k : Nat) : (∀ b, btS T u k = some b → b < k ∧ mayT T b = true ∧ ∀ s, s < k → mayT T s = true → keyT u (setT T b) ≤ keyT u (setT T s)) ∧ (btS T u k = none → ∀ s, s < k → mayT T s = false) := amF_ok (may := mayT T) (key := fun s => keyT u (setT T s)) k
theorem mayT_0 {T : TT} : mayT T 0 = true := by
  unfold mayT
  rw [decide_eq_true_eq]
  intro k hk h
  rw [Nat.zero_testBit] at h
  cases h.2
def bestS (T : TT) (u : Nat → Nat → Nat) : Nat := (btS T u (2 ^ (tN T - 1))).getD 0
theorem bestS_ok {T : TT} {u : Nat → Nat → Nat} : btS T u (2 ^ (tN T - 1)) = some (bestS T u) ∧ bestS T u < 2 ^ (tN T - 1) ∧ mayT T (bestS T u) = true ∧ ∀ s, s < 2 ^ (tN T - 1) → mayT T s = true → keyT u (setT T (bestS T u)) ≤ keyT u (setT T s) := by
  obtain ⟨h1, h2⟩ := btS_ok (T := T) (u := u) (2 ^ (tN T - 1))
  unfold bestS
  cases hq : btS T u (2 ^ (tN T - 1)) with
  | none =>
    have := h2 hq 0 (Nat.two_pow_pos _)
    rw [mayT_0] at this
    cases this
  | some b =>
    obtain ⟨q1, q2, q3⟩ := h1 b hq
    exact ⟨rfl, q1, q2, q3⟩
/-- TREE turned to its BEST -/
def bestT (T : TT) (u : Nat → Nat → Nat) : TT := flipsBy T (fun v => decide (tN T ≤ v) && (decide (v < 2 * tN T - 1) && (bestS T u).testBit (v - tN T)))
/-- a list's number tells the list -/
theorem cd_inj : ∀ (l l' : List Nat), l.length = l'.length → (∀ x ∈ l, x < 16) → (∀ x ∈ l', x < 16) → cdL l = cdL l' → l = l'
  | [], [], _, _, _, _ => rfl
  | [], _ :: _, h, _, _, _ => by cases h
  | _ :: _, [], h, _, _, _ => by cases h
  | x :: t, y :: t', h, h1, h2, h3 => by
    have e1 : cdL (x :: t) = x * 16 ^ t.length + cdL t := by
      have : cdL (x :: t) = cdL ([x] ++ t) := rfl
      have e0 : cdL [x] = x := by show 0 * 16 + x = x; omega
      rw [this, cd_app, e0]
    have e2 : cdL (y :: t') = y * 16 ^ t'.length + cdL t' := by
      have : cdL (y :: t') = cdL ([y] ++ t') := rfl
      have e0 : cdL [y] = y := by show 0 * 16 + y = y; omega
      rw [this, cd_app, e0]
    have hl : t.length = t'.length := by simpa using h
    have c1 := cd_lt t (fun z hz => h1 z (List.mem_cons_of_mem _ hz))
    have c2 := cd_lt t' (fun z hz => h2 z (List.mem_cons_of_mem _ hz))
    rw [e1, e2, hl] at h3
    rw [hl] at c1
    have a1 := lex_le (Nat.le_of_eq h3) c2
    have a2 := lex_le (Nat.le_of_eq h3.symm) c1
    have a3 : x = y := by omega
    subst a3
    have a4 : cdL t = cdL t' := Nat.add_left_cancel h3
    rw [cd_inj t t' hl (fun z hz => h1 z (List.mem_cons_of_mem _ hz)) (fun z hz => h2 z (List.mem_cons_of_mem _ hz)) a4]
/-- the least order is that of the best set -/
theorem best_list {T : TT} (hW : Wf T) {u : Nat → Nat → Nat} {l : List Nat} (h1 : VT T (2 * tN T - 2) l) (h2 : ∀ m, VT T (2 * tN T - 2) m → keyL u l ≤ keyL u m) : l = ordL (setT T (bestS T u)) := by
  have hn := hW.1
  have h10 := hW.2.1
  obtain ⟨-, b1, b2, b3⟩ := bestS_ok (T := T) (u := u)
  have v2 := set_VT hW b2
  obtain ⟨s, s1, s2, s3⟩ := VT_set hW h1
  have k1 := h2 _ v2
  have k2 := b3 s s1 s2
  unfold keyT at k2
  rw [s3] at k2
  obtain ⟨f1, f2, f3⟩ := VT_facts hW _ (by omega) l h1
  obtain ⟨g1, g2, g3⟩ := VT_facts hW _ (by omega) _ v2
  have c := cB_le (tM T (2 * tN T - 2))
  have d1 := key_div (u := u) (VT_small hW (by omega) h1) (by omega)
  have d2 := key_div (u := u) (VT_small hW (by omega) v2) (by omega)
  have e : keyL u l = keyL u (ordL (setT T (bestS T u))) := by omega
  exact cd_inj _ _ (by rw [f2, g2]) (VT_small hW (by omega) h1) (VT_small hW (by omega) v2) (by rw [← d1.2, ← d2.2, e])
