/-! axes: the pure side -/
def zI (z : Int) : Int32 := Int32.ofInt z
theorem zI_add (a b : Int) : zI a + zI b = zI (a + b) := (Int32.ofInt_add a b).symm
theorem zI_toInt {a : Int} (h1 : -2147483648 ≤ a) (h2 : a < 2147483648) : (zI a).toInt = a := by
  exact Int32.toInt_ofInt_of_le (by omega) (by omega)
theorem zI_lt {a b : Int} (ha : -1000000 ≤ a ∧ a ≤ 1000000) (hb : -1000000 ≤ b ∧ b ≤ 1000000) : zI a < zI b ↔ a < b := by
  rw [Int32.lt_iff_toInt_lt, zI_toInt (by omega) (by omega), zI_toInt (by omega) (by omega)]
theorem zI_le {a b : Int} (ha : -1000000 ≤ a ∧ a ≤ 1000000) (hb : -1000000 ≤ b ∧ b ≤ 1000000) : zI a ≤ zI b ↔ a ≤ b := by
  rw [Int32.le_iff_toInt_le, zI_toInt (by omega) (by omega), zI_toInt (by omega) (by omega)]
theorem zI_nat (n : Nat) : nI n = zI (n : Int) := rfl
/-- a set without one of its members -/
def del (s a : Nat) : Nat := s &&& (255 ^^^ 2 ^ a)
theorem del_bit {s a i : Nat} (hs : s < 256) (ha : a < 8) : (del s a).testBit i = (s.testBit i && decide (i ≠ a)) := by
  unfold del
  rw [Nat.testBit_and, Nat.testBit_xor, Nat.testBit_two_pow]
  by_cases hi : i < 8
  · have h255 : (255 : Nat).testBit i = true := by
      have : ∀ i, i < 8 → (255 : Nat).testBit i = true := by decide
      exact this i hi
    rw [h255]
    by_cases e : a = i
    · simp [e]
    · have : ¬ i = a := fun q => e q.symm
      simp [e, this]
  · have : s.testBit i = false := by
      apply Nat.testBit_lt_two_pow
      exact Nat.lt_of_lt_of_le hs (by rw [show 256 = 2 ^ 8 by decide]; exact Nat.pow_le_pow_right (by omega) (by omega))
    rw [this]
    rfl
theorem del_lt256 {s a : Nat} (hs : s < 256) : del s a < 256 := Nat.lt_of_le_of_lt Nat.and_le_left hs
theorem del_lt {s a : Nat} (hs : s < 256) (ha : a < 8) (h : s.testBit a = true) : del s a < s := by
  have key : ∀ s, s < 256 → ∀ a, a < 8 → s.testBit a = true → del s a < s := by decide +kernel
  exact key s hs a ha h
theorem del_jvm {s a : Nat} (hs : s < 256) (ha : a < 8) : nI s &&& ((nI 1 <<< (nI a &&& 31)) ^^^ (-1)) = nI (del s a) := by
  have key : ∀ s, s < 256 → ∀ a, a < 8 → nI s &&& ((nI 1 <<< (nI a &&& 31)) ^^^ (-1)) = nI (del s a) := by decide +kernel
  exact key s hs a ha
theorem cB_del {s a : Nat} (hs : s < 256) (ha : a < 8) (h : s.testBit a = true) : cB (del s a) + 1 = cB s := by
  have key : ∀ s, s < 256 → ∀ a, a < 8 → s.testBit a = true → cB (del s a) + 1 = cB s := by decide +kernel
  exact key s hs a ha h
/-- of a set the first with the greatest value -/
def bnS (val : Nat → Int) (s : Nat) : Nat → Option (Nat × Int)
  | 0 => none
  | b + 1 => if s.testBit b then (match bnS val s b with
      | none => some (b, val b)
      | some z => if z.2 < val b then some (b, val b) else some z) else bnS val s b
theorem bnS_ok {val : Nat → Int} {s : Nat} : ∀ {m : Nat} {z : Nat × Int}, bnS val s m = some z → z.1 < m ∧ s.testBit z.1 = true ∧ z.2 = val z.1
  | m + 1, z, h => by
    unfold bnS at h
    split at h
    · next hb =>
      split at h
      · cases h; exact ⟨by omega, hb, rfl⟩
      · next z0 hz0 =>
        split at h
        · cases h; exact ⟨by omega, hb, rfl⟩
        · cases h
          obtain ⟨a, b, c⟩ := bnS_ok hz0
          exact ⟨by omega, b, c⟩
    · obtain ⟨a, b, c⟩ := bnS_ok h
      exact ⟨by omega, b, c⟩
theorem bnS_none {val : Nat → Int} {s : Nat} : ∀ {m : Nat}, bnS val s m = none → ∀ b, b < m → s.testBit b = false
  | m + 1, h, b, hb => by
    unfold bnS at h
    split at h
    · split at h
      · cases h
      · split at h <;> cases h
    · next hb2 =>
      by_cases e : b = m
      · rw [e]
        cases hq : s.testBit m with
        | false => rfl
        | true => exact absurd hq hb2
      · exact bnS_none h b (by omega)
theorem bnS_congr {val val' : Nat → Int} {s : Nat} : ∀ {m : Nat}, (∀ b, b < m → s.testBit b = true → val b = val' b) → bnS val s m = bnS val' s m
  | 0, _ => rfl
  | m + 1, h => by
    unfold bnS
    rw [bnS_congr (m := m) (fun b hb ht => h b (by omega) ht)]
    split
    · next hb => rw [h m (by omega) hb]
    · rfl
/-- the greatest of a set's values is reached, and none is above it -/
theorem bnS_max {val : Nat → Int} {s : Nat} : ∀ {m : Nat} {z : Nat × Int}, bnS val s m = some z → ∀ b, b < m → s.testBit b = true → val b ≤ z.2
  | m + 1, z, h, b, hb, ht => by
    unfold bnS at h
    split at h
    · split at h
      · next hn =>
        cases h
        by_cases e : b = m
        · subst e; exact Int.le_refl _
        · have := bnS_none hn b (by omega)
          rw [this] at ht; cases ht
      · next z0 hz0 =>
        by_cases e : b = m
        · subst e
          split at h
          · cases h; exact Int.le_refl _
          · cases h; omega
        · have := bnS_max hz0 b (by omega) ht
          split at h
          · next hlt => cases h; show val b ≤ val m; omega
          · cases h; exact this
    · next hb2 =>
      by_cases e : b = m
      · subst e; exact absurd ht hb2
      · exact bnS_max h b (by omega) ht
/-- what a set is worth at most behind an axis: a table by sets -/
def ahTab (W : Nat → Nat → Int) (m : Nat) : Nat → Nat → Nat → Int
  | 0 => fun _ _ => 0
  | k + 1 => fun s a => if s = k then (match bnS (fun b => W a b + ahTab W m k (del s b) b) s m with
      | none => 0
      | some z => z.2) else ahTab W m k s a
theorem ahTab_st {W : Nat → Nat → Int} {m : Nat} {s a : Nat} : ∀ {k : Nat}, s < k → ahTab W m k s a = ahTab W m (s + 1) s a
  | k + 1, h => by
    by_cases e : s = k
    · subst e; rfl
    · have : ahTab W m (k + 1) s a = ahTab W m k s a := if_neg e
      rw [this]
      exact ahTab_st (by omega)
def ahV (W : Nat → Nat → Int) (m s a : Nat) : Int := ahTab W m 256 s a
theorem ahV_eq {W : Nat → Nat → Int} {m s a : Nat} (hm : m ≤ 8) (hs : s < 256) : ahV W m s a = match bnS (fun b => W a b + ahV W m (del s b) b) s m with
    | none => 0
    | some z => z.2 := by
  unfold ahV
  rw [ahTab_st hs]
  show (if s = s then (match bnS (fun b => W a b + ahTab W m s (del s b) b) s m with | none => 0 | some z => z.2) else _) = _
  rw [if_pos rfl, bnS_congr (fun b hb ht => by
    rw [ahTab_st (del_lt hs (by omega) ht), ← ahTab_st (k := 256) (s := del s b) (del_lt256 hs)])]
def okW (W : Nat → Nat → Int) : Prop := ∀ a b, -1000 ≤ W a b ∧ W a b ≤ 1000
theorem ahV_le {W : Nat → Nat → Int} {m : Nat} (hm : m ≤ 8) (hW : okW W) : ∀ (s a : Nat), s < 256 → -(1000 * (cB s : Int)) ≤ ahV W m s a ∧ ahV W m s a ≤ 1000 * (cB s : Int) := by
  intro s
  induction s using Nat.strongRecOn with
  | ind s ih =>
    intro a hs
    rw [ahV_eq hm hs]
    cases hb : bnS (fun b => W a b + ahV W m (del s b) b) s m with
    | none => show -(1000 * (cB s : Int)) ≤ 0 ∧ (0 : Int) ≤ _; omega
    | some z =>
      obtain ⟨z1, z2, z3⟩ := bnS_ok hb
      show -(1000 * (cB s : Int)) ≤ z.2 ∧ z.2 ≤ _
      rw [z3]
      have h1 := ih (del s z.1) (del_lt hs (by omega) z2) z.1 (del_lt256 hs)
      have h2 := cB_del hs (by omega) z2
      have h3 := hW a z.1
      omega
theorem ahV_bd {W : Nat → Nat → Int} {m : Nat} (hm : m ≤ 8) (hW : okW W) {s a : Nat} (hs : s < 256) : -10000 ≤ ahV W m s a ∧ ahV W m s a ≤ 10000 := by
  have h1 := ahV_le hm hW s a hs
  have h2 := cB_le s
  omega
def wbV (W : Nat → Nat → Int) (p : Option Nat) (b : Nat) : Int := match p with
  | none => 0
  | some a => W a b
/-- what an axis is worth next: behind p, with the rest of a set behind it -/
def nxV (W : Nat → Nat → Int) (m : Nat) (p : Option Nat) (s b : Nat) : Int := wbV W p b + ahV W m (del s b) b
/-- the laying, as far as place i: what was laid, what is left, the worth -/
def lyS (W : Nat → Nat → Int) (m : Nat) : Nat → (Nat → Nat) × Nat × Int
  | 0 => (fun _ => 0, 2 ^ m - 1, 0)
  | i + 1 => match bnS (nxV W m (if i = 0 then none else some ((lyS W m i).1 (i - 1))) (lyS W m i).2.1) (lyS W m i).2.1 m with
    | none => lyS W m i
    | some z => (va_up (lyS W m i).1 i z.1, del (lyS W m i).2.1 z.1, (lyS W m i).2.2 + wbV W (if i = 0 then none else some ((lyS W m i).1 (i - 1))) z.1)
theorem pow_bits {m : Nat} (hm : m ≤ 8) : 2 ^ m - 1 < 256 ∧ ∀ i, (2 ^ m - 1).testBit i = decide (i < m) := by
  refine ⟨?_, fun i => Nat.testBit_two_pow_sub_one m i⟩
  have key : ∀ m, m ≤ 8 → 2 ^ m - 1 < 256 := by decide
  exact key m hm
theorem lyS_ok {W : Nat → Nat → Int} {m : Nat} (hm : m ≤ 8) : ∀ i, i ≤ m → (lyS W m i).2.1 < 256 ∧ cntB (fun b => (lyS W m i).2.1.testBit b) m = m - i ∧ (∀ j, j < i → (lyS W m i).1 j < m)
  | 0, _ => by
    obtain ⟨h1, h2⟩ := pow_bits hm
    refine ⟨h1, ?_, fun j hj => absurd hj (Nat.not_lt_zero j)⟩
    show cntB (fun b => (2 ^ m - 1).testBit b) m = m - 0
    rw [cntB_all (fun k hk => by show (2 ^ m - 1).testBit k = true; rw [h2]; exact decide_eq_true hk)]
    rfl
  | i + 1, h => by
    obtain ⟨h1, h2, h3⟩ := lyS_ok (W := W) hm i (by omega)
    unfold lyS
    cases hb : bnS (nxV W m (if i = 0 then none else some ((lyS W m i).1 (i - 1))) (lyS W m i).2.1) (lyS W m i).2.1 m with
    | none =>
      exfalso
      have := bnS_none hb
      rw [cntB_none this] at h2
      omega
    | some z =>
      obtain ⟨z1, z2, z3⟩ := bnS_ok hb
      refine ⟨del_lt256 h1, ?_, fun j hj => ?_⟩
      · have := cntB_off (p := fun b => (lyS W m i).2.1.testBit b) (p' := fun b => (del (lyS W m i).2.1 z.1).testBit b) (n := m) z1 z2 (by rw [del_bit h1 (by omega)]; simp) (fun k hk => by rw [del_bit h1 (by omega)]; simp [hk])
        show cntB (fun b => (del (lyS W m i).2.1 z.1).testBit b) m = m - (i + 1)
        omega
      · show va_up (lyS W m i).1 i z.1 j < m
        by_cases e : j = i
        · rw [e, va_up_s]; exact z1
        · rw [va_up_o e]; exact h3 j (by omega)
theorem lyS_next {W : Nat → Nat → Int} {m i : Nat} (hm : m ≤ 8) (hi : i < m) : ∃ z, bnS (nxV W m (if i = 0 then none else some ((lyS W m i).1 (i - 1))) (lyS W m i).2.1) (lyS W m i).2.1 m = some z ∧ lyS W m (i + 1) = (va_up (lyS W m i).1 i z.1, del (lyS W m i).2.1 z.1, (lyS W m i).2.2 + wbV W (if i = 0 then none else some ((lyS W m i).1 (i - 1))) z.1) := by
  obtain ⟨h1, h2, h3⟩ := lyS_ok (W := W) hm i (by omega)
  cases hb : bnS (nxV W m (if i = 0 then none else some ((lyS W m i).1 (i - 1))) (lyS W m i).2.1) (lyS W m i).2.1 m with
  | none =>
    exfalso
    have := bnS_none hb
    rw [cntB_none this] at h2
    omega
  | some z =>
    refine ⟨z, rfl, ?_⟩
    show (match bnS (nxV W m (if i = 0 then none else some ((lyS W m i).1 (i - 1))) (lyS W m i).2.1) (lyS W m i).2.1 m with | none => _ | some z => _) = _
    rw [hb]
/-- the greatest worth, as the first step tells it -/
def lyG (W : Nat → Nat → Int) (m : Nat) : Int := match bnS (nxV W m none (2 ^ m - 1)) (2 ^ m - 1) m with
  | none => 0
  | some z => z.2
/-- the worth of what is laid, and what is still to come, is always the first step's -/
theorem lyS_sum {W : Nat → Nat → Int} {m : Nat} (hm : m ≤ 8) : ∀ i, 0 < i → i ≤ m → (lyS W m i).2.2 + ahV W m (lyS W m i).2.1 ((lyS W m i).1 (i - 1)) = lyG W m
  | 1, _, h => by
    obtain ⟨z, hz, hl⟩ := lyS_next (W := W) (i := 0) hm (by omega)
    rw [hl]
    have hz : bnS (nxV W m none (2 ^ m - 1)) (2 ^ m - 1) m = some z := hz
    show (0 + (0 : Int)) + ahV W m (del (2 ^ m - 1) z.1) (va_up (fun _ => 0) 0 z.1 0) = lyG W m
    rw [va_up_s]
    unfold lyG
    rw [hz]
    obtain ⟨-, -, z3⟩ := bnS_ok hz
    show _ = z.2
    rw [z3]
    show _ = 0 + ahV W m (del (2 ^ m - 1) z.1) z.1
    omega
  | i + 2, _, h => by
    have ih := lyS_sum (W := W) hm (i + 1) (by omega) (by omega)
    obtain ⟨z, hz, hl⟩ := lyS_next (W := W) (i := i + 1) hm (by omega)
    obtain ⟨h1, h2, h3⟩ := lyS_ok (W := W) hm (i + 1) (by omega)
    rw [hl]
    rw [if_neg (Nat.succ_ne_zero i)] at hz ⊢
    show ((lyS W m (i + 1)).2.2 + wbV W _ z.1) + ahV W m (del (lyS W m (i + 1)).2.1 z.1) (va_up _ (i + 1) z.1 (i + 1)) = lyG W m
    rw [va_up_s]
    obtain ⟨-, -, z3⟩ := bnS_ok hz
    have e : ahV W m (lyS W m (i + 1)).2.1 ((lyS W m (i + 1)).1 (i + 1 - 1)) = z.2 := by
      rw [ahV_eq hm h1]
      have hz' : bnS (fun b => W ((lyS W m (i + 1)).1 (i + 1 - 1)) b + ahV W m (del (lyS W m (i + 1)).2.1 b) b) (lyS W m (i + 1)).2.1 m = some z := hz
      rw [hz']
    rw [← ih, e, z3]
    show _ = (lyS W m (i + 1)).2.2 + (wbV W _ z.1 + ahV W m (del (lyS W m (i + 1)).2.1 z.1) z.1)
    omega
theorem ahV_none {W : Nat → Nat → Int} {m s a : Nat} (hm : m ≤ 8) (hs : s < 256) (h : ∀ b, b < m → s.testBit b = false) : ahV W m s a = 0 := by
  rw [ahV_eq hm hs]
  cases hb : bnS (fun b => W a b + ahV W m (del s b) b) s m with
  | none => rfl
  | some z =>
    obtain ⟨z1, z2, -⟩ := bnS_ok hb
    rw [h _ z1] at z2
    cases z2
theorem lyS_worth {W : Nat → Nat → Int} {m : Nat} (hm : m ≤ 8) : (lyS W m m).2.2 = lyG W m := by
  by_cases h0 : m = 0
  · subst h0; rfl
  · have h1 := lyS_sum (W := W) hm m (by omega) (Nat.le_refl m)
    obtain ⟨q1, q2, q3⟩ := lyS_ok (W := W) hm m (Nat.le_refl m)
    have hz : ∀ b, b < m → (lyS W m m).2.1.testBit b = false := fun b hb => by
      cases hq : (lyS W m m).2.1.testBit b with
      | false => rfl
      | true =>
        exfalso
        have := cntB_off (p := fun b => (lyS W m m).2.1.testBit b) (p' := fun k => (lyS W m m).2.1.testBit k && decide (k ≠ b)) (n := m) hb hq (by simp) (fun k hk => by simp [hk])
        omega
    rw [ahV_none hm q1 hz] at h1
    omega
/-- the class's axes -/
def AxC (σ : AH) (m : Nat) (W : Nat → Nat → Int) : Prop := σ.1 11 3 = nI m ∧ m ≤ 8 ∧ (∀ a b, a < 8 → b < 8 → σ.1 (50 + a) b = zI (W a b)) ∧ okW W
def bA : Option (Nat × Int) → Int32
  | none => -9
  | some z => nI z.1
def bV : Option (Nat × Int) → Int
  | none => 0
  | some z => z.2
def dgWrow (f : Nat → Int32) (a : Nat) : Nat → Int64 → Int64
  | 0, h => h
  | j + 1, h => 31 * dgWrow f a j h + (f (a + 1 + j)).toInt64
def dgW (W : Nat → Nat → Int) (m : Nat) : Nat → Int64 → Int64
  | 0, h => h
  | a + 1, h => dgWrow (fun b => zI (W a b)) a (m - (a + 1)) (dgW W m a h)
