/-! making a tree: the pure side -/
abbrev SC : Type := Option (Nat × Nat × Nat × Nat)
def betS (q : Nat → Nat → Nat × Nat) (a b : Nat) (s : SC) : Bool := match s with
  | none => true
  | some z => decide ((q a b).1 * z.2.2.2 < z.2.2.1 * (q a b).2)
def stepS (q : Nat → Nat → Nat × Nat) (act : Nat → Bool) (a b : Nat) (s : SC) : SC :=
  if act a && act b then (if betS q a b s then some (a, b, (q a b).1, (q a b).2) else s) else s
def scI (q : Nat → Nat → Nat × Nat) (act : Nat → Bool) (a : Nat) : Nat → SC → SC
  | 0, s => s
  | j + 1, s => stepS q act a (a + 1 + j) (scI q act a j s)
def scO (q : Nat → Nat → Nat × Nat) (act : Nat → Bool) (n : Nat) : Nat → SC
  | 0 => none
  | a + 1 => scI q act a (n - (a + 1)) (scO q act n a)
/-- what a scan's state says -/
def okSC (q : Nat → Nat → Nat × Nat) (act : Nat → Bool) (n : Nat) (s : SC) : Prop := ∀ z, s = some z → z.1 < z.2.1 ∧ z.2.1 < n ∧ act z.1 = true ∧ act z.2.1 = true ∧ z.2.2.1 = (q z.1 z.2.1).1 ∧ z.2.2.2 = (q z.1 z.2.1).2
theorem stepS_ok {q : Nat → Nat → Nat × Nat} {act : Nat → Bool} {n a b : Nat} {s : SC} (hs : okSC q act n s) (hab : a < b) (hb : b < n) : okSC q act n (stepS q act a b s) := by
  unfold stepS
  split
  · next h =>
    have h := Bool.and_eq_true_iff.mp h
    split
    · intro z hz
      cases hz
      exact ⟨hab, hb, h.1, h.2, rfl, rfl⟩
    · exact hs
  · exact hs
theorem scI_ok {q : Nat → Nat → Nat × Nat} {act : Nat → Bool} {n a : Nat} {s : SC} (hs : okSC q act n s) : ∀ j, j ≤ n - (a + 1) → okSC q act n (scI q act a j s)
  | 0, _ => hs
  | j + 1, h => stepS_ok (scI_ok hs j (by omega)) (by omega) (by omega)
theorem scO_ok {q : Nat → Nat → Nat × Nat} {act : Nat → Bool} {n : Nat} : ∀ a, okSC q act n (scO q act n a)
  | 0 => fun z hz => by cases hz
  | a + 1 => scI_ok (scO_ok a) _ (Nat.le_refl _)
theorem stepS_some {q : Nat → Nat → Nat × Nat} {act : Nat → Bool} {a b : Nat} {s : SC} (h : s ≠ none) : stepS q act a b s ≠ none := by
  unfold stepS
  split
  · split
    · intro q; cases q
    · exact h
  · exact h
theorem stepS_new {q : Nat → Nat → Nat × Nat} {act : Nat → Bool} {a b : Nat} {s : SC} (ha : act a = true) (hb : act b = true) : stepS q act a b s ≠ none := by
  cases s with
  | some z => exact stepS_some (fun q => by cases q)
  | none =>
    unfold stepS betS
    simp [ha, hb]
theorem scI_some {q : Nat → Nat → Nat × Nat} {act : Nat → Bool} {a : Nat} {s : SC} (h : s ≠ none) : ∀ j, scI q act a j s ≠ none
  | 0 => h
  | j + 1 => stepS_some (scI_some h j)
theorem scI_new {q : Nat → Nat → Nat × Nat} {act : Nat → Bool} {a b : Nat} {s : SC} (ha : act a = true) (hb : act b = true) (hab : a < b) : ∀ j, b < a + 1 + j → scI q act a j s ≠ none
  | 0, h => by omega
  | j + 1, h => by
    by_cases e : b = a + 1 + j
    · rw [e] at hb
      exact stepS_new ha hb
    · exact stepS_some (scI_new ha hb hab j (by omega))
theorem scO_some {q : Nat → Nat → Nat × Nat} {act : Nat → Bool} {n a b : Nat} (ha : act a = true) (hb : act b = true) (hab : a < b) (hbn : b < n) : ∀ k, a < k → scO q act n k ≠ none
  | 0, h => by omega
  | k + 1, h => by
    by_cases e : a = k
    · subst e
      exact scI_new ha hb hab _ (by omega)
    · exact scI_some (scO_some ha hb hab hbn k (by omega)) _
/-- the state of a making: the node of a group by its least leaf; branches, joins above, sets, heights -/
abbrev MS : Type := (Nat → Option Nat) × (Nat → Nat) × (Nat → Nat) × (Nat → Option Nat) × (Nat → Nat) × (Nat → Nat)
def mD (S : MS) : Nat → Option Nat := S.1
def mL (S : MS) : Nat → Nat := S.2.1
def mR (S : MS) : Nat → Nat := S.2.2.1
def mU (S : MS) : Nat → Option Nat := S.2.2.2.1
def mM (S : MS) : Nat → Nat := S.2.2.2.2.1
def mH (S : MS) : Nat → Nat := S.2.2.2.2.2
def ndM (S : MS) (a : Nat) : Nat := (mD S a).getD 0
def qM (u : Nat → Nat → Nat) (w : Nat) (S : MS) (a b : Nat) : Nat × Nat := (fUp u w (mM S (ndM S a)) (mM S (ndM S b)), fLow w (mM S (ndM S a)) (mM S (ndM S b)))
def actM (S : MS) (a : Nat) : Bool := (mD S a).isSome
def pickM (u : Nat → Nat → Nat) (w n : Nat) (S : MS) : SC := scO (qM u w S) (actM S) n n
def joinZ (S : MS) (k : Nat) (z : Nat × Nat × Nat × Nat) : MS :=
  (va_up (va_up (mD S) z.1 (some k)) z.2.1 none, va_up (mL S) k (ndM S z.1), va_up (mR S) k (ndM S z.2.1), va_up (va_up (mU S) (ndM S z.1) (some k)) (ndM S z.2.1) (some k), va_up (mM S) k (mM S (ndM S z.1) ||| mM S (ndM S z.2.1)), va_up (mH S) k (z.2.2.1 / z.2.2.2))
def joinM (u : Nat → Nat → Nat) (w n : Nat) (S : MS) (k : Nat) : MS := match pickM u w n S with
  | none => S
  | some z => joinZ S k z
def initM (n : Nat) : MS := (fun a => if a < n then some a else none, fun _ => 0, fun _ => 0, fun _ => none, fun l => 2 ^ l, fun _ => 0)
def mkM (u : Nat → Nat → Nat) (w n : Nat) : Nat → MS
  | 0 => initM n
  | i + 1 => joinM u w n (mkM u w n i) (n + i)
def finM (n : Nat) (S : MS) : TT := (n, mL S, mR S, fun v => (mU S v).getD 0, mM S, mH S, fun _ => 0, fun _ => false)
/-- TREE made of n leaves by a way -/
def makeT (u : Nat → Nat → Nat) (w n : Nat) : TT := finM n (mkM u w n (n - 1))
def InvM (n k : Nat) (S : MS) : Prop :=
  (∀ a v, mD S a = some v → a < n ∧ v < k) ∧
  (∀ a b v, mD S a = some v → mD S b = some v → a = b) ∧
  (∀ v, v < k → (∃ a, mD S a = some v) ∨ ∃ p, mU S v = some p ∧ n ≤ p ∧ v < p ∧ p < k ∧ (mL S p = v ∨ mR S p = v)) ∧
  (∀ j, n ≤ j → j < k → mL S j < j ∧ mR S j < j ∧ mL S j ≠ mR S j ∧ mU S (mL S j) = some j ∧ mU S (mR S j) = some j ∧ mM S j = mM S (mL S j) ||| mM S (mR S j) ∧ mM S (mL S j) &&& mM S (mR S j) = 0) ∧
  (∀ l, l < n → mM S l = 2 ^ l) ∧
  (∀ a v, mD S a = some v → mU S v = none) ∧
  (∀ a b va vb, a ≠ b → mD S a = some va → mD S b = some vb → mM S va &&& mM S vb = 0) ∧
  (∀ x, x < n → ∃ a v, mD S a = some v ∧ (mM S v).testBit x = true) ∧
  (∀ v, v < k → mM S v < 2 ^ n ∧ 0 < cB (mM S v)) ∧
  cntB (actM S) n + k = 2 * n ∧
  (∀ v, mH S v ≤ 1000000) ∧
  (∃ a, mD S a = some (k - 1)) ∧
  (∀ v, k ≤ v → mU S v = none)
theorem cntB_all {p : Nat → Bool} : ∀ {n : Nat}, (∀ k, k < n → p k = true) → cntB p n = n
  | 0, _ => rfl
  | n + 1, h => by
    show cntB p n + _ = n + 1
    rw [cntB_all (fun k hk => h k (by omega)), if_pos (h n (by omega))]
theorem cntB_congr {p p' : Nat → Bool} : ∀ {n : Nat}, (∀ k, k < n → p k = p' k) → cntB p n = cntB p' n
  | 0, _ => rfl
  | n + 1, h => by
    show cntB p n + _ = cntB p' n + _
    rw [cntB_congr (fun k hk => h k (by omega)), h n (by omega)]
theorem cntB_off {p p' : Nat → Bool} {b : Nat} : ∀ {n : Nat}, b < n → p b = true → p' b = false → (∀ k, k ≠ b → p' k = p k) → cntB p' n + 1 = cntB p n
  | 0, h, _, _, _ => by omega
  | n + 1, h, h1, h2, ho => by
    show (cntB p' n + _) + 1 = cntB p n + _
    by_cases e : b = n
    · subst e
      rw [cntB_congr (fun k hk => ho k (by omega)), h1, h2]
      simp
    · rw [ho n (by omega)]
      have := cntB_off (n := n) (by omega) h1 h2 ho
      omega
theorem cntB_none {p : Nat → Bool} : ∀ {n : Nat}, (∀ k, k < n → p k = false) → cntB p n = 0
  | 0, _ => rfl
  | n + 1, h => by
    show cntB p n + _ = 0
    rw [cntB_none (fun k hk => h k (by omega)), h n (by omega)]
    rfl
theorem cntB_pos {p : Nat → Bool} {n : Nat} (h : 0 < cntB p n) : ∃ a, a < n ∧ p a = true := by
  by_cases hq : ∃ a, a < n ∧ p a = true
  · exact hq
  · exfalso
    have : cntB p n = 0 := cntB_none (fun k hk => by
      cases hp : p k with
      | false => rfl
      | true => exact absurd ⟨k, hk, hp⟩ hq)
    omega
theorem cntB_two {p : Nat → Bool} {n : Nat} (h : 2 ≤ cntB p n) : ∃ a b, a < b ∧ b < n ∧ p a = true ∧ p b = true := by
  obtain ⟨a, ha, hpa⟩ := cntB_pos (p := p) (n := n) (by omega)
  have h1 := cntB_off (p := p) (p' := fun k => p k && decide (k ≠ a)) (n := n) (b := a) ha hpa (by simp) (fun k hk => by simp [hk])
  obtain ⟨b, hb, hpb⟩ := cntB_pos (p := fun k => p k && decide (k ≠ a)) (n := n) (by omega)
  have hpb := Bool.and_eq_true_iff.mp hpb
  have hne : b ≠ a := of_decide_eq_true hpb.2
  by_cases e : a < b
  · exact ⟨a, b, e, hb, hpa, hpb.1⟩
  · exact ⟨b, a, by omega, ha, hpb.1, hpa⟩
theorem cntB_uniq {p : Nat → Bool} {n a b : Nat} (h : cntB p n = 1) (ha : a < n) (hb : b < n) (hpa : p a = true) (hpb : p b = true) : a = b := by
  by_cases e : a = b
  · exact e
  · exfalso
    have h1 := cntB_off (p := p) (p' := fun k => p k && decide (k ≠ a)) (n := n) (b := a) ha hpa (by simp) (fun k hk => by simp [hk])
    have h2 : 0 < cntB (fun k => p k && decide (k ≠ a)) n := by
      have := cntB_off (p := fun k => p k && decide (k ≠ a)) (p' := fun k => (p k && decide (k ≠ a)) && decide (k ≠ b)) (n := n) (b := b) hb (by simp [hpb]; exact fun q => e q.symm) (by simp) (fun k hk => by simp [hk])
      omega
    omega
theorem InvM_init {n : Nat} (h1 : 1 ≤ n) (h10 : n ≤ 10) : InvM n n (initM n) := by
  have dn : ∀ a v, mD (initM n) a = some v → a < n ∧ v = a := by
    intro a v h
    have h : (if a < n then some a else none) = some v := h
    split at h
    · cases h; exact ⟨by assumption, rfl⟩
    · cases h
  have dn2 : ∀ a, a < n → mD (initM n) a = some a := fun a h => if_pos h
  refine ⟨fun a v h => ?_, fun a b v ha hb => ?_, fun v hv => Or.inl ⟨v, dn2 v hv⟩, fun j hj hk => by omega, fun l hl => rfl, fun a v h => rfl, fun a b va vb hab ha hb => ?_, fun x hx => ⟨x, x, dn2 x hx, ?_⟩, fun v hv => ⟨?_, ?_⟩, ?_, fun v => Nat.zero_le _, ⟨n - 1, dn2 _ (by omega)⟩, fun v hv => rfl⟩
  · obtain ⟨q1, q2⟩ := dn a v h
    omega
  · obtain ⟨q1, q2⟩ := dn a v ha
    obtain ⟨q3, q4⟩ := dn b v hb
    omega
  · obtain ⟨q1, q2⟩ := dn a va ha
    obtain ⟨q3, q4⟩ := dn b vb hb
    subst q2; subst q4
    show 2 ^ va &&& 2 ^ vb = 0
    apply Nat.eq_of_testBit_eq
    intro i
    rw [Nat.testBit_and, Nat.testBit_two_pow, Nat.testBit_two_pow, Nat.zero_testBit]
    by_cases e : va = i
    · have : ¬ vb = i := by omega
      simp [this]
    · simp [e]
  · show (2 ^ x).testBit x = true
    rw [Nat.testBit_two_pow]
    simp
  · show 2 ^ v < 2 ^ n
    exact Nat.pow_lt_pow_right (by omega) hv
  · show 0 < cB (2 ^ v)
    rw [cB_pow (by omega)]
    omega
  · rw [cntB_all (fun k hk => by show (mD (initM n) k).isSome = true; rw [dn2 k hk]; rfl)]
    omega
theorem va_up_s {α : Type} {f : Nat → α} {k : Nat} {v : α} : va_up f k v k = v := by simp [va_up]
theorem va_up_o {α : Type} {f : Nat → α} {k j : Nat} {v : α} (h : j ≠ k) : va_up f k v j = f j := by simp [va_up, h]
theorem nd_some {S : MS} {a : Nat} (h : actM S a = true) : mD S a = some (ndM S a) := by
  unfold actM at h
  unfold ndM
  cases hq : mD S a with
  | none => rw [hq] at h; cases h
  | some v => rfl
theorem or_lt {a b n : Nat} (ha : a < 2 ^ n) (hb : b < 2 ^ n) : a ||| b < 2 ^ n := Nat.or_lt_two_pow ha hb
theorem InvM_join {n k : Nat} {S : MS} {z : Nat × Nat × Nat × Nat} (h10 : n ≤ 10) (hI : InvM n k S) (hk : n ≤ k) (hz : z.1 < z.2.1 ∧ z.2.1 < n ∧ actM S z.1 = true ∧ actM S z.2.1 = true) (hup : z.2.2.1 ≤ 1000000) : InvM n (k + 1) (joinZ S k z) := by
  obtain ⟨i1, i2, i3, i4, i5, i6, i7, i8, i9, i10, i11, i12, i13⟩ := hI
  obtain ⟨a, b, up, low⟩ := z
  dsimp only at hz hup
  obtain ⟨hab, hbn, hAa, hAb⟩ := hz
  have dA := nd_some hAa
  have dB := nd_some hAb
  obtain ⟨va, eva⟩ : ∃ va, va = ndM S a := ⟨_, rfl⟩
  obtain ⟨vb, evb⟩ : ∃ vb, vb = ndM S b := ⟨_, rfl⟩
  rw [← eva] at dA
  rw [← evb] at dB
  have lA := (i1 a va dA).2
  have lB := (i1 b vb dB).2
  have hv : va ≠ vb := fun q => by
    rw [← q] at dB
    have := i2 a b va dA dB
    omega
  have eD : mD (joinZ S k (a, b, up, low)) = va_up (va_up (mD S) a (some k)) b none := rfl
  have eL : mL (joinZ S k (a, b, up, low)) = va_up (mL S) k va := by rw [eva]; rfl
  have eR : mR (joinZ S k (a, b, up, low)) = va_up (mR S) k vb := by rw [evb]; rfl
  have eU : mU (joinZ S k (a, b, up, low)) = va_up (va_up (mU S) va (some k)) vb (some k) := by rw [eva, evb]; rfl
  have eM : mM (joinZ S k (a, b, up, low)) = va_up (mM S) k (mM S va ||| mM S vb) := by rw [eva, evb]; rfl
  have eH : mH (joinZ S k (a, b, up, low)) = va_up (mH S) k (up / low) := rfl
  generalize joinZ S k (a, b, up, low) = S' at eD eL eR eU eM eH
  have D' : ∀ c v, mD S' c = some v → (c = a ∧ v = k) ∨ (c ≠ a ∧ c ≠ b ∧ mD S c = some v) := by
    intro c v h
    rw [eD] at h
    by_cases e1 : c = b
    · rw [e1, va_up_s] at h; cases h
    · rw [va_up_o e1] at h
      by_cases e2 : c = a
      · rw [e2, va_up_s] at h; cases h; exact Or.inl ⟨e2, rfl⟩
      · rw [va_up_o e2] at h; exact Or.inr ⟨e2, e1, h⟩
  have Da : mD S' a = some k := by rw [eD, va_up_o (by omega), va_up_s]
  have Do : ∀ c v, c ≠ a → c ≠ b → mD S c = some v → mD S' c = some v := fun c v h1 h2 h => by rw [eD, va_up_o h2, va_up_o h1]; exact h
  have Mo : ∀ v, v ≠ k → mM S' v = mM S v := fun v h => by rw [eM, va_up_o h]
  have Mk : mM S' k = mM S va ||| mM S vb := by rw [eM, va_up_s]
  have Lo : ∀ v, v ≠ k → mL S' v = mL S v := fun v h => by rw [eL, va_up_o h]
  have Ro : ∀ v, v ≠ k → mR S' v = mR S v := fun v h => by rw [eR, va_up_o h]
  have Lk : mL S' k = va := by rw [eL, va_up_s]
  have Rk : mR S' k = vb := by rw [eR, va_up_s]
  have Ua : mU S' va = some k := by rw [eU, va_up_o hv, va_up_s]
  have Ub : mU S' vb = some k := by rw [eU, va_up_s]
  have Uo : ∀ v, v ≠ va → v ≠ vb → mU S' v = mU S v := fun v h1 h2 => by rw [eU, va_up_o h2, va_up_o h1]
  have dis := i7 a b va vb (by omega) dA dB
  refine ⟨fun c v h => ?_, fun c c' v h h' => ?_, fun v hv' => ?_, fun j hj hjk => ?_, fun l hl => ?_, fun c v h => ?_, fun c c' v v' hc h h' => ?_, fun x hx => ?_, fun v hv' => ?_, ?_, fun v => ?_, ⟨a, by rw [Nat.add_sub_cancel]; exact Da⟩, fun v hv' => ?_⟩
  · rcases D' c v h with ⟨q1, q2⟩ | ⟨q1, q2, q3⟩
    · have := i1 a va dA
      omega
    · have := i1 c v q3
      omega
  · rcases D' c v h with ⟨q1, q2⟩ | ⟨q1, q2, q3⟩ <;> rcases D' c' v h' with ⟨r1, r2⟩ | ⟨r1, r2, r3⟩
    · omega
    · have := i1 c' v r3; omega
    · have := i1 c v q3; omega
    · exact i2 c c' v q3 r3
  · by_cases e : v = k
    · exact Or.inl ⟨a, by rw [e]; exact Da⟩
    · by_cases ea : v = va
      · exact Or.inr ⟨k, by rw [ea]; exact Ua, hk, by omega, by omega, Or.inl (by rw [Lk, ea])⟩
      · by_cases eb : v = vb
        · exact Or.inr ⟨k, by rw [eb]; exact Ub, hk, by omega, by omega, Or.inr (by rw [Rk, eb])⟩
        · rcases i3 v (by omega) with ⟨c, hc⟩ | ⟨p, p1, p2, p3, p4, p5⟩
          · refine Or.inl ⟨c, Do c v (fun q => ?_) (fun q => ?_) hc⟩
            · rw [q, dA] at hc; cases hc; exact ea rfl
            · rw [q, dB] at hc; cases hc; exact eb rfl
          · exact Or.inr ⟨p, by rw [Uo v ea eb]; exact p1, p2, p3, by omega, by rw [Lo p (by omega), Ro p (by omega)]; exact p5⟩
  · by_cases e : j = k
    · subst e
      rw [Lk, Rk, Mk, Mo va (by omega), Mo vb (by omega)]
      exact ⟨lA, lB, hv, Ua, Ub, rfl, dis⟩
    · obtain ⟨q1, q2, q3, q4, q5, q6, q7⟩ := i4 j hj (by omega)
      have na : ∀ c, mU S c = some j → c ≠ va ∧ c ≠ vb := fun c hc => ⟨fun q => (by rw [q, i6 a va dA] at hc; cases hc), fun q => (by rw [q, i6 b vb dB] at hc; cases hc)⟩
      rw [Lo j e, Ro j e, Mo j e, Mo _ (by omega), Mo _ (by omega), Uo _ (na _ q4).1 (na _ q4).2, Uo _ (na _ q5).1 (na _ q5).2]
      exact ⟨q1, q2, q3, q4, q5, q6, q7⟩
  · rw [Mo l (by omega)]
    exact i5 l hl
  · rcases D' c v h with ⟨q1, q2⟩ | ⟨q1, q2, q3⟩
    · subst q2
      rw [Uo v (by omega) (by omega)]
      exact i13 v (Nat.le_refl v)
    · have n1 : v ≠ va := fun q => q1 (i2 c a v q3 (by rw [q]; exact dA))
      have n2 : v ≠ vb := fun q => q2 (i2 c b v q3 (by rw [q]; exact dB))
      rw [Uo v n1 n2]
      exact i6 c v q3
  · have or_dis : ∀ c v, c ≠ a → c ≠ b → mD S c = some v → (mM S va ||| mM S vb) &&& mM S v = 0 := by
      intro c v h1 h2 h3
      rw [Nat.and_or_distrib_right, i7 a c va v (fun q => h1 q.symm) dA h3, i7 b c vb v (fun q => h2 q.symm) dB h3]
      rfl
    rcases D' c v h with ⟨q1, q2⟩ | ⟨q1, q2, q3⟩ <;> rcases D' c' v' h' with ⟨r1, r2⟩ | ⟨r1, r2, r3⟩
    · omega
    · have := i1 c' v' r3
      rw [q2, Mk, Mo v' (by omega)]
      exact or_dis c' v' r1 r2 r3
    · have := i1 c v q3
      rw [r2, Mk, Mo v (by omega), Nat.and_comm]
      exact or_dis c v q1 q2 q3
    · have := i1 c v q3
      have := i1 c' v' r3
      rw [Mo v (by omega), Mo v' (by omega)]
      exact i7 c c' v v' hc q3 r3
  · obtain ⟨c, v, h1, h2⟩ := i8 x hx
    by_cases ea : c = a
    · refine ⟨a, k, Da, ?_⟩
      rw [ea, dA] at h1
      cases h1
      rw [Mk, Nat.testBit_or, h2]
      rfl
    · by_cases eb : c = b
      · refine ⟨a, k, Da, ?_⟩
        rw [eb, dB] at h1
        cases h1
        rw [Mk, Nat.testBit_or, h2, Bool.or_true]
      · have := i1 c v h1
        exact ⟨c, v, Do c v ea eb h1, by rw [Mo v (by omega)]; exact h2⟩
  · by_cases e : v = k
    · rw [e, Mk]
      have h1 := i9 va lA
      have h2 := i9 vb lB
      refine ⟨or_lt h1.1 h2.1, ?_⟩
      rw [cB_or dis]
      omega
    · rw [Mo v e]
      exact i9 v (by omega)
  · have := cntB_off (p := actM S) (p' := actM S') (n := n) (b := b) hbn hAb (by show (mD S' b).isSome = false; rw [eD, va_up_s]; rfl) (fun c hc => by
      show (mD S' c).isSome = (mD S c).isSome
      rw [eD, va_up_o hc]
      by_cases e : c = a
      · rw [e, va_up_s, dA]; rfl
      · rw [va_up_o e])
    omega
  · rw [eH]
    by_cases e : v = k
    · rw [e, va_up_s]
      exact Nat.le_trans (Nat.div_le_self _ _) hup
    · rw [va_up_o e]
      exact i11 v
  · rw [Uo v (by omega) (by omega)]
    exact i13 v (by omega)
theorem pick_some {u : Nat → Nat → Nat} {w n k : Nat} {S : MS} (hI : InvM n k S) (hk : k + 2 ≤ 2 * n) : ∃ z, pickM u w n S = some z ∧ z.1 < z.2.1 ∧ z.2.1 < n ∧ actM S z.1 = true ∧ actM S z.2.1 = true ∧ z.2.2.1 = (qM u w S z.1 z.2.1).1 ∧ z.2.2.2 = (qM u w S z.1 z.2.1).2 := by
  have hc := hI.2.2.2.2.2.2.2.2.2.1
  obtain ⟨a, b, h1, h2, h3, h4⟩ := cntB_two (p := actM S) (n := n) (by omega)
  cases hp : pickM u w n S with
  | none => exact absurd hp (scO_some h3 h4 h1 h2 n (by omega))
  | some z => exact ⟨z, rfl, scO_ok n z hp⟩
theorem InvM_mk {u : Nat → Nat → Nat} (hu : ∀ a b, u a b ≤ 10000) {w n : Nat} (h1 : 1 ≤ n) (h10 : n ≤ 10) : ∀ i, i ≤ n - 1 → InvM n (n + i) (mkM u w n i)
  | 0, _ => InvM_init h1 h10
  | i + 1, h => by
    have ih := InvM_mk hu (w := w) h1 h10 i (by omega)
    obtain ⟨z, hz, z1, z2, z3, z4, z5, z6⟩ := pick_some (u := u) (w := w) ih (by omega)
    show InvM n (n + i + 1) (joinM u w n (mkM u w n i) (n + i))
    unfold joinM
    rw [hz]
    exact InvM_join h10 ih (by omega) ⟨z1, z2, z3, z4⟩ (by rw [z5]; exact fUp_le hu w _ _)
theorem Wf_fin {n : Nat} {S : MS} (h1 : 1 ≤ n) (h10 : n ≤ 10) (hI : InvM n (2 * n - 1) S) : Wf (finM n S) := by
  obtain ⟨i1, i2, i3, i4, i5, i6, i7, i8, i9, i10, i11, i12, i13⟩ := hI
  obtain ⟨r, hr⟩ := i12
  have hr1 := i1 r _ hr
  have one : cntB (actM S) n = 1 := by omega
  have uniq : ∀ a v, mD S a = some v → v = 2 * n - 1 - 1 := by
    intro a v h
    have e : a = r := cntB_uniq one (i1 a v h).1 hr1.1 (by show (mD S a).isSome = true; rw [h]; rfl) (by show (mD S r).isSome = true; rw [hr]; rfl)
    rw [e, hr] at h
    cases h
    rfl
  refine ⟨h1, h10, fun j hj hk => ?_, fun v hv => ?_, i5, fun j hj hk => ?_, ?_, fun v hv => ?_, i11⟩
  · have hj : n ≤ j := hj
    have hk : j < 2 * n - 1 := hk
    obtain ⟨q1, q2, q3, q4, q5, -, -⟩ := i4 j hj hk
    refine ⟨q1, q2, q3, ?_, ?_⟩
    · show (mU S (mL S j)).getD 0 = j
      rw [q4]; rfl
    · show (mU S (mR S j)).getD 0 = j
      rw [q5]; rfl
  · have hv : v < 2 * n - 2 := hv
    rcases i3 v (by omega) with ⟨a, ha⟩ | ⟨p, p1, p2, p3, p4, p5⟩
    · have := uniq a v ha
      omega
    · have e : tU (finM n S) v = p := by
        show (mU S v).getD 0 = p
        rw [p1]; rfl
      rw [e]
      exact ⟨p2, p3, p4, p5⟩
  · obtain ⟨-, -, -, -, -, q6, q7⟩ := i4 j hj hk
    exact ⟨q6, q7⟩
  · show mM S (2 * n - 2) = 2 ^ n - 1
    have e : 2 * n - 1 - 1 = 2 * n - 2 := by omega
    apply Nat.eq_of_testBit_eq
    intro x
    rw [Nat.testBit_two_pow_sub_one]
    by_cases hx : x < n
    · obtain ⟨a, v, q1, q2⟩ := i8 x hx
      have := uniq a v q1
      rw [this, e] at q2
      rw [q2]
      simp [hx]
    · have hl := (i9 (2 * n - 2) (by omega)).1
      have : (mM S (2 * n - 2)).testBit x = false := by
        apply Nat.testBit_lt_two_pow
        exact Nat.lt_of_lt_of_le hl (Nat.pow_le_pow_right (by omega) (by omega))
      rw [this]
      simp [hx]
  · have hv : v < 2 * n - 1 := hv
    have hl := (i9 v hv).1
    have : (2 : Nat) ^ n ≤ 2 ^ 10 := Nat.pow_le_pow_right (by omega) h10
    show mM S v < 1024
    omega
theorem Wf_make {u : Nat → Nat → Nat} (hu : ∀ a b, u a b ≤ 10000) {w n : Nat} (h1 : 1 ≤ n) (h10 : n ≤ 10) : Wf (makeT u w n) := by
  have h := InvM_mk hu (w := w) h1 h10 (n - 1) (Nat.le_refl _)
  rw [show n + (n - 1) = 2 * n - 1 by omega] at h
  exact Wf_fin h1 h10 h
/-- the top of a made tree has no join above -/
theorem make_top {u : Nat → Nat → Nat} (hu : ∀ a b, u a b ≤ 10000) {w n : Nat} (h1 : 1 ≤ n) (h10 : n ≤ 10) : mU (mkM u w n (n - 1)) (2 * n - 2) = none ∧ ∀ v, v < 2 * n - 2 → mU (mkM u w n (n - 1)) v = some (tU (makeT u w n) v) := by
  have h := InvM_mk hu (w := w) h1 h10 (n - 1) (Nat.le_refl _)
  rw [show n + (n - 1) = 2 * n - 1 by omega] at h
  obtain ⟨i1, i2, i3, i4, i5, i6, i7, i8, i9, i10, i11, i12, i13⟩ := h
  obtain ⟨r, hr⟩ := i12
  have hr1 := i1 r _ hr
  have one : cntB (actM (mkM u w n (n - 1))) n = 1 := by omega
  have e : 2 * n - 1 - 1 = 2 * n - 2 := by omega
  rw [e] at hr
  refine ⟨i6 r _ hr, fun v hv => ?_⟩
  rcases i3 v (by omega) with ⟨a, ha⟩ | ⟨p, p1, -⟩
  · exfalso
    have e2 : a = r := cntB_uniq one (i1 a v ha).1 hr1.1 (by show (mD _ a).isSome = true; rw [ha]; rfl) (by show (mD _ r).isSome = true; rw [hr]; rfl)
    rw [e2, hr] at ha
    cases ha
    omega
  · show _ = some ((mU (mkM u w n (n - 1)) v).getD 0)
    rw [p1]
    rfl
