/-! trees as numbers -/
/-- how many leaves; first branch, other branch, the join above, the leaves as bits, height, how often turned, held -/
abbrev TT : Type := Nat × (Nat → Nat) × (Nat → Nat) × (Nat → Nat) × (Nat → Nat) × (Nat → Nat) × (Nat → Int32) × (Nat → Bool)
def tN (T : TT) : Nat := T.1
def tL (T : TT) : Nat → Nat := T.2.1
def tR (T : TT) : Nat → Nat := T.2.2.1
def tU (T : TT) : Nat → Nat := T.2.2.2.1
def tM (T : TT) : Nat → Nat := T.2.2.2.2.1
def tH (T : TT) : Nat → Nat := T.2.2.2.2.2.1
def tC (T : TT) : Nat → Int32 := T.2.2.2.2.2.2.1
def tD (T : TT) : Nat → Bool := T.2.2.2.2.2.2.2
/-- how many of the lowest ten bits are set -/
def cB (m : Nat) : Nat := sumTo (fun k => (m >>> k) % 2) 10
/-- a leaf is in a node -/
def hasL (T : TT) (v x : Nat) : Bool := (tM T v).testBit x
/-- the tree's shape -/
def Wf (T : TT) : Prop :=
  1 ≤ tN T ∧ tN T ≤ 10 ∧
  (∀ j, tN T ≤ j → j < 2 * tN T - 1 → tL T j < j ∧ tR T j < j ∧ tL T j ≠ tR T j ∧ tU T (tL T j) = j ∧ tU T (tR T j) = j) ∧
  (∀ v, v < 2 * tN T - 2 → tN T ≤ tU T v ∧ v < tU T v ∧ tU T v < 2 * tN T - 1 ∧ (tL T (tU T v) = v ∨ tR T (tU T v) = v)) ∧
  (∀ l, l < tN T → tM T l = 2 ^ l) ∧
  (∀ j, tN T ≤ j → j < 2 * tN T - 1 → tM T j = tM T (tL T j) ||| tM T (tR T j) ∧ tM T (tL T j) &&& tM T (tR T j) = 0) ∧
  tM T (2 * tN T - 2) = 2 ^ tN T - 1 ∧ (∀ v, v < 2 * tN T - 1 → tM T v < 1024) ∧
  (∀ v, tH T v ≤ 1000000)
/-- where a node begins in the order; by the joins above it -/
def posF (T : TT) : Nat → Nat → Nat
  | 0, _ => 0
  | f + 1, v => if v < 2 * tN T - 2 then posF T f (tU T v) + (if tR T (tU T v) = v then cB (tM T (tL T (tU T v))) else 0) else 0
def posT (T : TT) (v : Nat) : Nat := posF T 20 v
/-- the class's cells of tree t hold T: what turns leave, and what they change -/
def RtA (σ : AH) (t : Nat) (T : TT) : Prop :=
  σ.1 (tI t) 12 = nI (tN T) ∧ σ.1 (tI t) 13 = nI (2 * tN T - 1) ∧
  (∀ v, v < 2 * tN T - 2 → σ.1 (tI t + 3) v = nI (tU T v)) ∧ σ.1 (tI t + 3) (2 * tN T - 2) = -9 ∧
  (∀ v, v < 2 * tN T - 1 → σ.1 (tI t + 4) v = nI (tH T v)) ∧
  (∀ v, v < 2 * tN T - 1 → σ.1 (tI t + 5) v = nI (cB (tM T v))) ∧
  (∀ v, v < 2 * tN T - 1 → σ.1 (tI t + 6) v = nI (tM T v)) ∧
  (∀ v, v < 2 * tN T - 1 → σ.1 (tI t + 8) v = bI (tD T v))
def RtB (σ : AH) (t : Nat) (T : TT) : Prop :=
  (∀ l, l < tN T → σ.1 (tI t + 1) l = -9 ∧ σ.1 (tI t + 2) l = -9) ∧
  (∀ j, tN T ≤ j → j < 2 * tN T - 1 → σ.1 (tI t + 1) j = nI (tL T j) ∧ σ.1 (tI t + 2) j = nI (tR T j)) ∧
  (∀ v, v < 2 * tN T - 1 → σ.1 (tI t + 7) v = tC T v)
def RtP (σ : AH) (t : Nat) (T : TT) : Prop :=
  (∀ v, v < 2 * tN T - 1 → σ.1 (tI t + 9) v = nI (posT T v)) ∧ (∀ l, l < tN T → σ.1 (tI t + 10) (posT T l) = nI l)
theorem sumTo_congr {f f' : Nat → Nat} : ∀ {n : Nat}, (∀ k, k < n → f k = f' k) → sumTo f n = sumTo f' n
  | 0, _ => rfl
  | n + 1, h => by
    show sumTo f n + f n = sumTo f' n + f' n
    rw [sumTo_congr (fun k hk => h k (Nat.lt_succ_of_lt hk)), h n (Nat.lt_succ_self n)]
theorem sumTo_le {f : Nat → Nat} {c : Nat} (h : ∀ k, f k ≤ c) : ∀ n, sumTo f n ≤ c * n
  | 0 => Nat.zero_le _
  | n + 1 => by
    show sumTo f n + f n ≤ c * (n + 1)
    have := sumTo_le h n
    have := h n
    rw [Nat.mul_succ]
    omega
theorem cB_le (m : Nat) : cB m ≤ 10 := by
  have := sumTo_le (f := fun k => (m >>> k) % 2) (c := 1) (fun k => by have := Nat.mod_lt (m >>> k) (show 0 < 2 by omega); show (m >>> k) % 2 ≤ 1; omega) 10
  unfold cB
  omega
/-- a bit of a set -/
theorem bit_at {m l : Nat} (hm : m < 1024) (hl : l < 32) : (nI m >>> (nI l &&& 31)) &&& 1 = nI ((m >>> l) % 2) := by
  have key : ∀ l, l < 32 → ∀ m, m < 1024 → (nI m >>> (nI l &&& 31)) &&& 1 = nI ((m >>> l) % 2) := by
    intro l hl m hm
    have e1 : nI l &&& 31 = nI l := by
      revert l
      decide
    rw [e1]
    apply Int32.toBitVec_inj.mp
    apply BitVec.eq_of_toNat_eq
    have h0 : (nI m).toBitVec = BitVec.ofNat 32 m := rfl
    have h1 : ((nI m) >>> (nI l)).toBitVec = (BitVec.ofNat 32 m).sshiftRight' ((nI l).toBitVec.smod 32) := rfl
    have h2 : (nI l).toBitVec.smod 32 = BitVec.ofNat 32 l := by
      clear h1 e1
      revert l
      decide
    show (((nI m) >>> (nI l)).toBitVec &&& (1 : BitVec 32)).toNat = (BitVec.ofNat 32 ((m >>> l) % 2)).toNat
    rw [h1, h2, BitVec.sshiftRight_eq']
    have h3 : (BitVec.ofNat 32 l).toNat = l := by simp; omega
    rw [h3]
    have h4 : (BitVec.ofNat 32 m).msb = false := by
      rw [BitVec.msb_eq_decide]
      simp
      omega
    rw [BitVec.sshiftRight_eq_of_msb_false h4]
    simp only [BitVec.toNat_and, BitVec.toNat_ushiftRight, BitVec.toNat_ofNat]
    rw [Nat.mod_eq_of_lt (show m < 2 ^ 32 by omega)]
    show (m >>> l) &&& 1 = _
    rw [Nat.and_one_is_mod]
    omega
  exact key l hl m hm
theorem bit_tb {m l : Nat} : (m >>> l) % 2 = if m.testBit l then 1 else 0 := by
  have h2 : (m >>> l) % 2 = 0 ∨ (m >>> l) % 2 = 1 := by omega
  simp only [Nat.testBit, Nat.and_comm 1, Nat.and_one_is_mod]
  rcases h2 with h | h <;> simp [h]
