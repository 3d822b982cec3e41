/-! what each call answers, and the state behind it: one text for the class and for the reference -/
/-- leaves; rows there, their places; trees; asked; latest finding, how often each; kept: how many, places; groups; axes: how many, worths; laid: how many, which -/
abbrev Sp : Type := Nat × (Nat → Bool) × (Nat → Nat → Nat) × (Nat → TT) × Int32 × Nat × (Nat → Int32) × Nat × (Nat → Int32) × (Nat → Int32) × Nat × (Nat → Nat → Int) × Nat × (Nat → Nat)
def sN (S : Sp) : Nat := S.1
def sTh (S : Sp) : Nat → Bool := S.2.1
def sPl (S : Sp) : Nat → Nat → Nat := S.2.2.1
def sT (S : Sp) : Nat → TT := S.2.2.2.1
def sAs (S : Sp) : Int32 := S.2.2.2.2.1
def sFi (S : Sp) : Nat := S.2.2.2.2.2.1
def sFs (S : Sp) : Nat → Int32 := S.2.2.2.2.2.2.1
def sKn (S : Sp) : Nat := S.2.2.2.2.2.2.2.1
def sKp (S : Sp) : Nat → Int32 := S.2.2.2.2.2.2.2.2.1
def sGr (S : Sp) : Nat → Int32 := S.2.2.2.2.2.2.2.2.2.1
def sMx (S : Sp) : Nat := S.2.2.2.2.2.2.2.2.2.2.1
def sWo (S : Sp) : Nat → Nat → Int := S.2.2.2.2.2.2.2.2.2.2.2.1
def sLn (S : Sp) : Nat := S.2.2.2.2.2.2.2.2.2.2.2.2.1
def sLd (S : Sp) : Nat → Nat := S.2.2.2.2.2.2.2.2.2.2.2.2.2
def pN (S : Sp) (n : Nat) : Sp := (n, S.2)
def pR (S : Sp) (th : Nat → Bool) (pl : Nat → Nat → Nat) : Sp := (sN S, th, pl, S.2.2.2)
def pT (S : Sp) (t : Nat) (T : TT) : Sp := (sN S, sTh S, sPl S, va_up (sT S) t T, S.2.2.2.2)
def pA (S : Sp) (a : Int32) : Sp := (sN S, sTh S, sPl S, sT S, a, S.2.2.2.2.2)
def fnd (S : Sp) (w : Nat) : Sp := (sN S, sTh S, sPl S, sT S, sAs S, w, upd (sFs S) w (sFs S w + 1), S.2.2.2.2.2.2.2)
def pK (S : Sp) (n : Nat) (p : Nat → Int32) : Sp := (sN S, sTh S, sPl S, sT S, sAs S, sFi S, sFs S, n, p, S.2.2.2.2.2.2.2.2.2)
def pG (S : Sp) (f : Nat → Int32) : Sp := (sN S, sTh S, sPl S, sT S, sAs S, sFi S, sFs S, sKn S, sKp S, f, S.2.2.2.2.2.2.2.2.2.2)
def pX (S : Sp) (m : Nat) (W : Nat → Nat → Int) : Sp := (sN S, sTh S, sPl S, sT S, sAs S, sFi S, sFs S, sKn S, sKp S, sGr S, m, W, S.2.2.2.2.2.2.2.2.2.2.2.2)
def pL (S : Sp) (n : Nat) (f : Nat → Nat) : Sp := (sN S, sTh S, sPl S, sT S, sAs S, sFi S, sFs S, sKn S, sKp S, sGr S, sMx S, sWo S, n, f)
abbrev uS (S : Sp) : Nat → Nat → Nat := unl (sN S) (sTh S) (sPl S)
/-- a number below n, or none -/
def rngQ (n : Nat) (x : Int32) : Option Nat := if 0 ≤ x ∧ x < nI n then some x.toNatClampNeg else none
abbrev An : Type := Int32 × Sp
abbrev RB (S : Sp) : An := (-1, S)
abbrev RF (S : Sp) (w : Nat) : An := (-3, fnd S w)
abbrev RS (S : Sp) : An := (-4, S)
def trQ (S : Sp) (x : Int32) : An ⊕ Nat := match rngQ 4 x with
  | none => .inl (RB S)
  | some t => if tN (sT S t) = 0 then .inl (RF S 1) else .inr t
def ndQ (S : Sp) (x y : Int32) : An ⊕ (Nat × Nat) := match trQ S x with
  | .inl r => .inl r
  | .inr t => match rngQ (2 * tN (sT S t) - 1) y with
    | none => .inl (RF S 2)
    | some v => .inr (t, v)
def jnQ (S : Sp) (x y : Int32) : An ⊕ (Nat × Nat) := match ndQ S x y with
  | .inl r => .inl r
  | .inr q => if q.2 < tN (sT S q.1) then .inl (RF S 3) else .inr q
def prQ (S : Sp) (x y : Int32) : An ⊕ (Nat × Nat) := match rngQ 4 x, rngQ 4 y with
  | some t, some u => if tN (sT S t) = 0 ∨ tN (sT S u) = 0 then .inl (RF S 1) else if tN (sT S t) = tN (sT S u) then .inr (t, u) else .inl (RS S)
  | _, _ => .inl (RB S)
def fcQ (S : Sp) (x y : Int32) : An ⊕ (Nat × Nat) := if x = y then .inl (RB S) else prQ S x y
/-- the places of a tree's leaves -/
def plT (T : TT) : Nat → Int32 := fun x => if x < tN T then nI (posT T x) else -9
def sp_leaves (S : Sp) (x : Int32) : An := if x < nI (sN S) ∨ 10 < x then RB S else (x, pN S x.toNatClampNeg)
def sp_row (S : Sp) (x : Int32) : An := match rngQ 10 x with
  | none => RB S
  | some i => (bI (sTh S i), pR S (va_up (sTh S) i true) (va_up (sPl S) i (fun _ => 0)))
def sp_lay (S : Sp) (x y v : Int32) : An := match rngQ 10 x with
  | none => RB S
  | some i => if v < 0 ∨ 10000 < v then RB S else if sTh S i = false then RF S 1 else match rngQ 10 y with
    | none => RF S 2
    | some j => (1, pA (pR S (sTh S) (va_up (sPl S) i (va_up (sPl S i) j v.toNatClampNeg))) (nI (sPl S i j)))
def sp_tear (S : Sp) (x : Int32) : An := match rngQ 10 x with
  | none => RB S
  | some i => if sTh S i = false then RF S 1 else (1, pR S (va_up (sTh S) i false) (sPl S))
def hasP (x n : Int32) : Bool := decide (0 ≤ x) && (decide (x ≤ 10) && decide (n ≤ 10 - x))
def sp_copy (S : Sp) (x f y a n : Int32) : An := match rngQ 10 x, rngQ 10 y with
  | some i, some o => if n < 0 then RF S 5 else if sTh S i = false ∨ sTh S o = false then RF S 1 else if (hasP f n && hasP a n) = false then RF S 2
      else (1, pR S (sTh S) (va_up (sPl S) o (va_cpy (sPl S i) (sPl S o) f.toNatClampNeg a.toNatClampNeg n.toNatClampNeg)))
  | _, _ => RB S
def sp_unlike (S : Sp) (x y : Int32) : An := match rngQ (sN S) x, rngQ (sN S) y with
  | some a, some b => (1, pA S (nI (uS S a b)))
  | _, _ => RB S
def sp_mean (S : Sp) (x : Int32) : An := match rngQ 10 x with
  | none => RB S
  | some i => if sTh S i = false then RF S 1 else if i = 0 then RF S 4 else (nI (sumTo (sPl S i) i / i), S)
def sp_make (S : Sp) (x w : Int32) : An := match rngQ 4 x, rngQ 3 w with
  | some t, some k => if sN S = 0 then RS S else (nI (2 * sN S - 1), pT S t (makeT (uS S) k (sN S)))
  | _, _ => RB S
def sp_drop (S : Sp) (x : Int32) : An := match trQ S x with
  | .inl r => r
  | .inr t => (1, pT S t (0, (sT S t).2))
def sp_told (S : Sp) (x y w : Int32) : An := match rngQ 6 w with
  | none => RB S
  | some k => match ndQ S x y with
    | .inl r => r
    | .inr q => (tellT (sT S q.1) q.2 k, S)
def sp_mark (S : Sp) (x y w : Int32) : An := if w < 1 ∨ 3 < w then RB S else match ndQ S x y with
  | .inl r => r
  | .inr q => if isOfT (sT S q.1) q.2 w.toNatClampNeg = false then RF S 3 else (if w.toNatClampNeg = 1 then nI (posT (sT S q.1) q.2) else if w.toNatClampNeg = 2 then tC (sT S q.1) q.2 else nI (belowT (sT S q.1) q.2), S)
def sp_turn (S : Sp) (x y : Int32) : An := match jnQ S x y with
  | .inl r => r
  | .inr q => if tD (sT S q.1) q.2 then RS S else (tC (sT S q.1) q.2 + 1, pT S q.1 (flipsBy (sT S q.1) (fun v => decide (v = q.2))))
def heldBy (T : TT) (v : Nat) (b : Bool) : TT := (tN T, tL T, tR T, tU T, tM T, tH T, tC T, va_up (tD T) v b)
def sp_hold (S : Sp) (x y : Int32) (b : Bool) : An := match jnQ S x y with
  | .inl r => r
  | .inr q => (bI (tD (sT S q.1) q.2), pT S q.1 (heldBy (sT S q.1) q.2 b))
def sp_order (S : Sp) (x y : Int32) : An := match trQ S x with
  | .inl r => r
  | .inr t => (match rngQ (tN (sT S t)) y with
    | none => -9
    | some i => nI (ordT (sT S t) i), S)
def sp_price (S : Sp) (x : Int32) : An := match trQ S x with
  | .inl r => r
  | .inr t => (1, pA S (nI (priceT (uS S) (sT S t))))
def sp_best (S : Sp) (x : Int32) : An := match trQ S x with
  | .inl r => r
  | .inr t => (nI (priceT (uS S) (sT S t)) - nI (priceT (uS S) (bestT (sT S t) (uS S))), pA (pT S t (bestT (sT S t) (uS S))) (nI (priceT (uS S) (bestT (sT S t) (uS S)))))
def sp_crossings (S : Sp) (x y : Int32) : An := match prQ S x y with
  | .inl r => r
  | .inr q => (nI (crossT (sT S q.1) (plT (sT S q.2))), S)
def sp_face (S : Sp) (x y : Int32) : An := match fcQ S x y with
  | .inl r => r
  | .inr q => (nI (looksN (sT S q.1) (plT (sT S q.2))), pT S q.1 (lookT (sT S q.1) (plT (sT S q.2))))
/-- a round of looking at each other, and rounds till none turns -/
def fbR (p : TT × TT) : TT × TT := (lookT p.1 (plT p.2), lookT p.2 (plT (lookT p.1 (plT p.2))))
def fbN (p : TT × TT) : Nat := looksN p.1 (plT p.2) + looksN p.2 (plT (lookT p.1 (plT p.2)))
def fbF : Nat → TT × TT → TT × TT
  | 0, p => p
  | k + 1, p => if fbN p = 0 then fbR p else fbF k (fbR p)
def sp_faceBoth (S : Sp) (x y : Int32) : An := match fcQ S x y with
  | .inl r => r
  | .inr q => (nI (crossT (fbF 101 (sT S q.1, sT S q.2)).1 (plT (fbF 101 (sT S q.1, sT S q.2)).2)), pT (pT S q.1 (fbF 101 (sT S q.1, sT S q.2)).1) q.2 (fbF 101 (sT S q.1, sT S q.2)).2)
/-- the fewest crossings over the turns of the other tree, each join of the first for itself -/
def fwF (T U : TT) : Nat → Nat
  | 0 => crossT T (plT U)
  | s + 1 => if mayT U s then min (fwF T U s) (leastT T (plT (setT U s))) else fwF T U s
def sp_fewest (S : Sp) (x y : Int32) : An := match fcQ S x y with
  | .inl r => r
  | .inr q => if 6 < tN (sT S q.1) then RS S else (nI (fwF (sT S q.1) (sT S q.2) (2 ^ (tN (sT S q.2) - 1))), S)
def sp_keep (S : Sp) (x : Int32) : An := match trQ S x with
  | .inl r => r
  | .inr t => (nI (tN (sT S t)), pK S (tN (sT S t)) (plT (sT S t)))
def sp_near (S : Sp) (x : Int32) : An := match trQ S x with
  | .inl r => r
  | .inr t => if sKn S = 0 then RS S else (nI (crossT (lookT (sT S t) (sKp S)) (sKp S)), pT S t (lookT (sT S t) (sKp S)))
def sp_cut (S : Sp) (x h : Int32) : An := match rngQ 1000001 h with
  | none => RB S
  | some k => match trQ S x with
    | .inl r => r
    | .inr t => (nI (grpN (sT S t) k (tN (sT S t))), pG S (grpF (sT S t) k (fun _ => -9) (tN (sT S t))))
def sp_group (S : Sp) (x : Int32) : An := (match rngQ 10 x with
  | none => -9
  | some l => sGr S l, S)
def sameN (T U : TT) (h : Nat) : Nat := cntB (fun l => decide (tM T (topL T h l) = tM U (topL U h l))) (tN T)
def sp_same (S : Sp) (x y h : Int32) : An := match rngQ 1000001 h with
  | none => RB S
  | some k => match prQ S x y with
    | .inl r => r
    | .inr q => (nI (sameN (sT S q.1) (sT S q.2) k), S)
def sp_axes (S : Sp) (x : Int32) : An := match rngQ 9 x with
  | none => RB S
  | some m => (x, pX S m (fun _ _ => 0))
def setW (W : Nat → Nat → Int) (a b : Nat) (v : Int) : Nat → Nat → Int := fun x y => if (x = a ∧ y = b) ∨ (x = b ∧ y = a) then v else W x y
def sp_worth (S : Sp) (x y v : Int32) : An := match rngQ (sMx S) x, rngQ (sMx S) y with
  | some a, some b => if a = b ∨ v < -1000 ∨ 1000 < v then RB S else (1, pA (pX S (sMx S) (setW (sWo S) a b v.toInt)) (zI (sWo S a b)))
  | _, _ => RB S
def sp_laying (S : Sp) : An := (nI (sMx S), pA (pL S (sMx S) (lyS (sWo S) (sMx S) (sMx S)).1) (zI (lyG (sWo S) (sMx S))))
def sp_axis (S : Sp) (x : Int32) : An := (match rngQ (sLn S) x with
  | none => -9
  | some i => nI (sLd S i), S)
def treesN (S : Sp) : Nat := cntB (fun t => decide (tN (sT S t) ≠ 0)) 4
def heldN (S : Sp) : Nat := sumTo (fun t => if tN (sT S t) = 0 then 0 else heldT (sT S t) (2 * tN (sT S t) - 1)) 4
def sp_count (S : Sp) (x : Int32) : An := (if x = 0 then nI (sN S) else if x = 1 then nI (cntB (sTh S) 10) else if x = 2 then nI (treesN S) else if x = 3 then nI (sMx S) else if x = 4 then nI (heldN S) else -1, S)
def sp_findings (S : Sp) (x : Int32) : An := (if 1 ≤ x ∧ x ≤ 5 then sFs S x.toNatClampNeg else -1, S)
def dgTrees (S : Sp) : Nat → Int64 → Int64
  | 0, h => h
  | t + 1, h => if tN (sT S t) = 0 then 31 * dgTrees S t h - 1 else dgTree (sT S t) (2 * tN (sT S t) - 1) (dgTrees S t h)
def sp_digest (S : Sp) : Int64 := dgW (sWo S) (sMx S) (sMx S) (dgTrees S 4 (dgRows (sTh S) (sPl S) 10 (31 * (31 * 17 + (nI (sN S)).toInt64) + (nI (sMx S)).toInt64)))
/-- the class's cells hold the state -/
def TrC (σ : AH) (t : Nat) (T : TT) : Prop := (tN T = 0 ∧ σ.1 (tI t) 11 = 0) ∨ (1 ≤ tN T ∧ σ.1 (tI t) 11 = 1 ∧ Wf T ∧ RtA σ t T ∧ RtB σ t T ∧ RtP σ t T)
def MiC (σ : AH) (S : Sp) : Prop := σ.1 0 10 = sAs S ∧ σ.1 15 1 = nI (sFi S) ∧ (∀ f, f < 6 → σ.1 16 f = sFs S f) ∧ σ.1 0 9 = nI (sKn S) ∧ sKn S ≤ 10 ∧ (∀ l, l < 10 → σ.1 18 l = sKp S l) ∧ (∀ l, l < 10 → σ.1 17 l = sGr S l) ∧ σ.1 11 4 = nI (sLn S) ∧ sLn S ≤ 8 ∧ (∀ i, i < sLn S → σ.1 14 i = nI (sLd S i)) ∧ (∀ i, i < sLn S → sLd S i < 8)
def RelC (S : Sp) (σ : AH) : Prop := RoC σ (sN S) (sTh S) (sPl S) ∧ (∀ t, t < 4 → TrC σ t (sT S t)) ∧ MiC σ S ∧ AxC σ (sMx S) (sWo S)
/-- what the class leaves: the reference's cells -/
def frC (σ τ : AH) : Prop := ∀ k, 106 ≤ k → τ.1 k = σ.1 k
theorem rngQ_some {n : Nat} {x : Int32} {i : Nat} (hn : n < 2 ^ 31) (h : rngQ n x = some i) : i < n ∧ x = nI i := by
  unfold rngQ at h
  split at h
  · next hq =>
    cases h
    have h1 : 0 ≤ x.toInt := by have := Int32.le_iff_toInt_le.mp hq.1; rw [Int32.toInt_zero] at this; exact this
    have h2 : x.toInt < (n : Int) := by have := Int32.lt_iff_toInt_lt.mp hq.2; rw [nI_toInt hn] at this; exact this
    have e : x.toNatClampNeg = x.toInt.toNat := rfl
    refine ⟨by rw [e]; omega, ?_⟩
    apply Int32.toInt_inj.mp
    rw [nI_toInt (by rw [e]; omega), e]
    omega
  · cases h
theorem rngQ_none {n : Nat} {x : Int32} (h : rngQ n x = none) : ¬ (0 ≤ x ∧ x < nI n) := by
  unfold rngQ at h
  split at h
  · cases h
  · next hq => exact hq
theorem rngQ_nI {n i : Nat} (hn : n < 2 ^ 31) (h : i < n) : rngQ n (nI i) = some i := by
  unfold rngQ
  rw [if_pos ⟨nI_ge0 (by omega), (nI_lt' (by omega) hn).mpr h⟩, nI_clamp (by omega)]
theorem trQ_neg {S : Sp} {x : Int32} {r : An} (h : trQ S x = .inl r) : r.1 = -1 ∨ r.1 = -3 ∨ r.1 = -4 := by
  unfold trQ at h
  split at h
  · cases h; exact Or.inl rfl
  · split at h
    · cases h; exact Or.inr (Or.inl rfl)
    · cases h
theorem trQ_ok {S : Sp} {x : Int32} {t : Nat} (h : trQ S x = .inr t) : t < 4 ∧ x = nI t ∧ tN (sT S t) ≠ 0 := by
  unfold trQ at h
  split at h
  · cases h
  · next t' ht =>
    split at h
    · cases h
    · next hn =>
      cases h
      exact ⟨(rngQ_some (by decide) ht).1, (rngQ_some (by decide) ht).2, hn⟩
theorem ndQ_neg {S : Sp} {x y : Int32} {r : An} (h : ndQ S x y = .inl r) : r.1 = -1 ∨ r.1 = -3 ∨ r.1 = -4 := by
  unfold ndQ at h
  split at h
  · next r' hr => cases h; exact trQ_neg hr
  · split at h
    · cases h; exact Or.inr (Or.inl rfl)
    · cases h
theorem jnQ_neg {S : Sp} {x y : Int32} {r : An} (h : jnQ S x y = .inl r) : r.1 = -1 ∨ r.1 = -3 ∨ r.1 = -4 := by
  unfold jnQ at h
  split at h
  · next r' hr => cases h; exact ndQ_neg hr
  · split at h
    · cases h; exact Or.inr (Or.inl rfl)
    · cases h
theorem prQ_neg {S : Sp} {x y : Int32} {r : An} (h : prQ S x y = .inl r) : r.1 = -1 ∨ r.1 = -3 ∨ r.1 = -4 := by
  unfold prQ at h
  split at h
  · split at h
    · cases h; exact Or.inr (Or.inl rfl)
    · split at h
      · cases h
      · cases h; exact Or.inr (Or.inr rfl)
  · cases h; exact Or.inl rfl
theorem prQ_ok {S : Sp} {x y : Int32} {q : Nat × Nat} (h : prQ S x y = .inr q) : q.1 < 4 ∧ x = nI q.1 ∧ q.2 < 4 ∧ y = nI q.2 ∧ tN (sT S q.1) ≠ 0 ∧ tN (sT S q.2) ≠ 0 ∧ tN (sT S q.1) = tN (sT S q.2) := by
  unfold prQ at h
  split at h
  · next t u ht hu =>
    split at h
    · cases h
    · next hz =>
      split at h
      · next he =>
        cases h
        exact ⟨(rngQ_some (by decide) ht).1, (rngQ_some (by decide) ht).2, (rngQ_some (by decide) hu).1, (rngQ_some (by decide) hu).2, fun q => hz (Or.inl q), fun q => hz (Or.inr q), he⟩
      · cases h
  · cases h
theorem fcQ_neg {S : Sp} {x y : Int32} {r : An} (h : fcQ S x y = .inl r) : r.1 = -1 ∨ r.1 = -3 ∨ r.1 = -4 := by
  unfold fcQ at h
  split at h
  · cases h; exact Or.inl rfl
  · exact prQ_neg h
theorem fcQ_ok {S : Sp} {x y : Int32} {q : Nat × Nat} (h : fcQ S x y = .inr q) : q.1 < 4 ∧ x = nI q.1 ∧ q.2 < 4 ∧ y = nI q.2 ∧ tN (sT S q.1) ≠ 0 ∧ tN (sT S q.2) ≠ 0 ∧ tN (sT S q.1) = tN (sT S q.2) ∧ q.1 ≠ q.2 := by
  unfold fcQ at h
  split at h
  · cases h
  · next hne =>
    obtain ⟨h1, h2, h3, h4, h5, h6, h7⟩ := prQ_ok h
    exact ⟨h1, h2, h3, h4, h5, h6, h7, fun q => hne (by rw [h2, h4, q])⟩
theorem neg_nz {x : Int32} (h : x = -1 ∨ x = -3 ∨ x = -4) : ¬ x = 0 ∧ x < 0 := by
  rcases h with rfl | rfl | rfl <;> decide
