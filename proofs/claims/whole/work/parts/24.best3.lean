/-! the best turns: orders as lists, and that the table holds the least of them -/
/-- of two nodes with a leaf in common the higher one is above the lower one -/
theorem lam {T : TT} (hW : Wf T) {x : Nat} : ∀ (v' v : Nat), v < v' → v' < 2 * tN T - 1 → hasL T v x = true → hasL T v' x = true → tU T v ≤ v' ∧ ∀ y, hasL T v y = true → hasL T v' y = true := by
  intro v'
  induction v' using Nat.strongRecOn with
  | ind v' ih =>
    intro v hv hv' h1 h2
    by_cases hl : v' < tN T
    · rw [hasL_leaf hW hl] at h2
      rw [hasL_leaf hW (by omega)] at h1
      have := of_decide_eq_true h1
      have := of_decide_eq_true h2
      omega
    · have hj : tN T ≤ v' := by omega
      obtain ⟨a, b, c, d, e⟩ := hW.2.2.1 v' hj hv'
      have key : ∀ ch, ch < v' → tU T ch = v' → (∀ y, hasL T ch y = true → hasL T v' y = true) → hasL T ch x = true → tU T v ≤ v' ∧ ∀ y, hasL T v y = true → hasL T v' y = true := by
        intro ch hc hu hsub hx
        rcases Nat.lt_trichotomy v ch with h | h | h
        · obtain ⟨q1, q2⟩ := ih ch hc v h (by omega) h1 hx
          exact ⟨by omega, fun y hy => hsub y (q2 y hy)⟩
        · subst h
          exact ⟨by omega, hsub⟩
        · obtain ⟨q1, q2⟩ := ih v hv ch h (by omega) hx h1
          omega
      rw [hasL_join hW hj hv'] at h2
      rcases Bool.or_eq_true_iff.mp h2 with h2 | h2
      · exact key _ a d (fun y hy => by rw [hasL_join hW hj hv', hy]; rfl) h2
      · exact key _ b e (fun y hy => by rw [hasL_join hW hj hv', hy, Bool.or_true]) h2
/-- orders of a node's leaves by turns of joins that are not held -/
def VF (T : TT) : Nat → Nat → List Nat → Prop
  | 0, v, l => l = [v]
  | f + 1, v, l => if v < tN T then l = [v] else ∃ l1 l2, VF T f (tL T v) l1 ∧ VF T f (tR T v) l2 ∧ (l = l1 ++ l2 ∨ (tD T v = false ∧ l = l2 ++ l1))
theorem VF_fuel {T : TT} (hW : Wf T) : ∀ (f f' v : Nat), v < 2 * tN T - 1 → v < f → v < f' → ∀ l, VF T f v l ↔ VF T f' v l := by
  intro f
  induction f with
  | zero => intro f' v _ h; omega
  | succ f ih =>
    intro f' v hv h1 h2 l
    cases f' with
    | zero => omega
    | succ f' =>
      by_cases hl : v < tN T
      · show (if v < tN T then l = [v] else _) ↔ (if v < tN T then l = [v] else _)
        rw [if_pos hl, if_pos hl]
      · show (if v < tN T then l = [v] else ∃ l1 l2, VF T f (tL T v) l1 ∧ VF T f (tR T v) l2 ∧ _) ↔ (if v < tN T then l = [v] else ∃ l1 l2, VF T f' (tL T v) l1 ∧ VF T f' (tR T v) l2 ∧ _)
        rw [if_neg hl, if_neg hl]
        obtain ⟨a, b, -⟩ := hW.2.2.1 v (by omega) hv
        have e1 := ih f' (tL T v) (by omega) (by omega) (by omega)
        have e2 := ih f' (tR T v) (by omega) (by omega) (by omega)
        constructor
        · rintro ⟨l1, l2, q1, q2, q3⟩
          exact ⟨l1, l2, (e1 l1).mp q1, (e2 l2).mp q2, q3⟩
        · rintro ⟨l1, l2, q1, q2, q3⟩
          exact ⟨l1, l2, (e1 l1).mpr q1, (e2 l2).mpr q2, q3⟩
def VT (T : TT) (v : Nat) (l : List Nat) : Prop := VF T 20 v l
theorem VT_leaf {T : TT} {v : Nat} (h : v < tN T) {l : List Nat} : VT T v l ↔ l = [v] := by
  show (if v < tN T then l = [v] else _) ↔ _
  rw [if_pos h]
theorem VT_join {T : TT} (hW : Wf T) {v : Nat} (h1 : tN T ≤ v) (h2 : v < 2 * tN T - 1) {l : List Nat} : VT T v l ↔ ∃ l1 l2, VT T (tL T v) l1 ∧ VT T (tR T v) l2 ∧ (l = l1 ++ l2 ∨ (tD T v = false ∧ l = l2 ++ l1)) := by
  have h10 := hW.2.1
  obtain ⟨a, b, -⟩ := hW.2.2.1 v h1 h2
  unfold VT
  have e : VF T 20 v l ↔ VF T 21 v l := VF_fuel hW 20 21 v h2 (by omega) (by omega) l
  rw [e]
  show (if v < tN T then l = [v] else _) ↔ _
  rw [if_neg (by omega)]
/-- what an order of a node has -/
theorem VT_facts {T : TT} (hW : Wf T) : ∀ (v : Nat), v < 2 * tN T - 1 → ∀ l, VT T v l → l ≠ [] ∧ l.length = cB (tM T v) ∧ ∀ x, x ∈ l ↔ hasL T v x = true := by
  intro v
  induction v using Nat.strongRecOn with
  | ind v ih =>
    intro hv l hl
    by_cases h : v < tN T
    · rw [VT_leaf h] at hl
      subst hl
      refine ⟨by simp, ?_, fun x => ?_⟩
      · rw [hW.2.2.2.2.1 v h, cB_pow (by have := hW.2.1; omega)]; rfl
      · rw [hasL_leaf hW h]; simp
    · have h1 : tN T ≤ v := by omega
      obtain ⟨a, b, -⟩ := hW.2.2.1 v h1 hv
      obtain ⟨l1, l2, q1, q2, q3⟩ := (VT_join hW h1 hv).mp hl
      obtain ⟨r1, r2, r3⟩ := ih _ a (by omega) l1 q1
      obtain ⟨s1, s2, s3⟩ := ih _ b (by omega) l2 q2
      have hs := cB_join hW h1 hv
      have hm : ∀ x, (x ∈ l1 ∨ x ∈ l2) ↔ hasL T v x = true := fun x => by
        rw [hasL_join hW h1 hv, Bool.or_eq_true_iff, r3, s3]
      rcases q3 with rfl | ⟨-, rfl⟩
      · exact ⟨by simp [r1], by rw [List.length_append, r2, s2, hs], fun x => by rw [List.mem_append]; exact hm x⟩
      · exact ⟨by simp [s1], by rw [List.length_append, r2, s2, hs, Nat.add_comm], fun x => by rw [List.mem_append, Or.comm]; exact hm x⟩
/-- a list's price, its leaves as a number, both -/
def prL (u : Nat → Nat → Nat) : List Nat → Nat
  | [] => 0
  | [_] => 0
  | x :: y :: t => u x y + prL u (y :: t)
def cdL : List Nat → Nat := List.foldl (fun acc x => acc * 16 + x) 0
def keyL (u : Nat → Nat → Nat) (l : List Nat) : Nat := prL u l * 2 ^ 40 + cdL l
theorem cd_fold (l : List Nat) : ∀ a, List.foldl (fun acc x => acc * 16 + x) a l = a * 16 ^ l.length + cdL l := by
  induction l with
  | nil => intro a; simp [cdL]
  | cons x t ih =>
    intro a
    show List.foldl _ (a * 16 + x) t = _
    have h0 : cdL (x :: t) = List.foldl (fun acc x => acc * 16 + x) x t := by
      show List.foldl (fun acc x => acc * 16 + x) (0 * 16 + x) t = _
      rw [Nat.zero_mul, Nat.zero_add]
    rw [ih, h0, ih, List.length_cons, Nat.pow_succ, Nat.add_mul, Nat.mul_assoc, Nat.mul_comm 16]
    omega
theorem cd_app (l1 l2 : List Nat) : cdL (l1 ++ l2) = cdL l1 * 16 ^ l2.length + cdL l2 := by
  show List.foldl _ 0 (l1 ++ l2) = _
  rw [List.foldl_append, cd_fold]
  rfl
theorem cd_lt : ∀ (l : List Nat), (∀ x ∈ l, x < 16) → cdL l < 16 ^ l.length
  | [], _ => by show 0 < 1; omega
  | x :: t, h => by
    have ih := cd_lt t (fun y hy => h y (List.mem_cons_of_mem _ hy))
    have hx := h x List.mem_cons_self
    have e : cdL (x :: t) = cdL ([x] ++ t) := rfl
    have e1 : cdL [x] = x := by show 0 * 16 + x = x; omega
    rw [e, cd_app, e1, List.length_cons, Nat.pow_succ]
    have : (x + 1) * 16 ^ t.length ≤ 16 * 16 ^ t.length := Nat.mul_le_mul_right _ (by omega)
    rw [Nat.add_mul] at this
    rw [Nat.mul_comm (16 ^ t.length)]
    omega
theorem pr_app {u : Nat → Nat → Nat} : ∀ (l1 : List Nat) {c : Nat} {d : Nat} {t2 : List Nat}, l1.getLast? = some c → prL u (l1 ++ d :: t2) = prL u l1 + u c d + prL u (d :: t2)
  | [], c, d, t2, h => by cases h
  | [x], c, d, t2, h => by
    have h : some x = some c := h
    cases h
    show u x d + prL u (d :: t2) = 0 + u x d + _
    omega
  | x :: y :: t, c, d, t2, h => by
    have ih := pr_app (u := u) (y :: t) (c := c) (d := d) (t2 := t2) (by rw [← h]; rfl)
    show u x y + prL u ((y :: t) ++ d :: t2) = (u x y + prL u (y :: t)) + u c d + _
    rw [ih]
    omega
theorem pr_le {u : Nat → Nat → Nat} (hu : ∀ a b, u a b ≤ 10000) : ∀ (l : List Nat), l ≠ [] → prL u l + 10000 ≤ 10000 * l.length
  | [], h => absurd rfl h
  | [x], _ => by show 0 + 10000 ≤ 10000 * 1; omega
  | x :: y :: t, _ => by
    have ih := pr_le hu (y :: t) (by simp)
    have := hu x y
    show (u x y + prL u (y :: t)) + 10000 ≤ 10000 * ((y :: t).length + 1)
    omega
theorem key_div {u : Nat → Nat → Nat} {l : List Nat} (h : ∀ x ∈ l, x < 16) (hl : l.length ≤ 10) : keyL u l / 2 ^ 40 = prL u l ∧ keyL u l % 2 ^ 40 = cdL l := by
  have h1 := cd_lt l h
  have h2 := pow16 hl
  unfold keyL
  rw [Nat.mul_comm, Nat.mul_add_div (by decide), Nat.mul_add_mod, Nat.div_eq_of_lt (by omega), Nat.mod_eq_of_lt (by omega)]
  exact ⟨rfl, rfl⟩
theorem key_ok {u : Nat → Nat → Nat} (hu : ∀ a b, u a b ≤ 10000) {l : List Nat} (h : ∀ x ∈ l, x < 16) (hl : l.length ≤ 10) (hne : l ≠ []) : okKey (keyL u l) l.length := by
  obtain ⟨e1, e2⟩ := key_div (u := u) h hl
  unfold okKey
  rw [e1, e2]
  exact ⟨pr_le hu l hne, cd_lt l h⟩
def isMin (u : Nat → Nat → Nat) (P : List Nat → Prop) (o : Option Nat) : Prop := match o with
  | none => ∀ l, ¬ P l
  | some k => (∃ l, P l ∧ keyL u l = k) ∧ ∀ l, P l → k ≤ keyL u l
theorem isMin_congr {u : Nat → Nat → Nat} {P P' : List Nat → Prop} {o : Option Nat} (h : isMin u P o) (e : ∀ l, P l ↔ P' l) : isMin u P' o := by
  cases o with
  | none => exact fun l hl => h l ((e l).mpr hl)
  | some k =>
    obtain ⟨⟨l, h1, h2⟩, h3⟩ := h
    exact ⟨⟨l, (e l).mp h1, h2⟩, fun l hl => h3 l ((e l).mpr hl)⟩
theorem isMin_or {u : Nat → Nat → Nat} {P P' : List Nat → Prop} {o o' : Option Nat} (h : isMin u P o) (h' : isMin u P' o') : isMin u (fun l => P l ∨ P' l) (omin o o') := by
  cases o with
  | none =>
    show isMin u _ o'
    exact isMin_congr h' (fun l => ⟨Or.inr, fun q => q.elim (fun q => absurd q (h l)) id⟩)
  | some k =>
    cases o' with
    | none =>
      show isMin u _ (some k)
      exact isMin_congr h (fun l => ⟨Or.inl, fun q => q.elim id (fun q => absurd q (h' l))⟩)
    | some k' =>
      obtain ⟨⟨l, h1, h2⟩, h3⟩ := h
      obtain ⟨⟨l', h1', h2'⟩, h3'⟩ := h'
      refine ⟨?_, fun m hm => ?_⟩
      · by_cases hk : k ≤ k'
        · exact ⟨l, Or.inl h1, by rw [Nat.min_eq_left hk]; exact h2⟩
        · exact ⟨l', Or.inr h1', by rw [Nat.min_eq_right (by omega)]; exact h2'⟩
      · rcases hm with hm | hm
        · have := h3 m hm; omega
        · have := h3' m hm; omega
theorem isMin_okO {u : Nat → Nat → Nat} (hu : ∀ a b, u a b ≤ 10000) {P : List Nat → Prop} {o : Option Nat} {s : Nat} (h : isMin u P o) (hP : ∀ l, P l → (∀ x ∈ l, x < 16) ∧ l.length = s ∧ l ≠ []) (hs : s ≤ 10) : okO s o := by
  intro k hk
  subst hk
  obtain ⟨⟨l, h1, h2⟩, -⟩ := h
  obtain ⟨q1, q2, q3⟩ := hP l h1
  rw [← h2, ← q2]
  exact key_ok hu q1 (by omega) q3
theorem lex_le {P p q c d : Nat} (h : p * P + c ≤ q * P + d) (hd : d < P) : p ≤ q := by
  by_cases e : p ≤ q
  · exact e
  · exfalso
    have := Nat.mul_le_mul_right P (show q + 1 ≤ p by omega)
    rw [Nat.add_mul, Nat.one_mul] at this
    omega
theorem lex_lt {P p q c d : Nat} (h : p < q) (hc : c < P) : p * P + c ≤ q * P + d := by
  have := Nat.mul_le_mul_right P (show p + 1 ≤ q by omega)
  rw [Nat.add_mul, Nat.one_mul] at this
  omega
/-- the least of two side by side, with given ends -/
theorem bsN_min {u : Nat → Nat → Nat} {P1 P2 : List Nat → Prop} {o1 o2 : Option Nat} {c d s1 sz : Nat} (h1 : isMin u P1 o1) (h2 : isMin u P2 o2) (f1 : ∀ l, P1 l → (∀ x ∈ l, x < 16) ∧ l.length = s1 ∧ l.getLast? = some c) (f2 : ∀ l, P2 l → (∀ x ∈ l, x < 16) ∧ l.length = sz ∧ l.head? = some d) (hs : s1 + sz ≤ 10) : isMin u (fun l => ∃ l1 l2, P1 l1 ∧ P2 l2 ∧ l = l1 ++ l2) (bsN o1 (u c d) o2 sz) := by
  have kapp : ∀ l1 l2, P1 l1 → P2 l2 → keyL u (l1 ++ l2) = (prL u l1 + u c d + prL u l2) * 2 ^ 40 + (cdL l1 * 16 ^ sz + cdL l2) := by
    intro l1 l2 p1 p2
    obtain ⟨-, -, a3⟩ := f1 l1 p1
    obtain ⟨-, b2, b3⟩ := f2 l2 p2
    unfold keyL
    cases l2 with
    | nil => cases b3
    | cons y t =>
      have b3 : some y = some d := b3
      cases b3
      rw [pr_app l1 a3, cd_app, b2]
  cases o1 with
  | none => exact fun l ⟨l1, l2, p1, _, _⟩ => h1 l1 p1
  | some k1 =>
    cases o2 with
    | none => exact fun l ⟨l1, l2, _, p2, _⟩ => h2 l2 p2
    | some k2 =>
      obtain ⟨⟨m1, p1, e1⟩, g1⟩ := h1
      obtain ⟨⟨m2, p2, e2⟩, g2⟩ := h2
      obtain ⟨a1, a2, a3⟩ := f1 m1 p1
      obtain ⟨b1, b2, b3⟩ := f2 m2 p2
      obtain ⟨d1, d2⟩ := key_div (u := u) a1 (by omega)
      obtain ⟨d3, d4⟩ := key_div (u := u) b1 (by omega)
      refine ⟨⟨m1 ++ m2, ⟨m1, m2, p1, p2, rfl⟩, ?_⟩, ?_⟩
      · rw [kapp m1 m2 p1 p2, ← e1, ← e2, d1, d2, d3, d4]
      · rintro l ⟨l1, l2, q1, q2, rfl⟩
        rw [kapp l1 l2 q1 q2, ← e1, ← e2, d1, d2, d3, d4]
        obtain ⟨x1, x2, x3⟩ := f1 l1 q1
        obtain ⟨y1, y2, y3⟩ := f2 l2 q2
        have c1 := cd_lt l1 x1
        have c2 := cd_lt l2 y1
        have c3 := cd_lt m1 a1
        have c4 := cd_lt m2 b1
        rw [x2] at c1
        rw [y2] at c2
        rw [a2] at c3
        rw [b2] at c4
        have z1 := bs_code c3 c4 hs
        have hm1 : keyL u m1 ≤ keyL u l1 := by rw [e1]; exact g1 l1 q1
        have hm2 : keyL u m2 ≤ keyL u l2 := by rw [e2]; exact g2 l2 q2
        have w1 := pow16 (show s1 ≤ 10 by omega)
        have w2 := pow16 (show sz ≤ 10 by omega)
        unfold keyL at hm1 hm2
        have hq1 : prL u m1 ≤ prL u l1 := lex_le hm1 (by omega)
        have hq2 : prL u m2 ≤ prL u l2 := lex_le hm2 (by omega)
        by_cases hp : prL u m1 + prL u m2 = prL u l1 + prL u l2
        · have r1 : prL u m1 = prL u l1 := by omega
          have r2 : prL u m2 = prL u l2 := by omega
          have t1 : cdL m1 ≤ cdL l1 := by rw [r1] at hm1; exact Nat.le_of_add_le_add_left hm1
          have t2 : cdL m2 ≤ cdL l2 := by rw [r2] at hm2; exact Nat.le_of_add_le_add_left hm2
          rw [r1, r2]
          exact Nat.add_le_add_left (Nat.add_le_add (Nat.mul_le_mul_right (16 ^ sz) t1) t2) _
        · exact lex_lt (by omega) z1.2.1
/-- orders of a node with given ends -/
def PE (T : TT) (v a b : Nat) (l : List Nat) : Prop := VT T v l ∧ l.head? = some a ∧ l.getLast? = some b
theorem head_mem {l : List Nat} {a : Nat} (h : l.head? = some a) : a ∈ l := by
  cases l with
  | nil => cases h
  | cons x t => cases h; exact List.mem_cons_self
theorem last_mem {l : List Nat} {a : Nat} (h : l.getLast? = some a) : a ∈ l := List.mem_of_getLast? h
theorem app_head {l1 l2 : List Nat} (h : l1 ≠ []) : (l1 ++ l2).head? = l1.head? := by
  cases l1 with
  | nil => exact absurd rfl h
  | cons x t => rfl
theorem app_last {l1 l2 : List Nat} (h : l2 ≠ []) : (l1 ++ l2).getLast? = l2.getLast? := by
  rw [List.getLast?_append]
  cases l2 with
  | nil => exact absurd rfl h
  | cons x t =>
    cases hq : (x :: t).getLast? with
    | none => simp at hq
    | some y => rfl
theorem farE_leaf {T : TT} (hW : Wf T) {v x c : Nat} (hv : v < tN T) : (farE T v x).testBit c = decide (c = v) := by
  unfold farE
  rw [if_pos hv]
  exact hasL_leaf hW hv
theorem farE_join {T : TT} {v x c : Nat} (hv : ¬ v < tN T) : (farE T v x).testBit c = if hasL T (tL T v) x then hasL T (tR T v) c else hasL T (tL T v) c := by
  unfold farE
  rw [if_neg hv]
  split <;> rfl
/-- an order's ends are far ends of each other -/
theorem PE_far {T : TT} (hW : Wf T) {v a b : Nat} {l : List Nat} (hv : v < 2 * tN T - 1) (h : PE T v a b l) : hasL T v a = true ∧ hasL T v b = true ∧ (farE T v a).testBit b = true ∧ (farE T v b).testBit a = true := by
  obtain ⟨h1, h2, h3⟩ := h
  obtain ⟨f1, f2, f3⟩ := VT_facts hW v hv l h1
  have ma := (f3 a).mp (head_mem h2)
  have mb := (f3 b).mp (last_mem h3)
  refine ⟨ma, mb, ?_⟩
  by_cases hl : v < tN T
  · rw [farE_leaf hW hl, farE_leaf hW hl]
    rw [hasL_leaf hW hl] at ma mb
    exact ⟨mb, ma⟩
  · have hj : tN T ≤ v := by omega
    obtain ⟨q1, q2, -⟩ := hW.2.2.1 v hj hv
    obtain ⟨l1, l2, r1, r2, r3⟩ := (VT_join hW hj hv).mp h1
    obtain ⟨g1, g2, g3⟩ := VT_facts hW _ (by omega) l1 r1
    obtain ⟨k1, k2, k3⟩ := VT_facts hW _ (by omega) l2 r2
    have dis := fun x => hasL_dis hW (x := x) hj hv
    rw [farE_join hl, farE_join hl]
    rcases r3 with rfl | ⟨-, rfl⟩
    · rw [app_head g1] at h2
      rw [app_last k1] at h3
      have a1 := (g3 a).mp (head_mem h2)
      have b1 := (k3 b).mp (last_mem h3)
      have b0 : ¬ hasL T (tL T v) b = true := fun q => dis b ⟨q, b1⟩
      rw [if_pos a1, if_neg b0]
      exact ⟨b1, a1⟩
    · rw [app_head k1] at h2
      rw [app_last g1] at h3
      have a1 := (k3 a).mp (head_mem h2)
      have b1 := (g3 b).mp (last_mem h3)
      have a0 : ¬ hasL T (tL T v) a = true := fun q => dis a ⟨q, a1⟩
      rw [if_neg a0, if_pos b1]
      exact ⟨b1, a1⟩
theorem VT_small {T : TT} (hW : Wf T) {v : Nat} (hv : v < 2 * tN T - 1) {l : List Nat} (h : VT T v l) : ∀ x ∈ l, x < 16 := fun x hx => by
  have h1 := hasL_lt hW v x hv (((VT_facts hW v hv l h).2.2 x).mp hx)
  have := hW.2.1
  omega
/-- the table's invariant: below node k, what its entries are -/
def KInv (T : TT) (u : Nat → Nat → Nat) (k : Nat) (Kf : KF) : Prop :=
  (∀ v, v < k → ∀ a b, hasL T v a = true → (farE T v a).testBit b = true → isMin u (PE T v a b) (Kf a b)) ∧
  (∀ a b, a < tN T → b < tN T → (∀ v, v < k → ¬ (hasL T v a = true ∧ hasL T v b = true)) → Kf a b = none)
theorem lwI_min {T : TT} (hW : Wf T) {u : Nat → Nat → Nat} {Kf : KF} {v w a b c : Nat} {s : Option Nat} {P : List Nat → Prop} (hv : v < 2 * tN T - 1) (hw : w < 2 * tN T - 1) (hs : cB (tM T v) + cB (tM T w) ≤ 10)
    (h1 : ∀ c, (farE T v a).testBit c = true → isMin u (PE T v a c) (Kf a c)) (h2 : ∀ d, (farE T w b).testBit d = true → isMin u (PE T w d b) (Kf d b)) (h0 : isMin u P s) :
    ∀ d, isMin u (fun l => P l ∨ ∃ d', d' < d ∧ (farE T v a).testBit c = true ∧ (farE T w b).testBit d' = true ∧ ∃ l1 l2, PE T v a c l1 ∧ PE T w d' b l2 ∧ l = l1 ++ l2) (lwI Kf u (farE T v a) (farE T w b) a b (cB (tM T w)) c d s)
  | 0 => isMin_congr h0 (fun l => ⟨Or.inl, fun q => q.elim id (fun ⟨d', h, _⟩ => absurd h (Nat.not_lt_zero d'))⟩)
  | d + 1 => by
    have ih := lwI_min hW (c := c) hv hw hs h1 h2 h0 d
    unfold lwI
    split
    · next hb =>
      have hb := Bool.and_eq_true_iff.mp hb
      have hm := bsN_min (h1 c hb.1) (h2 d hb.2) (fun l hl => ⟨VT_small hW hv hl.1, (VT_facts hW v hv l hl.1).2.1, hl.2.2⟩) (fun l hl => ⟨VT_small hW hw hl.1, (VT_facts hW w hw l hl.1).2.1, hl.2.1⟩) hs
      refine isMin_congr (isMin_or ih hm) (fun l => ⟨fun q => ?_, fun q => ?_⟩)
      · rcases q with (q | ⟨d', q1, q2⟩) | ⟨l1, l2, q⟩
        · exact Or.inl q
        · exact Or.inr ⟨d', by omega, q2⟩
        · exact Or.inr ⟨d, by omega, hb.1, hb.2, l1, l2, q⟩
      · rcases q with q | ⟨d', q1, q2, q3, q4⟩
        · exact Or.inl (Or.inl q)
        · by_cases e : d' = d
          · subst e; exact Or.inr q4
          · exact Or.inl (Or.inr ⟨d', by omega, q2, q3, q4⟩)
    · next hb =>
      refine isMin_congr ih (fun l => ⟨fun q => ?_, fun q => ?_⟩)
      · rcases q with q | ⟨d', q1, q2⟩
        · exact Or.inl q
        · exact Or.inr ⟨d', by omega, q2⟩
      · rcases q with q | ⟨d', q1, q2, q3, q4⟩
        · exact Or.inl q
        · by_cases e : d' = d
          · subst e
            rw [q2, q3] at hb
            exact absurd rfl hb
          · exact Or.inr ⟨d', by omega, q2, q3, q4⟩
theorem lwO_min {T : TT} (hW : Wf T) {u : Nat → Nat → Nat} {Kf : KF} {v w a b : Nat} (hv : v < 2 * tN T - 1) (hw : w < 2 * tN T - 1) (hs : cB (tM T v) + cB (tM T w) ≤ 10)
    (h1 : ∀ c, (farE T v a).testBit c = true → isMin u (PE T v a c) (Kf a c)) (h2 : ∀ d, (farE T w b).testBit d = true → isMin u (PE T w d b) (Kf d b)) :
    ∀ c, isMin u (fun l => ∃ c', c' < c ∧ ∃ d', d' < tN T ∧ (farE T v a).testBit c' = true ∧ (farE T w b).testBit d' = true ∧ ∃ l1 l2, PE T v a c' l1 ∧ PE T w d' b l2 ∧ l = l1 ++ l2) (lwO Kf u (farE T v a) (farE T w b) (tN T) a b (cB (tM T w)) c)
  | 0 => fun l ⟨c', h, _⟩ => absurd h (Nat.not_lt_zero c')
  | c + 1 => by
    have ih := lwO_min hW hv hw hs h1 h2 c
    refine isMin_congr (lwI_min hW (c := c) hv hw hs h1 h2 ih (tN T)) (fun l => ⟨fun q => ?_, fun q => ?_⟩)
    · rcases q with ⟨c', q1, q2⟩ | ⟨d', q1, q2⟩
      · exact ⟨c', by omega, q2⟩
      · exact ⟨c, by omega, d', q1, q2⟩
    · obtain ⟨c', q1, d', q2, q3⟩ := q
      by_cases e : c' = c
      · subst e; exact Or.inr ⟨d', q2, q3⟩
      · exact Or.inl ⟨c', by omega, d', q2, q3⟩
/-- one branch beside another one -/
theorem side_min {T : TT} (hW : Wf T) {u : Nat → Nat → Nat} {Kf : KF} {v w a b : Nat} (hv : v < 2 * tN T - 1) (hw : w < 2 * tN T - 1) (hs : cB (tM T v) + cB (tM T w) ≤ 10)
    (h1 : ∀ c, (farE T v a).testBit c = true → isMin u (PE T v a c) (Kf a c)) (h2 : ∀ d, (farE T w b).testBit d = true → isMin u (PE T w d b) (Kf d b)) :
    isMin u (fun l => ∃ l1 l2, VT T v l1 ∧ VT T w l2 ∧ l1.head? = some a ∧ l2.getLast? = some b ∧ l = l1 ++ l2) (lwO Kf u (farE T v a) (farE T w b) (tN T) a b (cB (tM T w)) (tN T)) := by
  refine isMin_congr (lwO_min hW hv hw hs h1 h2 (tN T)) (fun l => ⟨fun q => ?_, fun q => ?_⟩)
  · obtain ⟨c', q1, d', q2, q3, q4, l1, l2, q5, q6, q7⟩ := q
    exact ⟨l1, l2, q5.1, q6.1, q5.2.1, q6.2.2, q7⟩
  · obtain ⟨l1, l2, q1, q2, q3, q4, q5⟩ := q
    obtain ⟨f1, -, -⟩ := VT_facts hW v hv l1 q1
    obtain ⟨g1, -, -⟩ := VT_facts hW w hw l2 q2
    obtain ⟨c', hc'⟩ : ∃ c', l1.getLast? = some c' := by
      cases hq : l1.getLast? with
      | none => simp at hq; exact absurd hq f1
      | some y => exact ⟨y, rfl⟩
    obtain ⟨d', hd'⟩ : ∃ d', l2.head? = some d' := by
      cases l2 with
      | nil => exact absurd rfl g1
      | cons y t => exact ⟨y, rfl⟩
    have p1 : PE T v a c' l1 := ⟨q1, q3, hc'⟩
    have p2 : PE T w d' b l2 := ⟨q2, hd', q4⟩
    have r1 := PE_far hW hv p1
    have r2 := PE_far hW hw p2
    exact ⟨c', hasL_lt hW v c' hv r1.2.1, d', hasL_lt hW w d' hw r2.1, r1.2.2.1, r2.2.2.2, l1, l2, p1, p2, q5⟩
