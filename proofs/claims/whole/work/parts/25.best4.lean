/-! the best turns: the table, join by join, up to the top -/
def initK : KF := fun a b => if a = b then some a else none
theorem KInv_init {T : TT} (hW : Wf T) (u : Nat → Nat → Nat) : KInv T u (tN T) initK := by
  refine ⟨fun v hv a b ha hb => ?_, fun a b ha hb h => ?_⟩
  · rw [hasL_leaf hW hv] at ha
    rw [farE_leaf hW hv] at hb
    have ha := of_decide_eq_true ha
    have hb := of_decide_eq_true hb
    subst ha; subst hb
    show isMin u (PE T b b b) (if b = b then some b else none)
    rw [if_pos rfl]
    have hk : keyL u [b] = b := by
      show 0 * 2 ^ 40 + (0 * 16 + b) = b
      omega
    refine ⟨⟨[b], ⟨(VT_leaf hv).mpr rfl, rfl, rfl⟩, hk⟩, fun l hl => ?_⟩
    rw [(VT_leaf hv).mp hl.1, hk]
    exact Nat.le_refl _
  · show (if a = b then some a else none) = none
    rw [if_neg (fun q => h a ha ⟨by rw [hasL_leaf hW ha]; simp, by rw [hasL_leaf hW ha, q]; simp⟩)]
theorem far_sym {T : TT} (hW : Wf T) {v b d : Nat} (hv : v < 2 * tN T - 1) (hb : hasL T v b = true) (h : (farE T v b).testBit d = true) : hasL T v d = true ∧ (farE T v d).testBit b = true := by
  have hd := farE_sub hW hv h
  refine ⟨hd, ?_⟩
  by_cases hl : v < tN T
  · rw [farE_leaf hW hl]
    rw [hasL_leaf hW hl] at hb
    exact hb
  · have hj : tN T ≤ v := by omega
    have dis := fun x => hasL_dis hW (x := x) hj hv
    rw [farE_join hl] at h ⊢
    rw [hasL_join hW hj hv] at hb hd
    by_cases hb1 : hasL T (tL T v) b = true
    · rw [if_pos hb1] at h
      rw [if_neg (fun q => dis d ⟨q, h⟩)]
      exact hb1
    · rw [if_neg hb1] at h
      rw [if_pos h]
      rcases Bool.or_eq_true_iff.mp hb with q | q
      · exact absurd q hb1
      · exact q
/-- a lower node that meets a branch lies in it -/
theorem sub_branch {T : TT} (hW : Wf T) {j v ch x : Nat} (hj2 : j < 2 * tN T - 1) (hv : v < j) (hc : ch < j) (hu : tU T ch = j) (h1 : hasL T v x = true) (h2 : hasL T ch x = true) : ∀ y, hasL T v y = true → hasL T ch y = true := by
  rcases Nat.lt_trichotomy v ch with h | h | h
  · exact (lam hW ch v h (by omega) h1 h2).2
  · subst h; exact fun y hy => hy
  · have := (lam hW v ch h (by omega) h2 h1).1
    omega
def stepK (T : TT) (u : Nat → Nat → Nat) (j : Nat) (Kf : KF) : KF := if tD T j then sideK T u Kf (tL T j) (tR T j) else sideK T u (sideK T u Kf (tL T j) (tR T j)) (tR T j) (tL T j)
theorem sideK_off {T : TT} {u : Nat → Nat → Nat} {Kf : KF} {v w a b : Nat} (h : ¬ (hasL T v a = true ∧ hasL T w b = true)) : sideK T u Kf v w a b = Kf a b := by
  unfold sideK
  rw [if_neg (fun q => h (Bool.and_eq_true_iff.mp q))]
theorem sideK_on {T : TT} {u : Nat → Nat → Nat} {Kf : KF} {v w a b : Nat} (h1 : hasL T v a = true) (h2 : hasL T w b = true) : sideK T u Kf v w a b = lwO Kf u (farE T v a) (farE T w b) (tN T) a b (cB (tM T w)) (tN T) := by
  unfold sideK
  rw [h1, h2]
  rfl
theorem KInv_step {T : TT} (hW : Wf T) {u : Nat → Nat → Nat} {j : Nat} {Kf : KF} (hj : tN T ≤ j) (hj2 : j < 2 * tN T - 1) (hK : KInv T u j Kf) : KInv T u (j + 1) (stepK T u j Kf) := by
  obtain ⟨qa, qb, qc, qd, qe⟩ := hW.2.2.1 j hj hj2
  have dis := fun x => hasL_dis hW (x := x) hj hj2
  have hs : cB (tM T (tL T j)) + cB (tM T (tR T j)) ≤ 10 := by rw [← cB_join hW hj hj2]; exact cB_le _
  obtain ⟨k1, k2⟩ := hK
  have nl : ¬ j < tN T := by omega
  have eLR : ∀ a b, hasL T (tL T j) a = true → hasL T (tR T j) b = true → stepK T u j Kf a b = lwO Kf u (farE T (tL T j) a) (farE T (tR T j) b) (tN T) a b (cB (tM T (tR T j))) (tN T) := by
    intro a b ha hb
    unfold stepK
    split
    · exact sideK_on ha hb
    · rw [sideK_off (fun q => dis a ⟨ha, q.1⟩)]; exact sideK_on ha hb
  have eRL : ∀ a b, hasL T (tR T j) a = true → hasL T (tL T j) b = true → tD T j = false → stepK T u j Kf a b = lwO Kf u (farE T (tR T j) a) (farE T (tL T j) b) (tN T) a b (cB (tM T (tL T j))) (tN T) := by
    intro a b ha hb hd
    unfold stepK
    rw [if_neg (by rw [hd]; decide), sideK_on ha hb]
    exact lwO_congr (fun c hc => sideK_off (fun q => dis a ⟨q.1, ha⟩)) (fun d hd' => sideK_off (fun q => dis b ⟨hb, q.2⟩)) _
  have eO : ∀ a b, ¬ (hasL T (tL T j) a = true ∧ hasL T (tR T j) b = true) → ¬ (hasL T (tR T j) a = true ∧ hasL T (tL T j) b = true ∧ tD T j = false) → stepK T u j Kf a b = Kf a b := by
    intro a b h1 h2
    unfold stepK
    split
    · exact sideK_off h1
    · next hd =>
      have hd : tD T j = false := by cases q : tD T j with | false => rfl | true => exact absurd q hd
      rw [sideK_off (fun q => h2 ⟨q.1, q.2, hd⟩)]
      exact sideK_off h1
  refine ⟨fun v hv a b ha hb => ?_, fun a b ha hb h => ?_⟩
  · by_cases e : v = j
    · subst e
      rw [farE_join nl] at hb
      rw [hasL_join hW hj hj2] at ha
      have inv : ∀ ch, ch < v → ∀ a c, hasL T ch a = true → (farE T ch a).testBit c = true → isMin u (PE T ch a c) (Kf a c) := fun ch hch a c q1 q2 => k1 ch hch a c q1 q2
      by_cases ha1 : hasL T (tL T v) a = true
      · rw [if_pos ha1] at hb
        rw [eLR a b ha1 hb]
        refine isMin_congr (side_min hW (by omega) (by omega) hs (fun c hc => inv _ qa a c ha1 hc) (fun d hd => by obtain ⟨q1, q2⟩ := far_sym hW (by omega) hb hd; exact inv _ qb d b q1 q2)) (fun l => ⟨?_, ?_⟩)
        · rintro ⟨l1, l2, r1, r2, r3, r4, rfl⟩
          obtain ⟨f1, -, -⟩ := VT_facts hW _ (by omega) l1 r1
          obtain ⟨g1, -, -⟩ := VT_facts hW _ (by omega) l2 r2
          exact ⟨(VT_join hW hj hj2).mpr ⟨l1, l2, r1, r2, Or.inl rfl⟩, by rw [app_head f1]; exact r3, by rw [app_last g1]; exact r4⟩
        · rintro ⟨r1, r2, r3⟩
          obtain ⟨l1, l2, s1, s2, s3⟩ := (VT_join hW hj hj2).mp r1
          obtain ⟨f1, -, f3⟩ := VT_facts hW _ (by omega) l1 s1
          obtain ⟨g1, -, g3⟩ := VT_facts hW _ (by omega) l2 s2
          rcases s3 with rfl | ⟨-, rfl⟩
          · rw [app_head f1] at r2
            rw [app_last g1] at r3
            exact ⟨l1, l2, s1, s2, r2, r3, rfl⟩
          · rw [app_head g1] at r2
            exact absurd ⟨ha1, (g3 a).mp (head_mem r2)⟩ (dis a)
      · rw [if_neg ha1] at hb
        have ha2 : hasL T (tR T v) a = true := by
          rcases Bool.or_eq_true_iff.mp ha with q | q
          · exact absurd q ha1
          · exact q
        cases hd : tD T v with
        | false =>
          rw [eRL a b ha2 hb hd]
          refine isMin_congr (side_min hW (by omega) (by omega) (by omega) (fun c hc => inv _ qb a c ha2 hc) (fun d hd => by obtain ⟨q1, q2⟩ := far_sym hW (by omega) hb hd; exact inv _ qa d b q1 q2)) (fun l => ⟨?_, ?_⟩)
          · rintro ⟨l1, l2, r1, r2, r3, r4, rfl⟩
            obtain ⟨f1, -, -⟩ := VT_facts hW _ (by omega) l1 r1
            obtain ⟨g1, -, -⟩ := VT_facts hW _ (by omega) l2 r2
            exact ⟨(VT_join hW hj hj2).mpr ⟨l2, l1, r2, r1, Or.inr ⟨hd, rfl⟩⟩, by rw [app_head f1]; exact r3, by rw [app_last g1]; exact r4⟩
          · rintro ⟨r1, r2, r3⟩
            obtain ⟨l1, l2, s1, s2, s3⟩ := (VT_join hW hj hj2).mp r1
            obtain ⟨f1, -, f3⟩ := VT_facts hW _ (by omega) l1 s1
            obtain ⟨g1, -, g3⟩ := VT_facts hW _ (by omega) l2 s2
            rcases s3 with rfl | ⟨-, rfl⟩
            · rw [app_head f1] at r2
              exact absurd ((f3 a).mp (head_mem r2)) ha1
            · rw [app_head g1] at r2
              rw [app_last f1] at r3
              exact ⟨l2, l1, s2, s1, r2, r3, rfl⟩
        | true =>
          rw [eO a b (fun q => ha1 q.1) (fun q => by rw [hd] at q; exact absurd q.2.2 (by decide))]
          rw [k2 a b (hasL_lt hW _ a (by omega) ha2) (hasL_lt hW _ b (by omega) hb) (fun v' hv' q => by
            have := sub_branch hW hj2 hv' qb qe q.1 ha2 b q.2
            exact dis b ⟨hb, this⟩)]
          rintro l ⟨r1, r2, r3⟩
          obtain ⟨l1, l2, s1, s2, s3⟩ := (VT_join hW hj hj2).mp r1
          obtain ⟨f1, -, f3⟩ := VT_facts hW _ (by omega) l1 s1
          rcases s3 with rfl | ⟨q, -⟩
          · rw [app_head f1] at r2
            exact ha1 ((f3 a).mp (head_mem r2))
          · rw [hd] at q; cases q
    · have hv' : v < j := by omega
      have hbv := farE_sub hW (by omega) hb
      rw [eO a b (fun q => dis b ⟨sub_branch hW hj2 hv' qa qd ha q.1 b hbv, q.2⟩) (fun q => dis b ⟨q.2.1, sub_branch hW hj2 hv' qb qe ha q.1 b hbv⟩)]
      exact k1 v hv' a b ha hb
  · have hn := h j (by omega)
    rw [hasL_join hW hj hj2, hasL_join hW hj hj2] at hn
    rw [eO a b (fun q => hn ⟨by rw [q.1]; rfl, by rw [q.2, Bool.or_true]⟩) (fun q => hn ⟨by rw [q.1, Bool.or_true], by rw [q.2.1]; rfl⟩)]
    exact k2 a b ha hb (fun v hv => h v (by omega))
/-- the table behind the first i joins -/
def bkS (T : TT) (u : Nat → Nat → Nat) : Nat → KF
  | 0 => initK
  | i + 1 => stepK T u (tN T + i) (bkS T u i)
theorem bkS_inv {T : TT} (hW : Wf T) (u : Nat → Nat → Nat) : ∀ i, i ≤ tN T - 1 → KInv T u (tN T + i) (bkS T u i)
  | 0, _ => KInv_init hW u
  | i + 1, h => KInv_step (j := tN T + i) hW (by omega) (by omega) (bkS_inv hW u i (by omega))
theorem KInv_okO {T : TT} (hW : Wf T) {u : Nat → Nat → Nat} (hu : ∀ a b, u a b ≤ 10000) {k : Nat} {Kf : KF} (h : KInv T u k Kf) {v : Nat} (hv : v < k) (hv2 : v < 2 * tN T - 1) {a c : Nat} (ha : hasL T v a = true) (hc : (farE T v a).testBit c = true) : okO (cB (tM T v)) (Kf a c) :=
  isMin_okO hu (h.1 v hv a c ha hc) (fun l hl => ⟨VT_small hW hv2 hl.1, (VT_facts hW v hv2 l hl.1).2.1, (VT_facts hW v hv2 l hl.1).1⟩) (cB_le _)
def ltI (Kf : KF) (E a : Nat) : Nat → Option Nat → Option Nat
  | 0, s => s
  | b + 1, s => if E.testBit b then omin (ltI Kf E a b s) (Kf a b) else ltI Kf E a b s
def ltO (T : TT) (Kf : KF) : Nat → Option Nat
  | 0 => none
  | a + 1 => ltI Kf (farE T (2 * tN T - 2) a) a (tN T) (ltO T Kf a)
theorem ltI_ok {Kf : KF} {E a n : Nat} {s : Option Nat} (h : ∀ b, E.testBit b = true → okO n (Kf a b)) (hs : okO n s) : ∀ b, okO n (ltI Kf E a b s)
  | 0 => hs
  | b + 1 => by
    unfold ltI
    split
    · next hb => exact omin_ok (ltI_ok h hs b) (h b hb)
    · exact ltI_ok h hs b
theorem ltO_ok {T : TT} {Kf : KF} {n : Nat} (h : ∀ a b, a < tN T → (farE T (2 * tN T - 2) a).testBit b = true → okO n (Kf a b)) : ∀ a, a ≤ tN T → okO n (ltO T Kf a)
  | 0, _ => fun k hk => by cases hk
  | a + 1, ha => ltI_ok (fun b hb => h a b (by omega) hb) (ltO_ok h a (by omega)) _
theorem ltI_min {u : Nat → Nat → Nat} {Kf : KF} {E a : Nat} {s : Option Nat} {P : List Nat → Prop} {Q : Nat → List Nat → Prop} (h : ∀ b, E.testBit b = true → isMin u (Q b) (Kf a b)) (h0 : isMin u P s) : ∀ b, isMin u (fun l => P l ∨ ∃ b', b' < b ∧ E.testBit b' = true ∧ Q b' l) (ltI Kf E a b s)
  | 0 => isMin_congr h0 (fun l => ⟨Or.inl, fun q => q.elim id (fun ⟨b', h, _⟩ => absurd h (Nat.not_lt_zero b'))⟩)
  | b + 1 => by
    have ih := ltI_min h h0 b
    unfold ltI
    split
    · next hb =>
      refine isMin_congr (isMin_or ih (h b hb)) (fun l => ⟨fun q => ?_, fun q => ?_⟩)
      · rcases q with (q | ⟨b', q1, q2⟩) | q
        · exact Or.inl q
        · exact Or.inr ⟨b', by omega, q2⟩
        · exact Or.inr ⟨b, by omega, hb, q⟩
      · rcases q with q | ⟨b', q1, q2, q3⟩
        · exact Or.inl (Or.inl q)
        · by_cases e : b' = b
          · subst e; exact Or.inr q3
          · exact Or.inl (Or.inr ⟨b', by omega, q2, q3⟩)
    · next hb =>
      refine isMin_congr ih (fun l => ⟨fun q => ?_, fun q => ?_⟩)
      · rcases q with q | ⟨b', q1, q2⟩
        · exact Or.inl q
        · exact Or.inr ⟨b', by omega, q2⟩
      · rcases q with q | ⟨b', q1, q2, q3⟩
        · exact Or.inl q
        · by_cases e : b' = b
          · subst e; exact absurd q2 hb
          · exact Or.inr ⟨b', by omega, q2, q3⟩
theorem ltO_min {T : TT} (hW : Wf T) {u : Nat → Nat → Nat} {Kf : KF} (hK : KInv T u (2 * tN T - 1) Kf) : ∀ a, a ≤ tN T → isMin u (fun l => ∃ a', a' < a ∧ ∃ b', PE T (2 * tN T - 2) a' b' l) (ltO T Kf a)
  | 0, _ => fun l ⟨a', h, _⟩ => absurd h (Nat.not_lt_zero a')
  | a + 1, ha => by
    have h1 := hW.1
    have ih := ltO_min hW hK a (by omega)
    have ht : hasL T (2 * tN T - 2) a = true := by rw [hasL_top hW]; exact decide_eq_true (by omega)
    refine isMin_congr (ltI_min (Q := fun b l => PE T (2 * tN T - 2) a b l) (fun b hb => hK.1 _ (by omega) a b ht hb) ih (tN T)) (fun l => ⟨fun q => ?_, fun q => ?_⟩)
    · rcases q with ⟨a', q1, q2⟩ | ⟨b', q1, q2, q3⟩
      · exact ⟨a', by omega, q2⟩
      · exact ⟨a, by omega, b', q3⟩
    · obtain ⟨a', q1, b', q2⟩ := q
      by_cases e : a' = a
      · subst e
        have := PE_far hW (by omega) q2
        exact Or.inr ⟨b', hasL_lt hW _ b' (by omega) this.2.1, this.2.2.1, q2⟩
      · exact Or.inl ⟨a', by omega, b', q2⟩
/-- the least of all orders of a tree by its turns -/
theorem top_min {T : TT} (hW : Wf T) (u : Nat → Nat → Nat) : isMin u (VT T (2 * tN T - 2)) (ltO T (bkS T u (tN T - 1)) (tN T)) := by
  have h1 := hW.1
  have hK := bkS_inv hW u (tN T - 1) (Nat.le_refl _)
  rw [show tN T + (tN T - 1) = 2 * tN T - 1 by omega] at hK
  refine isMin_congr (ltO_min hW hK (tN T) (Nat.le_refl _)) (fun l => ⟨?_, fun q => ?_⟩)
  · rintro ⟨a', -, b', q⟩
    exact q.1
  · obtain ⟨f1, -, f3⟩ := VT_facts hW _ (by omega) l q
    obtain ⟨b', hb'⟩ : ∃ b', l.getLast? = some b' := by
      cases hq : l.getLast? with
      | none => simp at hq; exact absurd hq f1
      | some y => exact ⟨y, rfl⟩
    obtain ⟨a', ha'⟩ : ∃ a', l.head? = some a' := by
      cases l with
      | nil => exact absurd rfl f1
      | cons y t => exact ⟨y, rfl⟩
    exact ⟨a', hasL_lt hW _ a' (by omega) ((f3 a').mp (head_mem ha')), b', q, ha', hb'⟩
theorem VT_ex {T : TT} (hW : Wf T) : ∀ v, v < 2 * tN T - 1 → ∃ l, VT T v l := by
  intro v
  induction v using Nat.strongRecOn with
  | ind v ih =>
    intro hv
    by_cases h : v < tN T
    · exact ⟨[v], (VT_leaf h).mpr rfl⟩
    · obtain ⟨a, b, -⟩ := hW.2.2.1 v (by omega) hv
      obtain ⟨l1, h1⟩ := ih _ a (by omega)
      obtain ⟨l2, h2⟩ := ih _ b (by omega)
      exact ⟨l1 ++ l2, (VT_join hW (by omega) hv).mpr ⟨l1, l2, h1, h2, Or.inl rfl⟩⟩
/-- the best order, as a number -/
theorem top_some {T : TT} (hW : Wf T) (u : Nat → Nat → Nat) : ∃ l, VT T (2 * tN T - 2) l ∧ ltO T (bkS T u (tN T - 1)) (tN T) = some (keyL u l) ∧ ∀ m, VT T (2 * tN T - 2) m → keyL u l ≤ keyL u m := by
  have h1 := hW.1
  have h := top_min hW u
  cases hq : ltO T (bkS T u (tN T - 1)) (tN T) with
  | none =>
    rw [hq] at h
    obtain ⟨l, hl⟩ := VT_ex hW (2 * tN T - 2) (by omega)
    exact absurd hl (h l)
  | some k =>
    rw [hq] at h
    obtain ⟨⟨l, p1, p2⟩, p3⟩ := h
    exact ⟨l, p1, by rw [p2], fun m hm => by rw [p2]; exact p3 m hm⟩
