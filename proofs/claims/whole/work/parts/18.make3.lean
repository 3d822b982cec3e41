/-! making a tree: the class's maker -/
theorem sumTo_swap {f : Nat → Nat → Nat} {m : Nat} : ∀ n, sumTo (fun i => sumTo (fun j => f i j) m) n = sumTo (fun j => sumTo (fun i => f i j) n) m
  | 0 => (sumTo_zero (fun k _ => rfl)).symm
  | n + 1 => by
    show sumTo _ n + sumTo (fun j => f n j) m = sumTo (fun j => sumTo (fun i => f i j) n + f n j) m
    rw [sumTo_swap n, ← sumTo_add]
theorem maxTo_congr {f f' : Nat → Nat} : ∀ {n : Nat}, (∀ k, k < n → f k = f' k) → maxTo f n = maxTo f' n
  | 0, _ => rfl
  | n + 1, h => by
    show max _ _ = max _ _
    rw [maxTo_congr (fun k hk => h k (Nat.lt_succ_of_lt hk)), h n (Nat.lt_succ_self n)]
theorem minTo_congr {f f' : Nat → Nat} : ∀ {n : Nat}, (∀ k, k < n → f k = f' k) → minTo f n = minTo f' n
  | 0, _ => rfl
  | n + 1, h => by
    show min _ _ = min _ _
    rw [minTo_congr (fun k hk => h k (Nat.lt_succ_of_lt hk)), h n (Nat.lt_succ_self n)]
theorem maxTo_max {f f' : Nat → Nat} : ∀ n, maxTo (fun k => max (f k) (f' k)) n = max (maxTo f n) (maxTo f' n)
  | 0 => rfl
  | n + 1 => by
    show max (maxTo _ n) (max (f n) (f' n)) = max (max (maxTo f n) (f n)) (max (maxTo f' n) (f' n))
    rw [maxTo_max n]
    omega
theorem minTo_min {f f' : Nat → Nat} : ∀ n, minTo (fun k => min (f k) (f' k)) n = min (minTo f n) (minTo f' n)
  | 0 => rfl
  | n + 1 => by
    show min (minTo _ n) (min (f n) (f' n)) = min (min (minTo f n) (f n)) (min (minTo f' n) (f' n))
    rw [minTo_min n]
    omega
theorem maxTo_0 : ∀ n, maxTo (fun _ => 0) n = 0
  | 0 => rfl
  | n + 1 => by show max (maxTo _ n) 0 = 0; rw [maxTo_0 n]; rfl
theorem minTo_0 : ∀ n, minTo (fun _ => 20000) n = 20000
  | 0 => rfl
  | n + 1 => by show min (minTo _ n) 20000 = 20000; rw [minTo_0 n]; rfl
theorem maxTo_swap {f : Nat → Nat → Nat} {m : Nat} : ∀ n, maxTo (fun i => maxTo (fun j => f i j) m) n = maxTo (fun j => maxTo (fun i => f i j) n) m
  | 0 => (maxTo_0 m).symm
  | n + 1 => by
    show max (maxTo _ n) (maxTo (fun j => f n j) m) = maxTo (fun j => max (maxTo (fun i => f i j) n) (f n j)) m
    rw [maxTo_swap n, ← maxTo_max]
theorem minTo_swap {f : Nat → Nat → Nat} {m : Nat} : ∀ n, minTo (fun i => minTo (fun j => f i j) m) n = minTo (fun j => minTo (fun i => f i j) n) m
  | 0 => (minTo_0 m).symm
  | n + 1 => by
    show min (minTo _ n) (minTo (fun j => f n j) m) = minTo (fun j => min (minTo (fun i => f i j) n) (f n j)) m
    rw [minTo_swap n, ← minTo_min]
theorem fUp_sym {u : Nat → Nat → Nat} (hu : ∀ a b, u a b = u b a) (w a b : Nat) : fUp u w a b = fUp u w b a := by
  unfold fUp fMin fMax fSum
  split
  · rw [minTo_swap]
    exact minTo_congr (fun i _ => minTo_congr (fun j _ => by rw [Bool.and_comm, hu]))
  · split
    · rw [maxTo_swap]
      exact maxTo_congr (fun i _ => maxTo_congr (fun j _ => by rw [Bool.and_comm, hu]))
    · rw [sumTo_swap]
      exact sumTo_congr (fun i _ => sumTo_congr (fun j _ => by rw [Bool.and_comm, hu]))
theorem fUp_or {u : Nat → Nat → Nat} (hu : ∀ a b, u a b ≤ 10000) {w a b c : Nat} (hd : a &&& b = 0) : fUp u w (a ||| b) c = togN w (fUp u w a c) (fUp u w b c) := by
  have hdb : ∀ i, ¬ (a.testBit i = true ∧ b.testBit i = true) := fun i h => by
    have h0 : (a &&& b).testBit i = false := by rw [hd]; exact Nat.zero_testBit i
    rw [Nat.testBit_and, h.1, h.2] at h0
    cases h0
  unfold fUp togN fMin fMax fSum
  by_cases h0 : w = 0
  · simp only [h0, if_true]
    rw [← minTo_min]
    refine minTo_congr (fun i _ => ?_)
    rw [← minTo_min]
    refine minTo_congr (fun j _ => ?_)
    rw [Nat.testBit_or]
    have := hu i j
    cases a.testBit i <;> cases b.testBit i <;> cases c.testBit j <;> simp <;> omega
  · by_cases h1 : w = 1
    · simp only [h1, if_true]
      simp only [show (1 : Nat) = 0 ↔ False by decide, if_false]
      rw [← maxTo_max]
      refine maxTo_congr (fun i _ => ?_)
      rw [← maxTo_max]
      refine maxTo_congr (fun j _ => ?_)
      rw [Nat.testBit_or]
      cases a.testBit i <;> cases b.testBit i <;> cases c.testBit j <;> simp
    · simp only [h0, h1, if_false]
      rw [← sumTo_add]
      refine sumTo_congr (fun i _ => ?_)
      rw [← sumTo_add]
      refine sumTo_congr (fun j _ => ?_)
      rw [Nat.testBit_or]
      have := hdb i
      cases ha : a.testBit i <;> cases hb : b.testBit i <;> cases c.testBit j <;> simp_all
theorem unl_sym {n : Nat} {th : Nat → Bool} {pl : Nat → Nat → Nat} (a b : Nat) : unl n th pl a b = unl n th pl b a := by
  unfold unl
  rw [Nat.max_comm, Nat.min_comm]
  by_cases h : a = b
  · simp [h]
  · have h2 : ¬ b = a := fun q => h q.symm
    simp [h, h2]
theorem unl_le {n : Nat} {th : Nat → Bool} {pl : Nat → Nat → Nat} (hb : ∀ i j, pl i j ≤ 10000) (a b : Nat) : unl n th pl a b ≤ 10000 := by
  unfold unl
  split
  · omega
  · exact hb _ _
/-- the class's cells of a tree with k nodes on its way -/
def RtK (σ : AH) (t n k : Nat) (S : MS) : Prop :=
  σ.1 (tI t) 11 = 1 ∧ σ.1 (tI t) 12 = nI n ∧ σ.1 (tI t) 13 = nI k ∧
  (∀ l, l < n → σ.1 (tI t + 1) l = -9 ∧ σ.1 (tI t + 2) l = -9) ∧
  (∀ j, n ≤ j → j < k → σ.1 (tI t + 1) j = nI (mL S j) ∧ σ.1 (tI t + 2) j = nI (mR S j)) ∧
  (∀ v, v < 19 → σ.1 (tI t + 3) v = oI (mU S v)) ∧
  (∀ v, v < k → σ.1 (tI t + 4) v = nI (mH S v) ∧ σ.1 (tI t + 5) v = nI (cB (mM S v)) ∧ σ.1 (tI t + 6) v = nI (mM S v)) ∧
  (∀ v, v < 19 → σ.1 (tI t + 7) v = 0 ∧ σ.1 (tI t + 8) v = 0)
/-- the maker's cells -/
def RaK (σ : AH) (u : Nat → Nat → Nat) (w n : Nat) (S : MS) : Prop :=
  (∀ a, a < n → σ.1 7 a = oI (mD S a)) ∧
  (∀ a b va vb, a < n → b < n → a ≠ b → mD S a = some va → mD S b = some vb → σ.1 (30 + a) b = nI (fUp u w (mM S va) (mM S vb)))
def sA : SC → Int32
  | none => -9
  | some z => nI z.1
def sB : SC → Int32
  | none => -9
  | some z => nI z.2.1
def sU : SC → Nat
  | none => 0
  | some z => z.2.2.1
def sL : SC → Nat
  | none => 1
  | some z => z.2.2.2
theorem d_Mk_sharesOf_0 : decode prog_5_method_4_code 0 = .ok (.iload 4, 2) := by decide +kernel
theorem d_Mk_sharesOf_2 : decode prog_5_method_4_code 2 = .ok (.iconst 2, 1) := by decide +kernel
theorem d_Mk_sharesOf_3 : decode prog_5_method_4_code 3 = .ok (.if_icmp .ne 29, 3) := by decide +kernel
theorem d_Mk_sharesOf_6 : decode prog_5_method_4_code 6 = .ok (.aload_n 1, 1) := by decide +kernel
theorem d_Mk_sharesOf_7 : decode prog_5_method_4_code 7 = .ok (.getfield 56, 3) := by decide +kernel
theorem d_Mk_sharesOf_10 : decode prog_5_method_4_code 10 = .ok (.aload_n 0, 1) := by decide +kernel
theorem d_Mk_sharesOf_11 : decode prog_5_method_4_code 11 = .ok (.getfield 16, 3) := by decide +kernel
theorem d_Mk_sharesOf_14 : decode prog_5_method_4_code 14 = .ok (.iload_n 2, 1) := by decide +kernel
theorem d_Mk_sharesOf_15 : decode prog_5_method_4_code 15 = .ok (.iaload, 1) := by decide +kernel
theorem d_Mk_sharesOf_16 : decode prog_5_method_4_code 16 = .ok (.iaload, 1) := by decide +kernel
theorem d_Mk_sharesOf_17 : decode prog_5_method_4_code 17 = .ok (.aload_n 1, 1) := by decide +kernel
theorem d_Mk_sharesOf_18 : decode prog_5_method_4_code 18 = .ok (.getfield 56, 3) := by decide +kernel
theorem d_Mk_sharesOf_21 : decode prog_5_method_4_code 21 = .ok (.aload_n 0, 1) := by decide +kernel
theorem d_Mk_sharesOf_22 : decode prog_5_method_4_code 22 = .ok (.getfield 16, 3) := by decide +kernel
theorem d_Mk_sharesOf_25 : decode prog_5_method_4_code 25 = .ok (.iload_n 3, 1) := by decide +kernel
theorem d_Mk_sharesOf_26 : decode prog_5_method_4_code 26 = .ok (.iaload, 1) := by decide +kernel
theorem d_Mk_sharesOf_27 : decode prog_5_method_4_code 27 = .ok (.iaload, 1) := by decide +kernel
theorem d_Mk_sharesOf_28 : decode prog_5_method_4_code 28 = .ok (.imul, 1) := by decide +kernel
theorem d_Mk_sharesOf_29 : decode prog_5_method_4_code 29 = .ok (.goto 4, 3) := by decide +kernel
theorem d_Mk_sharesOf_32 : decode prog_5_method_4_code 32 = .ok (.iconst 1, 1) := by decide +kernel
theorem d_Mk_sharesOf_33 : decode prog_5_method_4_code 33 = .ok (.ireturn, 1) := by decide +kernel
set_option maxRecDepth 20000 in
theorem t_Mk_sharesOf {g : GG} (G : Gok g) {σ : AH} {t n k w : Nat} {S : MS} {u : Nat → Nat → Nat} (ht : t < 4) (hn : n ≤ 10) (hw : w < 3) (hu : ∀ a b, u a b ≤ 10000) (hK : RtK σ t n k S) (hM : RaK σ u w n S) (hI : InvM n k S) (hk : n ≤ k) (hk2 : k < 2 * n - 1) {a b : Nat} (ha : a < n) (hb : b < n) (hA : actM S a = true) (hB : actM S b = true) : TerI g 0 m_Mk_sharesOf [rV 5, rV (tI t), iV (nI a), iV (nI b), iV (nI w)] σ (fun r τ => r = nI (qM u w S a b).2 ∧ τ = σ) := by
  refine TerI.mk G (by decide +kernel) rfl (Nat.le_of_ble_eq_true rfl) (fun K B Rt => ?_)
  have B : Cx g K prog_5_method_4_code 5 R_Mk 0 := B
  have Rt : RetI g K prog_5_method_4_code 5 (fun r τ => r = nI (qM u w S a b).2 ∧ τ = σ) := Rt
  show AW g K 5 0 [(0, rV 5), (1, rV (tI t)), (2, iV (nI a)), (3, iV (nI b)), (4, iV (nI w))] [] σ
  obtain ⟨k11, k12, k13, kl, kj, ku, kv, kz⟩ := id hK
  obtain ⟨md, ma⟩ := id hM
  have dA := nd_some hA
  have dB := nd_some hB
  have vA := (hI.1 a _ dA).2
  have vB := (hI.1 b _ dB).2
  refine a_iload B d_Mk_sharesOf_0 rfl ?_
  refine a_iconst B d_Mk_sharesOf_2 ci_2 ?_
  first | refine b_icmp_ne B 32 d_Mk_sharesOf_3 rfl (by omega) (by omega) (fun c_3 => ?_) (fun c_3 => ?_) | refine a_icmp_ne B 32 d_Mk_sharesOf_3 rfl (fun c_3 => ?_) (fun c_3 => ?_)
  · skip
    refine a_iconst B d_Mk_sharesOf_32 ci_1 ?_
    exact Rt _ _ _ _ d_Mk_sharesOf_33 ⟨by first | (show _ = nI (fLow w _ _); rw [fLow, if_pos c_3]; done) | (show _ = nI (fLow w _ _); rw [fLow, if_neg c_3]; done), rfl⟩
  refine a_aload_n B d_Mk_sharesOf_6 rfl rfl ?_
  refine gf_Tr_size B (by first | assumption | omega) d_Mk_sharesOf_7 fl_Mk_56 ?_
  refine a_aload_n B d_Mk_sharesOf_10 rfl rfl ?_
  refine gf_Mk_nodeOf B d_Mk_sharesOf_11 fl_Mk_16 ?_
  refine a_iload_n B d_Mk_sharesOf_14 rfl rfl ?_
  refine a_iald B ly_7 _ rfl (by first | assumption | omega) d_Mk_sharesOf_15 ?_
  rw [md _ ha, dA]
  show AW g K 5 _ _ (iV (nI (ndM S a)) :: _) _
  refine a_iald B (ly_T_size (by first | assumption | omega)) _ rfl (by first | assumption | omega) d_Mk_sharesOf_16 ?_
  rw [(kv _ vA).2.1]
  refine a_aload_n B d_Mk_sharesOf_17 rfl rfl ?_
  refine gf_Tr_size B (by first | assumption | omega) d_Mk_sharesOf_18 fl_Mk_56 ?_
  refine a_aload_n B d_Mk_sharesOf_21 rfl rfl ?_
  refine gf_Mk_nodeOf B d_Mk_sharesOf_22 fl_Mk_16 ?_
  refine a_iload_n B d_Mk_sharesOf_25 rfl rfl ?_
  refine a_iald B ly_7 _ rfl (by first | assumption | omega) d_Mk_sharesOf_26 ?_
  rw [md _ hb, dB]
  show AW g K 5 _ _ (iV (nI (ndM S b)) :: _) _
  refine a_iald B (ly_T_size (by first | assumption | omega)) _ rfl (by first | assumption | omega) d_Mk_sharesOf_27 ?_
  rw [(kv _ vB).2.1]
  first | refine b_imul B d_Mk_sharesOf_28 ?_ | refine a_imul B d_Mk_sharesOf_28 ?_
  refine a_goto B 33 d_Mk_sharesOf_29 rfl ?_
  exact Rt _ _ _ _ d_Mk_sharesOf_33 ⟨by first | (show _ = nI (fLow w _ _); rw [fLow, if_pos c_3]; done) | (show _ = nI (fLow w _ _); rw [fLow, if_neg c_3]; done), rfl⟩
theorem nI_div {a b : Nat} (ha : a < 2 ^ 31) (hb : b < 2 ^ 31) : nI a / nI b = nI (a / b) := by
  apply Int32.toInt_inj.mp
  rw [Int32.toInt_div, nI_toInt ha, nI_toInt hb, nI_toInt (Nat.lt_of_le_of_lt (Nat.div_le_self a b) ha)]
  have e : (a : Int).tdiv (b : Int) = ((a / b : Nat) : Int) := by
    rw [Int.tdiv_eq_ediv_of_nonneg (by omega)]
    rfl
  rw [e]
  apply Int.bmod_eq_of_le
  · have := Int.natCast_nonneg (a / b); omega
  · have := Nat.div_le_self a b; omega
theorem join_end {σ τ τ' : AH} {t n k w : Nat} {S : MS} {u : Nat → Nat → Nat} {z : Nat × Nat × Nat × Nat} (ht : t < 4) (hn : n ≤ 10) (hw : w < 3) (hu : ∀ a b, u a b ≤ 10000) (hus : ∀ a b, u a b = u b a) (hz : pickM u w n S = some z) (hK : RtK σ t n k S) (hM : RaK σ u w n S) (hI : InvM n k S) (hk : n ≤ k) (hk2 : k < 2 * n - 1) (z1 : z.1 < z.2.1) (z2 : z.2.1 < n) (z3 : actM S z.1 = true) (z4 : actM S z.2.1 = true) (z5 : z.2.2.1 = (qM u w S z.1 z.2.1).1) (z6 : z.2.2.2 = (qM u w S z.1 z.2.1).2) (hlo : 0 < z.2.2.2)
    (j2 : τ.2 = σ.2) (j0 : τ.1 (tI t) = upd (σ.1 (tI t)) 13 (nI (k + 1))) (j1 : τ.1 (tI t + 1) = upd (σ.1 (tI t + 1)) k (nI (ndM S z.1))) (jr : τ.1 (tI t + 2) = upd (σ.1 (tI t + 2)) k (nI (ndM S z.2.1))) (j3 : τ.1 (tI t + 3) = upd (upd (σ.1 (tI t + 3)) (ndM S z.1) (nI k)) (ndM S z.2.1) (nI k)) (j4 : τ.1 (tI t + 4) = upd (σ.1 (tI t + 4)) k (nI (z.2.2.1 / z.2.2.2))) (j5 : τ.1 (tI t + 5) = upd (σ.1 (tI t + 5)) k (σ.1 (tI t + 5) (ndM S z.1) + σ.1 (tI t + 5) (ndM S z.2.1))) (j6 : τ.1 (tI t + 6) = upd (σ.1 (tI t + 6)) k (σ.1 (tI t + 6) (ndM S z.1) ||| σ.1 (tI t + 6) (ndM S z.2.1))) (jo : ∀ k_1, (k_1 < tI t ∨ tI t + 6 < k_1) → τ.1 k_1 = σ.1 k_1)
    (g2 : τ'.2 = τ.2) (go : ∀ k, (k < 30 ∨ 40 ≤ k) → τ'.1 k = τ.1 k) (gf : ∀ x y, x < 10 → y < 10 → x ≠ z.1 → y ≠ z.1 → τ'.1 (30 + x) y = τ.1 (30 + x) y) (gc : ∀ c, c < n → c ≠ z.1 → c ≠ z.2.1 → τ'.1 (30 + z.1) c = togI w (τ.1 (30 + z.1) c) (τ.1 (30 + z.2.1) c) ∧ τ'.1 (30 + c) z.1 = togI w (τ.1 (30 + z.1) c) (τ.1 (30 + z.2.1) c)) :
    (fun τ'' => RtK τ'' t n (k + 1) (joinM u w n S k) ∧ RaK τ'' u w n (joinM u w n S k) ∧ τ''.2 = σ.2 ∧ ∀ k_1, k_1 ≠ 7 → (k_1 < 30 ∨ 40 ≤ k_1) → (k_1 < tI t ∨ tI t + 6 < k_1) → τ''.1 k_1 = σ.1 k_1) (up1 (up1 τ' 7 (upd (τ'.1 7) z.1 (nI k))) 7 (upd ((up1 τ' 7 (upd (τ'.1 7) z.1 (nI k))).1 7) z.2.1 (-9))) := by
  have ej : joinM u w n S k = joinZ S k z := by unfold joinM; rw [hz]
  obtain ⟨k11, k12, k13, kl, kj, ku, kv, kz⟩ := hK
  obtain ⟨md, ma⟩ := hM
  obtain ⟨i1, i2, i3, i4, i5, i6, i7, i8, i9, i10, i11, i12, i13⟩ := hI
  have h58 : 58 ≤ tI t := Nat.le_add_right _ _
  have dA := nd_some z3
  have dB := nd_some z4
  obtain ⟨a, b, up, low⟩ := z
  dsimp only at *
  obtain ⟨va, eva⟩ : ∃ va, va = ndM S a := ⟨_, rfl⟩
  obtain ⟨vb, evb⟩ : ∃ vb, vb = ndM S b := ⟨_, rfl⟩
  rw [← eva] at dA j1 j3 j5 j6
  rw [← evb] at dB jr j3 j5 j6
  have lA := (i1 a va dA).2
  have lB := (i1 b vb dB).2
  have hv : va ≠ vb := fun q => by
    rw [← q] at dB
    have := i2 a b va dA dB
    omega
  have dis := i7 a b va vb (by omega) dA dB
  have eD : mD (joinZ S k (a, b, up, low)) = va_up (va_up (mD S) a (some k)) b none := rfl
  have eL : mL (joinZ S k (a, b, up, low)) = va_up (mL S) k va := by rw [eva]; rfl
  have eR : mR (joinZ S k (a, b, up, low)) = va_up (mR S) k vb := by rw [evb]; rfl
  have eU : mU (joinZ S k (a, b, up, low)) = va_up (va_up (mU S) va (some k)) vb (some k) := by rw [eva, evb]; rfl
  have eM : mM (joinZ S k (a, b, up, low)) = va_up (mM S) k (mM S va ||| mM S vb) := by rw [eva, evb]; rfl
  have eH : mH (joinZ S k (a, b, up, low)) = va_up (mH S) k (up / low) := rfl
  rw [ej]
  generalize joinZ S k (a, b, up, low) = S' at eD eL eR eU eM eH
  have D' : ∀ c v, mD S' c = some v → (c = a ∧ v = k) ∨ (c ≠ a ∧ c ≠ b ∧ mD S c = some v) := by
    intro c v h
    rw [eD] at h
    by_cases e1 : c = b
    · rw [e1, va_up_s] at h; cases h
    · rw [va_up_o e1] at h
      by_cases e2 : c = a
      · rw [e2, va_up_s] at h; cases h; exact Or.inl ⟨e2, rfl⟩
      · rw [va_up_o e2] at h; exact Or.inr ⟨e2, e1, h⟩
  have Mo : ∀ v, v ≠ k → mM S' v = mM S v := fun v h => by rw [eM, va_up_o h]
  have Mk : mM S' k = mM S va ||| mM S vb := by rw [eM, va_up_s]
  rw [up1_s, up1_up1]
  have T : ∀ k_1, k_1 ≠ 7 → (up1 τ' 7 (upd (upd (τ'.1 7) a (nI k)) b (-9))).1 k_1 = τ'.1 k_1 := fun k_1 h => up1_o h
  have T7 : (up1 τ' 7 (upd (upd (τ'.1 7) a (nI k)) b (-9))).1 7 = upd (upd (σ.1 7) a (nI k)) b (-9) := by
    rw [up1_s, go 7 (by omega), jo 7 (by omega)]
  have T2 : (up1 τ' 7 (upd (upd (τ'.1 7) a (nI k)) b (-9))).2 = σ.2 := by
    show τ'.2 = σ.2
    rw [g2, j2]
  generalize up1 τ' 7 (upd (upd (τ'.1 7) a (nI k)) b (-9)) = τ9 at T T7 T2
  have Tt : ∀ k_1, tI t ≤ k_1 → τ9.1 k_1 = τ.1 k_1 := fun k_1 h => by rw [T _ (by omega), go _ (by omega)]
  refine ⟨⟨?_, ?_, ?_, fun l hl => ?_, fun j hj hjk => ?_, fun v hv' => ?_, fun v hv' => ?_, fun v hv' => ?_⟩, ⟨fun c hc => ?_, fun c c' v v' hc hc' hne h h' => ?_⟩, T2, fun k_1 q1 q2 q3 => ?_⟩
  · rw [Tt _ (Nat.le_refl _), j0, upd_o (by decide)]; exact k11
  · rw [Tt _ (Nat.le_refl _), j0, upd_o (by decide)]; exact k12
  · rw [Tt _ (Nat.le_refl _), j0, upd_s]
  · rw [Tt _ (by omega), Tt _ (by omega), j1, jr, upd_o (by omega), upd_o (by omega)]
    exact kl l hl
  · rw [Tt _ (by omega), Tt _ (by omega), j1, jr, eL, eR]
    by_cases e : j = k
    · rw [e, upd_s, upd_s, va_up_s, va_up_s]; exact ⟨rfl, rfl⟩
    · rw [upd_o e, upd_o e, va_up_o e, va_up_o e]; exact kj j hj (by omega)
  · rw [Tt _ (by omega), j3, eU]
    by_cases e1 : v = vb
    · rw [e1, upd_s, va_up_s]; rfl
    · rw [upd_o e1, va_up_o e1]
      by_cases e2 : v = va
      · rw [e2, upd_s, va_up_s]; rfl
      · rw [upd_o e2, va_up_o e2]; exact ku v hv'
  · rw [Tt _ (by omega), Tt _ (by omega), Tt _ (by omega), j4, j5, j6, eH]
    by_cases e : v = k
    · rw [e, upd_s, upd_s, upd_s, va_up_s, Mk, (kv va lA).2.1, (kv vb lB).2.1, (kv va lA).2.2, (kv vb lB).2.2, nI_ad, nI_or, cB_or dis]
      exact ⟨rfl, rfl, rfl⟩
    · rw [upd_o e, upd_o e, upd_o e, va_up_o e, Mo v e]; exact kv v (by omega)
  · rw [Tt _ (by omega), Tt _ (by omega), jo _ (by omega), jo _ (by omega)]
    exact kz v hv'
  · rw [T7, eD]
    by_cases e1 : c = b
    · rw [e1, upd_s, va_up_s]; rfl
    · rw [upd_o e1, va_up_o e1]
      by_cases e2 : c = a
      · rw [e2, upd_s, va_up_s]; rfl
      · rw [upd_o e2, va_up_o e2]; exact md c hc
  · have key : ∀ c v, c < n → c ≠ a → c ≠ b → mD S c = some v → togI w (τ.1 (30 + a) c) (τ.1 (30 + b) c) = nI (fUp u w (mM S va ||| mM S vb) (mM S v)) := by
      intro c v hc ha hb h
      rw [jo _ (by omega), jo _ (by omega), ma a c va v (by omega) hc (fun q => ha q.symm) dA h, ma b c vb v (by omega) hc (fun q => hb q.symm) dB h, togI_nI (Nat.lt_of_le_of_lt (fUp_le hu _ _ _) (by omega)) (Nat.lt_of_le_of_lt (fUp_le hu _ _ _) (by omega)), fUp_or hu dis]
    rw [T _ (by omega)]
    rcases D' c v h with ⟨q1, q2⟩ | ⟨q1, q2, q3⟩ <;> rcases D' c' v' h' with ⟨r1, r2⟩ | ⟨r1, r2, r3⟩
    · omega
    · have := (i1 c' v' r3).2
      rw [q1, q2, Mk, Mo v' (by omega), (gc c' hc' r1 r2).1]
      exact key c' v' hc' r1 r2 r3
    · have := (i1 c v q3).2
      rw [r1, r2, Mk, Mo v (by omega), (gc c hc q1 q2).2, fUp_sym hus]
      exact key c v hc q1 q2 q3
    · have := (i1 c v q3).2
      have := (i1 c' v' r3).2
      rw [Mo v (by omega), Mo v' (by omega), gf c c' (by omega) (by omega) q1 r1, jo _ (by omega)]
      exact ma c c' v v' hc hc' hne q3 r3
  · rw [T _ q1, go _ q2, jo _ q3]
theorem d_Mk_joinNearest_0 : decode prog_5_method_3_code 0 = .ok (.bipush (-9), 2) := by decide +kernel
theorem d_Mk_joinNearest_2 : decode prog_5_method_3_code 2 = .ok (.istore_n 3, 1) := by decide +kernel
theorem d_Mk_joinNearest_3 : decode prog_5_method_3_code 3 = .ok (.bipush (-9), 2) := by decide +kernel
theorem d_Mk_joinNearest_5 : decode prog_5_method_3_code 5 = .ok (.istore 4, 2) := by decide +kernel
theorem d_Mk_joinNearest_7 : decode prog_5_method_3_code 7 = .ok (.iconst 0, 1) := by decide +kernel
theorem d_Mk_joinNearest_8 : decode prog_5_method_3_code 8 = .ok (.istore 5, 2) := by decide +kernel
theorem d_Mk_joinNearest_10 : decode prog_5_method_3_code 10 = .ok (.iconst 1, 1) := by decide +kernel
theorem d_Mk_joinNearest_11 : decode prog_5_method_3_code 11 = .ok (.istore 6, 2) := by decide +kernel
theorem d_Mk_joinNearest_13 : decode prog_5_method_3_code 13 = .ok (.iconst 0, 1) := by decide +kernel
theorem d_Mk_joinNearest_14 : decode prog_5_method_3_code 14 = .ok (.istore 7, 2) := by decide +kernel
theorem d_Mk_joinNearest_16 : decode prog_5_method_3_code 16 = .ok (.iload 7, 2) := by decide +kernel
theorem d_Mk_joinNearest_18 : decode prog_5_method_3_code 18 = .ok (.aload_n 1, 1) := by decide +kernel
theorem d_Mk_joinNearest_19 : decode prog_5_method_3_code 19 = .ok (.getfield 43, 3) := by decide +kernel
theorem d_Mk_joinNearest_22 : decode prog_5_method_3_code 22 = .ok (.if_icmp .ge 113, 3) := by decide +kernel
theorem d_Mk_joinNearest_25 : decode prog_5_method_3_code 25 = .ok (.iload 7, 2) := by decide +kernel
theorem d_Mk_joinNearest_27 : decode prog_5_method_3_code 27 = .ok (.iconst 1, 1) := by decide +kernel
theorem d_Mk_joinNearest_28 : decode prog_5_method_3_code 28 = .ok (.iadd, 1) := by decide +kernel
theorem d_Mk_joinNearest_29 : decode prog_5_method_3_code 29 = .ok (.istore 8, 2) := by decide +kernel
theorem d_Mk_joinNearest_31 : decode prog_5_method_3_code 31 = .ok (.iload 8, 2) := by decide +kernel
theorem d_Mk_joinNearest_33 : decode prog_5_method_3_code 33 = .ok (.aload_n 1, 1) := by decide +kernel
theorem d_Mk_joinNearest_34 : decode prog_5_method_3_code 34 = .ok (.getfield 43, 3) := by decide +kernel
theorem d_Mk_joinNearest_37 : decode prog_5_method_3_code 37 = .ok (.if_icmp .ge 92, 3) := by decide +kernel
theorem d_Mk_joinNearest_40 : decode prog_5_method_3_code 40 = .ok (.aload_n 0, 1) := by decide +kernel
theorem d_Mk_joinNearest_41 : decode prog_5_method_3_code 41 = .ok (.getfield 16, 3) := by decide +kernel
theorem d_Mk_joinNearest_44 : decode prog_5_method_3_code 44 = .ok (.iload 7, 2) := by decide +kernel
theorem d_Mk_joinNearest_46 : decode prog_5_method_3_code 46 = .ok (.iaload, 1) := by decide +kernel
theorem d_Mk_joinNearest_47 : decode prog_5_method_3_code 47 = .ok (.ifCond .lt 76, 3) := by decide +kernel
theorem d_Mk_joinNearest_50 : decode prog_5_method_3_code 50 = .ok (.aload_n 0, 1) := by decide +kernel
theorem d_Mk_joinNearest_51 : decode prog_5_method_3_code 51 = .ok (.getfield 16, 3) := by decide +kernel
theorem d_Mk_joinNearest_54 : decode prog_5_method_3_code 54 = .ok (.iload 8, 2) := by decide +kernel
theorem d_Mk_joinNearest_56 : decode prog_5_method_3_code 56 = .ok (.iaload, 1) := by decide +kernel
theorem d_Mk_joinNearest_57 : decode prog_5_method_3_code 57 = .ok (.ifCond .ge 6, 3) := by decide +kernel
theorem d_Mk_joinNearest_60 : decode prog_5_method_3_code 60 = .ok (.goto 63, 3) := by decide +kernel
theorem d_Mk_joinNearest_63 : decode prog_5_method_3_code 63 = .ok (.aload_n 0, 1) := by decide +kernel
theorem d_Mk_joinNearest_64 : decode prog_5_method_3_code 64 = .ok (.aload_n 1, 1) := by decide +kernel
theorem d_Mk_joinNearest_65 : decode prog_5_method_3_code 65 = .ok (.iload 7, 2) := by decide +kernel
theorem d_Mk_joinNearest_67 : decode prog_5_method_3_code 67 = .ok (.iload 8, 2) := by decide +kernel
theorem d_Mk_joinNearest_69 : decode prog_5_method_3_code 69 = .ok (.iload_n 2, 1) := by decide +kernel
theorem d_Mk_joinNearest_70 : decode prog_5_method_3_code 70 = .ok (.invokevirtual 44, 3) := by decide +kernel
theorem d_Mk_joinNearest_73 : decode prog_5_method_3_code 73 = .ok (.istore 9, 2) := by decide +kernel
theorem d_Mk_joinNearest_75 : decode prog_5_method_3_code 75 = .ok (.iload_n 3, 1) := by decide +kernel
theorem d_Mk_joinNearest_76 : decode prog_5_method_3_code 76 = .ok (.ifCond .lt 24, 3) := by decide +kernel
theorem d_Mk_joinNearest_79 : decode prog_5_method_3_code 79 = .ok (.aload_n 0, 1) := by decide +kernel
theorem d_Mk_joinNearest_80 : decode prog_5_method_3_code 80 = .ok (.getfield 11, 3) := by decide +kernel
theorem d_Mk_joinNearest_83 : decode prog_5_method_3_code 83 = .ok (.iload 7, 2) := by decide +kernel
theorem d_Mk_joinNearest_85 : decode prog_5_method_3_code 85 = .ok (.aaload, 1) := by decide +kernel
theorem d_Mk_joinNearest_86 : decode prog_5_method_3_code 86 = .ok (.iload 8, 2) := by decide +kernel
theorem d_Mk_joinNearest_88 : decode prog_5_method_3_code 88 = .ok (.iaload, 1) := by decide +kernel
theorem d_Mk_joinNearest_89 : decode prog_5_method_3_code 89 = .ok (.iload 6, 2) := by decide +kernel
theorem d_Mk_joinNearest_91 : decode prog_5_method_3_code 91 = .ok (.imul, 1) := by decide +kernel
theorem d_Mk_joinNearest_92 : decode prog_5_method_3_code 92 = .ok (.iload 5, 2) := by decide +kernel
theorem d_Mk_joinNearest_94 : decode prog_5_method_3_code 94 = .ok (.iload 9, 2) := by decide +kernel
theorem d_Mk_joinNearest_96 : decode prog_5_method_3_code 96 = .ok (.imul, 1) := by decide +kernel
theorem d_Mk_joinNearest_97 : decode prog_5_method_3_code 97 = .ok (.if_icmp .ge 26, 3) := by decide +kernel
theorem d_Mk_joinNearest_100 : decode prog_5_method_3_code 100 = .ok (.iload 7, 2) := by decide +kernel
theorem d_Mk_joinNearest_102 : decode prog_5_method_3_code 102 = .ok (.istore_n 3, 1) := by decide +kernel
theorem d_Mk_joinNearest_103 : decode prog_5_method_3_code 103 = .ok (.iload 8, 2) := by decide +kernel
theorem d_Mk_joinNearest_105 : decode prog_5_method_3_code 105 = .ok (.istore 4, 2) := by decide +kernel
theorem d_Mk_joinNearest_107 : decode prog_5_method_3_code 107 = .ok (.aload_n 0, 1) := by decide +kernel
theorem d_Mk_joinNearest_108 : decode prog_5_method_3_code 108 = .ok (.getfield 11, 3) := by decide +kernel
theorem d_Mk_joinNearest_111 : decode prog_5_method_3_code 111 = .ok (.iload 7, 2) := by decide +kernel
theorem d_Mk_joinNearest_113 : decode prog_5_method_3_code 113 = .ok (.aaload, 1) := by decide +kernel
theorem d_Mk_joinNearest_114 : decode prog_5_method_3_code 114 = .ok (.iload 8, 2) := by decide +kernel
theorem d_Mk_joinNearest_116 : decode prog_5_method_3_code 116 = .ok (.iaload, 1) := by decide +kernel
theorem d_Mk_joinNearest_117 : decode prog_5_method_3_code 117 = .ok (.istore 5, 2) := by decide +kernel
theorem d_Mk_joinNearest_119 : decode prog_5_method_3_code 119 = .ok (.iload 9, 2) := by decide +kernel
theorem d_Mk_joinNearest_121 : decode prog_5_method_3_code 121 = .ok (.istore 6, 2) := by decide +kernel
theorem d_Mk_joinNearest_123 : decode prog_5_method_3_code 123 = .ok (.iinc 8 1, 3) := by decide +kernel
theorem d_Mk_joinNearest_126 : decode prog_5_method_3_code 126 = .ok (.goto (-95), 3) := by decide +kernel
theorem d_Mk_joinNearest_129 : decode prog_5_method_3_code 129 = .ok (.iinc 7 1, 3) := by decide +kernel
theorem d_Mk_joinNearest_132 : decode prog_5_method_3_code 132 = .ok (.goto (-116), 3) := by decide +kernel
theorem d_Mk_joinNearest_135 : decode prog_5_method_3_code 135 = .ok (.iload_n 3, 1) := by decide +kernel
theorem d_Mk_joinNearest_136 : decode prog_5_method_3_code 136 = .ok (.ifCond .lt 66, 3) := by decide +kernel
theorem d_Mk_joinNearest_139 : decode prog_5_method_3_code 139 = .ok (.iload 4, 2) := by decide +kernel
theorem d_Mk_joinNearest_141 : decode prog_5_method_3_code 141 = .ok (.ifCond .lt 61, 3) := by decide +kernel
theorem d_Mk_joinNearest_144 : decode prog_5_method_3_code 144 = .ok (.iload 6, 2) := by decide +kernel
theorem d_Mk_joinNearest_146 : decode prog_5_method_3_code 146 = .ok (.ifCond .le 56, 3) := by decide +kernel
theorem d_Mk_joinNearest_149 : decode prog_5_method_3_code 149 = .ok (.aload_n 1, 1) := by decide +kernel
theorem d_Mk_joinNearest_150 : decode prog_5_method_3_code 150 = .ok (.aload_n 0, 1) := by decide +kernel
theorem d_Mk_joinNearest_151 : decode prog_5_method_3_code 151 = .ok (.getfield 16, 3) := by decide +kernel
theorem d_Mk_joinNearest_154 : decode prog_5_method_3_code 154 = .ok (.iload_n 3, 1) := by decide +kernel
theorem d_Mk_joinNearest_155 : decode prog_5_method_3_code 155 = .ok (.iaload, 1) := by decide +kernel
theorem d_Mk_joinNearest_156 : decode prog_5_method_3_code 156 = .ok (.aload_n 0, 1) := by decide +kernel
theorem d_Mk_joinNearest_157 : decode prog_5_method_3_code 157 = .ok (.getfield 16, 3) := by decide +kernel
theorem d_Mk_joinNearest_160 : decode prog_5_method_3_code 160 = .ok (.iload 4, 2) := by decide +kernel
theorem d_Mk_joinNearest_162 : decode prog_5_method_3_code 162 = .ok (.iaload, 1) := by decide +kernel
theorem d_Mk_joinNearest_163 : decode prog_5_method_3_code 163 = .ok (.iload 5, 2) := by decide +kernel
theorem d_Mk_joinNearest_165 : decode prog_5_method_3_code 165 = .ok (.iload 6, 2) := by decide +kernel
theorem d_Mk_joinNearest_167 : decode prog_5_method_3_code 167 = .ok (.idiv, 1) := by decide +kernel
theorem d_Mk_joinNearest_168 : decode prog_5_method_3_code 168 = .ok (.invokevirtual 48, 3) := by decide +kernel
theorem d_Mk_joinNearest_171 : decode prog_5_method_3_code 171 = .ok (.istore 7, 2) := by decide +kernel
theorem d_Mk_joinNearest_173 : decode prog_5_method_3_code 173 = .ok (.aload_n 0, 1) := by decide +kernel
theorem d_Mk_joinNearest_174 : decode prog_5_method_3_code 174 = .ok (.iload_n 3, 1) := by decide +kernel
theorem d_Mk_joinNearest_175 : decode prog_5_method_3_code 175 = .ok (.iload 4, 2) := by decide +kernel
theorem d_Mk_joinNearest_177 : decode prog_5_method_3_code 177 = .ok (.aload_n 1, 1) := by decide +kernel
theorem d_Mk_joinNearest_178 : decode prog_5_method_3_code 178 = .ok (.getfield 43, 3) := by decide +kernel
theorem d_Mk_joinNearest_181 : decode prog_5_method_3_code 181 = .ok (.iload_n 2, 1) := by decide +kernel
theorem d_Mk_joinNearest_182 : decode prog_5_method_3_code 182 = .ok (.invokevirtual 52, 3) := by decide +kernel
theorem d_Mk_joinNearest_185 : decode prog_5_method_3_code 185 = .ok (.aload_n 0, 1) := by decide +kernel
theorem d_Mk_joinNearest_186 : decode prog_5_method_3_code 186 = .ok (.getfield 16, 3) := by decide +kernel
theorem d_Mk_joinNearest_189 : decode prog_5_method_3_code 189 = .ok (.iload_n 3, 1) := by decide +kernel
theorem d_Mk_joinNearest_190 : decode prog_5_method_3_code 190 = .ok (.iload 7, 2) := by decide +kernel
theorem d_Mk_joinNearest_192 : decode prog_5_method_3_code 192 = .ok (.iastore, 1) := by decide +kernel
theorem d_Mk_joinNearest_193 : decode prog_5_method_3_code 193 = .ok (.aload_n 0, 1) := by decide +kernel
theorem d_Mk_joinNearest_194 : decode prog_5_method_3_code 194 = .ok (.getfield 16, 3) := by decide +kernel
theorem d_Mk_joinNearest_197 : decode prog_5_method_3_code 197 = .ok (.iload 4, 2) := by decide +kernel
theorem d_Mk_joinNearest_199 : decode prog_5_method_3_code 199 = .ok (.bipush (-9), 2) := by decide +kernel
theorem d_Mk_joinNearest_201 : decode prog_5_method_3_code 201 = .ok (.iastore, 1) := by decide +kernel
theorem d_Mk_joinNearest_202 : decode prog_5_method_3_code 202 = .ok (.return_, 1) := by decide +kernel
set_option maxRecDepth 20000 in
theorem t_Mk_joinNearest {g : GG} (G : Gok g) {σ : AH} {t n k w : Nat} {S : MS} {u : Nat → Nat → Nat} (ht : t < 4) (hn : n ≤ 10) (hw : w < 3) (hu : ∀ a b, u a b ≤ 10000) (hK : RtK σ t n k S) (hM : RaK σ u w n S) (hI : InvM n k S) (hk : n ≤ k) (hk2 : k < 2 * n - 1) (hus : ∀ a b, u a b = u b a) : TerV g 3 m_Mk_joinNearest [rV 5, rV (tI t), iV (nI w)] σ (fun τ => RtK τ t n (k + 1) (joinM u w n S k) ∧ RaK τ u w n (joinM u w n S k) ∧ τ.2 = σ.2 ∧ ∀ k_1, k_1 ≠ 7 → (k_1 < 30 ∨ 40 ≤ k_1) → (k_1 < tI t ∨ tI t + 6 < k_1) → τ.1 k_1 = σ.1 k_1) := by
  refine TerV.mk G (by decide +kernel) rfl (Nat.le_of_ble_eq_true rfl) (fun K B Rt => ?_)
  have B : Cx g K prog_5_method_3_code 10 R_Mk 3 := B
  have Rt : RetV g K prog_5_method_3_code 10 (fun τ => RtK τ t n (k + 1) (joinM u w n S k) ∧ RaK τ u w n (joinM u w n S k) ∧ τ.2 = σ.2 ∧ ∀ k_1, k_1 ≠ 7 → (k_1 < 30 ∨ 40 ≤ k_1) → (k_1 < tI t ∨ tI t + 6 < k_1) → τ.1 k_1 = σ.1 k_1) := Rt
  show AW g K 10 0 [(0, rV 5), (1, rV (tI t)), (2, iV (nI w))] [] σ
  obtain ⟨k11, k12, k13, kl, kj, ku, kv, kz⟩ := id hK
  obtain ⟨md, ma⟩ := id hM
  refine a_bipush B d_Mk_joinNearest_0 cb_m9 ?_
  refine a_istore_n (lv1 := [(0, _), (1, _), (2, _), (3, _)]) B d_Mk_joinNearest_2 rfl (by decide) rfl ?_
  refine a_bipush B d_Mk_joinNearest_3 cb_m9 ?_
  refine a_istore (lv1 := [(0, _), (1, _), (2, _), (3, _), (4, _)]) B d_Mk_joinNearest_5 (by decide) rfl ?_
  refine a_iconst B d_Mk_joinNearest_7 ci_0 ?_
  refine a_istore (lv1 := [(0, _), (1, _), (2, _), (3, _), (4, _), (5, _)]) B d_Mk_joinNearest_8 (by decide) rfl ?_
  refine a_iconst B d_Mk_joinNearest_10 ci_1 ?_
  refine a_istore (lv1 := [(0, _), (1, _), (2, _), (3, _), (4, _), (5, _), (6, _)]) B d_Mk_joinNearest_11 (by decide) rfl ?_
  refine a_iconst B d_Mk_joinNearest_13 ci_0 ?_
  refine a_istore (lv1 := [(0, _), (1, _), (2, _), (3, _), (4, _), (5, _), (6, _), (7, _)]) B d_Mk_joinNearest_14 (by decide) rfl ?_
  refine a_for (lf := fun i => [(0, rV 5), (1, rV (tI t)), (2, iV (nI w)), (3, iV (sA (scO (qM u w S) (actM S) n i))), (4, iV (sB (scO (qM u w S) (actM S) n i))), (5, iV (nI (sU (scO (qM u w S) (actM S) n i)))), (6, iV (nI (sL (scO (qM u w S) (actM S) n i)))), (7, iV (nI i))]) (τ := fun i => σ) n (fun i hi ihi => ?_) ?_ 0 (Nat.zero_le _)
  · skip
    refine a_iload B d_Mk_joinNearest_16 rfl ?_
    refine a_aload_n B d_Mk_joinNearest_18 rfl rfl ?_
    refine gf_Tr_leafCount B (by first | assumption | omega) d_Mk_joinNearest_19 fl_Mk_43 ?_
    rw [k12]
    first | refine b_icmp_ge B 135 d_Mk_joinNearest_22 rfl (by omega) (by omega) (fun c_22 => ?_) (fun c_22 => ?_) | refine a_icmp_ge B 135 d_Mk_joinNearest_22 rfl (fun c_22 => ?_) (fun c_22 => ?_)
    · skip
      exact absurd c_22 (by omega)
    refine a_iload B d_Mk_joinNearest_25 rfl ?_
    refine a_iconst B d_Mk_joinNearest_27 ci_1 ?_
    first | refine b_iadd B d_Mk_joinNearest_28 ?_ | refine a_iadd B d_Mk_joinNearest_28 ?_
    refine a_istore (lv1 := [(0, _), (1, _), (2, _), (3, _), (4, _), (5, _), (6, _), (7, _), (8, _)]) B d_Mk_joinNearest_29 (by decide) rfl ?_
    rw [show i + 1 = i + 1 + 0 from rfl]
    refine a_for (lf := fun j => [(0, rV 5), (1, rV (tI t)), (2, iV (nI w)), (3, iV (sA (scI (qM u w S) (actM S) i j (scO (qM u w S) (actM S) n i)))), (4, iV (sB (scI (qM u w S) (actM S) i j (scO (qM u w S) (actM S) n i)))), (5, iV (nI (sU (scI (qM u w S) (actM S) i j (scO (qM u w S) (actM S) n i))))), (6, iV (nI (sL (scI (qM u w S) (actM S) i j (scO (qM u w S) (actM S) n i))))), (7, iV (nI i)), (8, iV (nI (i + 1 + j)))]) (τ := fun j => σ) (n - (i + 1)) (fun j hj ihj => ?_) ?_ 0 (Nat.zero_le _)
    · skip
      refine a_iload B d_Mk_joinNearest_31 rfl ?_
      refine a_aload_n B d_Mk_joinNearest_33 rfl rfl ?_
      refine gf_Tr_leafCount B (by first | assumption | omega) d_Mk_joinNearest_34 fl_Mk_43 ?_
      rw [k12]
      first | refine b_icmp_ge B 129 d_Mk_joinNearest_37 rfl (by omega) (by omega) (fun c_37 => ?_) (fun c_37 => ?_) | refine a_icmp_ge B 129 d_Mk_joinNearest_37 rfl (fun c_37 => ?_) (fun c_37 => ?_)
      · skip
        exact absurd c_37 (by omega)
      refine a_aload_n B d_Mk_joinNearest_40 rfl rfl ?_
      refine gf_Mk_nodeOf B d_Mk_joinNearest_41 fl_Mk_16 ?_
      refine a_iload B d_Mk_joinNearest_44 rfl ?_
      refine a_iald B ly_7 _ rfl (by first | assumption | omega) d_Mk_joinNearest_46 ?_
      rw [md _ (by omega)]
      cases hdA : mD S i
      · skip
        have hst : scI (qM u w S) (actM S) i (j + 1) (scO (qM u w S) (actM S) n i) = (scI (qM u w S) (actM S) i j (scO (qM u w S) (actM S) n i)) := by
          show stepS _ _ _ _ _ = _
          rw [stepS, if_neg (by simp [actM, hdA])]
        refine a_if_lt B 123 d_Mk_joinNearest_47 rfl (fun _ => ?_) (fun c9 => absurd (by decide) c9)
        first | refine b_iinc (lv1 := [(0, _), (1, _), (2, _), (3, _), (4, _), (5, _), (6, _), (7, _), (8, _)]) B d_Mk_joinNearest_123 rfl ci_1 (by decide) rfl ?_ | refine a_iinc (lv1 := [(0, _), (1, _), (2, _), (3, _), (4, _), (5, _), (6, _), (7, _), (8, _)]) B d_Mk_joinNearest_123 rfl rfl (by decide) rfl ?_
        refine a_goto B 31 d_Mk_joinNearest_126 rfl ?_
        refine a_sub (lv1 := [(0, _), (1, _), (2, _), (3, _), (4, _), (5, _), (6, _), (7, _), (8, _)]) rfl ?_
        first | (rw [hst] at ihj; first | exact ihj | (simp only [hs] at ihj; exact ihj)) | exact ihj
      · skip
        rename_i va
        have vA := (hI.1 i _ hdA).2
        have hA : actM S i = true := by simp [actM, hdA]
        have dA := nd_some hA
        show AW g K 10 _ _ [iV (nI va)] _
        refine b_if_lt B 123 d_Mk_joinNearest_47 rfl (by first | assumption | omega) ?_
        refine a_aload_n B d_Mk_joinNearest_50 rfl rfl ?_
        refine gf_Mk_nodeOf B d_Mk_joinNearest_51 fl_Mk_16 ?_
        refine a_iload B d_Mk_joinNearest_54 rfl ?_
        refine a_iald B ly_7 _ rfl (by first | assumption | omega) d_Mk_joinNearest_56 ?_
        rw [md _ (by omega)]
        cases hdB : mD S (i + 1 + j)
        · skip
          have hst : scI (qM u w S) (actM S) i (j + 1) (scO (qM u w S) (actM S) n i) = (scI (qM u w S) (actM S) i j (scO (qM u w S) (actM S) n i)) := by
            show stepS _ _ _ _ _ = _
            rw [stepS, if_neg (by simp [actM, hdB])]
          refine a_if_ge B 63 d_Mk_joinNearest_57 rfl (fun c9 => absurd c9 (by decide)) (fun _ => ?_)
          refine a_goto B 123 d_Mk_joinNearest_60 rfl ?_
          first | refine b_iinc (lv1 := [(0, _), (1, _), (2, _), (3, _), (4, _), (5, _), (6, _), (7, _), (8, _)]) B d_Mk_joinNearest_123 rfl ci_1 (by decide) rfl ?_ | refine a_iinc (lv1 := [(0, _), (1, _), (2, _), (3, _), (4, _), (5, _), (6, _), (7, _), (8, _)]) B d_Mk_joinNearest_123 rfl rfl (by decide) rfl ?_
          refine a_goto B 31 d_Mk_joinNearest_126 rfl ?_
          refine a_sub (lv1 := [(0, _), (1, _), (2, _), (3, _), (4, _), (5, _), (6, _), (7, _), (8, _)]) rfl ?_
          first | (rw [hst] at ihj; first | exact ihj | (simp only [hs] at ihj; exact ihj)) | exact ihj
        · skip
          rename_i vb
          have vB := (hI.1 _ _ hdB).2
          have hB : actM S (i + 1 + j) = true := by simp [actM, hdB]
          have dB := nd_some hB
          show AW g K 10 _ _ [iV (nI vb)] _
          refine b_if_ge B 63 d_Mk_joinNearest_57 rfl (by first | assumption | omega) ?_
          refine a_aload_n B d_Mk_joinNearest_63 rfl rfl ?_
          refine a_aload_n B d_Mk_joinNearest_64 rfl rfl ?_
          refine a_iload B d_Mk_joinNearest_65 rfl ?_
          refine a_iload B d_Mk_joinNearest_67 rfl ?_
          refine a_iload_n B d_Mk_joinNearest_69 rfl rfl ?_
          refine a_callVI (ci := 3) B (t_Mk_sharesOf G ht hn hw hu hK hM hI hk hk2 (a := i) (b := i + 1 + j) (by omega) (by omega) hA hB) d_Mk_joinNearest_70 ok_Mk_sharesOf ml_Mk_44 ly_5 rfl rfl (by decide) (by decide) rfl (Nat.le_of_ble_eq_true rfl) (fun r_70 τ_70 h_70 => ?_)
          obtain ⟨hr_70, hs_70⟩ := h_70
          subst hr_70
          replace hs_70 := hs_70.symm
          subst hs_70
          refine a_istore (lv1 := [(0, _), (1, _), (2, _), (3, _), (4, _), (5, _), (6, _), (7, _), (8, _), (9, _)]) B d_Mk_joinNearest_73 (by decide) rfl ?_
          cases hs : (scI (qM u w S) (actM S) i j (scO (qM u w S) (actM S) n i))
          · skip
            have hst : scI (qM u w S) (actM S) i (j + 1) (scO (qM u w S) (actM S) n i) = some (i, i + 1 + j, ((qM u w S) i (i + 1 + j)).1, ((qM u w S) i (i + 1 + j)).2) := by
              show stepS _ _ _ _ _ = _
              rw [stepS, hs, if_pos (by rw [hA, hB]; rfl)]; rfl
            refine a_iload_n B d_Mk_joinNearest_75 rfl rfl ?_
            refine a_if_lt B 100 d_Mk_joinNearest_76 rfl (fun _ => ?_) (fun c9 => absurd (by decide) c9)
            refine a_iload B d_Mk_joinNearest_100 rfl ?_
            refine a_istore_n (lv1 := [(0, _), (1, _), (2, _), (3, _), (4, _), (5, _), (6, _), (7, _), (8, _), (9, _)]) B d_Mk_joinNearest_102 rfl (by decide) rfl ?_
            refine a_iload B d_Mk_joinNearest_103 rfl ?_
            refine a_istore (lv1 := [(0, _), (1, _), (2, _), (3, _), (4, _), (5, _), (6, _), (7, _), (8, _), (9, _)]) B d_Mk_joinNearest_105 (by decide) rfl ?_
            refine a_aload_n B d_Mk_joinNearest_107 rfl rfl ?_
            refine gf_Mk_apart B d_Mk_joinNearest_108 fl_Mk_11 ?_
            refine a_iload B d_Mk_joinNearest_111 rfl ?_
            refine al_ap B _ rfl (by first | assumption | omega) d_Mk_joinNearest_113 ?_
            refine a_iload B d_Mk_joinNearest_114 rfl ?_
            refine a_iald B (ly_ap (by first | assumption | omega)) _ rfl (by first | assumption | omega) d_Mk_joinNearest_116 ?_
            rw [ma i (i + 1 + j) _ _ (by omega) (by omega) (by omega) dA dB]
            refine a_istore (lv1 := [(0, _), (1, _), (2, _), (3, _), (4, _), (5, _), (6, _), (7, _), (8, _), (9, _)]) B d_Mk_joinNearest_117 (by decide) rfl ?_
            refine a_iload B d_Mk_joinNearest_119 rfl ?_
            refine a_istore (lv1 := [(0, _), (1, _), (2, _), (3, _), (4, _), (5, _), (6, _), (7, _), (8, _), (9, _)]) B d_Mk_joinNearest_121 (by decide) rfl ?_
            first | refine b_iinc (lv1 := [(0, _), (1, _), (2, _), (3, _), (4, _), (5, _), (6, _), (7, _), (8, _), (9, _)]) B d_Mk_joinNearest_123 rfl ci_1 (by decide) rfl ?_ | refine a_iinc (lv1 := [(0, _), (1, _), (2, _), (3, _), (4, _), (5, _), (6, _), (7, _), (8, _), (9, _)]) B d_Mk_joinNearest_123 rfl rfl (by decide) rfl ?_
            refine a_goto B 31 d_Mk_joinNearest_126 rfl ?_
            refine a_sub (lv1 := [(0, _), (1, _), (2, _), (3, _), (4, _), (5, _), (6, _), (7, _), (8, _)]) rfl ?_
            first | (rw [hst] at ihj; first | exact ihj | (simp only [hs] at ihj; exact ihj)) | exact ihj
          · skip
            rename_i z
            have hz := scI_ok (scO_ok (q := (qM u w S)) (act := (actM S)) (n := n) i) j (by omega) z hs
            have hb1 : (fUp u w (mM S (ndM S i)) (mM S (ndM S (i + 1 + j)))) * sL (some z) < 2 ^ 31 := by
              have := Nat.mul_le_mul (fUp_le hu w (mM S (ndM S i)) (mM S (ndM S (i + 1 + j)))) (show sL (some z) ≤ 100 by show z.2.2.2 ≤ 100; rw [hz.2.2.2.2.2]; exact fLow_le _ _ _)
              omega
            have hb2 : sU (some z) * ((qM u w S) i (i + 1 + j)).2 < 2 ^ 31 := by
              have := Nat.mul_le_mul (show sU (some z) ≤ 1000000 by show z.2.2.1 ≤ 1000000; rw [hz.2.2.2.2.1]; exact fUp_le hu _ _ _) (show ((qM u w S) i (i + 1 + j)).2 ≤ 100 from fLow_le _ _ _)
              omega
            have hz1 : z.1 < 2 ^ 31 := by have := hz.1; have := hz.2.1; omega
            refine a_iload_n B d_Mk_joinNearest_75 rfl rfl ?_
            refine b_if_lt B 100 d_Mk_joinNearest_76 rfl (by first | assumption | omega) ?_
            refine a_aload_n B d_Mk_joinNearest_79 rfl rfl ?_
            refine gf_Mk_apart B d_Mk_joinNearest_80 fl_Mk_11 ?_
            refine a_iload B d_Mk_joinNearest_83 rfl ?_
            refine al_ap B _ rfl (by first | assumption | omega) d_Mk_joinNearest_85 ?_
            refine a_iload B d_Mk_joinNearest_86 rfl ?_
            refine a_iald B (ly_ap (by first | assumption | omega)) _ rfl (by first | assumption | omega) d_Mk_joinNearest_88 ?_
            rw [ma i (i + 1 + j) _ _ (by omega) (by omega) (by omega) dA dB]
            refine a_iload B d_Mk_joinNearest_89 rfl ?_
            first | refine b_imul B d_Mk_joinNearest_91 ?_ | refine a_imul B d_Mk_joinNearest_91 ?_
            refine a_iload B d_Mk_joinNearest_92 rfl ?_
            refine a_iload B d_Mk_joinNearest_94 rfl ?_
            first | refine b_imul B d_Mk_joinNearest_96 ?_ | refine a_imul B d_Mk_joinNearest_96 ?_
            first | refine b_icmp_ge B 123 d_Mk_joinNearest_97 rfl (by omega) (by omega) (fun c_97 => ?_) (fun c_97 => ?_) | refine a_icmp_ge B 123 d_Mk_joinNearest_97 rfl (fun c_97 => ?_) (fun c_97 => ?_)
            · skip
              have hst : scI (qM u w S) (actM S) i (j + 1) (scO (qM u w S) (actM S) n i) = some z := by
                show stepS _ _ _ _ _ = _
                rw [stepS, hs, if_pos (by rw [hA, hB]; rfl), if_neg (fun q9 : betS _ _ _ (some z) = true => absurd (of_decide_eq_true q9) (Nat.not_lt.mpr c_97))]
              first | refine b_iinc (lv1 := [(0, _), (1, _), (2, _), (3, _), (4, _), (5, _), (6, _), (7, _), (8, _), (9, _)]) B d_Mk_joinNearest_123 rfl ci_1 (by decide) rfl ?_ | refine a_iinc (lv1 := [(0, _), (1, _), (2, _), (3, _), (4, _), (5, _), (6, _), (7, _), (8, _), (9, _)]) B d_Mk_joinNearest_123 rfl rfl (by decide) rfl ?_
              refine a_goto B 31 d_Mk_joinNearest_126 rfl ?_
              refine a_sub (lv1 := [(0, _), (1, _), (2, _), (3, _), (4, _), (5, _), (6, _), (7, _), (8, _)]) rfl ?_
              first | (rw [hst] at ihj; first | exact ihj | (simp only [hs] at ihj; exact ihj)) | exact ihj
            have hst : scI (qM u w S) (actM S) i (j + 1) (scO (qM u w S) (actM S) n i) = some (i, i + 1 + j, ((qM u w S) i (i + 1 + j)).1, ((qM u w S) i (i + 1 + j)).2) := by
              show stepS _ _ _ _ _ = _
              rw [stepS, hs, if_pos (by rw [hA, hB]; rfl), if_pos (show betS _ _ _ (some z) = true from decide_eq_true c_97)]
            refine a_iload B d_Mk_joinNearest_100 rfl ?_
            refine a_istore_n (lv1 := [(0, _), (1, _), (2, _), (3, _), (4, _), (5, _), (6, _), (7, _), (8, _), (9, _)]) B d_Mk_joinNearest_102 rfl (by decide) rfl ?_
            refine a_iload B d_Mk_joinNearest_103 rfl ?_
            refine a_istore (lv1 := [(0, _), (1, _), (2, _), (3, _), (4, _), (5, _), (6, _), (7, _), (8, _), (9, _)]) B d_Mk_joinNearest_105 (by decide) rfl ?_
            refine a_aload_n B d_Mk_joinNearest_107 rfl rfl ?_
            refine gf_Mk_apart B d_Mk_joinNearest_108 fl_Mk_11 ?_
            refine a_iload B d_Mk_joinNearest_111 rfl ?_
            refine al_ap B _ rfl (by first | assumption | omega) d_Mk_joinNearest_113 ?_
            refine a_iload B d_Mk_joinNearest_114 rfl ?_
            refine a_iald B (ly_ap (by first | assumption | omega)) _ rfl (by first | assumption | omega) d_Mk_joinNearest_116 ?_
            rw [ma i (i + 1 + j) _ _ (by omega) (by omega) (by omega) dA dB]
            refine a_istore (lv1 := [(0, _), (1, _), (2, _), (3, _), (4, _), (5, _), (6, _), (7, _), (8, _), (9, _)]) B d_Mk_joinNearest_117 (by decide) rfl ?_
            refine a_iload B d_Mk_joinNearest_119 rfl ?_
            refine a_istore (lv1 := [(0, _), (1, _), (2, _), (3, _), (4, _), (5, _), (6, _), (7, _), (8, _), (9, _)]) B d_Mk_joinNearest_121 (by decide) rfl ?_
            first | refine b_iinc (lv1 := [(0, _), (1, _), (2, _), (3, _), (4, _), (5, _), (6, _), (7, _), (8, _), (9, _)]) B d_Mk_joinNearest_123 rfl ci_1 (by decide) rfl ?_ | refine a_iinc (lv1 := [(0, _), (1, _), (2, _), (3, _), (4, _), (5, _), (6, _), (7, _), (8, _), (9, _)]) B d_Mk_joinNearest_123 rfl rfl (by decide) rfl ?_
            refine a_goto B 31 d_Mk_joinNearest_126 rfl ?_
            refine a_sub (lv1 := [(0, _), (1, _), (2, _), (3, _), (4, _), (5, _), (6, _), (7, _), (8, _)]) rfl ?_
            first | (rw [hst] at ihj; first | exact ihj | (simp only [hs] at ihj; exact ihj)) | exact ihj
    · skip
      refine a_iload B d_Mk_joinNearest_31 rfl ?_
      refine a_aload_n B d_Mk_joinNearest_33 rfl rfl ?_
      refine gf_Tr_leafCount B (by first | assumption | omega) d_Mk_joinNearest_34 fl_Mk_43 ?_
      rw [k12]
      first | refine b_icmp_ge B 129 d_Mk_joinNearest_37 rfl (by omega) (by omega) (fun c_37 => ?_) (fun c_37 => ?_) | refine a_icmp_ge B 129 d_Mk_joinNearest_37 rfl (fun c_37 => ?_) (fun c_37 => ?_)
      · skip
        first | refine b_iinc (lv1 := [(0, _), (1, _), (2, _), (3, _), (4, _), (5, _), (6, _), (7, _), (8, _)]) B d_Mk_joinNearest_129 rfl ci_1 (by decide) rfl ?_ | refine a_iinc (lv1 := [(0, _), (1, _), (2, _), (3, _), (4, _), (5, _), (6, _), (7, _), (8, _)]) B d_Mk_joinNearest_129 rfl rfl (by decide) rfl ?_
        refine a_goto B 16 d_Mk_joinNearest_132 rfl ?_
        refine a_sub (lv1 := [(0, _), (1, _), (2, _), (3, _), (4, _), (5, _), (6, _), (7, _)]) rfl ?_
        exact ihi
      exact absurd c_37 (by omega)
  · skip
    refine a_iload B d_Mk_joinNearest_16 rfl ?_
    refine a_aload_n B d_Mk_joinNearest_18 rfl rfl ?_
    refine gf_Tr_leafCount B (by first | assumption | omega) d_Mk_joinNearest_19 fl_Mk_43 ?_
    rw [k12]
    first | refine b_icmp_ge B 135 d_Mk_joinNearest_22 rfl (by omega) (by omega) (fun c_22 => ?_) (fun c_22 => ?_) | refine a_icmp_ge B 135 d_Mk_joinNearest_22 rfl (fun c_22 => ?_) (fun c_22 => ?_)
    · skip
      obtain ⟨z, hz, z1, z2, z3, z4, z5, z6⟩ := pick_some (u := u) (w := w) hI (by omega)
      have hz : scO (qM u w S) (actM S) n n = some z := hz
      rw [hz]
      have dA := nd_some z3
      have dB := nd_some z4
      have vA := (hI.1 _ _ dA).2
      have vB := (hI.1 _ _ dB).2
      have hlo : 0 < z.2.2.2 := by
        rw [z6]
        show 0 < fLow _ _ _
        unfold fLow
        split
        · exact Nat.mul_pos (hI.2.2.2.2.2.2.2.2.1 _ vA).2 (hI.2.2.2.2.2.2.2.2.1 _ vB).2
        · omega
      have hl9 : z.2.2.2 ≤ 100 := by rw [z6]; exact fLow_le _ _ _
      have hu9 : z.2.2.1 ≤ 1000000 := by rw [z5]; exact fUp_le hu _ _ _
      show AW g K 10 _ [(0, rV 5), (1, rV (tI t)), (2, iV (nI w)), (3, iV (nI z.1)), (4, iV (nI z.2.1)), (5, iV (nI z.2.2.1)), (6, iV (nI z.2.2.2)), (7, iV (nI n))] [] σ
      refine a_iload_n B d_Mk_joinNearest_135 rfl rfl ?_
      refine b_if_lt B 202 d_Mk_joinNearest_136 rfl (by first | assumption | omega) ?_
      refine a_iload B d_Mk_joinNearest_139 rfl ?_
      refine b_if_lt B 202 d_Mk_joinNearest_141 rfl (by first | assumption | omega) ?_
      refine a_iload B d_Mk_joinNearest_144 rfl ?_
      refine a_if_le B 202 d_Mk_joinNearest_146 rfl (fun c_146 => ?_) (fun c_146 => ?_)
      · exact absurd c_146 (nI_nle hlo (by omega))
      refine a_aload_n B d_Mk_joinNearest_149 rfl rfl ?_
      refine a_aload_n B d_Mk_joinNearest_150 rfl rfl ?_
      refine gf_Mk_nodeOf B d_Mk_joinNearest_151 fl_Mk_16 ?_
      refine a_iload_n B d_Mk_joinNearest_154 rfl rfl ?_
      refine a_iald B ly_7 _ rfl (by first | assumption | omega) d_Mk_joinNearest_155 ?_
      rw [md _ (by omega), dA]
      show AW g K 10 _ _ (iV (nI (ndM S z.1)) :: _) _
      refine a_aload_n B d_Mk_joinNearest_156 rfl rfl ?_
      refine gf_Mk_nodeOf B d_Mk_joinNearest_157 fl_Mk_16 ?_
      refine a_iload B d_Mk_joinNearest_160 rfl ?_
      refine a_iald B ly_7 _ rfl (by first | assumption | omega) d_Mk_joinNearest_162 ?_
      rw [md _ (by omega), dB]
      show AW g K 10 _ _ (iV (nI (ndM S z.2.1)) :: _) _
      refine a_iload B d_Mk_joinNearest_163 rfl ?_
      refine a_iload B d_Mk_joinNearest_165 rfl ?_
      refine a_idiv B d_Mk_joinNearest_167 (fun q => by have := nI_z (by omega) q; omega) ?_
      rw [nI_div (by omega) (by omega)]
      refine a_callVI (ci := 5) B (t_Tr_addJoin G ht (by omega) vA vB k13 _) d_Mk_joinNearest_168 ok_Tr_addJoin ml_Mk_48 (ly_T (by first | assumption | omega)) rfl rfl (by decide) (by decide) rfl (Nat.le_of_ble_eq_true rfl) (fun r_168 τ_168 h_168 => ?_)
      obtain ⟨hr_168, j2, j0, j1, jr, j3, j4, j5, j6, jo⟩ := h_168
      subst hr_168
      refine a_istore (lv1 := [(0, _), (1, _), (2, _), (3, _), (4, _), (5, _), (6, _), (7, _)]) B d_Mk_joinNearest_171 (by decide) rfl ?_
      refine a_aload_n B d_Mk_joinNearest_173 rfl rfl ?_
      refine a_iload_n B d_Mk_joinNearest_174 rfl rfl ?_
      refine a_iload B d_Mk_joinNearest_175 rfl ?_
      refine a_aload_n B d_Mk_joinNearest_177 rfl rfl ?_
      refine gf_Tr_leafCount B (by first | assumption | omega) d_Mk_joinNearest_178 fl_Mk_43 ?_
      rw [j0, upd_o (by decide), k12]
      refine a_iload_n B d_Mk_joinNearest_181 rfl rfl ?_
      refine a_callVV (ci := 3) B (t_Mk_merge G hn (by omega) (by omega) (by omega) hw) d_Mk_joinNearest_182 ok_Mk_merge ml_Mk_52 ly_5 rfl rfl (by decide) (by decide) rfl (Nat.le_of_ble_eq_true rfl) (fun τ_182 h_182 => ?_)
      obtain ⟨g2, go, gf, gc⟩ := h_182
      refine a_aload_n B d_Mk_joinNearest_185 rfl rfl ?_
      refine gf_Mk_nodeOf B d_Mk_joinNearest_186 fl_Mk_16 ?_
      refine a_iload_n B d_Mk_joinNearest_189 rfl rfl ?_
      refine a_iload B d_Mk_joinNearest_190 rfl ?_
      refine a_iast B ly_7 _ rfl (by first | assumption | omega) d_Mk_joinNearest_192 ?_
      refine a_aload_n B d_Mk_joinNearest_193 rfl rfl ?_
      refine gf_Mk_nodeOf B d_Mk_joinNearest_194 fl_Mk_16 ?_
      refine a_iload B d_Mk_joinNearest_197 rfl ?_
      refine a_bipush B d_Mk_joinNearest_199 cb_m9 ?_
      refine a_iast B ly_7 _ rfl (by first | assumption | omega) d_Mk_joinNearest_201 ?_
      exact Rt _ _ _ d_Mk_joinNearest_202 (join_end ht hn hw hu hus hz hK hM hI hk hk2 z1 z2 z3 z4 z5 z6 hlo j2 j0 j1 jr j3 j4 j5 j6 jo g2 go gf gc)
    exact absurd c_22 (by omega)
