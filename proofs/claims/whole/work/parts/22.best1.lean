/-! the best turns: numbers; the first rows are pasted from the laws on bits -/
theorem u_tn {n : Nat} (h : n < 2 ^ 64) : (UInt64.ofNat n).toNat = n := Nat.mod_eq_of_lt h
theorem g_and {a b c : Nat} (ha : a < 2 ^ 64) (hb : b < 2 ^ 64) (hc : a &&& b = c) : lN a &&& lN b = lN c := by
  subst hc
  have h : UInt64.ofNat a &&& UInt64.ofNat b = UInt64.ofNat (a &&& b) := UInt64.toNat_inj.mp (by rw [UInt64.toNat_and, u_tn ha, u_tn hb, u_tn (Nat.and_lt_two_pow a hb)])
  have h2 := congrArg UInt64.toInt64 h
  exact h2
theorem g_mask {a s p : Nat} (hp : 2 ^ s = p) (hs : s < 64) (ha : a < 2 ^ 64) : lN a &&& lN (p - 1) = lN (a % p) := by
  subst hp
  have := Nat.pow_lt_pow_right (show 1 < 2 by decide) hs
  exact g_and ha (by omega) (Nat.and_two_pow_sub_one_eq_mod a s)
theorem g_or {k p a b : Nat} (hp : 2 ^ k = p) (ha : a < p) (h : b * p + a < 2 ^ 64) : lN (b * p) ||| lN a = lN (b * p + a) := by
  subst hp
  have h1 : b * 2 ^ k ||| a = b * 2 ^ k + a := by rw [← Nat.shiftLeft_eq, Nat.shiftLeft_add_eq_or_of_lt ha]
  have h3 : UInt64.ofNat (b * 2 ^ k) ||| UInt64.ofNat a = UInt64.ofNat (b * 2 ^ k + a) := UInt64.toNat_inj.mp (by rw [UInt64.toNat_or, u_tn (by omega), u_tn (by omega), u_tn h, h1])
  have h2 := congrArg UInt64.toInt64 h3
  exact h2
theorem g_shl {a k p : Nat} {y : Int64} (hy : y.toBitVec.smod 64 = BitVec.ofNat 64 k) (hk : k < 64) (hp : 2 ^ k = p) (ha : a < 2 ^ 64) : lN a <<< y = lN (a * p) := by
  subst hp
  apply Int64.toBitVec_inj.mp
  rw [Int64.toBitVec_shiftLeft, hy]
  apply BitVec.eq_of_toNat_eq
  have hb : (lN a).toBitVec.toNat = a := Nat.mod_eq_of_lt ha
  have hk' : (BitVec.ofNat 64 k).toNat = k := Nat.mod_eq_of_lt (by omega)
  have h : ((lN a).toBitVec <<< BitVec.ofNat 64 k).toNat = (a * 2 ^ k) % 2 ^ 64 := by simp only [BitVec.shiftLeft_eq', BitVec.toNat_shiftLeft, hb, hk', Nat.shiftLeft_eq]
  exact h
theorem pf_lI {a : Nat} (h : a < 2 ^ 63) : (lN a).toInt = (a : Int) := lg_ofNat_toInt h
theorem pf_shr {a d : Nat} {D : Int64} (hD : (D.toBitVec.smod 64).toNat = d) (h : a < 2 ^ 62) : lN a >>> D = lN (a / 2 ^ d) := by
  have hd : a / 2 ^ d ≤ a := Nat.div_le_self _ _
  apply Int64.toInt_inj.mp
  have e : (lN a >>> D).toInt = (lN a).toInt >>> d := by
    rw [← hD]
    exact BitVec.toInt_sshiftRight ..
  rw [e, Int.shiftRight_eq_div_pow, pf_lI (by omega), pf_lI (by omega)]
  rfl
def oL : Option Nat → Int64
  | none => -1
  | some k => lN k
/-- an order's number: its price above its leaves, four bits each -/
def okKey (k s : Nat) : Prop := k / 2 ^ 40 + 10000 ≤ 10000 * s ∧ k % 2 ^ 40 < 16 ^ s
def bsN (a : Option Nat) (g : Nat) (b : Option Nat) (sz : Nat) : Option Nat := match a, b with
  | some x, some y => some ((x / 2 ^ 40 + g + y / 2 ^ 40) * 2 ^ 40 + ((x % 2 ^ 40) * 16 ^ sz + y % 2 ^ 40))
  | _, _ => none
def omin (a b : Option Nat) : Option Nat := match a, b with
  | none, y => y
  | some x, none => some x
  | some x, some y => some (min x y)
theorem lg_m1 : lg_cmp (-1) 0 = -1 := by decide
theorem lg_nn {k : Nat} (h : k < 2 ^ 63) : lg_cmp (lN k) 0 = nI (if k = 0 then 0 else 1) := by
  unfold lg_cmp
  have h0 : (0 : Int64) = lN 0 := rfl
  by_cases e : k = 0
  · subst e; decide
  · have h1 : lN k > 0 := by
      rw [h0]
      exact (pk_lLT (by omega) h).mpr (by omega)
    rw [if_pos h1, if_neg e]
    rfl
theorem okKey_lt {k s : Nat} (h : okKey k s) (hs : s ≤ 10) : k < 2 ^ 58 := by
  have h1 := h.1
  have h2 : k / 2 ^ 40 ≤ 100000 := by omega
  have h3 : k = 2 ^ 40 * (k / 2 ^ 40) + k % 2 ^ 40 := (Nat.div_add_mod k (2 ^ 40)).symm
  have h4 : k % 2 ^ 40 < 2 ^ 40 := Nat.mod_lt _ (by decide)
  omega
theorem pow16 {s : Nat} (h : s ≤ 10) : 16 ^ s ≤ 2 ^ 40 := by
  have key : ∀ s, s ≤ 10 → 16 ^ s ≤ 2 ^ 40 := by decide
  exact key s h
theorem p16_2 (s : Nat) : 16 ^ s = 2 ^ (4 * s) := by rw [Nat.pow_mul]
theorem bs_code {x y s1 sz : Nat} (hx : x < 16 ^ s1) (hy : y < 16 ^ sz) (h : s1 + sz ≤ 10) : x * 16 ^ sz + y < 16 ^ (s1 + sz) ∧ x * 16 ^ sz + y < 2 ^ 40 ∧ x * 16 ^ sz < 2 ^ 40 := by
  have h1 : (x + 1) * 16 ^ sz ≤ 16 ^ s1 * 16 ^ sz := Nat.mul_le_mul_right _ hx
  rw [← Nat.pow_add, Nat.add_mul] at h1
  have := pow16 h
  omega
theorem bs_ok {x y s1 sz g : Nat} (hx : okKey x s1) (hy : okKey y sz) (h : s1 + sz ≤ 10) (hg : g ≤ 10000) : okKey ((x / 2 ^ 40 + g + y / 2 ^ 40) * 2 ^ 40 + ((x % 2 ^ 40) * 16 ^ sz + y % 2 ^ 40)) (s1 + sz) := by
  obtain ⟨c1, c2, c3⟩ := bs_code hx.2 hy.2 h
  have hx1 := hx.1
  have hy1 := hy.1
  unfold okKey
  rw [Nat.mul_comm _ (2 ^ 40), Nat.mul_add_div (by decide), Nat.mul_add_mod, Nat.div_eq_of_lt c2, Nat.mod_eq_of_lt c2]
  exact ⟨by omega, c1⟩
theorem sh4 {s : Nat} (h : s ≤ 10) : ((nI (4 * s)).toInt64 &&& 63).toBitVec.smod 64 = BitVec.ofNat 64 (4 * s) := by
  have key : ∀ s, s ≤ 10 → ((nI (4 * s)).toInt64 &&& 63).toBitVec.smod 64 = BitVec.ofNat 64 (4 * s) := by decide +kernel
  exact key s h
theorem d_Bt_besides_0 : decode prog_3_method_6_code 0 = .ok (.lload_n 0, 1) := by decide +kernel
theorem d_Bt_besides_1 : decode prog_3_method_6_code 1 = .ok (.lconst 0, 1) := by decide +kernel
theorem d_Bt_besides_2 : decode prog_3_method_6_code 2 = .ok (.lcmp, 1) := by decide +kernel
theorem d_Bt_besides_3 : decode prog_3_method_6_code 3 = .ok (.ifCond .lt 9, 3) := by decide +kernel
theorem d_Bt_besides_6 : decode prog_3_method_6_code 6 = .ok (.lload_n 3, 1) := by decide +kernel
theorem d_Bt_besides_7 : decode prog_3_method_6_code 7 = .ok (.lconst 0, 1) := by decide +kernel
theorem d_Bt_besides_8 : decode prog_3_method_6_code 8 = .ok (.lcmp, 1) := by decide +kernel
theorem d_Bt_besides_9 : decode prog_3_method_6_code 9 = .ok (.ifCond .ge 7, 3) := by decide +kernel
theorem d_Bt_besides_12 : decode prog_3_method_6_code 12 = .ok (.ldc2_w 20, 3) := by decide +kernel
theorem d_Bt_besides_15 : decode prog_3_method_6_code 15 = .ok (.lreturn, 1) := by decide +kernel
theorem d_Bt_besides_16 : decode prog_3_method_6_code 16 = .ok (.lload_n 0, 1) := by decide +kernel
theorem d_Bt_besides_17 : decode prog_3_method_6_code 17 = .ok (.bipush 40, 2) := by decide +kernel
theorem d_Bt_besides_19 : decode prog_3_method_6_code 19 = .ok (.lshr, 1) := by decide +kernel
theorem d_Bt_besides_20 : decode prog_3_method_6_code 20 = .ok (.iload_n 2, 1) := by decide +kernel
theorem d_Bt_besides_21 : decode prog_3_method_6_code 21 = .ok (.i2l, 1) := by decide +kernel
theorem d_Bt_besides_22 : decode prog_3_method_6_code 22 = .ok (.ladd, 1) := by decide +kernel
theorem d_Bt_besides_23 : decode prog_3_method_6_code 23 = .ok (.lload_n 3, 1) := by decide +kernel
theorem d_Bt_besides_24 : decode prog_3_method_6_code 24 = .ok (.bipush 40, 2) := by decide +kernel
theorem d_Bt_besides_26 : decode prog_3_method_6_code 26 = .ok (.lshr, 1) := by decide +kernel
theorem d_Bt_besides_27 : decode prog_3_method_6_code 27 = .ok (.ladd, 1) := by decide +kernel
theorem d_Bt_besides_28 : decode prog_3_method_6_code 28 = .ok (.lstore 6, 2) := by decide +kernel
theorem d_Bt_besides_30 : decode prog_3_method_6_code 30 = .ok (.lload_n 0, 1) := by decide +kernel
theorem d_Bt_besides_31 : decode prog_3_method_6_code 31 = .ok (.ldc2_w 91, 3) := by decide +kernel
theorem d_Bt_besides_34 : decode prog_3_method_6_code 34 = .ok (.land, 1) := by decide +kernel
theorem d_Bt_besides_35 : decode prog_3_method_6_code 35 = .ok (.iconst 4, 1) := by decide +kernel
theorem d_Bt_besides_36 : decode prog_3_method_6_code 36 = .ok (.iload 5, 2) := by decide +kernel
theorem d_Bt_besides_38 : decode prog_3_method_6_code 38 = .ok (.imul, 1) := by decide +kernel
theorem d_Bt_besides_39 : decode prog_3_method_6_code 39 = .ok (.lshl, 1) := by decide +kernel
theorem d_Bt_besides_40 : decode prog_3_method_6_code 40 = .ok (.lload_n 3, 1) := by decide +kernel
theorem d_Bt_besides_41 : decode prog_3_method_6_code 41 = .ok (.ldc2_w 91, 3) := by decide +kernel
theorem d_Bt_besides_44 : decode prog_3_method_6_code 44 = .ok (.land, 1) := by decide +kernel
theorem d_Bt_besides_45 : decode prog_3_method_6_code 45 = .ok (.lor, 1) := by decide +kernel
theorem d_Bt_besides_46 : decode prog_3_method_6_code 46 = .ok (.lstore 8, 2) := by decide +kernel
theorem d_Bt_besides_48 : decode prog_3_method_6_code 48 = .ok (.lload 6, 2) := by decide +kernel
theorem d_Bt_besides_50 : decode prog_3_method_6_code 50 = .ok (.bipush 40, 2) := by decide +kernel
theorem d_Bt_besides_52 : decode prog_3_method_6_code 52 = .ok (.lshl, 1) := by decide +kernel
theorem d_Bt_besides_53 : decode prog_3_method_6_code 53 = .ok (.lload 8, 2) := by decide +kernel
theorem d_Bt_besides_55 : decode prog_3_method_6_code 55 = .ok (.lor, 1) := by decide +kernel
theorem d_Bt_besides_56 : decode prog_3_method_6_code 56 = .ok (.lreturn, 1) := by decide +kernel
set_option maxHeartbeats 4000000 in
set_option maxRecDepth 20000 in
theorem t_Bt_besides {g : GG} (G : Gok g) {σ : AH} {k1 k2 : Option Nat} {gp s1 sz : Nat} (h1 : ∀ x, k1 = some x → okKey x s1) (h2 : ∀ y, k2 = some y → okKey y sz) (hs : s1 + sz ≤ 10) (hg : gp ≤ 10000) : TerL g 0 m_Bt_besides [lV (oL k1), iV (nI gp), lV (oL k2), iV (nI sz)] σ (fun r τ => r = oL (bsN k1 gp k2 sz) ∧ τ = σ) := by
  refine TerL.mk G (by decide +kernel) rfl (Nat.le_of_ble_eq_true rfl) (fun K B Rt => ?_)
  have B : Cx g K prog_3_method_6_code 10 R_Bt 0 := B
  have Rt : RetL g K prog_3_method_6_code 10 (fun r τ => r = oL (bsN k1 gp k2 sz) ∧ τ = σ) := Rt
  show AW g K 10 0 [(0, lV (oL k1)), (2, iV (nI gp)), (3, lV (oL k2)), (5, iV (nI sz))] [] σ
  refine a_lload_n B d_Bt_besides_0 rfl rfl ?_
  refine a_lconst (v := 0) B d_Bt_besides_1 rfl ?_
  refine a_lcmp B d_Bt_besides_2 ?_
  cases hk1 : k1
  · skip
    rw [show lg_cmp (oL none) 0 = -1 from lg_m1]
    refine a_if_lt B 12 d_Bt_besides_3 rfl (fun _ => ?_) (fun c9 => absurd (by decide) c9)
    refine a_ldc2 B d_Bt_besides_12 kl_Bt_20 ?_
    exact Rt _ _ _ _ d_Bt_besides_15 ⟨by first | (rw [hk1]; rfl) | (rw [hk1, hk2]; rfl), rfl⟩
  · skip
    rename_i x
    have ox := h1 x hk1
    have lx := okKey_lt ox (by omega)
    rw [show lg_cmp (oL (some x)) 0 = nI (if x = 0 then 0 else 1) from lg_nn (by omega)]
    have hb9 : (if x = 0 then 0 else 1) < 2 ^ 31 := by split <;> omega
    refine b_if_lt B 12 d_Bt_besides_3 rfl (by first | assumption | omega) ?_
    refine a_lload_n B d_Bt_besides_6 rfl rfl ?_
    refine a_lconst (v := 0) B d_Bt_besides_7 rfl ?_
    refine a_lcmp B d_Bt_besides_8 ?_
    cases hk2 : k2
    · skip
      rw [show lg_cmp (oL none) 0 = -1 from lg_m1]
      refine a_if_ge B 16 d_Bt_besides_9 rfl (fun c9 => absurd c9 (by decide)) (fun _ => ?_)
      refine a_ldc2 B d_Bt_besides_12 kl_Bt_20 ?_
      exact Rt _ _ _ _ d_Bt_besides_15 ⟨by first | (rw [hk1]; rfl) | (rw [hk1, hk2]; rfl), rfl⟩
    · skip
      rename_i y
      have oy := h2 y hk2
      have ly := okKey_lt oy (by omega)
      rw [show lg_cmp (oL (some y)) 0 = nI (if y = 0 then 0 else 1) from lg_nn (by omega)]
      have hb8 : (if y = 0 then 0 else 1) < 2 ^ 31 := by split <;> omega
      refine b_if_ge B 16 d_Bt_besides_9 rfl (by first | assumption | omega) ?_
      refine a_lload_n B d_Bt_besides_16 rfl rfl ?_
      refine a_bipush B d_Bt_besides_17 cb_40 ?_
      refine a_lshr B d_Bt_besides_19 ?_
      rw [show oL (some x) = lN x from rfl, pf_shr (d := 40) (by decide) (by omega)]
      refine a_iload_n B d_Bt_besides_20 rfl rfl ?_
      refine a_i2l B d_Bt_besides_21 ?_
      rw [nI_l (by omega)]
      refine a_ladd B d_Bt_besides_22 ?_
      rw [lN_add]
      refine a_lload_n B d_Bt_besides_23 rfl rfl ?_
      refine a_bipush B d_Bt_besides_24 cb_40 ?_
      refine a_lshr B d_Bt_besides_26 ?_
      rw [show oL (some y) = lN y from rfl, pf_shr (d := 40) (by decide) (by omega)]
      refine a_ladd B d_Bt_besides_27 ?_
      rw [lN_add]
      refine a_lstore (lv1 := [(0, _), (2, _), (3, _), (5, _), (6, _)]) B d_Bt_besides_28 (by decide) rfl ?_
      refine a_lload_n B d_Bt_besides_30 rfl rfl ?_
      refine a_ldc2 B d_Bt_besides_31 kl_Bt_91 ?_
      refine a_land B d_Bt_besides_34 ?_
      rw [show (1099511627775 : Int64) = lN (2 ^ 40 - 1) from by decide, g_mask rfl (by decide) (by omega)]
      refine a_iconst B d_Bt_besides_35 ci_4 ?_
      refine a_iload B d_Bt_besides_36 rfl ?_
      first | refine b_imul B d_Bt_besides_38 ?_ | refine a_imul B d_Bt_besides_38 ?_
      refine a_lshl B d_Bt_besides_39 ?_
      obtain ⟨c1, c2, c3⟩ := bs_code ox.2 oy.2 hs
      rw [g_shl (k := 4 * sz) (p := 16 ^ sz) (sh4 (by omega)) (by omega) (p16_2 sz).symm (by omega)]
      refine a_lload_n B d_Bt_besides_40 rfl rfl ?_
      refine a_ldc2 B d_Bt_besides_41 kl_Bt_91 ?_
      refine a_land B d_Bt_besides_44 ?_
      rw [show (1099511627775 : Int64) = lN (2 ^ 40 - 1) from by decide, g_mask rfl (by decide) (by omega)]
      refine a_lor B d_Bt_besides_45 ?_
      rw [g_or (k := 4 * sz) (p := 16 ^ sz) (p16_2 sz).symm oy.2 (by omega)]
      refine a_lstore (lv1 := [(0, _), (2, _), (3, _), (5, _), (6, _), (8, _)]) B d_Bt_besides_46 (by decide) rfl ?_
      refine a_lload B d_Bt_besides_48 rfl ?_
      refine a_bipush B d_Bt_besides_50 cb_40 ?_
      refine a_lshl B d_Bt_besides_52 ?_
      have ox1 := ox.1
      have oy1 := oy.1
      rw [g_shl (k := 40) (p := 2 ^ 40) (by decide) (by decide) rfl (by omega)]
      refine a_lload B d_Bt_besides_53 rfl ?_
      refine a_lor B d_Bt_besides_55 ?_
      rw [g_or (k := 40) (p := 2 ^ 40) rfl c2 (by omega)]
      exact Rt _ _ _ _ d_Bt_besides_56 ⟨by rw [hk1, hk2]; rfl, rfl⟩
theorem d_Bt_lesser_0 : decode prog_3_method_7_code 0 = .ok (.lload_n 0, 1) := by decide +kernel
theorem d_Bt_lesser_1 : decode prog_3_method_7_code 1 = .ok (.lconst 0, 1) := by decide +kernel
theorem d_Bt_lesser_2 : decode prog_3_method_7_code 2 = .ok (.lcmp, 1) := by decide +kernel
theorem d_Bt_lesser_3 : decode prog_3_method_7_code 3 = .ok (.ifCond .ge 5, 3) := by decide +kernel
theorem d_Bt_lesser_6 : decode prog_3_method_7_code 6 = .ok (.lload_n 2, 1) := by decide +kernel
theorem d_Bt_lesser_7 : decode prog_3_method_7_code 7 = .ok (.lreturn, 1) := by decide +kernel
theorem d_Bt_lesser_8 : decode prog_3_method_7_code 8 = .ok (.lload_n 2, 1) := by decide +kernel
theorem d_Bt_lesser_9 : decode prog_3_method_7_code 9 = .ok (.lconst 0, 1) := by decide +kernel
theorem d_Bt_lesser_10 : decode prog_3_method_7_code 10 = .ok (.lcmp, 1) := by decide +kernel
theorem d_Bt_lesser_11 : decode prog_3_method_7_code 11 = .ok (.ifCond .ge 7, 3) := by decide +kernel
theorem d_Bt_lesser_14 : decode prog_3_method_7_code 14 = .ok (.lload_n 0, 1) := by decide +kernel
theorem d_Bt_lesser_15 : decode prog_3_method_7_code 15 = .ok (.goto 8, 3) := by decide +kernel
theorem d_Bt_lesser_18 : decode prog_3_method_7_code 18 = .ok (.lload_n 0, 1) := by decide +kernel
theorem d_Bt_lesser_19 : decode prog_3_method_7_code 19 = .ok (.lload_n 2, 1) := by decide +kernel
theorem d_Bt_lesser_20 : decode prog_3_method_7_code 20 = .ok (.invokestatic 93, 3) := by decide +kernel
theorem d_Bt_lesser_23 : decode prog_3_method_7_code 23 = .ok (.lreturn, 1) := by decide +kernel
theorem lN_min {x y : Nat} (hx : x < 2 ^ 62) (hy : y < 2 ^ 62) : (if oL (some y) < oL (some x) then oL (some y) else oL (some x)) = oL (omin (some x) (some y)) := by
  show (if lN y < lN x then lN y else lN x) = lN (min x y)
  by_cases h : y < x
  · rw [if_pos ((pk_lLT (by omega) (by omega)).mpr h), Nat.min_eq_right (by omega)]
  · rw [if_neg (fun q => h ((pk_lLT (by omega) (by omega)).mp q)), Nat.min_eq_left (by omega)]
set_option maxHeartbeats 4000000 in
set_option maxRecDepth 20000 in
theorem t_Bt_lesser {g : GG} (G : Gok g) {σ : AH} {k1 k2 : Option Nat} (h1 : ∀ x, k1 = some x → x < 2 ^ 62) (h2 : ∀ y, k2 = some y → y < 2 ^ 62) : TerL g 1 m_Bt_lesser [lV (oL k1), lV (oL k2)] σ (fun r τ => r = oL (omin k1 k2) ∧ τ = σ) := by
  refine TerL.mk G (by decide +kernel) rfl (Nat.le_of_ble_eq_true rfl) (fun K B Rt => ?_)
  have B : Cx g K prog_3_method_7_code 4 R_Bt 1 := B
  have Rt : RetL g K prog_3_method_7_code 4 (fun r τ => r = oL (omin k1 k2) ∧ τ = σ) := Rt
  show AW g K 4 0 [(0, lV (oL k1)), (2, lV (oL k2))] [] σ
  refine a_lload_n B d_Bt_lesser_0 rfl rfl ?_
  refine a_lconst (v := 0) B d_Bt_lesser_1 rfl ?_
  refine a_lcmp B d_Bt_lesser_2 ?_
  cases hk1 : k1
  · skip
    rw [show lg_cmp (oL none) 0 = -1 from lg_m1]
    refine a_if_ge B 8 d_Bt_lesser_3 rfl (fun c9 => absurd c9 (by decide)) (fun _ => ?_)
    refine a_lload_n B d_Bt_lesser_6 rfl rfl ?_
    exact Rt _ _ _ _ d_Bt_lesser_7 ⟨by rw [hk1]; rfl, rfl⟩
  · skip
    rename_i x
    have lx := h1 x hk1
    rw [show lg_cmp (oL (some x)) 0 = nI (if x = 0 then 0 else 1) from lg_nn (by omega)]
    have hb9 : (if x = 0 then 0 else 1) < 2 ^ 31 := by split <;> omega
    refine b_if_ge B 8 d_Bt_lesser_3 rfl (by first | assumption | omega) ?_
    refine a_lload_n B d_Bt_lesser_8 rfl rfl ?_
    refine a_lconst (v := 0) B d_Bt_lesser_9 rfl ?_
    refine a_lcmp B d_Bt_lesser_10 ?_
    cases hk2 : k2
    · skip
      rw [show lg_cmp (oL none) 0 = -1 from lg_m1]
      refine a_if_ge B 18 d_Bt_lesser_11 rfl (fun c9 => absurd c9 (by decide)) (fun _ => ?_)
      refine a_lload_n B d_Bt_lesser_14 rfl rfl ?_
      refine a_goto B 23 d_Bt_lesser_15 rfl ?_
      exact Rt _ _ _ _ d_Bt_lesser_23 ⟨by first | (rw [hk1, hk2]; rfl) | (rw [hk1, hk2]; exact lN_min lx ly), rfl⟩
    · skip
      rename_i y
      have ly := h2 y hk2
      rw [show lg_cmp (oL (some y)) 0 = nI (if y = 0 then 0 else 1) from lg_nn (by omega)]
      have hb8 : (if y = 0 then 0 else 1) < 2 ^ 31 := by split <;> omega
      refine b_if_ge B 18 d_Bt_lesser_11 rfl (by first | assumption | omega) ?_
      refine a_lload_n B d_Bt_lesser_18 rfl rfl ?_
      refine a_lload_n B d_Bt_lesser_19 rfl rfl ?_
      refine a_mmin_long B (by decide) (Nat.le_of_ble_eq_true rfl) d_Bt_lesser_20 ml_Bt_93 ?_
      exact Rt _ _ _ _ d_Bt_lesser_23 ⟨by first | (rw [hk1, hk2]; rfl) | (rw [hk1, hk2]; exact lN_min lx ly), rfl⟩
/-- the leaves that may stand at a branch's far end -/
def farE (T : TT) (v x : Nat) : Nat := if v < tN T then tM T v else if hasL T (tL T v) x then tM T (tR T v) else tM T (tL T v)
theorem and_not_or {a b : Nat} (ha : a < 1024) (hb : b < 1024) (hd : a &&& b = 0) : nI (a ||| b) &&& (nI a ^^^ (-1)) = nI b := by
  apply Int32.toBitVec_inj.mp
  show BitVec.ofNat 32 (a ||| b) &&& (BitVec.ofNat 32 a ^^^ BitVec.allOnes 32) = BitVec.ofNat 32 b
  apply BitVec.eq_of_getLsbD_eq
  intro i hi
  have h0 : (a &&& b).testBit i = false := by rw [hd]; exact Nat.zero_testBit i
  rw [Nat.testBit_and] at h0
  simp only [BitVec.getLsbD_and, BitVec.getLsbD_xor, BitVec.getLsbD_ofNat, BitVec.getLsbD_allOnes, hi, decide_true, Bool.true_and, Nat.testBit_or]
  cases ha : a.testBit i <;> cases hb : b.testBit i <;> simp_all
theorem d_Bt_farEnds_0 : decode prog_3_method_5_code 0 = .ok (.iload_n 1, 1) := by decide +kernel
theorem d_Bt_farEnds_1 : decode prog_3_method_5_code 1 = .ok (.aload_n 0, 1) := by decide +kernel
theorem d_Bt_farEnds_2 : decode prog_3_method_5_code 2 = .ok (.getfield 28, 3) := by decide +kernel
theorem d_Bt_farEnds_5 : decode prog_3_method_5_code 5 = .ok (.if_icmp .ge 10, 3) := by decide +kernel
theorem d_Bt_farEnds_8 : decode prog_3_method_5_code 8 = .ok (.aload_n 0, 1) := by decide +kernel
theorem d_Bt_farEnds_9 : decode prog_3_method_5_code 9 = .ok (.getfield 88, 3) := by decide +kernel
theorem d_Bt_farEnds_12 : decode prog_3_method_5_code 12 = .ok (.iload_n 1, 1) := by decide +kernel
theorem d_Bt_farEnds_13 : decode prog_3_method_5_code 13 = .ok (.iaload, 1) := by decide +kernel
theorem d_Bt_farEnds_14 : decode prog_3_method_5_code 14 = .ok (.ireturn, 1) := by decide +kernel
theorem d_Bt_farEnds_15 : decode prog_3_method_5_code 15 = .ok (.aload_n 0, 1) := by decide +kernel
theorem d_Bt_farEnds_16 : decode prog_3_method_5_code 16 = .ok (.aload_n 0, 1) := by decide +kernel
theorem d_Bt_farEnds_17 : decode prog_3_method_5_code 17 = .ok (.getfield 37, 3) := by decide +kernel
theorem d_Bt_farEnds_20 : decode prog_3_method_5_code 20 = .ok (.iload_n 1, 1) := by decide +kernel
theorem d_Bt_farEnds_21 : decode prog_3_method_5_code 21 = .ok (.iaload, 1) := by decide +kernel
theorem d_Bt_farEnds_22 : decode prog_3_method_5_code 22 = .ok (.iload_n 2, 1) := by decide +kernel
theorem d_Bt_farEnds_23 : decode prog_3_method_5_code 23 = .ok (.invokevirtual 59, 3) := by decide +kernel
theorem d_Bt_farEnds_26 : decode prog_3_method_5_code 26 = .ok (.ifCond .eq 12, 3) := by decide +kernel
theorem d_Bt_farEnds_29 : decode prog_3_method_5_code 29 = .ok (.aload_n 0, 1) := by decide +kernel
theorem d_Bt_farEnds_30 : decode prog_3_method_5_code 30 = .ok (.getfield 37, 3) := by decide +kernel
theorem d_Bt_farEnds_33 : decode prog_3_method_5_code 33 = .ok (.iload_n 1, 1) := by decide +kernel
theorem d_Bt_farEnds_34 : decode prog_3_method_5_code 34 = .ok (.iaload, 1) := by decide +kernel
theorem d_Bt_farEnds_35 : decode prog_3_method_5_code 35 = .ok (.goto 9, 3) := by decide +kernel
theorem d_Bt_farEnds_38 : decode prog_3_method_5_code 38 = .ok (.aload_n 0, 1) := by decide +kernel
theorem d_Bt_farEnds_39 : decode prog_3_method_5_code 39 = .ok (.getfield 40, 3) := by decide +kernel
theorem d_Bt_farEnds_42 : decode prog_3_method_5_code 42 = .ok (.iload_n 1, 1) := by decide +kernel
theorem d_Bt_farEnds_43 : decode prog_3_method_5_code 43 = .ok (.iaload, 1) := by decide +kernel
theorem d_Bt_farEnds_44 : decode prog_3_method_5_code 44 = .ok (.istore_n 3, 1) := by decide +kernel
theorem d_Bt_farEnds_45 : decode prog_3_method_5_code 45 = .ok (.aload_n 0, 1) := by decide +kernel
theorem d_Bt_farEnds_46 : decode prog_3_method_5_code 46 = .ok (.getfield 88, 3) := by decide +kernel
theorem d_Bt_farEnds_49 : decode prog_3_method_5_code 49 = .ok (.iload_n 1, 1) := by decide +kernel
theorem d_Bt_farEnds_50 : decode prog_3_method_5_code 50 = .ok (.iaload, 1) := by decide +kernel
theorem d_Bt_farEnds_51 : decode prog_3_method_5_code 51 = .ok (.aload_n 0, 1) := by decide +kernel
theorem d_Bt_farEnds_52 : decode prog_3_method_5_code 52 = .ok (.getfield 88, 3) := by decide +kernel
theorem d_Bt_farEnds_55 : decode prog_3_method_5_code 55 = .ok (.iload_n 3, 1) := by decide +kernel
theorem d_Bt_farEnds_56 : decode prog_3_method_5_code 56 = .ok (.iaload, 1) := by decide +kernel
theorem d_Bt_farEnds_57 : decode prog_3_method_5_code 57 = .ok (.iconst (-1), 1) := by decide +kernel
theorem d_Bt_farEnds_58 : decode prog_3_method_5_code 58 = .ok (.ixor, 1) := by decide +kernel
theorem d_Bt_farEnds_59 : decode prog_3_method_5_code 59 = .ok (.iand, 1) := by decide +kernel
theorem d_Bt_farEnds_60 : decode prog_3_method_5_code 60 = .ok (.ireturn, 1) := by decide +kernel
set_option maxHeartbeats 4000000 in
set_option maxRecDepth 20000 in
theorem t_Bt_farEnds {g : GG} (G : Gok g) {σ : AH} {t : Nat} {T : TT} (ht : t < 4) (hW : Wf T) (hA : RtA σ t T) (hB : RtB σ t T) {v x : Nat} (hv : v < 2 * tN T - 1) (hx : x < 10) : TerI g 1 m_Bt_farEnds [rV (tI t), iV (nI v), iV (nI x)] σ (fun r τ => r = nI (farE T v x) ∧ τ = σ) := by
  refine TerI.mk G (by decide +kernel) rfl (Nat.le_of_ble_eq_true rfl) (fun K B Rt => ?_)
  have B : Cx g K prog_3_method_5_code 4 R_Bt 1 := B
  have Rt : RetI g K prog_3_method_5_code 4 (fun r τ => r = nI (farE T v x) ∧ τ = σ) := Rt
  show AW g K 4 0 [(0, rV (tI t)), (1, iV (nI v)), (2, iV (nI x))] [] σ
  have hA0 := hA
  obtain ⟨a12, a13, a3, a3t, a4, a5, a6, a8⟩ := hA
  obtain ⟨b0, b1, b7⟩ := hB
  obtain ⟨w1, w10, wj, wu, wl, wm, wt, wb, wh⟩ := id hW
  refine a_iload_n B d_Bt_farEnds_0 rfl rfl ?_
  refine a_aload_n B d_Bt_farEnds_1 rfl rfl ?_
  refine gf_Tr_leafCount B (by first | assumption | omega) d_Bt_farEnds_2 fl_Bt_28 ?_
  rw [a12]
  first | refine b_icmp_ge B 15 d_Bt_farEnds_5 rfl (by omega) (by omega) (fun c_5 => ?_) (fun c_5 => ?_) | refine a_icmp_ge B 15 d_Bt_farEnds_5 rfl (fun c_5 => ?_) (fun c_5 => ?_)
  · skip
    have qj := wj v (by omega) hv
    have qm := wm v (by omega) hv
    have l1 := wb (tL T v) (by omega)
    have l2 := wb (tR T v) (by omega)
    refine a_aload_n B d_Bt_farEnds_15 rfl rfl ?_
    refine a_aload_n B d_Bt_farEnds_16 rfl rfl ?_
    refine gf_Tr_left B (by first | assumption | omega) d_Bt_farEnds_17 fl_Bt_37 ?_
    refine a_iload_n B d_Bt_farEnds_20 rfl rfl ?_
    refine a_iald B (ly_T_left (by first | assumption | omega)) _ rfl (by first | assumption | omega) d_Bt_farEnds_21 ?_
    rw [(b1 v (by omega) hv).1]
    refine a_iload_n B d_Bt_farEnds_22 rfl rfl ?_
    refine a_callVI (ci := 5) B (t_Tr_holdsLeaf G ht hW hA0 (by omega) hx) d_Bt_farEnds_23 ok_Tr_holdsLeaf ml_Bt_59 (ly_T (by first | assumption | omega)) rfl rfl (by decide) (by decide) rfl (Nat.le_of_ble_eq_true rfl) (fun r_23 τ_23 h_23 => ?_)
    obtain ⟨hr_23, hs_23⟩ := h_23
    subst hr_23
    replace hs_23 := hs_23.symm
    subst hs_23
    first | refine b_if_eq_b B 38 d_Bt_farEnds_26 rfl (fun c_26 => ?_) (fun c_26 => ?_) | refine a_if_eq B 38 d_Bt_farEnds_26 rfl (fun c_26 => ?_) (fun c_26 => ?_)
    · skip
      refine a_aload_n B d_Bt_farEnds_38 rfl rfl ?_
      refine gf_Tr_right B (by first | assumption | omega) d_Bt_farEnds_39 fl_Bt_40 ?_
      refine a_iload_n B d_Bt_farEnds_42 rfl rfl ?_
      refine a_iald B (ly_T_right (by first | assumption | omega)) _ rfl (by first | assumption | omega) d_Bt_farEnds_43 ?_
      rw [(b1 v (by omega) hv).2]
      refine a_istore_n (lv1 := [(0, _), (1, _), (2, _), (3, _)]) B d_Bt_farEnds_44 rfl (by decide) rfl ?_
      refine a_aload_n B d_Bt_farEnds_45 rfl rfl ?_
      refine gf_Tr_leafSet B (by first | assumption | omega) d_Bt_farEnds_46 fl_Bt_88 ?_
      refine a_iload_n B d_Bt_farEnds_49 rfl rfl ?_
      refine a_iald B (ly_T_leafSet (by first | assumption | omega)) _ rfl (by first | assumption | omega) d_Bt_farEnds_50 ?_
      rw [a6 v hv, qm.1]
      refine a_aload_n B d_Bt_farEnds_51 rfl rfl ?_
      refine gf_Tr_leafSet B (by first | assumption | omega) d_Bt_farEnds_52 fl_Bt_88 ?_
      refine a_iload_n B d_Bt_farEnds_55 rfl rfl ?_
      refine a_iald B (ly_T_leafSet (by first | assumption | omega)) _ rfl (by first | assumption | omega) d_Bt_farEnds_56 ?_
      rw [a6 _ (by omega)]
      refine a_iconst B d_Bt_farEnds_57 ci_m1 ?_
      refine a_ixor B d_Bt_farEnds_58 ?_
      refine a_iand B d_Bt_farEnds_59 ?_
      exact Rt _ _ _ _ d_Bt_farEnds_60 ⟨by first | (rw [and_not_or l1 l2 qm.2, farE, if_neg (by omega), if_pos c_26]; done) | (rw [Nat.or_comm, and_not_or l2 l1 (by rw [Nat.and_comm]; exact qm.2), farE, if_neg (by omega), c_26]; rfl), rfl⟩
    refine a_aload_n B d_Bt_farEnds_29 rfl rfl ?_
    refine gf_Tr_left B (by first | assumption | omega) d_Bt_farEnds_30 fl_Bt_37 ?_
    refine a_iload_n B d_Bt_farEnds_33 rfl rfl ?_
    refine a_iald B (ly_T_left (by first | assumption | omega)) _ rfl (by first | assumption | omega) d_Bt_farEnds_34 ?_
    rw [(b1 v (by omega) hv).1]
    refine a_goto B 44 d_Bt_farEnds_35 rfl ?_
    refine a_istore_n (lv1 := [(0, _), (1, _), (2, _), (3, _)]) B d_Bt_farEnds_44 rfl (by decide) rfl ?_
    refine a_aload_n B d_Bt_farEnds_45 rfl rfl ?_
    refine gf_Tr_leafSet B (by first | assumption | omega) d_Bt_farEnds_46 fl_Bt_88 ?_
    refine a_iload_n B d_Bt_farEnds_49 rfl rfl ?_
    refine a_iald B (ly_T_leafSet (by first | assumption | omega)) _ rfl (by first | assumption | omega) d_Bt_farEnds_50 ?_
    rw [a6 v hv, qm.1]
    refine a_aload_n B d_Bt_farEnds_51 rfl rfl ?_
    refine gf_Tr_leafSet B (by first | assumption | omega) d_Bt_farEnds_52 fl_Bt_88 ?_
    refine a_iload_n B d_Bt_farEnds_55 rfl rfl ?_
    refine a_iald B (ly_T_leafSet (by first | assumption | omega)) _ rfl (by first | assumption | omega) d_Bt_farEnds_56 ?_
    rw [a6 _ (by omega)]
    refine a_iconst B d_Bt_farEnds_57 ci_m1 ?_
    refine a_ixor B d_Bt_farEnds_58 ?_
    refine a_iand B d_Bt_farEnds_59 ?_
    exact Rt _ _ _ _ d_Bt_farEnds_60 ⟨by first | (rw [and_not_or l1 l2 qm.2, farE, if_neg (by omega), if_pos c_26]; done) | (rw [Nat.or_comm, and_not_or l2 l1 (by rw [Nat.and_comm]; exact qm.2), farE, if_neg (by omega), c_26]; rfl), rfl⟩
  refine a_aload_n B d_Bt_farEnds_8 rfl rfl ?_
  refine gf_Tr_leafSet B (by first | assumption | omega) d_Bt_farEnds_9 fl_Bt_88 ?_
  refine a_iload_n B d_Bt_farEnds_12 rfl rfl ?_
  refine a_iald B (ly_T_leafSet (by first | assumption | omega)) _ rfl (by first | assumption | omega) d_Bt_farEnds_13 ?_
  rw [a6 v hv]
  exact Rt _ _ _ _ d_Bt_farEnds_14 ⟨by rw [farE, if_pos c_5], rfl⟩
