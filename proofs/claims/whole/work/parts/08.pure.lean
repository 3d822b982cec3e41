/-! the pure side: trees, the state that is spoken of -/
theorem AW_eq {g : GG} {K : AK} {nL pc : Nat} {lv : LV} {st : List AV} {σ τ : AH} (h : τ = σ) (k : AW g K nL pc lv st τ) : AW g K nL pc lv st σ := h ▸ k
theorem up1_up1 {σ : AH} {k : Nat} {f f' : Nat → Int32} : up1 (up1 σ k f) k f' = up1 σ k f' := by
  unfold up1
  congr 1
  funext j
  by_cases h : j = k <;> simp [va_up, h]
theorem up1_self {σ : AH} {k : Nat} : up1 σ k (σ.1 k) = σ := by
  unfold up1
  refine Prod.ext ?_ rfl
  funext j
  by_cases h : j = k <;> simp [va_up, h]
theorem up1_comm {σ : AH} {k l : Nat} {f f' : Nat → Int32} (h : k ≠ l) : up1 (up1 σ k f) l f' = up1 (up1 σ l f') k f := by
  unfold up1
  refine Prod.ext ?_ rfl
  funext j
  by_cases h1 : j = k <;> by_cases h2 : j = l <;> simp [va_up, h1, h2]
  · exact absurd (h1.symm.trans h2) h
  · intro q; exact absurd q h
  · intro q; exact absurd q.symm h
theorem up2_up2 {σ : AH} {k : Nat} {f f' : Nat → Int64} : up2 (up2 σ k f) k f' = up2 σ k f' := by
  unfold up2
  congr 1
  funext j
  by_cases h : j = k <;> simp [va_up, h]
theorem up2_self {σ : AH} {k : Nat} : up2 σ k (σ.2 k) = σ := by
  unfold up2
  refine Prod.ext rfl ?_
  funext j
  by_cases h : j = k <;> simp [va_up, h]
theorem upd_s {f : Nat → Int32} {k : Nat} {x : Int32} : upd f k x k = x := by simp [upd]
theorem upd_o {f : Nat → Int32} {k j : Nat} {x : Int32} (h : j ≠ k) : upd f k x j = f j := by simp [upd, h]
/-- the first n places are v -/
def fillF {α : Type} (f : Nat → α) (n : Nat) (v : α) : Nat → α := fun j => if j < n then v else f j
theorem fillF_0 {α : Type} (f : Nat → α) (v : α) : fillF f 0 v = f := by funext j; simp [fillF]
theorem fillF_upd (f : Nat → Int32) (n : Nat) (v : Int32) : upd (fillF f n v) n v = fillF f (n + 1) v := by
  funext j
  by_cases h : j = n
  · subst h; simp [fillF, upd]
  · by_cases h2 : j < n
    · simp [fillF, upd, h, h2, Nat.lt_succ_of_lt h2]
    · simp [fillF, upd, h, h2, show ¬ j < n + 1 by omega]
theorem fillF_updL (f : Nat → Int64) (n : Nat) (v : Int64) : vp_updL (fillF f n v) n v = fillF f (n + 1) v := by
  funext j
  by_cases h : j = n
  · subst h; simp [fillF, vp_updL]
  · by_cases h2 : j < n
    · simp [fillF, vp_updL, h, h2, Nat.lt_succ_of_lt h2]
    · simp [fillF, vp_updL, h, h2, show ¬ j < n + 1 by omega]
/-- the sum of the first k -/
def sumTo (f : Nat → Nat) : Nat → Nat
  | 0 => 0
  | k + 1 => sumTo f k + f k
theorem d_Ar_fill_IIV_0 : decode prog_12_method_103_code 0 = .ok (.iconst 0, 1) := by decide +kernel
theorem d_Ar_fill_IIV_1 : decode prog_12_method_103_code 1 = .ok (.istore_n 2, 1) := by decide +kernel
theorem d_Ar_fill_IIV_2 : decode prog_12_method_103_code 2 = .ok (.aload_n 0, 1) := by decide +kernel
theorem d_Ar_fill_IIV_3 : decode prog_12_method_103_code 3 = .ok (.arraylength, 1) := by decide +kernel
theorem d_Ar_fill_IIV_4 : decode prog_12_method_103_code 4 = .ok (.istore_n 3, 1) := by decide +kernel
theorem d_Ar_fill_IIV_5 : decode prog_12_method_103_code 5 = .ok (.iload_n 2, 1) := by decide +kernel
theorem d_Ar_fill_IIV_6 : decode prog_12_method_103_code 6 = .ok (.iload_n 3, 1) := by decide +kernel
theorem d_Ar_fill_IIV_7 : decode prog_12_method_103_code 7 = .ok (.if_icmp .ge 13, 3) := by decide +kernel
theorem d_Ar_fill_IIV_10 : decode prog_12_method_103_code 10 = .ok (.aload_n 0, 1) := by decide +kernel
theorem d_Ar_fill_IIV_11 : decode prog_12_method_103_code 11 = .ok (.iload_n 2, 1) := by decide +kernel
theorem d_Ar_fill_IIV_12 : decode prog_12_method_103_code 12 = .ok (.iload_n 1, 1) := by decide +kernel
theorem d_Ar_fill_IIV_13 : decode prog_12_method_103_code 13 = .ok (.iastore, 1) := by decide +kernel
theorem d_Ar_fill_IIV_14 : decode prog_12_method_103_code 14 = .ok (.iinc 2 1, 3) := by decide +kernel
theorem d_Ar_fill_IIV_17 : decode prog_12_method_103_code 17 = .ok (.goto (-12), 3) := by decide +kernel
theorem d_Ar_fill_IIV_20 : decode prog_12_method_103_code 20 = .ok (.return_, 1) := by decide +kernel
set_option maxRecDepth 20000 in
theorem t_Ar_fillI {g : GG} (G : Gok g) {σ : AH} {k len : Nat} {rs : List (Option Nat)} (hk : layT[k]? = some (0, len, rs)) (v : Int32) : TerV g 0 m_Ar_fill_IIV [rV k, iV v] σ (fun τ => τ = up1 σ k (fillF (σ.1 k) len v)) := by
  refine TerV.mk G (by decide +kernel) rfl (Nat.le_of_ble_eq_true rfl) (fun K B Rt => ?_)
  have B : Cx g K prog_12_method_103_code 4 "java/util/Arrays" 0 := B
  have Rt : RetV g K prog_12_method_103_code 4 (fun τ => τ = up1 σ k (fillF (σ.1 k) len v)) := Rt
  show AW g K 4 0 [(0, rV k), (1, iV v)] [] σ
  refine a_iconst B d_Ar_fill_IIV_0 ci_0 ?_
  refine a_istore_n (lv1 := [(0, _), (1, _), (2, _)]) B d_Ar_fill_IIV_1 rfl (by decide) rfl ?_
  refine a_aload_n B d_Ar_fill_IIV_2 rfl rfl ?_
  refine a_alen B hk (Or.inl rfl) d_Ar_fill_IIV_3 ?_
  refine a_istore_n (lv1 := [(0, _), (1, _), (2, _), (3, _)]) B d_Ar_fill_IIV_4 rfl (by decide) rfl ?_
  have hs := lay_len hk
  dsimp only at hs
  refine AW_eq (τ := up1 σ k (fillF (σ.1 k) 0 v)) (by rw [fillF_0, up1_self]) ?_
  refine a_for (lf := fun i => [(0, rV k), (1, iV v), (2, iV (nI i)), (3, iV (nI len))]) (τ := fun i => up1 σ k (fillF (σ.1 k) i v)) len (fun i hi ih => ?_) ?_ 0 (Nat.zero_le _)
  · skip
    refine a_iload_n B d_Ar_fill_IIV_5 rfl rfl ?_
    refine a_iload_n B d_Ar_fill_IIV_6 rfl rfl ?_
    first | refine b_icmp_ge B 20 d_Ar_fill_IIV_7 rfl (by omega) (by omega) (fun c_7 => ?_) (fun c_7 => ?_) | refine a_icmp_ge B 20 d_Ar_fill_IIV_7 rfl (fun c_7 => ?_) (fun c_7 => ?_)
    · skip
      exact absurd c_7 (by omega)
    refine a_aload_n B d_Ar_fill_IIV_10 rfl rfl ?_
    refine a_iload_n B d_Ar_fill_IIV_11 rfl rfl ?_
    refine a_iload_n B d_Ar_fill_IIV_12 rfl rfl ?_
    refine a_iast B hk _ rfl (by first | assumption | omega) d_Ar_fill_IIV_13 ?_
    first | refine b_iinc (lv1 := [(0, _), (1, _), (2, _), (3, _)]) B d_Ar_fill_IIV_14 rfl ci_1 (by decide) rfl ?_ | refine a_iinc (lv1 := [(0, _), (1, _), (2, _), (3, _)]) B d_Ar_fill_IIV_14 rfl rfl (by decide) rfl ?_
    refine a_goto B 5 d_Ar_fill_IIV_17 rfl ?_
    simp only [up1_s, up1_up1, fillF_upd]
    exact ih
  · skip
    refine a_iload_n B d_Ar_fill_IIV_5 rfl rfl ?_
    refine a_iload_n B d_Ar_fill_IIV_6 rfl rfl ?_
    first | refine b_icmp_ge B 20 d_Ar_fill_IIV_7 rfl (by omega) (by omega) (fun c_7 => ?_) (fun c_7 => ?_) | refine a_icmp_ge B 20 d_Ar_fill_IIV_7 rfl (fun c_7 => ?_) (fun c_7 => ?_)
    · skip
      exact Rt _ _ _ d_Ar_fill_IIV_20 rfl
    exact absurd c_7 (by omega)
theorem d_Ar_fill_JJV_0 : decode prog_12_method_101_code 0 = .ok (.iconst 0, 1) := by decide +kernel
theorem d_Ar_fill_JJV_1 : decode prog_12_method_101_code 1 = .ok (.istore_n 3, 1) := by decide +kernel
theorem d_Ar_fill_JJV_2 : decode prog_12_method_101_code 2 = .ok (.aload_n 0, 1) := by decide +kernel
theorem d_Ar_fill_JJV_3 : decode prog_12_method_101_code 3 = .ok (.arraylength, 1) := by decide +kernel
theorem d_Ar_fill_JJV_4 : decode prog_12_method_101_code 4 = .ok (.istore 4, 2) := by decide +kernel
theorem d_Ar_fill_JJV_6 : decode prog_12_method_101_code 6 = .ok (.iload_n 3, 1) := by decide +kernel
theorem d_Ar_fill_JJV_7 : decode prog_12_method_101_code 7 = .ok (.iload 4, 2) := by decide +kernel
theorem d_Ar_fill_JJV_9 : decode prog_12_method_101_code 9 = .ok (.if_icmp .ge 13, 3) := by decide +kernel
theorem d_Ar_fill_JJV_12 : decode prog_12_method_101_code 12 = .ok (.aload_n 0, 1) := by decide +kernel
theorem d_Ar_fill_JJV_13 : decode prog_12_method_101_code 13 = .ok (.iload_n 3, 1) := by decide +kernel
theorem d_Ar_fill_JJV_14 : decode prog_12_method_101_code 14 = .ok (.lload_n 1, 1) := by decide +kernel
theorem d_Ar_fill_JJV_15 : decode prog_12_method_101_code 15 = .ok (.lastore, 1) := by decide +kernel
theorem d_Ar_fill_JJV_16 : decode prog_12_method_101_code 16 = .ok (.iinc 3 1, 3) := by decide +kernel
theorem d_Ar_fill_JJV_19 : decode prog_12_method_101_code 19 = .ok (.goto (-13), 3) := by decide +kernel
theorem d_Ar_fill_JJV_22 : decode prog_12_method_101_code 22 = .ok (.return_, 1) := by decide +kernel
set_option maxRecDepth 20000 in
theorem t_Ar_fillL {g : GG} (G : Gok g) {σ : AH} {k len : Nat} {rs : List (Option Nat)} (hk : layT[k]? = some (2, len, rs)) (v : Int64) : TerV g 0 m_Ar_fill_JJV [rV k, lV v] σ (fun τ => τ = up2 σ k (fillF (σ.2 k) len v)) := by
  refine TerV.mk G (by decide +kernel) rfl (Nat.le_of_ble_eq_true rfl) (fun K B Rt => ?_)
  have B : Cx g K prog_12_method_101_code 5 "java/util/Arrays" 0 := B
  have Rt : RetV g K prog_12_method_101_code 5 (fun τ => τ = up2 σ k (fillF (σ.2 k) len v)) := Rt
  show AW g K 5 0 [(0, rV k), (1, lV v)] [] σ
  refine a_iconst B d_Ar_fill_JJV_0 ci_0 ?_
  refine a_istore_n (lv1 := [(0, _), (1, _), (3, _)]) B d_Ar_fill_JJV_1 rfl (by decide) rfl ?_
  refine a_aload_n B d_Ar_fill_JJV_2 rfl rfl ?_
  refine a_alen B hk (Or.inr rfl) d_Ar_fill_JJV_3 ?_
  refine a_istore (lv1 := [(0, _), (1, _), (3, _), (4, _)]) B d_Ar_fill_JJV_4 (by decide) rfl ?_
  have hs := lay_len hk
  dsimp only at hs
  refine AW_eq (τ := up2 σ k (fillF (σ.2 k) 0 v)) (by rw [fillF_0, up2_self]) ?_
  refine a_for (lf := fun i => [(0, rV k), (1, lV v), (3, iV (nI i)), (4, iV (nI len))]) (τ := fun i => up2 σ k (fillF (σ.2 k) i v)) len (fun i hi ih => ?_) ?_ 0 (Nat.zero_le _)
  · skip
    refine a_iload_n B d_Ar_fill_JJV_6 rfl rfl ?_
    refine a_iload B d_Ar_fill_JJV_7 rfl ?_
    first | refine b_icmp_ge B 22 d_Ar_fill_JJV_9 rfl (by omega) (by omega) (fun c_9 => ?_) (fun c_9 => ?_) | refine a_icmp_ge B 22 d_Ar_fill_JJV_9 rfl (fun c_9 => ?_) (fun c_9 => ?_)
    · skip
      exact absurd c_9 (by omega)
    refine a_aload_n B d_Ar_fill_JJV_12 rfl rfl ?_
    refine a_iload_n B d_Ar_fill_JJV_13 rfl rfl ?_
    refine a_lload_n B d_Ar_fill_JJV_14 rfl rfl ?_
    refine a_last B hk _ rfl (by first | assumption | omega) d_Ar_fill_JJV_15 ?_
    first | refine b_iinc (lv1 := [(0, _), (1, _), (3, _), (4, _)]) B d_Ar_fill_JJV_16 rfl ci_1 (by decide) rfl ?_ | refine a_iinc (lv1 := [(0, _), (1, _), (3, _), (4, _)]) B d_Ar_fill_JJV_16 rfl rfl (by decide) rfl ?_
    refine a_goto B 6 d_Ar_fill_JJV_19 rfl ?_
    simp only [up2_s, up2_up2, fillF_updL]
    exact ih
  · skip
    refine a_iload_n B d_Ar_fill_JJV_6 rfl rfl ?_
    refine a_iload B d_Ar_fill_JJV_7 rfl ?_
    first | refine b_icmp_ge B 22 d_Ar_fill_JJV_9 rfl (by omega) (by omega) (fun c_9 => ?_) (fun c_9 => ?_) | refine a_icmp_ge B 22 d_Ar_fill_JJV_9 rfl (fun c_9 => ?_) (fun c_9 => ?_)
    · skip
      exact Rt _ _ _ d_Ar_fill_JJV_22 rfl
    exact absurd c_9 (by omega)
