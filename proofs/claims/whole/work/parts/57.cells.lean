/-! the first world's cells -/
def e00 : Nat → va_E := fun _ => .inr (0, [])
def eF (q : NG) : Nat → va_E := eMo q (va_up (eLo q (va_up e00 0 (.inr (6, [.null, .null, .null, .null, .null, .null, .null, .null, .null, .int 0, .int 0])))) 106 (.inr (7, [.int 0, .null, .int 0, .int 0, .null, .null, .null, .null, .null, .null, .null, .null, .null, .null, .null, .int 0, .int 0, .null, .null, .null, .null, .null, .int 0, .null, .null, .int 0, .int 0, .null, .null, .int 0, .null])))
theorem rf_4 (z b : Nat) : (fun j => (([some 58, some 70, some 82, some 94] : List (Option Nat)).getD j none).map (adN z b)) = va_up (va_up (va_up (va_up (fun _ => none) 0 (some (z + 15))) 1 (some (z + 27))) 2 (some (z + 39))) 3 (some (z + 51)) := by
  funext j
  match j with
  | 0 => rfl
  | 1 => rfl
  | 2 => rfl
  | 3 => rfl
  | (n + 4) =>
    rw [va_up_o (by omega), va_up_o (by omega), va_up_o (by omega), va_up_o (by omega)]
    rfl
theorem rf_2 (z b : Nat) : (fun j => (([some 20, some 21, some 22, some 23, some 24, some 25, some 26, some 27, some 28, some 29] : List (Option Nat)).getD j none).map (adN z b)) = fun x => if x < 10 then some (z + 2 + 1 + x) else none := by
  funext j
  match j with
  | 0 => rfl
  | 1 => rfl
  | 2 => rfl
  | 3 => rfl
  | 4 => rfl
  | 5 => rfl
  | 6 => rfl
  | 7 => rfl
  | 8 => rfl
  | 9 => rfl
  | (n + 10) => rw [if_neg (show ¬ n + 10 < 10 by omega)]; rfl
theorem rf_6 (z b : Nat) : (fun j => (([some 30, some 31, some 32, some 33, some 34, some 35, some 36, some 37, some 38, some 39] : List (Option Nat)).getD j none).map (adN z b)) = fun x => if x < 10 then some (z + 64 + 1 + x) else none := by
  funext j
  match j with
  | 0 => rfl
  | 1 => rfl
  | 2 => rfl
  | 3 => rfl
  | 4 => rfl
  | 5 => rfl
  | 6 => rfl
  | 7 => rfl
  | 8 => rfl
  | 9 => rfl
  | (n + 10) => rw [if_neg (show ¬ n + 10 < 10 by omega)]; rfl
theorem rf_9 (z b : Nat) : (fun j => (([some 40, some 41, some 42, some 43, some 44, some 45, some 46, some 47, some 48, some 49] : List (Option Nat)).getD j none).map (adN z b)) = fun x => if x < 10 then some (z + 77 + 1 + x) else none := by
  funext j
  match j with
  | 0 => rfl
  | 1 => rfl
  | 2 => rfl
  | 3 => rfl
  | 4 => rfl
  | 5 => rfl
  | 6 => rfl
  | 7 => rfl
  | 8 => rfl
  | 9 => rfl
  | (n + 10) => rw [if_neg (show ¬ n + 10 < 10 by omega)]; rfl
theorem rf_12 (z b : Nat) : (fun j => (([some 50, some 51, some 52, some 53, some 54, some 55, some 56, some 57] : List (Option Nat)).getD j none).map (adN z b)) = fun x => if x < 8 then some (z + 90 + 1 + x) else none := by
  funext j
  match j with
  | 0 => rfl
  | 1 => rfl
  | 2 => rfl
  | 3 => rfl
  | 4 => rfl
  | 5 => rfl
  | 6 => rfl
  | 7 => rfl
  | (n + 8) => rw [if_neg (show ¬ n + 8 < 8 by omega)]; rfl
section
variable {q : NG} {en : Nat → va_E}
theorem o_eRo {i : Nat} (h : i < 1 ∨ 14 ≤ i) : eRo q en i = en i := by
  unfold eRo
  refine (va_up_o (by omega)).trans ?_
  refine (va_up_o (by omega)).trans ?_
  refine (va_up_o (by omega)).trans ?_
  refine (va_up_o (by omega)).trans ?_
  refine (if_neg (by omega)).trans ((if_neg (by omega)).trans ?_)
  rfl
theorem v_eRo_1 : eRo q en 1 = (.inr (4, [.ref (q.2.2.1 + 2), .ref (q.2.2.1 + 13), .int 0])) := by
  unfold eRo
  exact va_up_s
theorem v_eRo_2 : eRo q en 2 = (refE (q.2.2.2 4) 10 (q.2.2.1 + 2 + 1)) := by
  unfold eRo
  refine (va_up_o (by decide)).trans ?_
  refine (va_up_o (by decide)).trans ?_
  refine (va_up_o (by decide)).trans ?_
  refine (va_up_o (by decide)).trans ?_
  rfl
theorem v_eRo_3 : eRo q en 3 = (.inl (q.2.2.2 0, 10, .inl (fun _ => 0))) := by
  unfold eRo
  refine (va_up_o (by decide)).trans ?_
  refine (va_up_o (by decide)).trans ?_
  refine (va_up_o (by decide)).trans ?_
  refine (va_up_o (by decide)).trans ?_
  rfl
theorem v_eRo_4 : eRo q en 4 = (.inl (q.2.2.2 0, 10, .inl (fun _ => 0))) := by
  unfold eRo
  refine (va_up_o (by decide)).trans ?_
  refine (va_up_o (by decide)).trans ?_
  refine (va_up_o (by decide)).trans ?_
  refine (va_up_o (by decide)).trans ?_
  rfl
theorem v_eRo_5 : eRo q en 5 = (.inl (q.2.2.2 0, 10, .inl (fun _ => 0))) := by
  unfold eRo
  refine (va_up_o (by decide)).trans ?_
  refine (va_up_o (by decide)).trans ?_
  refine (va_up_o (by decide)).trans ?_
  refine (va_up_o (by decide)).trans ?_
  rfl
theorem v_eRo_6 : eRo q en 6 = (.inl (q.2.2.2 0, 10, .inl (fun _ => 0))) := by
  unfold eRo
  refine (va_up_o (by decide)).trans ?_
  refine (va_up_o (by decide)).trans ?_
  refine (va_up_o (by decide)).trans ?_
  refine (va_up_o (by decide)).trans ?_
  rfl
theorem v_eRo_7 : eRo q en 7 = (.inl (q.2.2.2 0, 10, .inl (fun _ => 0))) := by
  unfold eRo
  refine (va_up_o (by decide)).trans ?_
  refine (va_up_o (by decide)).trans ?_
  refine (va_up_o (by decide)).trans ?_
  refine (va_up_o (by decide)).trans ?_
  rfl
theorem v_eRo_8 : eRo q en 8 = (.inl (q.2.2.2 0, 10, .inl (fun _ => 0))) := by
  unfold eRo
  refine (va_up_o (by decide)).trans ?_
  refine (va_up_o (by decide)).trans ?_
  refine (va_up_o (by decide)).trans ?_
  refine (va_up_o (by decide)).trans ?_
  rfl
theorem v_eRo_9 : eRo q en 9 = (.inl (q.2.2.2 0, 10, .inl (fun _ => 0))) := by
  unfold eRo
  refine (va_up_o (by decide)).trans ?_
  refine (va_up_o (by decide)).trans ?_
  refine (va_up_o (by decide)).trans ?_
  refine (va_up_o (by decide)).trans ?_
  rfl
theorem v_eRo_10 : eRo q en 10 = (.inl (q.2.2.2 0, 10, .inl (fun _ => 0))) := by
  unfold eRo
  refine (va_up_o (by decide)).trans ?_
  refine (va_up_o (by decide)).trans ?_
  refine (va_up_o (by decide)).trans ?_
  refine (va_up_o (by decide)).trans ?_
  rfl
theorem v_eRo_11 : eRo q en 11 = (.inl (q.2.2.2 0, 10, .inl (fun _ => 0))) := by
  unfold eRo
  refine (va_up_o (by decide)).trans ?_
  refine (va_up_o (by decide)).trans ?_
  refine (va_up_o (by decide)).trans ?_
  refine (va_up_o (by decide)).trans ?_
  rfl
theorem v_eRo_12 : eRo q en 12 = (.inl (q.2.2.2 0, 10, .inl (fun _ => 0))) := by
  unfold eRo
  refine (va_up_o (by decide)).trans ?_
  refine (va_up_o (by decide)).trans ?_
  refine (va_up_o (by decide)).trans ?_
  refine (va_up_o (by decide)).trans ?_
  rfl
theorem v_eRo_13 : eRo q en 13 = (.inl (q.2.2.2 1, 10, .inl (fun _ => 0))) := by
  unfold eRo
  refine (va_up_o (by decide)).trans ?_
  refine (va_up_o (by decide)).trans ?_
  exact va_up_s
theorem o_eTr0 {i : Nat} (h : i < 15 ∨ 27 ≤ i) : eTr0 q en i = en i := by
  unfold eTr0
  refine (va_up_o (by omega)).trans ?_
  refine (va_up_o (by omega)).trans ?_
  refine (va_up_o (by omega)).trans ?_
  refine (va_up_o (by omega)).trans ?_
  refine (va_up_o (by omega)).trans ?_
  refine (va_up_o (by omega)).trans ?_
  refine (va_up_o (by omega)).trans ?_
  refine (va_up_o (by omega)).trans ?_
  refine (va_up_o (by omega)).trans ?_
  refine (va_up_o (by omega)).trans ?_
  refine (va_up_o (by omega)).trans ?_
  refine (va_up_o (by omega)).trans ?_
  refine (va_up_o (by omega)).trans ?_
  refine (va_up_o (by omega)).trans ?_
  refine (va_up_o (by omega)).trans ?_
  refine (va_up_o (by omega)).trans ?_
  refine (va_up_o (by omega)).trans ?_
  refine (va_up_o (by omega)).trans ?_
  refine (va_up_o (by omega)).trans ?_
  refine (va_up_o (by omega)).trans ?_
  refine (va_up_o (by omega)).trans ?_
  refine (va_up_o (by omega)).trans ?_
  refine (va_up_o (by omega)).trans ?_
  refine (va_up_o (by omega)).trans ?_
  refine (va_up_o (by omega)).trans ?_
  rfl
theorem v_eTr0_15 : eTr0 q en 15 = (.inr (5, [.ref (q.2.2.1 + 16), .ref (q.2.2.1 + 17), .ref (q.2.2.1 + 18), .ref (q.2.2.1 + 19), .ref (q.2.2.1 + 20), .ref (q.2.2.1 + 21), .ref (q.2.2.1 + 22), .ref (q.2.2.1 + 23), .ref (q.2.2.1 + 24), .ref (q.2.2.1 + 25), .ref (q.2.2.1 + 26), .int 0, .int 0, .int 0])) := by
  unfold eTr0
  exact va_up_s
theorem v_eTr0_16 : eTr0 q en 16 = (.inl (q.2.2.2 0, 19, .inl (fun _ => 0))) := by
  unfold eTr0
  refine (va_up_o (by decide)).trans ?_
  refine (va_up_o (by decide)).trans ?_
  refine (va_up_o (by decide)).trans ?_
  refine (va_up_o (by decide)).trans ?_
  refine (va_up_o (by decide)).trans ?_
  refine (va_up_o (by decide)).trans ?_
  refine (va_up_o (by decide)).trans ?_
  refine (va_up_o (by decide)).trans ?_
  refine (va_up_o (by decide)).trans ?_
  refine (va_up_o (by decide)).trans ?_
  refine (va_up_o (by decide)).trans ?_
  refine (va_up_o (by decide)).trans ?_
  refine (va_up_o (by decide)).trans ?_
  refine (va_up_o (by decide)).trans ?_
  refine (va_up_o (by decide)).trans ?_
  refine (va_up_o (by decide)).trans ?_
  refine (va_up_o (by decide)).trans ?_
  refine (va_up_o (by decide)).trans ?_
  refine (va_up_o (by decide)).trans ?_
  refine (va_up_o (by decide)).trans ?_
  refine (va_up_o (by decide)).trans ?_
  refine (va_up_o (by decide)).trans ?_
  refine (va_up_o (by decide)).trans ?_
  refine (va_up_o (by decide)).trans ?_
  exact va_up_s
theorem v_eTr0_17 : eTr0 q en 17 = (.inl (q.2.2.2 0, 19, .inl (fun _ => 0))) := by
  unfold eTr0
  refine (va_up_o (by decide)).trans ?_
  refine (va_up_o (by decide)).trans ?_
  refine (va_up_o (by decide)).trans ?_
  refine (va_up_o (by decide)).trans ?_
  refine (va_up_o (by decide)).trans ?_
  refine (va_up_o (by decide)).trans ?_
  refine (va_up_o (by decide)).trans ?_
  refine (va_up_o (by decide)).trans ?_
  refine (va_up_o (by decide)).trans ?_
  refine (va_up_o (by decide)).trans ?_
  refine (va_up_o (by decide)).trans ?_
  refine (va_up_o (by decide)).trans ?_
  refine (va_up_o (by decide)).trans ?_
  refine (va_up_o (by decide)).trans ?_
  refine (va_up_o (by decide)).trans ?_
  refine (va_up_o (by decide)).trans ?_
  refine (va_up_o (by decide)).trans ?_
  refine (va_up_o (by decide)).trans ?_
  refine (va_up_o (by decide)).trans ?_
  refine (va_up_o (by decide)).trans ?_
  refine (va_up_o (by decide)).trans ?_
  refine (va_up_o (by decide)).trans ?_
  exact va_up_s
theorem v_eTr0_18 : eTr0 q en 18 = (.inl (q.2.2.2 0, 19, .inl (fun _ => 0))) := by
  unfold eTr0
  refine (va_up_o (by decide)).trans ?_
  refine (va_up_o (by decide)).trans ?_
  refine (va_up_o (by decide)).trans ?_
  refine (va_up_o (by decide)).trans ?_
  refine (va_up_o (by decide)).trans ?_
  refine (va_up_o (by decide)).trans ?_
  refine (va_up_o (by decide)).trans ?_
  refine (va_up_o (by decide)).trans ?_
  refine (va_up_o (by decide)).trans ?_
  refine (va_up_o (by decide)).trans ?_
  refine (va_up_o (by decide)).trans ?_
  refine (va_up_o (by decide)).trans ?_
  refine (va_up_o (by decide)).trans ?_
  refine (va_up_o (by decide)).trans ?_
  refine (va_up_o (by decide)).trans ?_
  refine (va_up_o (by decide)).trans ?_
  refine (va_up_o (by decide)).trans ?_
  refine (va_up_o (by decide)).trans ?_
  refine (va_up_o (by decide)).trans ?_
  refine (va_up_o (by decide)).trans ?_
  exact va_up_s
theorem v_eTr0_19 : eTr0 q en 19 = (.inl (q.2.2.2 0, 19, .inl (fun _ => 0))) := by
  unfold eTr0
  refine (va_up_o (by decide)).trans ?_
  refine (va_up_o (by decide)).trans ?_
  refine (va_up_o (by decide)).trans ?_
  refine (va_up_o (by decide)).trans ?_
  refine (va_up_o (by decide)).trans ?_
  refine (va_up_o (by decide)).trans ?_
  refine (va_up_o (by decide)).trans ?_
  refine (va_up_o (by decide)).trans ?_
  refine (va_up_o (by decide)).trans ?_
  refine (va_up_o (by decide)).trans ?_
  refine (va_up_o (by decide)).trans ?_
  refine (va_up_o (by decide)).trans ?_
  refine (va_up_o (by decide)).trans ?_
  refine (va_up_o (by decide)).trans ?_
  refine (va_up_o (by decide)).trans ?_
  refine (va_up_o (by decide)).trans ?_
  refine (va_up_o (by decide)).trans ?_
  refine (va_up_o (by decide)).trans ?_
  exact va_up_s
theorem v_eTr0_20 : eTr0 q en 20 = (.inl (q.2.2.2 0, 19, .inl (fun _ => 0))) := by
  unfold eTr0
  refine (va_up_o (by decide)).trans ?_
  refine (va_up_o (by decide)).trans ?_
  refine (va_up_o (by decide)).trans ?_
  refine (va_up_o (by decide)).trans ?_
  refine (va_up_o (by decide)).trans ?_
  refine (va_up_o (by decide)).trans ?_
  refine (va_up_o (by decide)).trans ?_
  refine (va_up_o (by decide)).trans ?_
  refine (va_up_o (by decide)).trans ?_
  refine (va_up_o (by decide)).trans ?_
  refine (va_up_o (by decide)).trans ?_
  refine (va_up_o (by decide)).trans ?_
  refine (va_up_o (by decide)).trans ?_
  refine (va_up_o (by decide)).trans ?_
  refine (va_up_o (by decide)).trans ?_
  refine (va_up_o (by decide)).trans ?_
  exact va_up_s
theorem v_eTr0_21 : eTr0 q en 21 = (.inl (q.2.2.2 0, 19, .inl (fun _ => 0))) := by
  unfold eTr0
  refine (va_up_o (by decide)).trans ?_
  refine (va_up_o (by decide)).trans ?_
  refine (va_up_o (by decide)).trans ?_
  refine (va_up_o (by decide)).trans ?_
  refine (va_up_o (by decide)).trans ?_
  refine (va_up_o (by decide)).trans ?_
  refine (va_up_o (by decide)).trans ?_
  refine (va_up_o (by decide)).trans ?_
  refine (va_up_o (by decide)).trans ?_
  refine (va_up_o (by decide)).trans ?_
  refine (va_up_o (by decide)).trans ?_
  refine (va_up_o (by decide)).trans ?_
  refine (va_up_o (by decide)).trans ?_
  refine (va_up_o (by decide)).trans ?_
  exact va_up_s
theorem v_eTr0_22 : eTr0 q en 22 = (.inl (q.2.2.2 0, 19, .inl (fun _ => 0))) := by
  unfold eTr0
  refine (va_up_o (by decide)).trans ?_
  refine (va_up_o (by decide)).trans ?_
  refine (va_up_o (by decide)).trans ?_
  refine (va_up_o (by decide)).trans ?_
  refine (va_up_o (by decide)).trans ?_
  refine (va_up_o (by decide)).trans ?_
  refine (va_up_o (by decide)).trans ?_
  refine (va_up_o (by decide)).trans ?_
  refine (va_up_o (by decide)).trans ?_
  refine (va_up_o (by decide)).trans ?_
  refine (va_up_o (by decide)).trans ?_
  refine (va_up_o (by decide)).trans ?_
  exact va_up_s
theorem v_eTr0_23 : eTr0 q en 23 = (.inl (q.2.2.2 1, 19, .inl (fun _ => 0))) := by
  unfold eTr0
  refine (va_up_o (by decide)).trans ?_
  refine (va_up_o (by decide)).trans ?_
  refine (va_up_o (by decide)).trans ?_
  refine (va_up_o (by decide)).trans ?_
  refine (va_up_o (by decide)).trans ?_
  refine (va_up_o (by decide)).trans ?_
  refine (va_up_o (by decide)).trans ?_
  refine (va_up_o (by decide)).trans ?_
  refine (va_up_o (by decide)).trans ?_
  refine (va_up_o (by decide)).trans ?_
  exact va_up_s
theorem v_eTr0_24 : eTr0 q en 24 = (.inl (q.2.2.2 0, 19, .inl (fun _ => 0))) := by
  unfold eTr0
  refine (va_up_o (by decide)).trans ?_
  refine (va_up_o (by decide)).trans ?_
  refine (va_up_o (by decide)).trans ?_
  refine (va_up_o (by decide)).trans ?_
  refine (va_up_o (by decide)).trans ?_
  refine (va_up_o (by decide)).trans ?_
  refine (va_up_o (by decide)).trans ?_
  refine (va_up_o (by decide)).trans ?_
  exact va_up_s
theorem v_eTr0_25 : eTr0 q en 25 = (.inl (q.2.2.2 0, 10, .inl (fun _ => 0))) := by
  unfold eTr0
  refine (va_up_o (by decide)).trans ?_
  refine (va_up_o (by decide)).trans ?_
  refine (va_up_o (by decide)).trans ?_
  refine (va_up_o (by decide)).trans ?_
  refine (va_up_o (by decide)).trans ?_
  refine (va_up_o (by decide)).trans ?_
  exact va_up_s
theorem v_eTr0_26 : eTr0 q en 26 = (.inl (q.2.2.2 0, 19, .inl (fun _ => 0))) := by
  unfold eTr0
  refine (va_up_o (by decide)).trans ?_
  refine (va_up_o (by decide)).trans ?_
  refine (va_up_o (by decide)).trans ?_
  refine (va_up_o (by decide)).trans ?_
  exact va_up_s
theorem o_eTr1 {i : Nat} (h : i < 27 ∨ 39 ≤ i) : eTr1 q en i = en i := by
  unfold eTr1
  refine (va_up_o (by omega)).trans ?_
  refine (va_up_o (by omega)).trans ?_
  refine (va_up_o (by omega)).trans ?_
  refine (va_up_o (by omega)).trans ?_
  refine (va_up_o (by omega)).trans ?_
  refine (va_up_o (by omega)).trans ?_
  refine (va_up_o (by omega)).trans ?_
  refine (va_up_o (by omega)).trans ?_
  refine (va_up_o (by omega)).trans ?_
  refine (va_up_o (by omega)).trans ?_
  refine (va_up_o (by omega)).trans ?_
  refine (va_up_o (by omega)).trans ?_
  refine (va_up_o (by omega)).trans ?_
  refine (va_up_o (by omega)).trans ?_
  refine (va_up_o (by omega)).trans ?_
  refine (va_up_o (by omega)).trans ?_
  refine (va_up_o (by omega)).trans ?_
  refine (va_up_o (by omega)).trans ?_
  refine (va_up_o (by omega)).trans ?_
  refine (va_up_o (by omega)).trans ?_
  refine (va_up_o (by omega)).trans ?_
  refine (va_up_o (by omega)).trans ?_
  refine (va_up_o (by omega)).trans ?_
  refine (va_up_o (by omega)).trans ?_
  refine (va_up_o (by omega)).trans ?_
  rfl
theorem v_eTr1_27 : eTr1 q en 27 = (.inr (5, [.ref (q.2.2.1 + 28), .ref (q.2.2.1 + 29), .ref (q.2.2.1 + 30), .ref (q.2.2.1 + 31), .ref (q.2.2.1 + 32), .ref (q.2.2.1 + 33), .ref (q.2.2.1 + 34), .ref (q.2.2.1 + 35), .ref (q.2.2.1 + 36), .ref (q.2.2.1 + 37), .ref (q.2.2.1 + 38), .int 0, .int 0, .int 0])) := by
  unfold eTr1
  exact va_up_s
theorem v_eTr1_28 : eTr1 q en 28 = (.inl (q.2.2.2 0, 19, .inl (fun _ => 0))) := by
  unfold eTr1
  refine (va_up_o (by decide)).trans ?_
  refine (va_up_o (by decide)).trans ?_
  refine (va_up_o (by decide)).trans ?_
  refine (va_up_o (by decide)).trans ?_
  refine (va_up_o (by decide)).trans ?_
  refine (va_up_o (by decide)).trans ?_
  refine (va_up_o (by decide)).trans ?_
  refine (va_up_o (by decide)).trans ?_
  refine (va_up_o (by decide)).trans ?_
  refine (va_up_o (by decide)).trans ?_
  refine (va_up_o (by decide)).trans ?_
  refine (va_up_o (by decide)).trans ?_
  refine (va_up_o (by decide)).trans ?_
  refine (va_up_o (by decide)).trans ?_
  refine (va_up_o (by decide)).trans ?_
  refine (va_up_o (by decide)).trans ?_
  refine (va_up_o (by decide)).trans ?_
  refine (va_up_o (by decide)).trans ?_
  refine (va_up_o (by decide)).trans ?_
  refine (va_up_o (by decide)).trans ?_
  refine (va_up_o (by decide)).trans ?_
  refine (va_up_o (by decide)).trans ?_
  refine (va_up_o (by decide)).trans ?_
  refine (va_up_o (by decide)).trans ?_
  exact va_up_s
theorem v_eTr1_29 : eTr1 q en 29 = (.inl (q.2.2.2 0, 19, .inl (fun _ => 0))) := by
  unfold eTr1
  refine (va_up_o (by decide)).trans ?_
  refine (va_up_o (by decide)).trans ?_
  refine (va_up_o (by decide)).trans ?_
  refine (va_up_o (by decide)).trans ?_
  refine (va_up_o (by decide)).trans ?_
  refine (va_up_o (by decide)).trans ?_
  refine (va_up_o (by decide)).trans ?_
  refine (va_up_o (by decide)).trans ?_
  refine (va_up_o (by decide)).trans ?_
  refine (va_up_o (by decide)).trans ?_
  refine (va_up_o (by decide)).trans ?_
  refine (va_up_o (by decide)).trans ?_
  refine (va_up_o (by decide)).trans ?_
  refine (va_up_o (by decide)).trans ?_
  refine (va_up_o (by decide)).trans ?_
  refine (va_up_o (by decide)).trans ?_
  refine (va_up_o (by decide)).trans ?_
  refine (va_up_o (by decide)).trans ?_
  refine (va_up_o (by decide)).trans ?_
  refine (va_up_o (by decide)).trans ?_
  refine (va_up_o (by decide)).trans ?_
  refine (va_up_o (by decide)).trans ?_
  exact va_up_s
theorem v_eTr1_30 : eTr1 q en 30 = (.inl (q.2.2.2 0, 19, .inl (fun _ => 0))) := by
  unfold eTr1
  refine (va_up_o (by decide)).trans ?_
  refine (va_up_o (by decide)).trans ?_
  refine (va_up_o (by decide)).trans ?_
  refine (va_up_o (by decide)).trans ?_
  refine (va_up_o (by decide)).trans ?_
  refine (va_up_o (by decide)).trans ?_
  refine (va_up_o (by decide)).trans ?_
  refine (va_up_o (by decide)).trans ?_
  refine (va_up_o (by decide)).trans ?_
  refine (va_up_o (by decide)).trans ?_
  refine (va_up_o (by decide)).trans ?_
  refine (va_up_o (by decide)).trans ?_
  refine (va_up_o (by decide)).trans ?_
  refine (va_up_o (by decide)).trans ?_
  refine (va_up_o (by decide)).trans ?_
  refine (va_up_o (by decide)).trans ?_
  refine (va_up_o (by decide)).trans ?_
  refine (va_up_o (by decide)).trans ?_
  refine (va_up_o (by decide)).trans ?_
  refine (va_up_o (by decide)).trans ?_
  exact va_up_s
theorem v_eTr1_31 : eTr1 q en 31 = (.inl (q.2.2.2 0, 19, .inl (fun _ => 0))) := by
  unfold eTr1
  refine (va_up_o (by decide)).trans ?_
  refine (va_up_o (by decide)).trans ?_
  refine (va_up_o (by decide)).trans ?_
  refine (va_up_o (by decide)).trans ?_
  refine (va_up_o (by decide)).trans ?_
  refine (va_up_o (by decide)).trans ?_
  refine (va_up_o (by decide)).trans ?_
  refine (va_up_o (by decide)).trans ?_
  refine (va_up_o (by decide)).trans ?_
  refine (va_up_o (by decide)).trans ?_
  refine (va_up_o (by decide)).trans ?_
  refine (va_up_o (by decide)).trans ?_
  refine (va_up_o (by decide)).trans ?_
  refine (va_up_o (by decide)).trans ?_
  refine (va_up_o (by decide)).trans ?_
  refine (va_up_o (by decide)).trans ?_
  refine (va_up_o (by decide)).trans ?_
  refine (va_up_o (by decide)).trans ?_
  exact va_up_s
theorem v_eTr1_32 : eTr1 q en 32 = (.inl (q.2.2.2 0, 19, .inl (fun _ => 0))) := by
  unfold eTr1
  refine (va_up_o (by decide)).trans ?_
  refine (va_up_o (by decide)).trans ?_
  refine (va_up_o (by decide)).trans ?_
  refine (va_up_o (by decide)).trans ?_
  refine (va_up_o (by decide)).trans ?_
  refine (va_up_o (by decide)).trans ?_
  refine (va_up_o (by decide)).trans ?_
  refine (va_up_o (by decide)).trans ?_
  refine (va_up_o (by decide)).trans ?_
  refine (va_up_o (by decide)).trans ?_
  refine (va_up_o (by decide)).trans ?_
  refine (va_up_o (by decide)).trans ?_
  refine (va_up_o (by decide)).trans ?_
  refine (va_up_o (by decide)).trans ?_
  refine (va_up_o (by decide)).trans ?_
  refine (va_up_o (by decide)).trans ?_
  exact va_up_s
theorem v_eTr1_33 : eTr1 q en 33 = (.inl (q.2.2.2 0, 19, .inl (fun _ => 0))) := by
  unfold eTr1
  refine (va_up_o (by decide)).trans ?_
  refine (va_up_o (by decide)).trans ?_
  refine (va_up_o (by decide)).trans ?_
  refine (va_up_o (by decide)).trans ?_
  refine (va_up_o (by decide)).trans ?_
  refine (va_up_o (by decide)).trans ?_
  refine (va_up_o (by decide)).trans ?_
  refine (va_up_o (by decide)).trans ?_
  refine (va_up_o (by decide)).trans ?_
  refine (va_up_o (by decide)).trans ?_
  refine (va_up_o (by decide)).trans ?_
  refine (va_up_o (by decide)).trans ?_
  refine (va_up_o (by decide)).trans ?_
  refine (va_up_o (by decide)).trans ?_
  exact va_up_s
theorem v_eTr1_34 : eTr1 q en 34 = (.inl (q.2.2.2 0, 19, .inl (fun _ => 0))) := by
  unfold eTr1
  refine (va_up_o (by decide)).trans ?_
  refine (va_up_o (by decide)).trans ?_
  refine (va_up_o (by decide)).trans ?_
  refine (va_up_o (by decide)).trans ?_
  refine (va_up_o (by decide)).trans ?_
  refine (va_up_o (by decide)).trans ?_
  refine (va_up_o (by decide)).trans ?_
  refine (va_up_o (by decide)).trans ?_
  refine (va_up_o (by decide)).trans ?_
  refine (va_up_o (by decide)).trans ?_
  refine (va_up_o (by decide)).trans ?_
  refine (va_up_o (by decide)).trans ?_
  exact va_up_s
theorem v_eTr1_35 : eTr1 q en 35 = (.inl (q.2.2.2 1, 19, .inl (fun _ => 0))) := by
  unfold eTr1
  refine (va_up_o (by decide)).trans ?_
  refine (va_up_o (by decide)).trans ?_
  refine (va_up_o (by decide)).trans ?_
  refine (va_up_o (by decide)).trans ?_
  refine (va_up_o (by decide)).trans ?_
  refine (va_up_o (by decide)).trans ?_
  refine (va_up_o (by decide)).trans ?_
  refine (va_up_o (by decide)).trans ?_
  refine (va_up_o (by decide)).trans ?_
  refine (va_up_o (by decide)).trans ?_
  exact va_up_s
theorem v_eTr1_36 : eTr1 q en 36 = (.inl (q.2.2.2 0, 19, .inl (fun _ => 0))) := by
  unfold eTr1
  refine (va_up_o (by decide)).trans ?_
  refine (va_up_o (by decide)).trans ?_
  refine (va_up_o (by decide)).trans ?_
  refine (va_up_o (by decide)).trans ?_
  refine (va_up_o (by decide)).trans ?_
  refine (va_up_o (by decide)).trans ?_
  refine (va_up_o (by decide)).trans ?_
  refine (va_up_o (by decide)).trans ?_
  exact va_up_s
theorem v_eTr1_37 : eTr1 q en 37 = (.inl (q.2.2.2 0, 10, .inl (fun _ => 0))) := by
  unfold eTr1
  refine (va_up_o (by decide)).trans ?_
  refine (va_up_o (by decide)).trans ?_
  refine (va_up_o (by decide)).trans ?_
  refine (va_up_o (by decide)).trans ?_
  refine (va_up_o (by decide)).trans ?_
  refine (va_up_o (by decide)).trans ?_
  exact va_up_s
theorem v_eTr1_38 : eTr1 q en 38 = (.inl (q.2.2.2 0, 19, .inl (fun _ => 0))) := by
  unfold eTr1
  refine (va_up_o (by decide)).trans ?_
  refine (va_up_o (by decide)).trans ?_
  refine (va_up_o (by decide)).trans ?_
  refine (va_up_o (by decide)).trans ?_
  exact va_up_s
theorem o_eTr2 {i : Nat} (h : i < 39 ∨ 51 ≤ i) : eTr2 q en i = en i := by
  unfold eTr2
  refine (va_up_o (by omega)).trans ?_
  refine (va_up_o (by omega)).trans ?_
  refine (va_up_o (by omega)).trans ?_
  refine (va_up_o (by omega)).trans ?_
  refine (va_up_o (by omega)).trans ?_
  refine (va_up_o (by omega)).trans ?_
  refine (va_up_o (by omega)).trans ?_
  refine (va_up_o (by omega)).trans ?_
  refine (va_up_o (by omega)).trans ?_
  refine (va_up_o (by omega)).trans ?_
  refine (va_up_o (by omega)).trans ?_
  refine (va_up_o (by omega)).trans ?_
  refine (va_up_o (by omega)).trans ?_
  refine (va_up_o (by omega)).trans ?_
  refine (va_up_o (by omega)).trans ?_
  refine (va_up_o (by omega)).trans ?_
  refine (va_up_o (by omega)).trans ?_
  refine (va_up_o (by omega)).trans ?_
  refine (va_up_o (by omega)).trans ?_
  refine (va_up_o (by omega)).trans ?_
  refine (va_up_o (by omega)).trans ?_
  refine (va_up_o (by omega)).trans ?_
  refine (va_up_o (by omega)).trans ?_
  refine (va_up_o (by omega)).trans ?_
  refine (va_up_o (by omega)).trans ?_
  rfl
theorem v_eTr2_39 : eTr2 q en 39 = (.inr (5, [.ref (q.2.2.1 + 40), .ref (q.2.2.1 + 41), .ref (q.2.2.1 + 42), .ref (q.2.2.1 + 43), .ref (q.2.2.1 + 44), .ref (q.2.2.1 + 45), .ref (q.2.2.1 + 46), .ref (q.2.2.1 + 47), .ref (q.2.2.1 + 48), .ref (q.2.2.1 + 49), .ref (q.2.2.1 + 50), .int 0, .int 0, .int 0])) := by
  unfold eTr2
  exact va_up_s
theorem v_eTr2_40 : eTr2 q en 40 = (.inl (q.2.2.2 0, 19, .inl (fun _ => 0))) := by
  unfold eTr2
  refine (va_up_o (by decide)).trans ?_
  refine (va_up_o (by decide)).trans ?_
  refine (va_up_o (by decide)).trans ?_
  refine (va_up_o (by decide)).trans ?_
  refine (va_up_o (by decide)).trans ?_
  refine (va_up_o (by decide)).trans ?_
  refine (va_up_o (by decide)).trans ?_
  refine (va_up_o (by decide)).trans ?_
  refine (va_up_o (by decide)).trans ?_
  refine (va_up_o (by decide)).trans ?_
  refine (va_up_o (by decide)).trans ?_
  refine (va_up_o (by decide)).trans ?_
  refine (va_up_o (by decide)).trans ?_
  refine (va_up_o (by decide)).trans ?_
  refine (va_up_o (by decide)).trans ?_
  refine (va_up_o (by decide)).trans ?_
  refine (va_up_o (by decide)).trans ?_
  refine (va_up_o (by decide)).trans ?_
  refine (va_up_o (by decide)).trans ?_
  refine (va_up_o (by decide)).trans ?_
  refine (va_up_o (by decide)).trans ?_
  refine (va_up_o (by decide)).trans ?_
  refine (va_up_o (by decide)).trans ?_
  refine (va_up_o (by decide)).trans ?_
  exact va_up_s
theorem v_eTr2_41 : eTr2 q en 41 = (.inl (q.2.2.2 0, 19, .inl (fun _ => 0))) := by
  unfold eTr2
  refine (va_up_o (by decide)).trans ?_
  refine (va_up_o (by decide)).trans ?_
  refine (va_up_o (by decide)).trans ?_
  refine (va_up_o (by decide)).trans ?_
  refine (va_up_o (by decide)).trans ?_
  refine (va_up_o (by decide)).trans ?_
  refine (va_up_o (by decide)).trans ?_
  refine (va_up_o (by decide)).trans ?_
  refine (va_up_o (by decide)).trans ?_
  refine (va_up_o (by decide)).trans ?_
  refine (va_up_o (by decide)).trans ?_
  refine (va_up_o (by decide)).trans ?_
  refine (va_up_o (by decide)).trans ?_
  refine (va_up_o (by decide)).trans ?_
  refine (va_up_o (by decide)).trans ?_
  refine (va_up_o (by decide)).trans ?_
  refine (va_up_o (by decide)).trans ?_
  refine (va_up_o (by decide)).trans ?_
  refine (va_up_o (by decide)).trans ?_
  refine (va_up_o (by decide)).trans ?_
  refine (va_up_o (by decide)).trans ?_
  refine (va_up_o (by decide)).trans ?_
  exact va_up_s
theorem v_eTr2_42 : eTr2 q en 42 = (.inl (q.2.2.2 0, 19, .inl (fun _ => 0))) := by
  unfold eTr2
  refine (va_up_o (by decide)).trans ?_
  refine (va_up_o (by decide)).trans ?_
  refine (va_up_o (by decide)).trans ?_
  refine (va_up_o (by decide)).trans ?_
  refine (va_up_o (by decide)).trans ?_
  refine (va_up_o (by decide)).trans ?_
  refine (va_up_o (by decide)).trans ?_
  refine (va_up_o (by decide)).trans ?_
  refine (va_up_o (by decide)).trans ?_
  refine (va_up_o (by decide)).trans ?_
  refine (va_up_o (by decide)).trans ?_
  refine (va_up_o (by decide)).trans ?_
  refine (va_up_o (by decide)).trans ?_
  refine (va_up_o (by decide)).trans ?_
  refine (va_up_o (by decide)).trans ?_
  refine (va_up_o (by decide)).trans ?_
  refine (va_up_o (by decide)).trans ?_
  refine (va_up_o (by decide)).trans ?_
  refine (va_up_o (by decide)).trans ?_
  refine (va_up_o (by decide)).trans ?_
  exact va_up_s
theorem v_eTr2_43 : eTr2 q en 43 = (.inl (q.2.2.2 0, 19, .inl (fun _ => 0))) := by
  unfold eTr2
  refine (va_up_o (by decide)).trans ?_
  refine (va_up_o (by decide)).trans ?_
  refine (va_up_o (by decide)).trans ?_
  refine (va_up_o (by decide)).trans ?_
  refine (va_up_o (by decide)).trans ?_
  refine (va_up_o (by decide)).trans ?_
  refine (va_up_o (by decide)).trans ?_
  refine (va_up_o (by decide)).trans ?_
  refine (va_up_o (by decide)).trans ?_
  refine (va_up_o (by decide)).trans ?_
  refine (va_up_o (by decide)).trans ?_
  refine (va_up_o (by decide)).trans ?_
  refine (va_up_o (by decide)).trans ?_
  refine (va_up_o (by decide)).trans ?_
  refine (va_up_o (by decide)).trans ?_
  refine (va_up_o (by decide)).trans ?_
  refine (va_up_o (by decide)).trans ?_
  refine (va_up_o (by decide)).trans ?_
  exact va_up_s
theorem v_eTr2_44 : eTr2 q en 44 = (.inl (q.2.2.2 0, 19, .inl (fun _ => 0))) := by
  unfold eTr2
  refine (va_up_o (by decide)).trans ?_
  refine (va_up_o (by decide)).trans ?_
  refine (va_up_o (by decide)).trans ?_
  refine (va_up_o (by decide)).trans ?_
  refine (va_up_o (by decide)).trans ?_
  refine (va_up_o (by decide)).trans ?_
  refine (va_up_o (by decide)).trans ?_
  refine (va_up_o (by decide)).trans ?_
  refine (va_up_o (by decide)).trans ?_
  refine (va_up_o (by decide)).trans ?_
  refine (va_up_o (by decide)).trans ?_
  refine (va_up_o (by decide)).trans ?_
  refine (va_up_o (by decide)).trans ?_
  refine (va_up_o (by decide)).trans ?_
  refine (va_up_o (by decide)).trans ?_
  refine (va_up_o (by decide)).trans ?_
  exact va_up_s
theorem v_eTr2_45 : eTr2 q en 45 = (.inl (q.2.2.2 0, 19, .inl (fun _ => 0))) := by
  unfold eTr2
  refine (va_up_o (by decide)).trans ?_
  refine (va_up_o (by decide)).trans ?_
  refine (va_up_o (by decide)).trans ?_
  refine (va_up_o (by decide)).trans ?_
  refine (va_up_o (by decide)).trans ?_
  refine (va_up_o (by decide)).trans ?_
  refine (va_up_o (by decide)).trans ?_
  refine (va_up_o (by decide)).trans ?_
  refine (va_up_o (by decide)).trans ?_
  refine (va_up_o (by decide)).trans ?_
  refine (va_up_o (by decide)).trans ?_
  refine (va_up_o (by decide)).trans ?_
  refine (va_up_o (by decide)).trans ?_
  refine (va_up_o (by decide)).trans ?_
  exact va_up_s
theorem v_eTr2_46 : eTr2 q en 46 = (.inl (q.2.2.2 0, 19, .inl (fun _ => 0))) := by
  unfold eTr2
  refine (va_up_o (by decide)).trans ?_
  refine (va_up_o (by decide)).trans ?_
  refine (va_up_o (by decide)).trans ?_
  refine (va_up_o (by decide)).trans ?_
  refine (va_up_o (by decide)).trans ?_
  refine (va_up_o (by decide)).trans ?_
  refine (va_up_o (by decide)).trans ?_
  refine (va_up_o (by decide)).trans ?_
  refine (va_up_o (by decide)).trans ?_
  refine (va_up_o (by decide)).trans ?_
  refine (va_up_o (by decide)).trans ?_
  refine (va_up_o (by decide)).trans ?_
  exact va_up_s
theorem v_eTr2_47 : eTr2 q en 47 = (.inl (q.2.2.2 1, 19, .inl (fun _ => 0))) := by
  unfold eTr2
  refine (va_up_o (by decide)).trans ?_
  refine (va_up_o (by decide)).trans ?_
  refine (va_up_o (by decide)).trans ?_
  refine (va_up_o (by decide)).trans ?_
  refine (va_up_o (by decide)).trans ?_
  refine (va_up_o (by decide)).trans ?_
  refine (va_up_o (by decide)).trans ?_
  refine (va_up_o (by decide)).trans ?_
  refine (va_up_o (by decide)).trans ?_
  refine (va_up_o (by decide)).trans ?_
  exact va_up_s
theorem v_eTr2_48 : eTr2 q en 48 = (.inl (q.2.2.2 0, 19, .inl (fun _ => 0))) := by
  unfold eTr2
  refine (va_up_o (by decide)).trans ?_
  refine (va_up_o (by decide)).trans ?_
  refine (va_up_o (by decide)).trans ?_
  refine (va_up_o (by decide)).trans ?_
  refine (va_up_o (by decide)).trans ?_
  refine (va_up_o (by decide)).trans ?_
  refine (va_up_o (by decide)).trans ?_
  refine (va_up_o (by decide)).trans ?_
  exact va_up_s
theorem v_eTr2_49 : eTr2 q en 49 = (.inl (q.2.2.2 0, 10, .inl (fun _ => 0))) := by
  unfold eTr2
  refine (va_up_o (by decide)).trans ?_
  refine (va_up_o (by decide)).trans ?_
  refine (va_up_o (by decide)).trans ?_
  refine (va_up_o (by decide)).trans ?_
  refine (va_up_o (by decide)).trans ?_
  refine (va_up_o (by decide)).trans ?_
  exact va_up_s
theorem v_eTr2_50 : eTr2 q en 50 = (.inl (q.2.2.2 0, 19, .inl (fun _ => 0))) := by
  unfold eTr2
  refine (va_up_o (by decide)).trans ?_
  refine (va_up_o (by decide)).trans ?_
  refine (va_up_o (by decide)).trans ?_
  refine (va_up_o (by decide)).trans ?_
  exact va_up_s
theorem o_eTr3 {i : Nat} (h : i < 51 ∨ 63 ≤ i) : eTr3 q en i = en i := by
  unfold eTr3
  refine (va_up_o (by omega)).trans ?_
  refine (va_up_o (by omega)).trans ?_
  refine (va_up_o (by omega)).trans ?_
  refine (va_up_o (by omega)).trans ?_
  refine (va_up_o (by omega)).trans ?_
  refine (va_up_o (by omega)).trans ?_
  refine (va_up_o (by omega)).trans ?_
  refine (va_up_o (by omega)).trans ?_
  refine (va_up_o (by omega)).trans ?_
  refine (va_up_o (by omega)).trans ?_
  refine (va_up_o (by omega)).trans ?_
  refine (va_up_o (by omega)).trans ?_
  refine (va_up_o (by omega)).trans ?_
  refine (va_up_o (by omega)).trans ?_
  refine (va_up_o (by omega)).trans ?_
  refine (va_up_o (by omega)).trans ?_
  refine (va_up_o (by omega)).trans ?_
  refine (va_up_o (by omega)).trans ?_
  refine (va_up_o (by omega)).trans ?_
  refine (va_up_o (by omega)).trans ?_
  refine (va_up_o (by omega)).trans ?_
  refine (va_up_o (by omega)).trans ?_
  refine (va_up_o (by omega)).trans ?_
  refine (va_up_o (by omega)).trans ?_
  refine (va_up_o (by omega)).trans ?_
  rfl
theorem v_eTr3_51 : eTr3 q en 51 = (.inr (5, [.ref (q.2.2.1 + 52), .ref (q.2.2.1 + 53), .ref (q.2.2.1 + 54), .ref (q.2.2.1 + 55), .ref (q.2.2.1 + 56), .ref (q.2.2.1 + 57), .ref (q.2.2.1 + 58), .ref (q.2.2.1 + 59), .ref (q.2.2.1 + 60), .ref (q.2.2.1 + 61), .ref (q.2.2.1 + 62), .int 0, .int 0, .int 0])) := by
  unfold eTr3
  exact va_up_s
theorem v_eTr3_52 : eTr3 q en 52 = (.inl (q.2.2.2 0, 19, .inl (fun _ => 0))) := by
  unfold eTr3
  refine (va_up_o (by decide)).trans ?_
  refine (va_up_o (by decide)).trans ?_
  refine (va_up_o (by decide)).trans ?_
  refine (va_up_o (by decide)).trans ?_
  refine (va_up_o (by decide)).trans ?_
  refine (va_up_o (by decide)).trans ?_
  refine (va_up_o (by decide)).trans ?_
  refine (va_up_o (by decide)).trans ?_
  refine (va_up_o (by decide)).trans ?_
  refine (va_up_o (by decide)).trans ?_
  refine (va_up_o (by decide)).trans ?_
  refine (va_up_o (by decide)).trans ?_
  refine (va_up_o (by decide)).trans ?_
  refine (va_up_o (by decide)).trans ?_
  refine (va_up_o (by decide)).trans ?_
  refine (va_up_o (by decide)).trans ?_
  refine (va_up_o (by decide)).trans ?_
  refine (va_up_o (by decide)).trans ?_
  refine (va_up_o (by decide)).trans ?_
  refine (va_up_o (by decide)).trans ?_
  refine (va_up_o (by decide)).trans ?_
  refine (va_up_o (by decide)).trans ?_
  refine (va_up_o (by decide)).trans ?_
  refine (va_up_o (by decide)).trans ?_
  exact va_up_s
theorem v_eTr3_53 : eTr3 q en 53 = (.inl (q.2.2.2 0, 19, .inl (fun _ => 0))) := by
  unfold eTr3
  refine (va_up_o (by decide)).trans ?_
  refine (va_up_o (by decide)).trans ?_
  refine (va_up_o (by decide)).trans ?_
  refine (va_up_o (by decide)).trans ?_
  refine (va_up_o (by decide)).trans ?_
  refine (va_up_o (by decide)).trans ?_
  refine (va_up_o (by decide)).trans ?_
  refine (va_up_o (by decide)).trans ?_
  refine (va_up_o (by decide)).trans ?_
  refine (va_up_o (by decide)).trans ?_
  refine (va_up_o (by decide)).trans ?_
  refine (va_up_o (by decide)).trans ?_
  refine (va_up_o (by decide)).trans ?_
  refine (va_up_o (by decide)).trans ?_
  refine (va_up_o (by decide)).trans ?_
  refine (va_up_o (by decide)).trans ?_
  refine (va_up_o (by decide)).trans ?_
  refine (va_up_o (by decide)).trans ?_
  refine (va_up_o (by decide)).trans ?_
  refine (va_up_o (by decide)).trans ?_
  refine (va_up_o (by decide)).trans ?_
  refine (va_up_o (by decide)).trans ?_
  exact va_up_s
theorem v_eTr3_54 : eTr3 q en 54 = (.inl (q.2.2.2 0, 19, .inl (fun _ => 0))) := by
  unfold eTr3
  refine (va_up_o (by decide)).trans ?_
  refine (va_up_o (by decide)).trans ?_
  refine (va_up_o (by decide)).trans ?_
  refine (va_up_o (by decide)).trans ?_
  refine (va_up_o (by decide)).trans ?_
  refine (va_up_o (by decide)).trans ?_
  refine (va_up_o (by decide)).trans ?_
  refine (va_up_o (by decide)).trans ?_
  refine (va_up_o (by decide)).trans ?_
  refine (va_up_o (by decide)).trans ?_
  refine (va_up_o (by decide)).trans ?_
  refine (va_up_o (by decide)).trans ?_
  refine (va_up_o (by decide)).trans ?_
  refine (va_up_o (by decide)).trans ?_
  refine (va_up_o (by decide)).trans ?_
  refine (va_up_o (by decide)).trans ?_
  refine (va_up_o (by decide)).trans ?_
  refine (va_up_o (by decide)).trans ?_
  refine (va_up_o (by decide)).trans ?_
  refine (va_up_o (by decide)).trans ?_
  exact va_up_s
theorem v_eTr3_55 : eTr3 q en 55 = (.inl (q.2.2.2 0, 19, .inl (fun _ => 0))) := by
  unfold eTr3
  refine (va_up_o (by decide)).trans ?_
  refine (va_up_o (by decide)).trans ?_
  refine (va_up_o (by decide)).trans ?_
  refine (va_up_o (by decide)).trans ?_
  refine (va_up_o (by decide)).trans ?_
  refine (va_up_o (by decide)).trans ?_
  refine (va_up_o (by decide)).trans ?_
  refine (va_up_o (by decide)).trans ?_
  refine (va_up_o (by decide)).trans ?_
  refine (va_up_o (by decide)).trans ?_
  refine (va_up_o (by decide)).trans ?_
  refine (va_up_o (by decide)).trans ?_
  refine (va_up_o (by decide)).trans ?_
  refine (va_up_o (by decide)).trans ?_
  refine (va_up_o (by decide)).trans ?_
  refine (va_up_o (by decide)).trans ?_
  refine (va_up_o (by decide)).trans ?_
  refine (va_up_o (by decide)).trans ?_
  exact va_up_s
theorem v_eTr3_56 : eTr3 q en 56 = (.inl (q.2.2.2 0, 19, .inl (fun _ => 0))) := by
  unfold eTr3
  refine (va_up_o (by decide)).trans ?_
  refine (va_up_o (by decide)).trans ?_
  refine (va_up_o (by decide)).trans ?_
  refine (va_up_o (by decide)).trans ?_
  refine (va_up_o (by decide)).trans ?_
  refine (va_up_o (by decide)).trans ?_
  refine (va_up_o (by decide)).trans ?_
  refine (va_up_o (by decide)).trans ?_
  refine (va_up_o (by decide)).trans ?_
  refine (va_up_o (by decide)).trans ?_
  refine (va_up_o (by decide)).trans ?_
  refine (va_up_o (by decide)).trans ?_
  refine (va_up_o (by decide)).trans ?_
  refine (va_up_o (by decide)).trans ?_
  refine (va_up_o (by decide)).trans ?_
  refine (va_up_o (by decide)).trans ?_
  exact va_up_s
theorem v_eTr3_57 : eTr3 q en 57 = (.inl (q.2.2.2 0, 19, .inl (fun _ => 0))) := by
  unfold eTr3
  refine (va_up_o (by decide)).trans ?_
  refine (va_up_o (by decide)).trans ?_
  refine (va_up_o (by decide)).trans ?_
  refine (va_up_o (by decide)).trans ?_
  refine (va_up_o (by decide)).trans ?_
  refine (va_up_o (by decide)).trans ?_
  refine (va_up_o (by decide)).trans ?_
  refine (va_up_o (by decide)).trans ?_
  refine (va_up_o (by decide)).trans ?_
  refine (va_up_o (by decide)).trans ?_
  refine (va_up_o (by decide)).trans ?_
  refine (va_up_o (by decide)).trans ?_
  refine (va_up_o (by decide)).trans ?_
  refine (va_up_o (by decide)).trans ?_
  exact va_up_s
theorem v_eTr3_58 : eTr3 q en 58 = (.inl (q.2.2.2 0, 19, .inl (fun _ => 0))) := by
  unfold eTr3
  refine (va_up_o (by decide)).trans ?_
  refine (va_up_o (by decide)).trans ?_
  refine (va_up_o (by decide)).trans ?_
  refine (va_up_o (by decide)).trans ?_
  refine (va_up_o (by decide)).trans ?_
  refine (va_up_o (by decide)).trans ?_
  refine (va_up_o (by decide)).trans ?_
  refine (va_up_o (by decide)).trans ?_
  refine (va_up_o (by decide)).trans ?_
  refine (va_up_o (by decide)).trans ?_
  refine (va_up_o (by decide)).trans ?_
  refine (va_up_o (by decide)).trans ?_
  exact va_up_s
theorem v_eTr3_59 : eTr3 q en 59 = (.inl (q.2.2.2 1, 19, .inl (fun _ => 0))) := by
  unfold eTr3
  refine (va_up_o (by decide)).trans ?_
  refine (va_up_o (by decide)).trans ?_
  refine (va_up_o (by decide)).trans ?_
  refine (va_up_o (by decide)).trans ?_
  refine (va_up_o (by decide)).trans ?_
  refine (va_up_o (by decide)).trans ?_
  refine (va_up_o (by decide)).trans ?_
  refine (va_up_o (by decide)).trans ?_
  refine (va_up_o (by decide)).trans ?_
  refine (va_up_o (by decide)).trans ?_
  exact va_up_s
theorem v_eTr3_60 : eTr3 q en 60 = (.inl (q.2.2.2 0, 19, .inl (fun _ => 0))) := by
  unfold eTr3
  refine (va_up_o (by decide)).trans ?_
  refine (va_up_o (by decide)).trans ?_
  refine (va_up_o (by decide)).trans ?_
  refine (va_up_o (by decide)).trans ?_
  refine (va_up_o (by decide)).trans ?_
  refine (va_up_o (by decide)).trans ?_
  refine (va_up_o (by decide)).trans ?_
  refine (va_up_o (by decide)).trans ?_
  exact va_up_s
theorem v_eTr3_61 : eTr3 q en 61 = (.inl (q.2.2.2 0, 10, .inl (fun _ => 0))) := by
  unfold eTr3
  refine (va_up_o (by decide)).trans ?_
  refine (va_up_o (by decide)).trans ?_
  refine (va_up_o (by decide)).trans ?_
  refine (va_up_o (by decide)).trans ?_
  refine (va_up_o (by decide)).trans ?_
  refine (va_up_o (by decide)).trans ?_
  exact va_up_s
theorem v_eTr3_62 : eTr3 q en 62 = (.inl (q.2.2.2 0, 19, .inl (fun _ => 0))) := by
  unfold eTr3
  refine (va_up_o (by decide)).trans ?_
  refine (va_up_o (by decide)).trans ?_
  refine (va_up_o (by decide)).trans ?_
  refine (va_up_o (by decide)).trans ?_
  exact va_up_s
theorem o_eMk {i : Nat} (h : i < 63 ∨ 76 ≤ i) : eMk q en i = en i := by
  unfold eMk
  refine (va_up_o (by omega)).trans ?_
  refine (va_up_o (by omega)).trans ?_
  refine (va_up_o (by omega)).trans ?_
  refine (if_neg (by omega)).trans ((if_neg (by omega)).trans ?_)
  rfl
theorem v_eMk_63 : eMk q en 63 = (.inr (3, [.ref (q.2.2.1 + 64), .ref (q.2.2.1 + 75)])) := by
  unfold eMk
  exact va_up_s
theorem v_eMk_64 : eMk q en 64 = (refE (q.2.2.2 4) 10 (q.2.2.1 + 64 + 1)) := by
  unfold eMk
  refine (va_up_o (by decide)).trans ?_
  refine (va_up_o (by decide)).trans ?_
  refine (va_up_o (by decide)).trans ?_
  rfl
theorem v_eMk_65 : eMk q en 65 = (.inl (q.2.2.2 0, 10, .inl (fun _ => 0))) := by
  unfold eMk
  refine (va_up_o (by decide)).trans ?_
  refine (va_up_o (by decide)).trans ?_
  refine (va_up_o (by decide)).trans ?_
  rfl
theorem v_eMk_66 : eMk q en 66 = (.inl (q.2.2.2 0, 10, .inl (fun _ => 0))) := by
  unfold eMk
  refine (va_up_o (by decide)).trans ?_
  refine (va_up_o (by decide)).trans ?_
  refine (va_up_o (by decide)).trans ?_
  rfl
theorem v_eMk_67 : eMk q en 67 = (.inl (q.2.2.2 0, 10, .inl (fun _ => 0))) := by
  unfold eMk
  refine (va_up_o (by decide)).trans ?_
  refine (va_up_o (by decide)).trans ?_
  refine (va_up_o (by decide)).trans ?_
  rfl
theorem v_eMk_68 : eMk q en 68 = (.inl (q.2.2.2 0, 10, .inl (fun _ => 0))) := by
  unfold eMk
  refine (va_up_o (by decide)).trans ?_
  refine (va_up_o (by decide)).trans ?_
  refine (va_up_o (by decide)).trans ?_
  rfl
theorem v_eMk_69 : eMk q en 69 = (.inl (q.2.2.2 0, 10, .inl (fun _ => 0))) := by
  unfold eMk
  refine (va_up_o (by decide)).trans ?_
  refine (va_up_o (by decide)).trans ?_
  refine (va_up_o (by decide)).trans ?_
  rfl
theorem v_eMk_70 : eMk q en 70 = (.inl (q.2.2.2 0, 10, .inl (fun _ => 0))) := by
  unfold eMk
  refine (va_up_o (by decide)).trans ?_
  refine (va_up_o (by decide)).trans ?_
  refine (va_up_o (by decide)).trans ?_
  rfl
theorem v_eMk_71 : eMk q en 71 = (.inl (q.2.2.2 0, 10, .inl (fun _ => 0))) := by
  unfold eMk
  refine (va_up_o (by decide)).trans ?_
  refine (va_up_o (by decide)).trans ?_
  refine (va_up_o (by decide)).trans ?_
  rfl
theorem v_eMk_72 : eMk q en 72 = (.inl (q.2.2.2 0, 10, .inl (fun _ => 0))) := by
  unfold eMk
  refine (va_up_o (by decide)).trans ?_
  refine (va_up_o (by decide)).trans ?_
  refine (va_up_o (by decide)).trans ?_
  rfl
theorem v_eMk_73 : eMk q en 73 = (.inl (q.2.2.2 0, 10, .inl (fun _ => 0))) := by
  unfold eMk
  refine (va_up_o (by decide)).trans ?_
  refine (va_up_o (by decide)).trans ?_
  refine (va_up_o (by decide)).trans ?_
  rfl
theorem v_eMk_74 : eMk q en 74 = (.inl (q.2.2.2 0, 10, .inl (fun _ => 0))) := by
  unfold eMk
  refine (va_up_o (by decide)).trans ?_
  refine (va_up_o (by decide)).trans ?_
  refine (va_up_o (by decide)).trans ?_
  rfl
theorem v_eMk_75 : eMk q en 75 = (.inl (q.2.2.2 0, 10, .inl (fun _ => 0))) := by
  unfold eMk
  refine (va_up_o (by decide)).trans ?_
  exact va_up_s
theorem o_eBt {i : Nat} (h : i < 76 ∨ 89 ≤ i) : eBt q en i = en i := by
  unfold eBt
  refine (va_up_o (by omega)).trans ?_
  refine (va_up_o (by omega)).trans ?_
  refine (va_up_o (by omega)).trans ?_
  refine (if_neg (by omega)).trans ((if_neg (by omega)).trans ?_)
  rfl
theorem v_eBt_76 : eBt q en 76 = (.inr (1, [.ref (q.2.2.1 + 77), .ref (q.2.2.1 + 88)])) := by
  unfold eBt
  exact va_up_s
theorem v_eBt_77 : eBt q en 77 = (refE (q.2.2.2 5) 10 (q.2.2.1 + 77 + 1)) := by
  unfold eBt
  refine (va_up_o (by decide)).trans ?_
  refine (va_up_o (by decide)).trans ?_
  refine (va_up_o (by decide)).trans ?_
  rfl
theorem v_eBt_78 : eBt q en 78 = (.inl (q.2.2.2 2, 10, .inr (.inl (fun _ => 0)))) := by
  unfold eBt
  refine (va_up_o (by decide)).trans ?_
  refine (va_up_o (by decide)).trans ?_
  refine (va_up_o (by decide)).trans ?_
  rfl
theorem v_eBt_79 : eBt q en 79 = (.inl (q.2.2.2 2, 10, .inr (.inl (fun _ => 0)))) := by
  unfold eBt
  refine (va_up_o (by decide)).trans ?_
  refine (va_up_o (by decide)).trans ?_
  refine (va_up_o (by decide)).trans ?_
  rfl
theorem v_eBt_80 : eBt q en 80 = (.inl (q.2.2.2 2, 10, .inr (.inl (fun _ => 0)))) := by
  unfold eBt
  refine (va_up_o (by decide)).trans ?_
  refine (va_up_o (by decide)).trans ?_
  refine (va_up_o (by decide)).trans ?_
  rfl
theorem v_eBt_81 : eBt q en 81 = (.inl (q.2.2.2 2, 10, .inr (.inl (fun _ => 0)))) := by
  unfold eBt
  refine (va_up_o (by decide)).trans ?_
  refine (va_up_o (by decide)).trans ?_
  refine (va_up_o (by decide)).trans ?_
  rfl
theorem v_eBt_82 : eBt q en 82 = (.inl (q.2.2.2 2, 10, .inr (.inl (fun _ => 0)))) := by
  unfold eBt
  refine (va_up_o (by decide)).trans ?_
  refine (va_up_o (by decide)).trans ?_
  refine (va_up_o (by decide)).trans ?_
  rfl
theorem v_eBt_83 : eBt q en 83 = (.inl (q.2.2.2 2, 10, .inr (.inl (fun _ => 0)))) := by
  unfold eBt
  refine (va_up_o (by decide)).trans ?_
  refine (va_up_o (by decide)).trans ?_
  refine (va_up_o (by decide)).trans ?_
  rfl
theorem v_eBt_84 : eBt q en 84 = (.inl (q.2.2.2 2, 10, .inr (.inl (fun _ => 0)))) := by
  unfold eBt
  refine (va_up_o (by decide)).trans ?_
  refine (va_up_o (by decide)).trans ?_
  refine (va_up_o (by decide)).trans ?_
  rfl
theorem v_eBt_85 : eBt q en 85 = (.inl (q.2.2.2 2, 10, .inr (.inl (fun _ => 0)))) := by
  unfold eBt
  refine (va_up_o (by decide)).trans ?_
  refine (va_up_o (by decide)).trans ?_
  refine (va_up_o (by decide)).trans ?_
  rfl
theorem v_eBt_86 : eBt q en 86 = (.inl (q.2.2.2 2, 10, .inr (.inl (fun _ => 0)))) := by
  unfold eBt
  refine (va_up_o (by decide)).trans ?_
  refine (va_up_o (by decide)).trans ?_
  refine (va_up_o (by decide)).trans ?_
  rfl
theorem v_eBt_87 : eBt q en 87 = (.inl (q.2.2.2 2, 10, .inr (.inl (fun _ => 0)))) := by
  unfold eBt
  refine (va_up_o (by decide)).trans ?_
  refine (va_up_o (by decide)).trans ?_
  refine (va_up_o (by decide)).trans ?_
  rfl
theorem v_eBt_88 : eBt q en 88 = (.inl (q.2.2.2 0, 10, .inl (fun _ => 0))) := by
  unfold eBt
  refine (va_up_o (by decide)).trans ?_
  exact va_up_s
theorem o_eAx {i : Nat} (h : i < 89 ∨ 101 ≤ i) : eAx q en i = en i := by
  unfold eAx
  refine (va_up_o (by omega)).trans ?_
  refine (va_up_o (by omega)).trans ?_
  refine (va_up_o (by omega)).trans ?_
  refine (va_up_o (by omega)).trans ?_
  refine (va_up_o (by omega)).trans ?_
  refine (va_up_o (by omega)).trans ?_
  refine (va_up_o (by omega)).trans ?_
  refine (if_neg (by omega)).trans ((if_neg (by omega)).trans ?_)
  rfl
theorem v_eAx_89 : eAx q en 89 = (.inr (0, [.ref (q.2.2.1 + 90), .ref (q.2.2.1 + 99), .ref (q.2.2.1 + 100), .int 0, .int 0])) := by
  unfold eAx
  exact va_up_s
theorem v_eAx_90 : eAx q en 90 = (refE (q.2.2.2 4) 8 (q.2.2.1 + 90 + 1)) := by
  unfold eAx
  refine (va_up_o (by decide)).trans ?_
  refine (va_up_o (by decide)).trans ?_
  refine (va_up_o (by decide)).trans ?_
  refine (va_up_o (by decide)).trans ?_
  refine (va_up_o (by decide)).trans ?_
  refine (va_up_o (by decide)).trans ?_
  refine (va_up_o (by decide)).trans ?_
  rfl
theorem v_eAx_91 : eAx q en 91 = (.inl (q.2.2.2 0, 8, .inl (fun _ => 0))) := by
  unfold eAx
  refine (va_up_o (by decide)).trans ?_
  refine (va_up_o (by decide)).trans ?_
  refine (va_up_o (by decide)).trans ?_
  refine (va_up_o (by decide)).trans ?_
  refine (va_up_o (by decide)).trans ?_
  refine (va_up_o (by decide)).trans ?_
  refine (va_up_o (by decide)).trans ?_
  rfl
theorem v_eAx_92 : eAx q en 92 = (.inl (q.2.2.2 0, 8, .inl (fun _ => 0))) := by
  unfold eAx
  refine (va_up_o (by decide)).trans ?_
  refine (va_up_o (by decide)).trans ?_
  refine (va_up_o (by decide)).trans ?_
  refine (va_up_o (by decide)).trans ?_
  refine (va_up_o (by decide)).trans ?_
  refine (va_up_o (by decide)).trans ?_
  refine (va_up_o (by decide)).trans ?_
  rfl
theorem v_eAx_93 : eAx q en 93 = (.inl (q.2.2.2 0, 8, .inl (fun _ => 0))) := by
  unfold eAx
  refine (va_up_o (by decide)).trans ?_
  refine (va_up_o (by decide)).trans ?_
  refine (va_up_o (by decide)).trans ?_
  refine (va_up_o (by decide)).trans ?_
  refine (va_up_o (by decide)).trans ?_
  refine (va_up_o (by decide)).trans ?_
  refine (va_up_o (by decide)).trans ?_
  rfl
theorem v_eAx_94 : eAx q en 94 = (.inl (q.2.2.2 0, 8, .inl (fun _ => 0))) := by
  unfold eAx
  refine (va_up_o (by decide)).trans ?_
  refine (va_up_o (by decide)).trans ?_
  refine (va_up_o (by decide)).trans ?_
  refine (va_up_o (by decide)).trans ?_
  refine (va_up_o (by decide)).trans ?_
  refine (va_up_o (by decide)).trans ?_
  refine (va_up_o (by decide)).trans ?_
  rfl
theorem v_eAx_95 : eAx q en 95 = (.inl (q.2.2.2 0, 8, .inl (fun _ => 0))) := by
  unfold eAx
  refine (va_up_o (by decide)).trans ?_
  refine (va_up_o (by decide)).trans ?_
  refine (va_up_o (by decide)).trans ?_
  refine (va_up_o (by decide)).trans ?_
  refine (va_up_o (by decide)).trans ?_
  refine (va_up_o (by decide)).trans ?_
  refine (va_up_o (by decide)).trans ?_
  rfl
theorem v_eAx_96 : eAx q en 96 = (.inl (q.2.2.2 0, 8, .inl (fun _ => 0))) := by
  unfold eAx
  refine (va_up_o (by decide)).trans ?_
  refine (va_up_o (by decide)).trans ?_
  refine (va_up_o (by decide)).trans ?_
  refine (va_up_o (by decide)).trans ?_
  refine (va_up_o (by decide)).trans ?_
  refine (va_up_o (by decide)).trans ?_
  refine (va_up_o (by decide)).trans ?_
  rfl
theorem v_eAx_97 : eAx q en 97 = (.inl (q.2.2.2 0, 8, .inl (fun _ => 0))) := by
  unfold eAx
  refine (va_up_o (by decide)).trans ?_
  refine (va_up_o (by decide)).trans ?_
  refine (va_up_o (by decide)).trans ?_
  refine (va_up_o (by decide)).trans ?_
  refine (va_up_o (by decide)).trans ?_
  refine (va_up_o (by decide)).trans ?_
  refine (va_up_o (by decide)).trans ?_
  rfl
theorem v_eAx_98 : eAx q en 98 = (.inl (q.2.2.2 0, 8, .inl (fun _ => 0))) := by
  unfold eAx
  refine (va_up_o (by decide)).trans ?_
  refine (va_up_o (by decide)).trans ?_
  refine (va_up_o (by decide)).trans ?_
  refine (va_up_o (by decide)).trans ?_
  refine (va_up_o (by decide)).trans ?_
  refine (va_up_o (by decide)).trans ?_
  refine (va_up_o (by decide)).trans ?_
  rfl
theorem v_eAx_99 : eAx q en 99 = (.inl (q.2.2.2 0, 2048, .inl (fun _ => 0))) := by
  unfold eAx
  refine (va_up_o (by decide)).trans ?_
  refine (va_up_o (by decide)).trans ?_
  refine (va_up_o (by decide)).trans ?_
  refine (va_up_o (by decide)).trans ?_
  refine (va_up_o (by decide)).trans ?_
  exact va_up_s
theorem v_eAx_100 : eAx q en 100 = (.inl (q.2.2.2 0, 8, .inl (fun _ => 0))) := by
  unfold eAx
  refine (va_up_o (by decide)).trans ?_
  refine (va_up_o (by decide)).trans ?_
  refine (va_up_o (by decide)).trans ?_
  exact va_up_s
theorem o_eFi {i : Nat} (h : i < 101 ∨ 103 ≤ i) : eFi q en i = en i := by
  unfold eFi
  refine (va_up_o (by omega)).trans ?_
  refine (va_up_o (by omega)).trans ?_
  refine (va_up_o (by omega)).trans ?_
  rfl
theorem v_eFi_101 : eFi q en 101 = (.inr (2, [.ref (q.2.2.1 + 102), .int 0])) := by
  unfold eFi
  exact va_up_s
theorem v_eFi_102 : eFi q en 102 = (.inl (q.2.2.2 0, 6, .inl (fun _ => 0))) := by
  unfold eFi
  refine (va_up_o (by decide)).trans ?_
  refine (va_up_o (by decide)).trans ?_
  exact va_up_s
theorem o_eMo {i : Nat} (h : i < 106 ∨ 129 ≤ i) : eMo q en i = en i := by
  unfold eMo
  refine (va_up_o (by omega)).trans ?_
  refine (va_up_o (by omega)).trans ?_
  refine (va_up_o (by omega)).trans ?_
  refine (va_up_o (by omega)).trans ?_
  refine (va_up_o (by omega)).trans ?_
  refine (va_up_o (by omega)).trans ?_
  refine (va_up_o (by omega)).trans ?_
  refine (va_up_o (by omega)).trans ?_
  refine (va_up_o (by omega)).trans ?_
  refine (va_up_o (by omega)).trans ?_
  refine (va_up_o (by omega)).trans ?_
  refine (va_up_o (by omega)).trans ?_
  refine (va_up_o (by omega)).trans ?_
  refine (va_up_o (by omega)).trans ?_
  refine (va_up_o (by omega)).trans ?_
  refine (va_up_o (by omega)).trans ?_
  refine (va_up_o (by omega)).trans ?_
  refine (va_up_o (by omega)).trans ?_
  refine (va_up_o (by omega)).trans ?_
  refine (va_up_o (by omega)).trans ?_
  refine (va_up_o (by omega)).trans ?_
  refine (va_up_o (by omega)).trans ?_
  refine (va_up_o (by omega)).trans ?_
  refine (va_up_o (by omega)).trans ?_
  refine (va_up_o (by omega)).trans ?_
  refine (va_up_o (by omega)).trans ?_
  refine (va_up_o (by omega)).trans ?_
  refine (va_up_o (by omega)).trans ?_
  refine (va_up_o (by omega)).trans ?_
  refine (va_up_o (by omega)).trans ?_
  refine (va_up_o (by omega)).trans ?_
  refine (va_up_o (by omega)).trans ?_
  refine (va_up_o (by omega)).trans ?_
  refine (va_up_o (by omega)).trans ?_
  refine (va_up_o (by omega)).trans ?_
  refine (va_up_o (by omega)).trans ?_
  refine (va_up_o (by omega)).trans ?_
  refine (va_up_o (by omega)).trans ?_
  refine (va_up_o (by omega)).trans ?_
  refine (va_up_o (by omega)).trans ?_
  refine (va_up_o (by omega)).trans ?_
  refine (va_up_o (by omega)).trans ?_
  refine (va_up_o (by omega)).trans ?_
  refine (va_up_o (by omega)).trans ?_
  rfl
theorem v_eMo_106 : eMo q en 106 = (.inr (7, [.int 0, .ref (q.2.2.1 + 107), .int 0, .int 0, .ref (q.2.2.1 + 108), .ref (q.2.2.1 + 109), .ref (q.2.2.1 + 110), .ref (q.2.2.1 + 111), .ref (q.2.2.1 + 112), .ref (q.2.2.1 + 113), .ref (q.2.2.1 + 114), .ref (q.2.2.1 + 115), .ref (q.2.2.1 + 116), .ref (q.2.2.1 + 117), .ref (q.2.2.1 + 118), .int 0, .int 0, .ref (q.2.2.1 + 119), .ref (q.2.2.1 + 120), .ref (q.2.2.1 + 121), .ref (q.2.2.1 + 122), .ref (q.2.2.1 + 123), .int 0, .ref (q.2.2.1 + 124), .ref (q.2.2.1 + 125), .int 0, .int 0, .ref (q.2.2.1 + 126), .ref (q.2.2.1 + 127), .int 0, .ref (q.2.2.1 + 128)])) := by
  unfold eMo
  exact va_up_s
theorem v_eMo_107 : eMo q en 107 = (.inl (q.2.2.2 0, 6, .inl (fun _ => 0))) := by
  unfold eMo
  refine (va_up_o (by decide)).trans ?_
  refine (va_up_o (by decide)).trans ?_
  refine (va_up_o (by decide)).trans ?_
  refine (va_up_o (by decide)).trans ?_
  refine (va_up_o (by decide)).trans ?_
  refine (va_up_o (by decide)).trans ?_
  refine (va_up_o (by decide)).trans ?_
  refine (va_up_o (by decide)).trans ?_
  refine (va_up_o (by decide)).trans ?_
  refine (va_up_o (by decide)).trans ?_
  refine (va_up_o (by decide)).trans ?_
  refine (va_up_o (by decide)).trans ?_
  refine (va_up_o (by decide)).trans ?_
  refine (va_up_o (by decide)).trans ?_
  refine (va_up_o (by decide)).trans ?_
  refine (va_up_o (by decide)).trans ?_
  refine (va_up_o (by decide)).trans ?_
  refine (va_up_o (by decide)).trans ?_
  refine (va_up_o (by decide)).trans ?_
  refine (va_up_o (by decide)).trans ?_
  refine (va_up_o (by decide)).trans ?_
  refine (va_up_o (by decide)).trans ?_
  refine (va_up_o (by decide)).trans ?_
  refine (va_up_o (by decide)).trans ?_
  refine (va_up_o (by decide)).trans ?_
  refine (va_up_o (by decide)).trans ?_
  refine (va_up_o (by decide)).trans ?_
  refine (va_up_o (by decide)).trans ?_
  refine (va_up_o (by decide)).trans ?_
  refine (va_up_o (by decide)).trans ?_
  refine (va_up_o (by decide)).trans ?_
  refine (va_up_o (by decide)).trans ?_
  refine (va_up_o (by decide)).trans ?_
  refine (va_up_o (by decide)).trans ?_
  refine (va_up_o (by decide)).trans ?_
  refine (va_up_o (by decide)).trans ?_
  refine (va_up_o (by decide)).trans ?_
  refine (va_up_o (by decide)).trans ?_
  refine (va_up_o (by decide)).trans ?_
  refine (va_up_o (by decide)).trans ?_
  refine (va_up_o (by decide)).trans ?_
  refine (va_up_o (by decide)).trans ?_
  refine (va_up_o (by decide)).trans ?_
  exact va_up_s
theorem v_eMo_108 : eMo q en 108 = (.inl (q.2.2.2 1, 10, .inl (fun _ => 0))) := by
  unfold eMo
  refine (va_up_o (by decide)).trans ?_
  refine (va_up_o (by decide)).trans ?_
  refine (va_up_o (by decide)).trans ?_
  refine (va_up_o (by decide)).trans ?_
  refine (va_up_o (by decide)).trans ?_
  refine (va_up_o (by decide)).trans ?_
  refine (va_up_o (by decide)).trans ?_
  refine (va_up_o (by decide)).trans ?_
  refine (va_up_o (by decide)).trans ?_
  refine (va_up_o (by decide)).trans ?_
  refine (va_up_o (by decide)).trans ?_
  refine (va_up_o (by decide)).trans ?_
  refine (va_up_o (by decide)).trans ?_
  refine (va_up_o (by decide)).trans ?_
  refine (va_up_o (by decide)).trans ?_
  refine (va_up_o (by decide)).trans ?_
  refine (va_up_o (by decide)).trans ?_
  refine (va_up_o (by decide)).trans ?_
  refine (va_up_o (by decide)).trans ?_
  refine (va_up_o (by decide)).trans ?_
  refine (va_up_o (by decide)).trans ?_
  refine (va_up_o (by decide)).trans ?_
  refine (va_up_o (by decide)).trans ?_
  refine (va_up_o (by decide)).trans ?_
  refine (va_up_o (by decide)).trans ?_
  refine (va_up_o (by decide)).trans ?_
  refine (va_up_o (by decide)).trans ?_
  refine (va_up_o (by decide)).trans ?_
  refine (va_up_o (by decide)).trans ?_
  refine (va_up_o (by decide)).trans ?_
  refine (va_up_o (by decide)).trans ?_
  refine (va_up_o (by decide)).trans ?_
  refine (va_up_o (by decide)).trans ?_
  refine (va_up_o (by decide)).trans ?_
  refine (va_up_o (by decide)).trans ?_
  refine (va_up_o (by decide)).trans ?_
  refine (va_up_o (by decide)).trans ?_
  refine (va_up_o (by decide)).trans ?_
  refine (va_up_o (by decide)).trans ?_
  refine (va_up_o (by decide)).trans ?_
  refine (va_up_o (by decide)).trans ?_
  exact va_up_s
theorem v_eMo_109 : eMo q en 109 = (.inl (q.2.2.2 0, 100, .inl (fun _ => 0))) := by
  unfold eMo
  refine (va_up_o (by decide)).trans ?_
  refine (va_up_o (by decide)).trans ?_
  refine (va_up_o (by decide)).trans ?_
  refine (va_up_o (by decide)).trans ?_
  refine (va_up_o (by decide)).trans ?_
  refine (va_up_o (by decide)).trans ?_
  refine (va_up_o (by decide)).trans ?_
  refine (va_up_o (by decide)).trans ?_
  refine (va_up_o (by decide)).trans ?_
  refine (va_up_o (by decide)).trans ?_
  refine (va_up_o (by decide)).trans ?_
  refine (va_up_o (by decide)).trans ?_
  refine (va_up_o (by decide)).trans ?_
  refine (va_up_o (by decide)).trans ?_
  refine (va_up_o (by decide)).trans ?_
  refine (va_up_o (by decide)).trans ?_
  refine (va_up_o (by decide)).trans ?_
  refine (va_up_o (by decide)).trans ?_
  refine (va_up_o (by decide)).trans ?_
  refine (va_up_o (by decide)).trans ?_
  refine (va_up_o (by decide)).trans ?_
  refine (va_up_o (by decide)).trans ?_
  refine (va_up_o (by decide)).trans ?_
  refine (va_up_o (by decide)).trans ?_
  refine (va_up_o (by decide)).trans ?_
  refine (va_up_o (by decide)).trans ?_
  refine (va_up_o (by decide)).trans ?_
  refine (va_up_o (by decide)).trans ?_
  refine (va_up_o (by decide)).trans ?_
  refine (va_up_o (by decide)).trans ?_
  refine (va_up_o (by decide)).trans ?_
  refine (va_up_o (by decide)).trans ?_
  refine (va_up_o (by decide)).trans ?_
  refine (va_up_o (by decide)).trans ?_
  refine (va_up_o (by decide)).trans ?_
  refine (va_up_o (by decide)).trans ?_
  refine (va_up_o (by decide)).trans ?_
  refine (va_up_o (by decide)).trans ?_
  refine (va_up_o (by decide)).trans ?_
  exact va_up_s
theorem v_eMo_110 : eMo q en 110 = (.inl (q.2.2.2 0, 10, .inl (fun _ => 0))) := by
  unfold eMo
  refine (va_up_o (by decide)).trans ?_
  refine (va_up_o (by decide)).trans ?_
  refine (va_up_o (by decide)).trans ?_
  refine (va_up_o (by decide)).trans ?_
  refine (va_up_o (by decide)).trans ?_
  refine (va_up_o (by decide)).trans ?_
  refine (va_up_o (by decide)).trans ?_
  refine (va_up_o (by decide)).trans ?_
  refine (va_up_o (by decide)).trans ?_
  refine (va_up_o (by decide)).trans ?_
  refine (va_up_o (by decide)).trans ?_
  refine (va_up_o (by decide)).trans ?_
  refine (va_up_o (by decide)).trans ?_
  refine (va_up_o (by decide)).trans ?_
  refine (va_up_o (by decide)).trans ?_
  refine (va_up_o (by decide)).trans ?_
  refine (va_up_o (by decide)).trans ?_
  refine (va_up_o (by decide)).trans ?_
  refine (va_up_o (by decide)).trans ?_
  refine (va_up_o (by decide)).trans ?_
  refine (va_up_o (by decide)).trans ?_
  refine (va_up_o (by decide)).trans ?_
  refine (va_up_o (by decide)).trans ?_
  refine (va_up_o (by decide)).trans ?_
  refine (va_up_o (by decide)).trans ?_
  refine (va_up_o (by decide)).trans ?_
  refine (va_up_o (by decide)).trans ?_
  refine (va_up_o (by decide)).trans ?_
  refine (va_up_o (by decide)).trans ?_
  refine (va_up_o (by decide)).trans ?_
  refine (va_up_o (by decide)).trans ?_
  refine (va_up_o (by decide)).trans ?_
  refine (va_up_o (by decide)).trans ?_
  refine (va_up_o (by decide)).trans ?_
  refine (va_up_o (by decide)).trans ?_
  refine (va_up_o (by decide)).trans ?_
  refine (va_up_o (by decide)).trans ?_
  exact va_up_s
theorem v_eMo_111 : eMo q en 111 = (.inl (q.2.2.2 0, 4, .inl (fun _ => 0))) := by
  unfold eMo
  refine (va_up_o (by decide)).trans ?_
  refine (va_up_o (by decide)).trans ?_
  refine (va_up_o (by decide)).trans ?_
  refine (va_up_o (by decide)).trans ?_
  refine (va_up_o (by decide)).trans ?_
  refine (va_up_o (by decide)).trans ?_
  refine (va_up_o (by decide)).trans ?_
  refine (va_up_o (by decide)).trans ?_
  refine (va_up_o (by decide)).trans ?_
  refine (va_up_o (by decide)).trans ?_
  refine (va_up_o (by decide)).trans ?_
  refine (va_up_o (by decide)).trans ?_
  refine (va_up_o (by decide)).trans ?_
  refine (va_up_o (by decide)).trans ?_
  refine (va_up_o (by decide)).trans ?_
  refine (va_up_o (by decide)).trans ?_
  refine (va_up_o (by decide)).trans ?_
  refine (va_up_o (by decide)).trans ?_
  refine (va_up_o (by decide)).trans ?_
  refine (va_up_o (by decide)).trans ?_
  refine (va_up_o (by decide)).trans ?_
  refine (va_up_o (by decide)).trans ?_
  refine (va_up_o (by decide)).trans ?_
  refine (va_up_o (by decide)).trans ?_
  refine (va_up_o (by decide)).trans ?_
  refine (va_up_o (by decide)).trans ?_
  refine (va_up_o (by decide)).trans ?_
  refine (va_up_o (by decide)).trans ?_
  refine (va_up_o (by decide)).trans ?_
  refine (va_up_o (by decide)).trans ?_
  refine (va_up_o (by decide)).trans ?_
  refine (va_up_o (by decide)).trans ?_
  refine (va_up_o (by decide)).trans ?_
  refine (va_up_o (by decide)).trans ?_
  refine (va_up_o (by decide)).trans ?_
  exact va_up_s
theorem v_eMo_112 : eMo q en 112 = (.inl (q.2.2.2 0, 80, .inl (fun _ => 0))) := by
  unfold eMo
  refine (va_up_o (by decide)).trans ?_
  refine (va_up_o (by decide)).trans ?_
  refine (va_up_o (by decide)).trans ?_
  refine (va_up_o (by decide)).trans ?_
  refine (va_up_o (by decide)).trans ?_
  refine (va_up_o (by decide)).trans ?_
  refine (va_up_o (by decide)).trans ?_
  refine (va_up_o (by decide)).trans ?_
  refine (va_up_o (by decide)).trans ?_
  refine (va_up_o (by decide)).trans ?_
  refine (va_up_o (by decide)).trans ?_
  refine (va_up_o (by decide)).trans ?_
  refine (va_up_o (by decide)).trans ?_
  refine (va_up_o (by decide)).trans ?_
  refine (va_up_o (by decide)).trans ?_
  refine (va_up_o (by decide)).trans ?_
  refine (va_up_o (by decide)).trans ?_
  refine (va_up_o (by decide)).trans ?_
  refine (va_up_o (by decide)).trans ?_
  refine (va_up_o (by decide)).trans ?_
  refine (va_up_o (by decide)).trans ?_
  refine (va_up_o (by decide)).trans ?_
  refine (va_up_o (by decide)).trans ?_
  refine (va_up_o (by decide)).trans ?_
  refine (va_up_o (by decide)).trans ?_
  refine (va_up_o (by decide)).trans ?_
  refine (va_up_o (by decide)).trans ?_
  refine (va_up_o (by decide)).trans ?_
  refine (va_up_o (by decide)).trans ?_
  refine (va_up_o (by decide)).trans ?_
  refine (va_up_o (by decide)).trans ?_
  refine (va_up_o (by decide)).trans ?_
  refine (va_up_o (by decide)).trans ?_
  exact va_up_s
theorem v_eMo_113 : eMo q en 113 = (.inl (q.2.2.2 0, 80, .inl (fun _ => 0))) := by
  unfold eMo
  refine (va_up_o (by decide)).trans ?_
  refine (va_up_o (by decide)).trans ?_
  refine (va_up_o (by decide)).trans ?_
  refine (va_up_o (by decide)).trans ?_
  refine (va_up_o (by decide)).trans ?_
  refine (va_up_o (by decide)).trans ?_
  refine (va_up_o (by decide)).trans ?_
  refine (va_up_o (by decide)).trans ?_
  refine (va_up_o (by decide)).trans ?_
  refine (va_up_o (by decide)).trans ?_
  refine (va_up_o (by decide)).trans ?_
  refine (va_up_o (by decide)).trans ?_
  refine (va_up_o (by decide)).trans ?_
  refine (va_up_o (by decide)).trans ?_
  refine (va_up_o (by decide)).trans ?_
  refine (va_up_o (by decide)).trans ?_
  refine (va_up_o (by decide)).trans ?_
  refine (va_up_o (by decide)).trans ?_
  refine (va_up_o (by decide)).trans ?_
  refine (va_up_o (by decide)).trans ?_
  refine (va_up_o (by decide)).trans ?_
  refine (va_up_o (by decide)).trans ?_
  refine (va_up_o (by decide)).trans ?_
  refine (va_up_o (by decide)).trans ?_
  refine (va_up_o (by decide)).trans ?_
  refine (va_up_o (by decide)).trans ?_
  refine (va_up_o (by decide)).trans ?_
  refine (va_up_o (by decide)).trans ?_
  refine (va_up_o (by decide)).trans ?_
  refine (va_up_o (by decide)).trans ?_
  refine (va_up_o (by decide)).trans ?_
  exact va_up_s
theorem v_eMo_114 : eMo q en 114 = (.inl (q.2.2.2 0, 80, .inl (fun _ => 0))) := by
  unfold eMo
  refine (va_up_o (by decide)).trans ?_
  refine (va_up_o (by decide)).trans ?_
  refine (va_up_o (by decide)).trans ?_
  refine (va_up_o (by decide)).trans ?_
  refine (va_up_o (by decide)).trans ?_
  refine (va_up_o (by decide)).trans ?_
  refine (va_up_o (by decide)).trans ?_
  refine (va_up_o (by decide)).trans ?_
  refine (va_up_o (by decide)).trans ?_
  refine (va_up_o (by decide)).trans ?_
  refine (va_up_o (by decide)).trans ?_
  refine (va_up_o (by decide)).trans ?_
  refine (va_up_o (by decide)).trans ?_
  refine (va_up_o (by decide)).trans ?_
  refine (va_up_o (by decide)).trans ?_
  refine (va_up_o (by decide)).trans ?_
  refine (va_up_o (by decide)).trans ?_
  refine (va_up_o (by decide)).trans ?_
  refine (va_up_o (by decide)).trans ?_
  refine (va_up_o (by decide)).trans ?_
  refine (va_up_o (by decide)).trans ?_
  refine (va_up_o (by decide)).trans ?_
  refine (va_up_o (by decide)).trans ?_
  refine (va_up_o (by decide)).trans ?_
  refine (va_up_o (by decide)).trans ?_
  refine (va_up_o (by decide)).trans ?_
  refine (va_up_o (by decide)).trans ?_
  refine (va_up_o (by decide)).trans ?_
  refine (va_up_o (by decide)).trans ?_
  exact va_up_s
theorem v_eMo_115 : eMo q en 115 = (.inl (q.2.2.2 0, 80, .inl (fun _ => 0))) := by
  unfold eMo
  refine (va_up_o (by decide)).trans ?_
  refine (va_up_o (by decide)).trans ?_
  refine (va_up_o (by decide)).trans ?_
  refine (va_up_o (by decide)).trans ?_
  refine (va_up_o (by decide)).trans ?_
  refine (va_up_o (by decide)).trans ?_
  refine (va_up_o (by decide)).trans ?_
  refine (va_up_o (by decide)).trans ?_
  refine (va_up_o (by decide)).trans ?_
  refine (va_up_o (by decide)).trans ?_
  refine (va_up_o (by decide)).trans ?_
  refine (va_up_o (by decide)).trans ?_
  refine (va_up_o (by decide)).trans ?_
  refine (va_up_o (by decide)).trans ?_
  refine (va_up_o (by decide)).trans ?_
  refine (va_up_o (by decide)).trans ?_
  refine (va_up_o (by decide)).trans ?_
  refine (va_up_o (by decide)).trans ?_
  refine (va_up_o (by decide)).trans ?_
  refine (va_up_o (by decide)).trans ?_
  refine (va_up_o (by decide)).trans ?_
  refine (va_up_o (by decide)).trans ?_
  refine (va_up_o (by decide)).trans ?_
  refine (va_up_o (by decide)).trans ?_
  refine (va_up_o (by decide)).trans ?_
  refine (va_up_o (by decide)).trans ?_
  refine (va_up_o (by decide)).trans ?_
  exact va_up_s
theorem v_eMo_116 : eMo q en 116 = (.inl (q.2.2.2 0, 80, .inl (fun _ => 0))) := by
  unfold eMo
  refine (va_up_o (by decide)).trans ?_
  refine (va_up_o (by decide)).trans ?_
  refine (va_up_o (by decide)).trans ?_
  refine (va_up_o (by decide)).trans ?_
  refine (va_up_o (by decide)).trans ?_
  refine (va_up_o (by decide)).trans ?_
  refine (va_up_o (by decide)).trans ?_
  refine (va_up_o (by decide)).trans ?_
  refine (va_up_o (by decide)).trans ?_
  refine (va_up_o (by decide)).trans ?_
  refine (va_up_o (by decide)).trans ?_
  refine (va_up_o (by decide)).trans ?_
  refine (va_up_o (by decide)).trans ?_
  refine (va_up_o (by decide)).trans ?_
  refine (va_up_o (by decide)).trans ?_
  refine (va_up_o (by decide)).trans ?_
  refine (va_up_o (by decide)).trans ?_
  refine (va_up_o (by decide)).trans ?_
  refine (va_up_o (by decide)).trans ?_
  refine (va_up_o (by decide)).trans ?_
  refine (va_up_o (by decide)).trans ?_
  refine (va_up_o (by decide)).trans ?_
  refine (va_up_o (by decide)).trans ?_
  refine (va_up_o (by decide)).trans ?_
  refine (va_up_o (by decide)).trans ?_
  exact va_up_s
theorem v_eMo_117 : eMo q en 117 = (.inl (q.2.2.2 1, 80, .inl (fun _ => 0))) := by
  unfold eMo
  refine (va_up_o (by decide)).trans ?_
  refine (va_up_o (by decide)).trans ?_
  refine (va_up_o (by decide)).trans ?_
  refine (va_up_o (by decide)).trans ?_
  refine (va_up_o (by decide)).trans ?_
  refine (va_up_o (by decide)).trans ?_
  refine (va_up_o (by decide)).trans ?_
  refine (va_up_o (by decide)).trans ?_
  refine (va_up_o (by decide)).trans ?_
  refine (va_up_o (by decide)).trans ?_
  refine (va_up_o (by decide)).trans ?_
  refine (va_up_o (by decide)).trans ?_
  refine (va_up_o (by decide)).trans ?_
  refine (va_up_o (by decide)).trans ?_
  refine (va_up_o (by decide)).trans ?_
  refine (va_up_o (by decide)).trans ?_
  refine (va_up_o (by decide)).trans ?_
  refine (va_up_o (by decide)).trans ?_
  refine (va_up_o (by decide)).trans ?_
  refine (va_up_o (by decide)).trans ?_
  refine (va_up_o (by decide)).trans ?_
  refine (va_up_o (by decide)).trans ?_
  refine (va_up_o (by decide)).trans ?_
  exact va_up_s
theorem v_eMo_118 : eMo q en 118 = (.inl (q.2.2.2 0, 80, .inl (fun _ => 0))) := by
  unfold eMo
  refine (va_up_o (by decide)).trans ?_
  refine (va_up_o (by decide)).trans ?_
  refine (va_up_o (by decide)).trans ?_
  refine (va_up_o (by decide)).trans ?_
  refine (va_up_o (by decide)).trans ?_
  refine (va_up_o (by decide)).trans ?_
  refine (va_up_o (by decide)).trans ?_
  refine (va_up_o (by decide)).trans ?_
  refine (va_up_o (by decide)).trans ?_
  refine (va_up_o (by decide)).trans ?_
  refine (va_up_o (by decide)).trans ?_
  refine (va_up_o (by decide)).trans ?_
  refine (va_up_o (by decide)).trans ?_
  refine (va_up_o (by decide)).trans ?_
  refine (va_up_o (by decide)).trans ?_
  refine (va_up_o (by decide)).trans ?_
  refine (va_up_o (by decide)).trans ?_
  refine (va_up_o (by decide)).trans ?_
  refine (va_up_o (by decide)).trans ?_
  refine (va_up_o (by decide)).trans ?_
  refine (va_up_o (by decide)).trans ?_
  exact va_up_s
theorem v_eMo_119 : eMo q en 119 = (.inl (q.2.2.2 0, 10, .inl (fun _ => 0))) := by
  unfold eMo
  refine (va_up_o (by decide)).trans ?_
  refine (va_up_o (by decide)).trans ?_
  refine (va_up_o (by decide)).trans ?_
  refine (va_up_o (by decide)).trans ?_
  refine (va_up_o (by decide)).trans ?_
  refine (va_up_o (by decide)).trans ?_
  refine (va_up_o (by decide)).trans ?_
  refine (va_up_o (by decide)).trans ?_
  refine (va_up_o (by decide)).trans ?_
  refine (va_up_o (by decide)).trans ?_
  refine (va_up_o (by decide)).trans ?_
  refine (va_up_o (by decide)).trans ?_
  refine (va_up_o (by decide)).trans ?_
  refine (va_up_o (by decide)).trans ?_
  refine (va_up_o (by decide)).trans ?_
  refine (va_up_o (by decide)).trans ?_
  refine (va_up_o (by decide)).trans ?_
  refine (va_up_o (by decide)).trans ?_
  refine (va_up_o (by decide)).trans ?_
  exact va_up_s
theorem v_eMo_120 : eMo q en 120 = (.inl (q.2.2.2 0, 10, .inl (fun _ => 0))) := by
  unfold eMo
  refine (va_up_o (by decide)).trans ?_
  refine (va_up_o (by decide)).trans ?_
  refine (va_up_o (by decide)).trans ?_
  refine (va_up_o (by decide)).trans ?_
  refine (va_up_o (by decide)).trans ?_
  refine (va_up_o (by decide)).trans ?_
  refine (va_up_o (by decide)).trans ?_
  refine (va_up_o (by decide)).trans ?_
  refine (va_up_o (by decide)).trans ?_
  refine (va_up_o (by decide)).trans ?_
  refine (va_up_o (by decide)).trans ?_
  refine (va_up_o (by decide)).trans ?_
  refine (va_up_o (by decide)).trans ?_
  refine (va_up_o (by decide)).trans ?_
  refine (va_up_o (by decide)).trans ?_
  refine (va_up_o (by decide)).trans ?_
  refine (va_up_o (by decide)).trans ?_
  exact va_up_s
theorem v_eMo_121 : eMo q en 121 = (.inl (q.2.2.2 0, 10, .inl (fun _ => 0))) := by
  unfold eMo
  refine (va_up_o (by decide)).trans ?_
  refine (va_up_o (by decide)).trans ?_
  refine (va_up_o (by decide)).trans ?_
  refine (va_up_o (by decide)).trans ?_
  refine (va_up_o (by decide)).trans ?_
  refine (va_up_o (by decide)).trans ?_
  refine (va_up_o (by decide)).trans ?_
  refine (va_up_o (by decide)).trans ?_
  refine (va_up_o (by decide)).trans ?_
  refine (va_up_o (by decide)).trans ?_
  refine (va_up_o (by decide)).trans ?_
  refine (va_up_o (by decide)).trans ?_
  refine (va_up_o (by decide)).trans ?_
  refine (va_up_o (by decide)).trans ?_
  refine (va_up_o (by decide)).trans ?_
  exact va_up_s
theorem v_eMo_122 : eMo q en 122 = (.inl (q.2.2.2 0, 10, .inl (fun _ => 0))) := by
  unfold eMo
  refine (va_up_o (by decide)).trans ?_
  refine (va_up_o (by decide)).trans ?_
  refine (va_up_o (by decide)).trans ?_
  refine (va_up_o (by decide)).trans ?_
  refine (va_up_o (by decide)).trans ?_
  refine (va_up_o (by decide)).trans ?_
  refine (va_up_o (by decide)).trans ?_
  refine (va_up_o (by decide)).trans ?_
  refine (va_up_o (by decide)).trans ?_
  refine (va_up_o (by decide)).trans ?_
  refine (va_up_o (by decide)).trans ?_
  refine (va_up_o (by decide)).trans ?_
  refine (va_up_o (by decide)).trans ?_
  exact va_up_s
theorem v_eMo_123 : eMo q en 123 = (.inl (q.2.2.2 0, 10, .inl (fun _ => 0))) := by
  unfold eMo
  refine (va_up_o (by decide)).trans ?_
  refine (va_up_o (by decide)).trans ?_
  refine (va_up_o (by decide)).trans ?_
  refine (va_up_o (by decide)).trans ?_
  refine (va_up_o (by decide)).trans ?_
  refine (va_up_o (by decide)).trans ?_
  refine (va_up_o (by decide)).trans ?_
  refine (va_up_o (by decide)).trans ?_
  refine (va_up_o (by decide)).trans ?_
  refine (va_up_o (by decide)).trans ?_
  refine (va_up_o (by decide)).trans ?_
  exact va_up_s
theorem v_eMo_124 : eMo q en 124 = (.inl (q.2.2.2 0, 10, .inl (fun _ => 0))) := by
  unfold eMo
  refine (va_up_o (by decide)).trans ?_
  refine (va_up_o (by decide)).trans ?_
  refine (va_up_o (by decide)).trans ?_
  refine (va_up_o (by decide)).trans ?_
  refine (va_up_o (by decide)).trans ?_
  refine (va_up_o (by decide)).trans ?_
  refine (va_up_o (by decide)).trans ?_
  refine (va_up_o (by decide)).trans ?_
  refine (va_up_o (by decide)).trans ?_
  exact va_up_s
theorem v_eMo_125 : eMo q en 125 = (.inl (q.2.2.2 0, 10, .inl (fun _ => 0))) := by
  unfold eMo
  refine (va_up_o (by decide)).trans ?_
  refine (va_up_o (by decide)).trans ?_
  refine (va_up_o (by decide)).trans ?_
  refine (va_up_o (by decide)).trans ?_
  refine (va_up_o (by decide)).trans ?_
  refine (va_up_o (by decide)).trans ?_
  refine (va_up_o (by decide)).trans ?_
  exact va_up_s
theorem v_eMo_126 : eMo q en 126 = (.inl (q.2.2.2 0, 64, .inl (fun _ => 0))) := by
  unfold eMo
  refine (va_up_o (by decide)).trans ?_
  refine (va_up_o (by decide)).trans ?_
  refine (va_up_o (by decide)).trans ?_
  refine (va_up_o (by decide)).trans ?_
  refine (va_up_o (by decide)).trans ?_
  exact va_up_s
theorem v_eMo_127 : eMo q en 127 = (.inl (q.2.2.2 0, 2048, .inl (fun _ => 0))) := by
  unfold eMo
  refine (va_up_o (by decide)).trans ?_
  refine (va_up_o (by decide)).trans ?_
  refine (va_up_o (by decide)).trans ?_
  exact va_up_s
theorem v_eMo_128 : eMo q en 128 = (.inl (q.2.2.2 0, 8, .inl (fun _ => 0))) := by
  unfold eMo
  refine (va_up_o (by decide)).trans ?_
  exact va_up_s
theorem v_eLo_0 : eLo q en 0 = (.inr (6, [.ref (q.2.2.1 + 1), .ref (q.2.2.1 + 14), .ref (q.2.2.1 + 63), .ref (q.2.2.1 + 76), .ref (q.2.2.1 + 89), .ref (q.2.2.1 + 101), .ref (q.2.2.1 + 103), .ref (q.2.2.1 + 104), .ref (q.2.2.1 + 105), .int 0, .int 0])) := by
  unfold eLo
  exact va_up_s
theorem v_eLo_1 : eLo q en 1 = (.inr (4, [.ref (q.2.2.1 + 2), .ref (q.2.2.1 + 13), .int 0])) := by
  unfold eLo
  refine (va_up_o (by decide)).trans ?_
  refine (va_up_o (by decide)).trans ?_
  refine (va_up_o (by decide)).trans ?_
  refine (va_up_o (by decide)).trans ?_
  refine (va_up_o (by decide)).trans ?_
  refine (va_up_o (by decide)).trans ?_
  refine (va_up_o (by decide)).trans ?_
  refine (va_up_o (by decide)).trans ?_
  refine (va_up_o (by decide)).trans ?_
  refine (va_up_o (by decide)).trans ?_
  refine (va_up_o (by decide)).trans ?_
  refine (o_eFi (by decide)).trans ?_
  refine (va_up_o (by decide)).trans ?_
  refine (va_up_o (by decide)).trans ?_
  refine (o_eAx (by decide)).trans ?_
  refine (va_up_o (by decide)).trans ?_
  refine (va_up_o (by decide)).trans ?_
  refine (o_eBt (by decide)).trans ?_
  refine (va_up_o (by decide)).trans ?_
  refine (va_up_o (by decide)).trans ?_
  refine (o_eMk (by decide)).trans ?_
  refine (va_up_o (by decide)).trans ?_
  refine (va_up_o (by decide)).trans ?_
  refine (o_eTr3 (by decide)).trans ?_
  refine (va_up_o (by decide)).trans ?_
  refine (va_up_o (by decide)).trans ?_
  refine (o_eTr2 (by decide)).trans ?_
  refine (va_up_o (by decide)).trans ?_
  refine (va_up_o (by decide)).trans ?_
  refine (o_eTr1 (by decide)).trans ?_
  refine (va_up_o (by decide)).trans ?_
  refine (va_up_o (by decide)).trans ?_
  refine (o_eTr0 (by decide)).trans ?_
  refine (va_up_o (by decide)).trans ?_
  refine (va_up_o (by decide)).trans ?_
  refine (va_up_o (by decide)).trans ?_
  refine (va_up_o (by decide)).trans ?_
  exact v_eRo_1
theorem v_eLo_2 : eLo q en 2 = (refE (q.2.2.2 4) 10 (q.2.2.1 + 2 + 1)) := by
  unfold eLo
  refine (va_up_o (by decide)).trans ?_
  refine (va_up_o (by decide)).trans ?_
  refine (va_up_o (by decide)).trans ?_
  refine (va_up_o (by decide)).trans ?_
  refine (va_up_o (by decide)).trans ?_
  refine (va_up_o (by decide)).trans ?_
  refine (va_up_o (by decide)).trans ?_
  refine (va_up_o (by decide)).trans ?_
  refine (va_up_o (by decide)).trans ?_
  refine (va_up_o (by decide)).trans ?_
  refine (va_up_o (by decide)).trans ?_
  refine (o_eFi (by decide)).trans ?_
  refine (va_up_o (by decide)).trans ?_
  refine (va_up_o (by decide)).trans ?_
  refine (o_eAx (by decide)).trans ?_
  refine (va_up_o (by decide)).trans ?_
  refine (va_up_o (by decide)).trans ?_
  refine (o_eBt (by decide)).trans ?_
  refine (va_up_o (by decide)).trans ?_
  refine (va_up_o (by decide)).trans ?_
  refine (o_eMk (by decide)).trans ?_
  refine (va_up_o (by decide)).trans ?_
  refine (va_up_o (by decide)).trans ?_
  refine (o_eTr3 (by decide)).trans ?_
  refine (va_up_o (by decide)).trans ?_
  refine (va_up_o (by decide)).trans ?_
  refine (o_eTr2 (by decide)).trans ?_
  refine (va_up_o (by decide)).trans ?_
  refine (va_up_o (by decide)).trans ?_
  refine (o_eTr1 (by decide)).trans ?_
  refine (va_up_o (by decide)).trans ?_
  refine (va_up_o (by decide)).trans ?_
  refine (o_eTr0 (by decide)).trans ?_
  refine (va_up_o (by decide)).trans ?_
  refine (va_up_o (by decide)).trans ?_
  refine (va_up_o (by decide)).trans ?_
  refine (va_up_o (by decide)).trans ?_
  exact v_eRo_2
theorem v_eLo_3 : eLo q en 3 = (.inl (q.2.2.2 0, 10, .inl (fun _ => 0))) := by
  unfold eLo
  refine (va_up_o (by decide)).trans ?_
  refine (va_up_o (by decide)).trans ?_
  refine (va_up_o (by decide)).trans ?_
  refine (va_up_o (by decide)).trans ?_
  refine (va_up_o (by decide)).trans ?_
  refine (va_up_o (by decide)).trans ?_
  refine (va_up_o (by decide)).trans ?_
  refine (va_up_o (by decide)).trans ?_
  refine (va_up_o (by decide)).trans ?_
  refine (va_up_o (by decide)).trans ?_
  refine (va_up_o (by decide)).trans ?_
  refine (o_eFi (by decide)).trans ?_
  refine (va_up_o (by decide)).trans ?_
  refine (va_up_o (by decide)).trans ?_
  refine (o_eAx (by decide)).trans ?_
  refine (va_up_o (by decide)).trans ?_
  refine (va_up_o (by decide)).trans ?_
  refine (o_eBt (by decide)).trans ?_
  refine (va_up_o (by decide)).trans ?_
  refine (va_up_o (by decide)).trans ?_
  refine (o_eMk (by decide)).trans ?_
  refine (va_up_o (by decide)).trans ?_
  refine (va_up_o (by decide)).trans ?_
  refine (o_eTr3 (by decide)).trans ?_
  refine (va_up_o (by decide)).trans ?_
  refine (va_up_o (by decide)).trans ?_
  refine (o_eTr2 (by decide)).trans ?_
  refine (va_up_o (by decide)).trans ?_
  refine (va_up_o (by decide)).trans ?_
  refine (o_eTr1 (by decide)).trans ?_
  refine (va_up_o (by decide)).trans ?_
  refine (va_up_o (by decide)).trans ?_
  refine (o_eTr0 (by decide)).trans ?_
  refine (va_up_o (by decide)).trans ?_
  refine (va_up_o (by decide)).trans ?_
  refine (va_up_o (by decide)).trans ?_
  refine (va_up_o (by decide)).trans ?_
  exact v_eRo_3
theorem v_eLo_4 : eLo q en 4 = (.inl (q.2.2.2 0, 10, .inl (fun _ => 0))) := by
  unfold eLo
  refine (va_up_o (by decide)).trans ?_
  refine (va_up_o (by decide)).trans ?_
  refine (va_up_o (by decide)).trans ?_
  refine (va_up_o (by decide)).trans ?_
  refine (va_up_o (by decide)).trans ?_
  refine (va_up_o (by decide)).trans ?_
  refine (va_up_o (by decide)).trans ?_
  refine (va_up_o (by decide)).trans ?_
  refine (va_up_o (by decide)).trans ?_
  refine (va_up_o (by decide)).trans ?_
  refine (va_up_o (by decide)).trans ?_
  refine (o_eFi (by decide)).trans ?_
  refine (va_up_o (by decide)).trans ?_
  refine (va_up_o (by decide)).trans ?_
  refine (o_eAx (by decide)).trans ?_
  refine (va_up_o (by decide)).trans ?_
  refine (va_up_o (by decide)).trans ?_
  refine (o_eBt (by decide)).trans ?_
  refine (va_up_o (by decide)).trans ?_
  refine (va_up_o (by decide)).trans ?_
  refine (o_eMk (by decide)).trans ?_
  refine (va_up_o (by decide)).trans ?_
  refine (va_up_o (by decide)).trans ?_
  refine (o_eTr3 (by decide)).trans ?_
  refine (va_up_o (by decide)).trans ?_
  refine (va_up_o (by decide)).trans ?_
  refine (o_eTr2 (by decide)).trans ?_
  refine (va_up_o (by decide)).trans ?_
  refine (va_up_o (by decide)).trans ?_
  refine (o_eTr1 (by decide)).trans ?_
  refine (va_up_o (by decide)).trans ?_
  refine (va_up_o (by decide)).trans ?_
  refine (o_eTr0 (by decide)).trans ?_
  refine (va_up_o (by decide)).trans ?_
  refine (va_up_o (by decide)).trans ?_
  refine (va_up_o (by decide)).trans ?_
  refine (va_up_o (by decide)).trans ?_
  exact v_eRo_4
theorem v_eLo_5 : eLo q en 5 = (.inl (q.2.2.2 0, 10, .inl (fun _ => 0))) := by
  unfold eLo
  refine (va_up_o (by decide)).trans ?_
  refine (va_up_o (by decide)).trans ?_
  refine (va_up_o (by decide)).trans ?_
  refine (va_up_o (by decide)).trans ?_
  refine (va_up_o (by decide)).trans ?_
  refine (va_up_o (by decide)).trans ?_
  refine (va_up_o (by decide)).trans ?_
  refine (va_up_o (by decide)).trans ?_
  refine (va_up_o (by decide)).trans ?_
  refine (va_up_o (by decide)).trans ?_
  refine (va_up_o (by decide)).trans ?_
  refine (o_eFi (by decide)).trans ?_
  refine (va_up_o (by decide)).trans ?_
  refine (va_up_o (by decide)).trans ?_
  refine (o_eAx (by decide)).trans ?_
  refine (va_up_o (by decide)).trans ?_
  refine (va_up_o (by decide)).trans ?_
  refine (o_eBt (by decide)).trans ?_
  refine (va_up_o (by decide)).trans ?_
  refine (va_up_o (by decide)).trans ?_
  refine (o_eMk (by decide)).trans ?_
  refine (va_up_o (by decide)).trans ?_
  refine (va_up_o (by decide)).trans ?_
  refine (o_eTr3 (by decide)).trans ?_
  refine (va_up_o (by decide)).trans ?_
  refine (va_up_o (by decide)).trans ?_
  refine (o_eTr2 (by decide)).trans ?_
  refine (va_up_o (by decide)).trans ?_
  refine (va_up_o (by decide)).trans ?_
  refine (o_eTr1 (by decide)).trans ?_
  refine (va_up_o (by decide)).trans ?_
  refine (va_up_o (by decide)).trans ?_
  refine (o_eTr0 (by decide)).trans ?_
  refine (va_up_o (by decide)).trans ?_
  refine (va_up_o (by decide)).trans ?_
  refine (va_up_o (by decide)).trans ?_
  refine (va_up_o (by decide)).trans ?_
  exact v_eRo_5
theorem v_eLo_6 : eLo q en 6 = (.inl (q.2.2.2 0, 10, .inl (fun _ => 0))) := by
  unfold eLo
  refine (va_up_o (by decide)).trans ?_
  refine (va_up_o (by decide)).trans ?_
  refine (va_up_o (by decide)).trans ?_
  refine (va_up_o (by decide)).trans ?_
  refine (va_up_o (by decide)).trans ?_
  refine (va_up_o (by decide)).trans ?_
  refine (va_up_o (by decide)).trans ?_
  refine (va_up_o (by decide)).trans ?_
  refine (va_up_o (by decide)).trans ?_
  refine (va_up_o (by decide)).trans ?_
  refine (va_up_o (by decide)).trans ?_
  refine (o_eFi (by decide)).trans ?_
  refine (va_up_o (by decide)).trans ?_
  refine (va_up_o (by decide)).trans ?_
  refine (o_eAx (by decide)).trans ?_
  refine (va_up_o (by decide)).trans ?_
  refine (va_up_o (by decide)).trans ?_
  refine (o_eBt (by decide)).trans ?_
  refine (va_up_o (by decide)).trans ?_
  refine (va_up_o (by decide)).trans ?_
  refine (o_eMk (by decide)).trans ?_
  refine (va_up_o (by decide)).trans ?_
  refine (va_up_o (by decide)).trans ?_
  refine (o_eTr3 (by decide)).trans ?_
  refine (va_up_o (by decide)).trans ?_
  refine (va_up_o (by decide)).trans ?_
  refine (o_eTr2 (by decide)).trans ?_
  refine (va_up_o (by decide)).trans ?_
  refine (va_up_o (by decide)).trans ?_
  refine (o_eTr1 (by decide)).trans ?_
  refine (va_up_o (by decide)).trans ?_
  refine (va_up_o (by decide)).trans ?_
  refine (o_eTr0 (by decide)).trans ?_
  refine (va_up_o (by decide)).trans ?_
  refine (va_up_o (by decide)).trans ?_
  refine (va_up_o (by decide)).trans ?_
  refine (va_up_o (by decide)).trans ?_
  exact v_eRo_6
theorem v_eLo_7 : eLo q en 7 = (.inl (q.2.2.2 0, 10, .inl (fun _ => 0))) := by
  unfold eLo
  refine (va_up_o (by decide)).trans ?_
  refine (va_up_o (by decide)).trans ?_
  refine (va_up_o (by decide)).trans ?_
  refine (va_up_o (by decide)).trans ?_
  refine (va_up_o (by decide)).trans ?_
  refine (va_up_o (by decide)).trans ?_
  refine (va_up_o (by decide)).trans ?_
  refine (va_up_o (by decide)).trans ?_
  refine (va_up_o (by decide)).trans ?_
  refine (va_up_o (by decide)).trans ?_
  refine (va_up_o (by decide)).trans ?_
  refine (o_eFi (by decide)).trans ?_
  refine (va_up_o (by decide)).trans ?_
  refine (va_up_o (by decide)).trans ?_
  refine (o_eAx (by decide)).trans ?_
  refine (va_up_o (by decide)).trans ?_
  refine (va_up_o (by decide)).trans ?_
  refine (o_eBt (by decide)).trans ?_
  refine (va_up_o (by decide)).trans ?_
  refine (va_up_o (by decide)).trans ?_
  refine (o_eMk (by decide)).trans ?_
  refine (va_up_o (by decide)).trans ?_
  refine (va_up_o (by decide)).trans ?_
  refine (o_eTr3 (by decide)).trans ?_
  refine (va_up_o (by decide)).trans ?_
  refine (va_up_o (by decide)).trans ?_
  refine (o_eTr2 (by decide)).trans ?_
  refine (va_up_o (by decide)).trans ?_
  refine (va_up_o (by decide)).trans ?_
  refine (o_eTr1 (by decide)).trans ?_
  refine (va_up_o (by decide)).trans ?_
  refine (va_up_o (by decide)).trans ?_
  refine (o_eTr0 (by decide)).trans ?_
  refine (va_up_o (by decide)).trans ?_
  refine (va_up_o (by decide)).trans ?_
  refine (va_up_o (by decide)).trans ?_
  refine (va_up_o (by decide)).trans ?_
  exact v_eRo_7
theorem v_eLo_8 : eLo q en 8 = (.inl (q.2.2.2 0, 10, .inl (fun _ => 0))) := by
  unfold eLo
  refine (va_up_o (by decide)).trans ?_
  refine (va_up_o (by decide)).trans ?_
  refine (va_up_o (by decide)).trans ?_
  refine (va_up_o (by decide)).trans ?_
  refine (va_up_o (by decide)).trans ?_
  refine (va_up_o (by decide)).trans ?_
  refine (va_up_o (by decide)).trans ?_
  refine (va_up_o (by decide)).trans ?_
  refine (va_up_o (by decide)).trans ?_
  refine (va_up_o (by decide)).trans ?_
  refine (va_up_o (by decide)).trans ?_
  refine (o_eFi (by decide)).trans ?_
  refine (va_up_o (by decide)).trans ?_
  refine (va_up_o (by decide)).trans ?_
  refine (o_eAx (by decide)).trans ?_
  refine (va_up_o (by decide)).trans ?_
  refine (va_up_o (by decide)).trans ?_
  refine (o_eBt (by decide)).trans ?_
  refine (va_up_o (by decide)).trans ?_
  refine (va_up_o (by decide)).trans ?_
  refine (o_eMk (by decide)).trans ?_
  refine (va_up_o (by decide)).trans ?_
  refine (va_up_o (by decide)).trans ?_
  refine (o_eTr3 (by decide)).trans ?_
  refine (va_up_o (by decide)).trans ?_
  refine (va_up_o (by decide)).trans ?_
  refine (o_eTr2 (by decide)).trans ?_
  refine (va_up_o (by decide)).trans ?_
  refine (va_up_o (by decide)).trans ?_
  refine (o_eTr1 (by decide)).trans ?_
  refine (va_up_o (by decide)).trans ?_
  refine (va_up_o (by decide)).trans ?_
  refine (o_eTr0 (by decide)).trans ?_
  refine (va_up_o (by decide)).trans ?_
  refine (va_up_o (by decide)).trans ?_
  refine (va_up_o (by decide)).trans ?_
  refine (va_up_o (by decide)).trans ?_
  exact v_eRo_8
theorem v_eLo_9 : eLo q en 9 = (.inl (q.2.2.2 0, 10, .inl (fun _ => 0))) := by
  unfold eLo
  refine (va_up_o (by decide)).trans ?_
  refine (va_up_o (by decide)).trans ?_
  refine (va_up_o (by decide)).trans ?_
  refine (va_up_o (by decide)).trans ?_
  refine (va_up_o (by decide)).trans ?_
  refine (va_up_o (by decide)).trans ?_
  refine (va_up_o (by decide)).trans ?_
  refine (va_up_o (by decide)).trans ?_
  refine (va_up_o (by decide)).trans ?_
  refine (va_up_o (by decide)).trans ?_
  refine (va_up_o (by decide)).trans ?_
  refine (o_eFi (by decide)).trans ?_
  refine (va_up_o (by decide)).trans ?_
  refine (va_up_o (by decide)).trans ?_
  refine (o_eAx (by decide)).trans ?_
  refine (va_up_o (by decide)).trans ?_
  refine (va_up_o (by decide)).trans ?_
  refine (o_eBt (by decide)).trans ?_
  refine (va_up_o (by decide)).trans ?_
  refine (va_up_o (by decide)).trans ?_
  refine (o_eMk (by decide)).trans ?_
  refine (va_up_o (by decide)).trans ?_
  refine (va_up_o (by decide)).trans ?_
  refine (o_eTr3 (by decide)).trans ?_
  refine (va_up_o (by decide)).trans ?_
  refine (va_up_o (by decide)).trans ?_
  refine (o_eTr2 (by decide)).trans ?_
  refine (va_up_o (by decide)).trans ?_
  refine (va_up_o (by decide)).trans ?_
  refine (o_eTr1 (by decide)).trans ?_
  refine (va_up_o (by decide)).trans ?_
  refine (va_up_o (by decide)).trans ?_
  refine (o_eTr0 (by decide)).trans ?_
  refine (va_up_o (by decide)).trans ?_
  refine (va_up_o (by decide)).trans ?_
  refine (va_up_o (by decide)).trans ?_
  refine (va_up_o (by decide)).trans ?_
  exact v_eRo_9
theorem v_eLo_10 : eLo q en 10 = (.inl (q.2.2.2 0, 10, .inl (fun _ => 0))) := by
  unfold eLo
  refine (va_up_o (by decide)).trans ?_
  refine (va_up_o (by decide)).trans ?_
  refine (va_up_o (by decide)).trans ?_
  refine (va_up_o (by decide)).trans ?_
  refine (va_up_o (by decide)).trans ?_
  refine (va_up_o (by decide)).trans ?_
  refine (va_up_o (by decide)).trans ?_
  refine (va_up_o (by decide)).trans ?_
  refine (va_up_o (by decide)).trans ?_
  refine (va_up_o (by decide)).trans ?_
  refine (va_up_o (by decide)).trans ?_
  refine (o_eFi (by decide)).trans ?_
  refine (va_up_o (by decide)).trans ?_
  refine (va_up_o (by decide)).trans ?_
  refine (o_eAx (by decide)).trans ?_
  refine (va_up_o (by decide)).trans ?_
  refine (va_up_o (by decide)).trans ?_
  refine (o_eBt (by decide)).trans ?_
  refine (va_up_o (by decide)).trans ?_
  refine (va_up_o (by decide)).trans ?_
  refine (o_eMk (by decide)).trans ?_
  refine (va_up_o (by decide)).trans ?_
  refine (va_up_o (by decide)).trans ?_
  refine (o_eTr3 (by decide)).trans ?_
  refine (va_up_o (by decide)).trans ?_
  refine (va_up_o (by decide)).trans ?_
  refine (o_eTr2 (by decide)).trans ?_
  refine (va_up_o (by decide)).trans ?_
  refine (va_up_o (by decide)).trans ?_
  refine (o_eTr1 (by decide)).trans ?_
  refine (va_up_o (by decide)).trans ?_
  refine (va_up_o (by decide)).trans ?_
  refine (o_eTr0 (by decide)).trans ?_
  refine (va_up_o (by decide)).trans ?_
  refine (va_up_o (by decide)).trans ?_
  refine (va_up_o (by decide)).trans ?_
  refine (va_up_o (by decide)).trans ?_
  exact v_eRo_10
theorem v_eLo_11 : eLo q en 11 = (.inl (q.2.2.2 0, 10, .inl (fun _ => 0))) := by
  unfold eLo
  refine (va_up_o (by decide)).trans ?_
  refine (va_up_o (by decide)).trans ?_
  refine (va_up_o (by decide)).trans ?_
  refine (va_up_o (by decide)).trans ?_
  refine (va_up_o (by decide)).trans ?_
  refine (va_up_o (by decide)).trans ?_
  refine (va_up_o (by decide)).trans ?_
  refine (va_up_o (by decide)).trans ?_
  refine (va_up_o (by decide)).trans ?_
  refine (va_up_o (by decide)).trans ?_
  refine (va_up_o (by decide)).trans ?_
  refine (o_eFi (by decide)).trans ?_
  refine (va_up_o (by decide)).trans ?_
  refine (va_up_o (by decide)).trans ?_
  refine (o_eAx (by decide)).trans ?_
  refine (va_up_o (by decide)).trans ?_
  refine (va_up_o (by decide)).trans ?_
  refine (o_eBt (by decide)).trans ?_
  refine (va_up_o (by decide)).trans ?_
  refine (va_up_o (by decide)).trans ?_
  refine (o_eMk (by decide)).trans ?_
  refine (va_up_o (by decide)).trans ?_
  refine (va_up_o (by decide)).trans ?_
  refine (o_eTr3 (by decide)).trans ?_
  refine (va_up_o (by decide)).trans ?_
  refine (va_up_o (by decide)).trans ?_
  refine (o_eTr2 (by decide)).trans ?_
  refine (va_up_o (by decide)).trans ?_
  refine (va_up_o (by decide)).trans ?_
  refine (o_eTr1 (by decide)).trans ?_
  refine (va_up_o (by decide)).trans ?_
  refine (va_up_o (by decide)).trans ?_
  refine (o_eTr0 (by decide)).trans ?_
  refine (va_up_o (by decide)).trans ?_
  refine (va_up_o (by decide)).trans ?_
  refine (va_up_o (by decide)).trans ?_
  refine (va_up_o (by decide)).trans ?_
  exact v_eRo_11
theorem v_eLo_12 : eLo q en 12 = (.inl (q.2.2.2 0, 10, .inl (fun _ => 0))) := by
  unfold eLo
  refine (va_up_o (by decide)).trans ?_
  refine (va_up_o (by decide)).trans ?_
  refine (va_up_o (by decide)).trans ?_
  refine (va_up_o (by decide)).trans ?_
  refine (va_up_o (by decide)).trans ?_
  refine (va_up_o (by decide)).trans ?_
  refine (va_up_o (by decide)).trans ?_
  refine (va_up_o (by decide)).trans ?_
  refine (va_up_o (by decide)).trans ?_
  refine (va_up_o (by decide)).trans ?_
  refine (va_up_o (by decide)).trans ?_
  refine (o_eFi (by decide)).trans ?_
  refine (va_up_o (by decide)).trans ?_
  refine (va_up_o (by decide)).trans ?_
  refine (o_eAx (by decide)).trans ?_
  refine (va_up_o (by decide)).trans ?_
  refine (va_up_o (by decide)).trans ?_
  refine (o_eBt (by decide)).trans ?_
  refine (va_up_o (by decide)).trans ?_
  refine (va_up_o (by decide)).trans ?_
  refine (o_eMk (by decide)).trans ?_
  refine (va_up_o (by decide)).trans ?_
  refine (va_up_o (by decide)).trans ?_
  refine (o_eTr3 (by decide)).trans ?_
  refine (va_up_o (by decide)).trans ?_
  refine (va_up_o (by decide)).trans ?_
  refine (o_eTr2 (by decide)).trans ?_
  refine (va_up_o (by decide)).trans ?_
  refine (va_up_o (by decide)).trans ?_
  refine (o_eTr1 (by decide)).trans ?_
  refine (va_up_o (by decide)).trans ?_
  refine (va_up_o (by decide)).trans ?_
  refine (o_eTr0 (by decide)).trans ?_
  refine (va_up_o (by decide)).trans ?_
  refine (va_up_o (by decide)).trans ?_
  refine (va_up_o (by decide)).trans ?_
  refine (va_up_o (by decide)).trans ?_
  exact v_eRo_12
theorem v_eLo_13 : eLo q en 13 = (.inl (q.2.2.2 1, 10, .inl (fun _ => 0))) := by
  unfold eLo
  refine (va_up_o (by decide)).trans ?_
  refine (va_up_o (by decide)).trans ?_
  refine (va_up_o (by decide)).trans ?_
  refine (va_up_o (by decide)).trans ?_
  refine (va_up_o (by decide)).trans ?_
  refine (va_up_o (by decide)).trans ?_
  refine (va_up_o (by decide)).trans ?_
  refine (va_up_o (by decide)).trans ?_
  refine (va_up_o (by decide)).trans ?_
  refine (va_up_o (by decide)).trans ?_
  refine (va_up_o (by decide)).trans ?_
  refine (o_eFi (by decide)).trans ?_
  refine (va_up_o (by decide)).trans ?_
  refine (va_up_o (by decide)).trans ?_
  refine (o_eAx (by decide)).trans ?_
  refine (va_up_o (by decide)).trans ?_
  refine (va_up_o (by decide)).trans ?_
  refine (o_eBt (by decide)).trans ?_
  refine (va_up_o (by decide)).trans ?_
  refine (va_up_o (by decide)).trans ?_
  refine (o_eMk (by decide)).trans ?_
  refine (va_up_o (by decide)).trans ?_
  refine (va_up_o (by decide)).trans ?_
  refine (o_eTr3 (by decide)).trans ?_
  refine (va_up_o (by decide)).trans ?_
  refine (va_up_o (by decide)).trans ?_
  refine (o_eTr2 (by decide)).trans ?_
  refine (va_up_o (by decide)).trans ?_
  refine (va_up_o (by decide)).trans ?_
  refine (o_eTr1 (by decide)).trans ?_
  refine (va_up_o (by decide)).trans ?_
  refine (va_up_o (by decide)).trans ?_
  refine (o_eTr0 (by decide)).trans ?_
  refine (va_up_o (by decide)).trans ?_
  refine (va_up_o (by decide)).trans ?_
  refine (va_up_o (by decide)).trans ?_
  refine (va_up_o (by decide)).trans ?_
  exact v_eRo_13
theorem v_eLo_14 : eLo q en 14 = (.inl (q.2.2.2 3, 4, .inr (.inr (.inr (.inr (va_up (va_up (va_up (va_up (fun _ => none) 0 (some (q.2.2.1 + 15))) 1 (some (q.2.2.1 + 27))) 2 (some (q.2.2.1 + 39))) 3 (some (q.2.2.1 + 51)))))))) := by
  unfold eLo
  refine (va_up_o (by decide)).trans ?_
  refine (va_up_o (by decide)).trans ?_
  refine (va_up_o (by decide)).trans ?_
  refine (va_up_o (by decide)).trans ?_
  refine (va_up_o (by decide)).trans ?_
  refine (va_up_o (by decide)).trans ?_
  refine (va_up_o (by decide)).trans ?_
  refine (va_up_o (by decide)).trans ?_
  refine (va_up_o (by decide)).trans ?_
  refine (va_up_o (by decide)).trans ?_
  refine (va_up_o (by decide)).trans ?_
  refine (o_eFi (by decide)).trans ?_
  refine (va_up_o (by decide)).trans ?_
  refine (va_up_o (by decide)).trans ?_
  refine (o_eAx (by decide)).trans ?_
  refine (va_up_o (by decide)).trans ?_
  refine (va_up_o (by decide)).trans ?_
  refine (o_eBt (by decide)).trans ?_
  refine (va_up_o (by decide)).trans ?_
  refine (va_up_o (by decide)).trans ?_
  refine (o_eMk (by decide)).trans ?_
  refine (va_up_o (by decide)).trans ?_
  exact va_up_s
theorem v_eLo_15 : eLo q en 15 = (.inr (5, [.ref (q.2.2.1 + 16), .ref (q.2.2.1 + 17), .ref (q.2.2.1 + 18), .ref (q.2.2.1 + 19), .ref (q.2.2.1 + 20), .ref (q.2.2.1 + 21), .ref (q.2.2.1 + 22), .ref (q.2.2.1 + 23), .ref (q.2.2.1 + 24), .ref (q.2.2.1 + 25), .ref (q.2.2.1 + 26), .int 0, .int 0, .int 0])) := by
  unfold eLo
  refine (va_up_o (by decide)).trans ?_
  refine (va_up_o (by decide)).trans ?_
  refine (va_up_o (by decide)).trans ?_
  refine (va_up_o (by decide)).trans ?_
  refine (va_up_o (by decide)).trans ?_
  refine (va_up_o (by decide)).trans ?_
  refine (va_up_o (by decide)).trans ?_
  refine (va_up_o (by decide)).trans ?_
  refine (va_up_o (by decide)).trans ?_
  refine (va_up_o (by decide)).trans ?_
  refine (va_up_o (by decide)).trans ?_
  refine (o_eFi (by decide)).trans ?_
  refine (va_up_o (by decide)).trans ?_
  refine (va_up_o (by decide)).trans ?_
  refine (o_eAx (by decide)).trans ?_
  refine (va_up_o (by decide)).trans ?_
  refine (va_up_o (by decide)).trans ?_
  refine (o_eBt (by decide)).trans ?_
  refine (va_up_o (by decide)).trans ?_
  refine (va_up_o (by decide)).trans ?_
  refine (o_eMk (by decide)).trans ?_
  refine (va_up_o (by decide)).trans ?_
  refine (va_up_o (by decide)).trans ?_
  refine (o_eTr3 (by decide)).trans ?_
  refine (va_up_o (by decide)).trans ?_
  refine (va_up_o (by decide)).trans ?_
  refine (o_eTr2 (by decide)).trans ?_
  refine (va_up_o (by decide)).trans ?_
  refine (va_up_o (by decide)).trans ?_
  refine (o_eTr1 (by decide)).trans ?_
  refine (va_up_o (by decide)).trans ?_
  refine (va_up_o (by decide)).trans ?_
  exact v_eTr0_15
theorem v_eLo_16 : eLo q en 16 = (.inl (q.2.2.2 0, 19, .inl (fun _ => 0))) := by
  unfold eLo
  refine (va_up_o (by decide)).trans ?_
  refine (va_up_o (by decide)).trans ?_
  refine (va_up_o (by decide)).trans ?_
  refine (va_up_o (by decide)).trans ?_
  refine (va_up_o (by decide)).trans ?_
  refine (va_up_o (by decide)).trans ?_
  refine (va_up_o (by decide)).trans ?_
  refine (va_up_o (by decide)).trans ?_
  refine (va_up_o (by decide)).trans ?_
  refine (va_up_o (by decide)).trans ?_
  refine (va_up_o (by decide)).trans ?_
  refine (o_eFi (by decide)).trans ?_
  refine (va_up_o (by decide)).trans ?_
  refine (va_up_o (by decide)).trans ?_
  refine (o_eAx (by decide)).trans ?_
  refine (va_up_o (by decide)).trans ?_
  refine (va_up_o (by decide)).trans ?_
  refine (o_eBt (by decide)).trans ?_
  refine (va_up_o (by decide)).trans ?_
  refine (va_up_o (by decide)).trans ?_
  refine (o_eMk (by decide)).trans ?_
  refine (va_up_o (by decide)).trans ?_
  refine (va_up_o (by decide)).trans ?_
  refine (o_eTr3 (by decide)).trans ?_
  refine (va_up_o (by decide)).trans ?_
  refine (va_up_o (by decide)).trans ?_
  refine (o_eTr2 (by decide)).trans ?_
  refine (va_up_o (by decide)).trans ?_
  refine (va_up_o (by decide)).trans ?_
  refine (o_eTr1 (by decide)).trans ?_
  refine (va_up_o (by decide)).trans ?_
  refine (va_up_o (by decide)).trans ?_
  exact v_eTr0_16
theorem v_eLo_17 : eLo q en 17 = (.inl (q.2.2.2 0, 19, .inl (fun _ => 0))) := by
  unfold eLo
  refine (va_up_o (by decide)).trans ?_
  refine (va_up_o (by decide)).trans ?_
  refine (va_up_o (by decide)).trans ?_
  refine (va_up_o (by decide)).trans ?_
  refine (va_up_o (by decide)).trans ?_
  refine (va_up_o (by decide)).trans ?_
  refine (va_up_o (by decide)).trans ?_
  refine (va_up_o (by decide)).trans ?_
  refine (va_up_o (by decide)).trans ?_
  refine (va_up_o (by decide)).trans ?_
  refine (va_up_o (by decide)).trans ?_
  refine (o_eFi (by decide)).trans ?_
  refine (va_up_o (by decide)).trans ?_
  refine (va_up_o (by decide)).trans ?_
  refine (o_eAx (by decide)).trans ?_
  refine (va_up_o (by decide)).trans ?_
  refine (va_up_o (by decide)).trans ?_
  refine (o_eBt (by decide)).trans ?_
  refine (va_up_o (by decide)).trans ?_
  refine (va_up_o (by decide)).trans ?_
  refine (o_eMk (by decide)).trans ?_
  refine (va_up_o (by decide)).trans ?_
  refine (va_up_o (by decide)).trans ?_
  refine (o_eTr3 (by decide)).trans ?_
  refine (va_up_o (by decide)).trans ?_
  refine (va_up_o (by decide)).trans ?_
  refine (o_eTr2 (by decide)).trans ?_
  refine (va_up_o (by decide)).trans ?_
  refine (va_up_o (by decide)).trans ?_
  refine (o_eTr1 (by decide)).trans ?_
  refine (va_up_o (by decide)).trans ?_
  refine (va_up_o (by decide)).trans ?_
  exact v_eTr0_17
theorem v_eLo_18 : eLo q en 18 = (.inl (q.2.2.2 0, 19, .inl (fun _ => 0))) := by
  unfold eLo
  refine (va_up_o (by decide)).trans ?_
  refine (va_up_o (by decide)).trans ?_
  refine (va_up_o (by decide)).trans ?_
  refine (va_up_o (by decide)).trans ?_
  refine (va_up_o (by decide)).trans ?_
  refine (va_up_o (by decide)).trans ?_
  refine (va_up_o (by decide)).trans ?_
  refine (va_up_o (by decide)).trans ?_
  refine (va_up_o (by decide)).trans ?_
  refine (va_up_o (by decide)).trans ?_
  refine (va_up_o (by decide)).trans ?_
  refine (o_eFi (by decide)).trans ?_
  refine (va_up_o (by decide)).trans ?_
  refine (va_up_o (by decide)).trans ?_
  refine (o_eAx (by decide)).trans ?_
  refine (va_up_o (by decide)).trans ?_
  refine (va_up_o (by decide)).trans ?_
  refine (o_eBt (by decide)).trans ?_
  refine (va_up_o (by decide)).trans ?_
  refine (va_up_o (by decide)).trans ?_
  refine (o_eMk (by decide)).trans ?_
  refine (va_up_o (by decide)).trans ?_
  refine (va_up_o (by decide)).trans ?_
  refine (o_eTr3 (by decide)).trans ?_
  refine (va_up_o (by decide)).trans ?_
  refine (va_up_o (by decide)).trans ?_
  refine (o_eTr2 (by decide)).trans ?_
  refine (va_up_o (by decide)).trans ?_
  refine (va_up_o (by decide)).trans ?_
  refine (o_eTr1 (by decide)).trans ?_
  refine (va_up_o (by decide)).trans ?_
  refine (va_up_o (by decide)).trans ?_
  exact v_eTr0_18
theorem v_eLo_19 : eLo q en 19 = (.inl (q.2.2.2 0, 19, .inl (fun _ => 0))) := by
  unfold eLo
  refine (va_up_o (by decide)).trans ?_
  refine (va_up_o (by decide)).trans ?_
  refine (va_up_o (by decide)).trans ?_
  refine (va_up_o (by decide)).trans ?_
  refine (va_up_o (by decide)).trans ?_
  refine (va_up_o (by decide)).trans ?_
  refine (va_up_o (by decide)).trans ?_
  refine (va_up_o (by decide)).trans ?_
  refine (va_up_o (by decide)).trans ?_
  refine (va_up_o (by decide)).trans ?_
  refine (va_up_o (by decide)).trans ?_
  refine (o_eFi (by decide)).trans ?_
  refine (va_up_o (by decide)).trans ?_
  refine (va_up_o (by decide)).trans ?_
  refine (o_eAx (by decide)).trans ?_
  refine (va_up_o (by decide)).trans ?_
  refine (va_up_o (by decide)).trans ?_
  refine (o_eBt (by decide)).trans ?_
  refine (va_up_o (by decide)).trans ?_
  refine (va_up_o (by decide)).trans ?_
  refine (o_eMk (by decide)).trans ?_
  refine (va_up_o (by decide)).trans ?_
  refine (va_up_o (by decide)).trans ?_
  refine (o_eTr3 (by decide)).trans ?_
  refine (va_up_o (by decide)).trans ?_
  refine (va_up_o (by decide)).trans ?_
  refine (o_eTr2 (by decide)).trans ?_
  refine (va_up_o (by decide)).trans ?_
  refine (va_up_o (by decide)).trans ?_
  refine (o_eTr1 (by decide)).trans ?_
  refine (va_up_o (by decide)).trans ?_
  refine (va_up_o (by decide)).trans ?_
  exact v_eTr0_19
theorem v_eLo_20 : eLo q en 20 = (.inl (q.2.2.2 0, 19, .inl (fun _ => 0))) := by
  unfold eLo
  refine (va_up_o (by decide)).trans ?_
  refine (va_up_o (by decide)).trans ?_
  refine (va_up_o (by decide)).trans ?_
  refine (va_up_o (by decide)).trans ?_
  refine (va_up_o (by decide)).trans ?_
  refine (va_up_o (by decide)).trans ?_
  refine (va_up_o (by decide)).trans ?_
  refine (va_up_o (by decide)).trans ?_
  refine (va_up_o (by decide)).trans ?_
  refine (va_up_o (by decide)).trans ?_
  refine (va_up_o (by decide)).trans ?_
  refine (o_eFi (by decide)).trans ?_
  refine (va_up_o (by decide)).trans ?_
  refine (va_up_o (by decide)).trans ?_
  refine (o_eAx (by decide)).trans ?_
  refine (va_up_o (by decide)).trans ?_
  refine (va_up_o (by decide)).trans ?_
  refine (o_eBt (by decide)).trans ?_
  refine (va_up_o (by decide)).trans ?_
  refine (va_up_o (by decide)).trans ?_
  refine (o_eMk (by decide)).trans ?_
  refine (va_up_o (by decide)).trans ?_
  refine (va_up_o (by decide)).trans ?_
  refine (o_eTr3 (by decide)).trans ?_
  refine (va_up_o (by decide)).trans ?_
  refine (va_up_o (by decide)).trans ?_
  refine (o_eTr2 (by decide)).trans ?_
  refine (va_up_o (by decide)).trans ?_
  refine (va_up_o (by decide)).trans ?_
  refine (o_eTr1 (by decide)).trans ?_
  refine (va_up_o (by decide)).trans ?_
  refine (va_up_o (by decide)).trans ?_
  exact v_eTr0_20
theorem v_eLo_21 : eLo q en 21 = (.inl (q.2.2.2 0, 19, .inl (fun _ => 0))) := by
  unfold eLo
  refine (va_up_o (by decide)).trans ?_
  refine (va_up_o (by decide)).trans ?_
  refine (va_up_o (by decide)).trans ?_
  refine (va_up_o (by decide)).trans ?_
  refine (va_up_o (by decide)).trans ?_
  refine (va_up_o (by decide)).trans ?_
  refine (va_up_o (by decide)).trans ?_
  refine (va_up_o (by decide)).trans ?_
  refine (va_up_o (by decide)).trans ?_
  refine (va_up_o (by decide)).trans ?_
  refine (va_up_o (by decide)).trans ?_
  refine (o_eFi (by decide)).trans ?_
  refine (va_up_o (by decide)).trans ?_
  refine (va_up_o (by decide)).trans ?_
  refine (o_eAx (by decide)).trans ?_
  refine (va_up_o (by decide)).trans ?_
  refine (va_up_o (by decide)).trans ?_
  refine (o_eBt (by decide)).trans ?_
  refine (va_up_o (by decide)).trans ?_
  refine (va_up_o (by decide)).trans ?_
  refine (o_eMk (by decide)).trans ?_
  refine (va_up_o (by decide)).trans ?_
  refine (va_up_o (by decide)).trans ?_
  refine (o_eTr3 (by decide)).trans ?_
  refine (va_up_o (by decide)).trans ?_
  refine (va_up_o (by decide)).trans ?_
  refine (o_eTr2 (by decide)).trans ?_
  refine (va_up_o (by decide)).trans ?_
  refine (va_up_o (by decide)).trans ?_
  refine (o_eTr1 (by decide)).trans ?_
  refine (va_up_o (by decide)).trans ?_
  refine (va_up_o (by decide)).trans ?_
  exact v_eTr0_21
theorem v_eLo_22 : eLo q en 22 = (.inl (q.2.2.2 0, 19, .inl (fun _ => 0))) := by
  unfold eLo
  refine (va_up_o (by decide)).trans ?_
  refine (va_up_o (by decide)).trans ?_
  refine (va_up_o (by decide)).trans ?_
  refine (va_up_o (by decide)).trans ?_
  refine (va_up_o (by decide)).trans ?_
  refine (va_up_o (by decide)).trans ?_
  refine (va_up_o (by decide)).trans ?_
  refine (va_up_o (by decide)).trans ?_
  refine (va_up_o (by decide)).trans ?_
  refine (va_up_o (by decide)).trans ?_
  refine (va_up_o (by decide)).trans ?_
  refine (o_eFi (by decide)).trans ?_
  refine (va_up_o (by decide)).trans ?_
  refine (va_up_o (by decide)).trans ?_
  refine (o_eAx (by decide)).trans ?_
  refine (va_up_o (by decide)).trans ?_
  refine (va_up_o (by decide)).trans ?_
  refine (o_eBt (by decide)).trans ?_
  refine (va_up_o (by decide)).trans ?_
  refine (va_up_o (by decide)).trans ?_
  refine (o_eMk (by decide)).trans ?_
  refine (va_up_o (by decide)).trans ?_
  refine (va_up_o (by decide)).trans ?_
  refine (o_eTr3 (by decide)).trans ?_
  refine (va_up_o (by decide)).trans ?_
  refine (va_up_o (by decide)).trans ?_
  refine (o_eTr2 (by decide)).trans ?_
  refine (va_up_o (by decide)).trans ?_
  refine (va_up_o (by decide)).trans ?_
  refine (o_eTr1 (by decide)).trans ?_
  refine (va_up_o (by decide)).trans ?_
  refine (va_up_o (by decide)).trans ?_
  exact v_eTr0_22
theorem v_eLo_23 : eLo q en 23 = (.inl (q.2.2.2 1, 19, .inl (fun _ => 0))) := by
  unfold eLo
  refine (va_up_o (by decide)).trans ?_
  refine (va_up_o (by decide)).trans ?_
  refine (va_up_o (by decide)).trans ?_
  refine (va_up_o (by decide)).trans ?_
  refine (va_up_o (by decide)).trans ?_
  refine (va_up_o (by decide)).trans ?_
  refine (va_up_o (by decide)).trans ?_
  refine (va_up_o (by decide)).trans ?_
  refine (va_up_o (by decide)).trans ?_
  refine (va_up_o (by decide)).trans ?_
  refine (va_up_o (by decide)).trans ?_
  refine (o_eFi (by decide)).trans ?_
  refine (va_up_o (by decide)).trans ?_
  refine (va_up_o (by decide)).trans ?_
  refine (o_eAx (by decide)).trans ?_
  refine (va_up_o (by decide)).trans ?_
  refine (va_up_o (by decide)).trans ?_
  refine (o_eBt (by decide)).trans ?_
  refine (va_up_o (by decide)).trans ?_
  refine (va_up_o (by decide)).trans ?_
  refine (o_eMk (by decide)).trans ?_
  refine (va_up_o (by decide)).trans ?_
  refine (va_up_o (by decide)).trans ?_
  refine (o_eTr3 (by decide)).trans ?_
  refine (va_up_o (by decide)).trans ?_
  refine (va_up_o (by decide)).trans ?_
  refine (o_eTr2 (by decide)).trans ?_
  refine (va_up_o (by decide)).trans ?_
  refine (va_up_o (by decide)).trans ?_
  refine (o_eTr1 (by decide)).trans ?_
  refine (va_up_o (by decide)).trans ?_
  refine (va_up_o (by decide)).trans ?_
  exact v_eTr0_23
theorem v_eLo_24 : eLo q en 24 = (.inl (q.2.2.2 0, 19, .inl (fun _ => 0))) := by
  unfold eLo
  refine (va_up_o (by decide)).trans ?_
  refine (va_up_o (by decide)).trans ?_
  refine (va_up_o (by decide)).trans ?_
  refine (va_up_o (by decide)).trans ?_
  refine (va_up_o (by decide)).trans ?_
  refine (va_up_o (by decide)).trans ?_
  refine (va_up_o (by decide)).trans ?_
  refine (va_up_o (by decide)).trans ?_
  refine (va_up_o (by decide)).trans ?_
  refine (va_up_o (by decide)).trans ?_
  refine (va_up_o (by decide)).trans ?_
  refine (o_eFi (by decide)).trans ?_
  refine (va_up_o (by decide)).trans ?_
  refine (va_up_o (by decide)).trans ?_
  refine (o_eAx (by decide)).trans ?_
  refine (va_up_o (by decide)).trans ?_
  refine (va_up_o (by decide)).trans ?_
  refine (o_eBt (by decide)).trans ?_
  refine (va_up_o (by decide)).trans ?_
  refine (va_up_o (by decide)).trans ?_
  refine (o_eMk (by decide)).trans ?_
  refine (va_up_o (by decide)).trans ?_
  refine (va_up_o (by decide)).trans ?_
  refine (o_eTr3 (by decide)).trans ?_
  refine (va_up_o (by decide)).trans ?_
  refine (va_up_o (by decide)).trans ?_
  refine (o_eTr2 (by decide)).trans ?_
  refine (va_up_o (by decide)).trans ?_
  refine (va_up_o (by decide)).trans ?_
  refine (o_eTr1 (by decide)).trans ?_
  refine (va_up_o (by decide)).trans ?_
  refine (va_up_o (by decide)).trans ?_
  exact v_eTr0_24
theorem v_eLo_25 : eLo q en 25 = (.inl (q.2.2.2 0, 10, .inl (fun _ => 0))) := by
  unfold eLo
  refine (va_up_o (by decide)).trans ?_
  refine (va_up_o (by decide)).trans ?_
  refine (va_up_o (by decide)).trans ?_
  refine (va_up_o (by decide)).trans ?_
  refine (va_up_o (by decide)).trans ?_
  refine (va_up_o (by decide)).trans ?_
  refine (va_up_o (by decide)).trans ?_
  refine (va_up_o (by decide)).trans ?_
  refine (va_up_o (by decide)).trans ?_
  refine (va_up_o (by decide)).trans ?_
  refine (va_up_o (by decide)).trans ?_
  refine (o_eFi (by decide)).trans ?_
  refine (va_up_o (by decide)).trans ?_
  refine (va_up_o (by decide)).trans ?_
  refine (o_eAx (by decide)).trans ?_
  refine (va_up_o (by decide)).trans ?_
  refine (va_up_o (by decide)).trans ?_
  refine (o_eBt (by decide)).trans ?_
  refine (va_up_o (by decide)).trans ?_
  refine (va_up_o (by decide)).trans ?_
  refine (o_eMk (by decide)).trans ?_
  refine (va_up_o (by decide)).trans ?_
  refine (va_up_o (by decide)).trans ?_
  refine (o_eTr3 (by decide)).trans ?_
  refine (va_up_o (by decide)).trans ?_
  refine (va_up_o (by decide)).trans ?_
  refine (o_eTr2 (by decide)).trans ?_
  refine (va_up_o (by decide)).trans ?_
  refine (va_up_o (by decide)).trans ?_
  refine (o_eTr1 (by decide)).trans ?_
  refine (va_up_o (by decide)).trans ?_
  refine (va_up_o (by decide)).trans ?_
  exact v_eTr0_25
theorem v_eLo_26 : eLo q en 26 = (.inl (q.2.2.2 0, 19, .inl (fun _ => 0))) := by
  unfold eLo
  refine (va_up_o (by decide)).trans ?_
  refine (va_up_o (by decide)).trans ?_
  refine (va_up_o (by decide)).trans ?_
  refine (va_up_o (by decide)).trans ?_
  refine (va_up_o (by decide)).trans ?_
  refine (va_up_o (by decide)).trans ?_
  refine (va_up_o (by decide)).trans ?_
  refine (va_up_o (by decide)).trans ?_
  refine (va_up_o (by decide)).trans ?_
  refine (va_up_o (by decide)).trans ?_
  refine (va_up_o (by decide)).trans ?_
  refine (o_eFi (by decide)).trans ?_
  refine (va_up_o (by decide)).trans ?_
  refine (va_up_o (by decide)).trans ?_
  refine (o_eAx (by decide)).trans ?_
  refine (va_up_o (by decide)).trans ?_
  refine (va_up_o (by decide)).trans ?_
  refine (o_eBt (by decide)).trans ?_
  refine (va_up_o (by decide)).trans ?_
  refine (va_up_o (by decide)).trans ?_
  refine (o_eMk (by decide)).trans ?_
  refine (va_up_o (by decide)).trans ?_
  refine (va_up_o (by decide)).trans ?_
  refine (o_eTr3 (by decide)).trans ?_
  refine (va_up_o (by decide)).trans ?_
  refine (va_up_o (by decide)).trans ?_
  refine (o_eTr2 (by decide)).trans ?_
  refine (va_up_o (by decide)).trans ?_
  refine (va_up_o (by decide)).trans ?_
  refine (o_eTr1 (by decide)).trans ?_
  refine (va_up_o (by decide)).trans ?_
  refine (va_up_o (by decide)).trans ?_
  exact v_eTr0_26
theorem v_eLo_27 : eLo q en 27 = (.inr (5, [.ref (q.2.2.1 + 28), .ref (q.2.2.1 + 29), .ref (q.2.2.1 + 30), .ref (q.2.2.1 + 31), .ref (q.2.2.1 + 32), .ref (q.2.2.1 + 33), .ref (q.2.2.1 + 34), .ref (q.2.2.1 + 35), .ref (q.2.2.1 + 36), .ref (q.2.2.1 + 37), .ref (q.2.2.1 + 38), .int 0, .int 0, .int 0])) := by
  unfold eLo
  refine (va_up_o (by decide)).trans ?_
  refine (va_up_o (by decide)).trans ?_
  refine (va_up_o (by decide)).trans ?_
  refine (va_up_o (by decide)).trans ?_
  refine (va_up_o (by decide)).trans ?_
  refine (va_up_o (by decide)).trans ?_
  refine (va_up_o (by decide)).trans ?_
  refine (va_up_o (by decide)).trans ?_
  refine (va_up_o (by decide)).trans ?_
  refine (va_up_o (by decide)).trans ?_
  refine (va_up_o (by decide)).trans ?_
  refine (o_eFi (by decide)).trans ?_
  refine (va_up_o (by decide)).trans ?_
  refine (va_up_o (by decide)).trans ?_
  refine (o_eAx (by decide)).trans ?_
  refine (va_up_o (by decide)).trans ?_
  refine (va_up_o (by decide)).trans ?_
  refine (o_eBt (by decide)).trans ?_
  refine (va_up_o (by decide)).trans ?_
  refine (va_up_o (by decide)).trans ?_
  refine (o_eMk (by decide)).trans ?_
  refine (va_up_o (by decide)).trans ?_
  refine (va_up_o (by decide)).trans ?_
  refine (o_eTr3 (by decide)).trans ?_
  refine (va_up_o (by decide)).trans ?_
  refine (va_up_o (by decide)).trans ?_
  refine (o_eTr2 (by decide)).trans ?_
  refine (va_up_o (by decide)).trans ?_
  refine (va_up_o (by decide)).trans ?_
  exact v_eTr1_27
theorem v_eLo_28 : eLo q en 28 = (.inl (q.2.2.2 0, 19, .inl (fun _ => 0))) := by
  unfold eLo
  refine (va_up_o (by decide)).trans ?_
  refine (va_up_o (by decide)).trans ?_
  refine (va_up_o (by decide)).trans ?_
  refine (va_up_o (by decide)).trans ?_
  refine (va_up_o (by decide)).trans ?_
  refine (va_up_o (by decide)).trans ?_
  refine (va_up_o (by decide)).trans ?_
  refine (va_up_o (by decide)).trans ?_
  refine (va_up_o (by decide)).trans ?_
  refine (va_up_o (by decide)).trans ?_
  refine (va_up_o (by decide)).trans ?_
  refine (o_eFi (by decide)).trans ?_
  refine (va_up_o (by decide)).trans ?_
  refine (va_up_o (by decide)).trans ?_
  refine (o_eAx (by decide)).trans ?_
  refine (va_up_o (by decide)).trans ?_
  refine (va_up_o (by decide)).trans ?_
  refine (o_eBt (by decide)).trans ?_
  refine (va_up_o (by decide)).trans ?_
  refine (va_up_o (by decide)).trans ?_
  refine (o_eMk (by decide)).trans ?_
  refine (va_up_o (by decide)).trans ?_
  refine (va_up_o (by decide)).trans ?_
  refine (o_eTr3 (by decide)).trans ?_
  refine (va_up_o (by decide)).trans ?_
  refine (va_up_o (by decide)).trans ?_
  refine (o_eTr2 (by decide)).trans ?_
  refine (va_up_o (by decide)).trans ?_
  refine (va_up_o (by decide)).trans ?_
  exact v_eTr1_28
theorem v_eLo_29 : eLo q en 29 = (.inl (q.2.2.2 0, 19, .inl (fun _ => 0))) := by
  unfold eLo
  refine (va_up_o (by decide)).trans ?_
  refine (va_up_o (by decide)).trans ?_
  refine (va_up_o (by decide)).trans ?_
  refine (va_up_o (by decide)).trans ?_
  refine (va_up_o (by decide)).trans ?_
  refine (va_up_o (by decide)).trans ?_
  refine (va_up_o (by decide)).trans ?_
  refine (va_up_o (by decide)).trans ?_
  refine (va_up_o (by decide)).trans ?_
  refine (va_up_o (by decide)).trans ?_
  refine (va_up_o (by decide)).trans ?_
  refine (o_eFi (by decide)).trans ?_
  refine (va_up_o (by decide)).trans ?_
  refine (va_up_o (by decide)).trans ?_
  refine (o_eAx (by decide)).trans ?_
  refine (va_up_o (by decide)).trans ?_
  refine (va_up_o (by decide)).trans ?_
  refine (o_eBt (by decide)).trans ?_
  refine (va_up_o (by decide)).trans ?_
  refine (va_up_o (by decide)).trans ?_
  refine (o_eMk (by decide)).trans ?_
  refine (va_up_o (by decide)).trans ?_
  refine (va_up_o (by decide)).trans ?_
  refine (o_eTr3 (by decide)).trans ?_
  refine (va_up_o (by decide)).trans ?_
  refine (va_up_o (by decide)).trans ?_
  refine (o_eTr2 (by decide)).trans ?_
  refine (va_up_o (by decide)).trans ?_
  refine (va_up_o (by decide)).trans ?_
  exact v_eTr1_29
theorem v_eLo_30 : eLo q en 30 = (.inl (q.2.2.2 0, 19, .inl (fun _ => 0))) := by
  unfold eLo
  refine (va_up_o (by decide)).trans ?_
  refine (va_up_o (by decide)).trans ?_
  refine (va_up_o (by decide)).trans ?_
  refine (va_up_o (by decide)).trans ?_
  refine (va_up_o (by decide)).trans ?_
  refine (va_up_o (by decide)).trans ?_
  refine (va_up_o (by decide)).trans ?_
  refine (va_up_o (by decide)).trans ?_
  refine (va_up_o (by decide)).trans ?_
  refine (va_up_o (by decide)).trans ?_
  refine (va_up_o (by decide)).trans ?_
  refine (o_eFi (by decide)).trans ?_
  refine (va_up_o (by decide)).trans ?_
  refine (va_up_o (by decide)).trans ?_
  refine (o_eAx (by decide)).trans ?_
  refine (va_up_o (by decide)).trans ?_
  refine (va_up_o (by decide)).trans ?_
  refine (o_eBt (by decide)).trans ?_
  refine (va_up_o (by decide)).trans ?_
  refine (va_up_o (by decide)).trans ?_
  refine (o_eMk (by decide)).trans ?_
  refine (va_up_o (by decide)).trans ?_
  refine (va_up_o (by decide)).trans ?_
  refine (o_eTr3 (by decide)).trans ?_
  refine (va_up_o (by decide)).trans ?_
  refine (va_up_o (by decide)).trans ?_
  refine (o_eTr2 (by decide)).trans ?_
  refine (va_up_o (by decide)).trans ?_
  refine (va_up_o (by decide)).trans ?_
  exact v_eTr1_30
theorem v_eLo_31 : eLo q en 31 = (.inl (q.2.2.2 0, 19, .inl (fun _ => 0))) := by
  unfold eLo
  refine (va_up_o (by decide)).trans ?_
  refine (va_up_o (by decide)).trans ?_
  refine (va_up_o (by decide)).trans ?_
  refine (va_up_o (by decide)).trans ?_
  refine (va_up_o (by decide)).trans ?_
  refine (va_up_o (by decide)).trans ?_
  refine (va_up_o (by decide)).trans ?_
  refine (va_up_o (by decide)).trans ?_
  refine (va_up_o (by decide)).trans ?_
  refine (va_up_o (by decide)).trans ?_
  refine (va_up_o (by decide)).trans ?_
  refine (o_eFi (by decide)).trans ?_
  refine (va_up_o (by decide)).trans ?_
  refine (va_up_o (by decide)).trans ?_
  refine (o_eAx (by decide)).trans ?_
  refine (va_up_o (by decide)).trans ?_
  refine (va_up_o (by decide)).trans ?_
  refine (o_eBt (by decide)).trans ?_
  refine (va_up_o (by decide)).trans ?_
  refine (va_up_o (by decide)).trans ?_
  refine (o_eMk (by decide)).trans ?_
  refine (va_up_o (by decide)).trans ?_
  refine (va_up_o (by decide)).trans ?_
  refine (o_eTr3 (by decide)).trans ?_
  refine (va_up_o (by decide)).trans ?_
  refine (va_up_o (by decide)).trans ?_
  refine (o_eTr2 (by decide)).trans ?_
  refine (va_up_o (by decide)).trans ?_
  refine (va_up_o (by decide)).trans ?_
  exact v_eTr1_31
theorem v_eLo_32 : eLo q en 32 = (.inl (q.2.2.2 0, 19, .inl (fun _ => 0))) := by
  unfold eLo
  refine (va_up_o (by decide)).trans ?_
  refine (va_up_o (by decide)).trans ?_
  refine (va_up_o (by decide)).trans ?_
  refine (va_up_o (by decide)).trans ?_
  refine (va_up_o (by decide)).trans ?_
  refine (va_up_o (by decide)).trans ?_
  refine (va_up_o (by decide)).trans ?_
  refine (va_up_o (by decide)).trans ?_
  refine (va_up_o (by decide)).trans ?_
  refine (va_up_o (by decide)).trans ?_
  refine (va_up_o (by decide)).trans ?_
  refine (o_eFi (by decide)).trans ?_
  refine (va_up_o (by decide)).trans ?_
  refine (va_up_o (by decide)).trans ?_
  refine (o_eAx (by decide)).trans ?_
  refine (va_up_o (by decide)).trans ?_
  refine (va_up_o (by decide)).trans ?_
  refine (o_eBt (by decide)).trans ?_
  refine (va_up_o (by decide)).trans ?_
  refine (va_up_o (by decide)).trans ?_
  refine (o_eMk (by decide)).trans ?_
  refine (va_up_o (by decide)).trans ?_
  refine (va_up_o (by decide)).trans ?_
  refine (o_eTr3 (by decide)).trans ?_
  refine (va_up_o (by decide)).trans ?_
  refine (va_up_o (by decide)).trans ?_
  refine (o_eTr2 (by decide)).trans ?_
  refine (va_up_o (by decide)).trans ?_
  refine (va_up_o (by decide)).trans ?_
  exact v_eTr1_32
theorem v_eLo_33 : eLo q en 33 = (.inl (q.2.2.2 0, 19, .inl (fun _ => 0))) := by
  unfold eLo
  refine (va_up_o (by decide)).trans ?_
  refine (va_up_o (by decide)).trans ?_
  refine (va_up_o (by decide)).trans ?_
  refine (va_up_o (by decide)).trans ?_
  refine (va_up_o (by decide)).trans ?_
  refine (va_up_o (by decide)).trans ?_
  refine (va_up_o (by decide)).trans ?_
  refine (va_up_o (by decide)).trans ?_
  refine (va_up_o (by decide)).trans ?_
  refine (va_up_o (by decide)).trans ?_
  refine (va_up_o (by decide)).trans ?_
  refine (o_eFi (by decide)).trans ?_
  refine (va_up_o (by decide)).trans ?_
  refine (va_up_o (by decide)).trans ?_
  refine (o_eAx (by decide)).trans ?_
  refine (va_up_o (by decide)).trans ?_
  refine (va_up_o (by decide)).trans ?_
  refine (o_eBt (by decide)).trans ?_
  refine (va_up_o (by decide)).trans ?_
  refine (va_up_o (by decide)).trans ?_
  refine (o_eMk (by decide)).trans ?_
  refine (va_up_o (by decide)).trans ?_
  refine (va_up_o (by decide)).trans ?_
  refine (o_eTr3 (by decide)).trans ?_
  refine (va_up_o (by decide)).trans ?_
  refine (va_up_o (by decide)).trans ?_
  refine (o_eTr2 (by decide)).trans ?_
  refine (va_up_o (by decide)).trans ?_
  refine (va_up_o (by decide)).trans ?_
  exact v_eTr1_33
theorem v_eLo_34 : eLo q en 34 = (.inl (q.2.2.2 0, 19, .inl (fun _ => 0))) := by
  unfold eLo
  refine (va_up_o (by decide)).trans ?_
  refine (va_up_o (by decide)).trans ?_
  refine (va_up_o (by decide)).trans ?_
  refine (va_up_o (by decide)).trans ?_
  refine (va_up_o (by decide)).trans ?_
  refine (va_up_o (by decide)).trans ?_
  refine (va_up_o (by decide)).trans ?_
  refine (va_up_o (by decide)).trans ?_
  refine (va_up_o (by decide)).trans ?_
  refine (va_up_o (by decide)).trans ?_
  refine (va_up_o (by decide)).trans ?_
  refine (o_eFi (by decide)).trans ?_
  refine (va_up_o (by decide)).trans ?_
  refine (va_up_o (by decide)).trans ?_
  refine (o_eAx (by decide)).trans ?_
  refine (va_up_o (by decide)).trans ?_
  refine (va_up_o (by decide)).trans ?_
  refine (o_eBt (by decide)).trans ?_
  refine (va_up_o (by decide)).trans ?_
  refine (va_up_o (by decide)).trans ?_
  refine (o_eMk (by decide)).trans ?_
  refine (va_up_o (by decide)).trans ?_
  refine (va_up_o (by decide)).trans ?_
  refine (o_eTr3 (by decide)).trans ?_
  refine (va_up_o (by decide)).trans ?_
  refine (va_up_o (by decide)).trans ?_
  refine (o_eTr2 (by decide)).trans ?_
  refine (va_up_o (by decide)).trans ?_
  refine (va_up_o (by decide)).trans ?_
  exact v_eTr1_34
theorem v_eLo_35 : eLo q en 35 = (.inl (q.2.2.2 1, 19, .inl (fun _ => 0))) := by
  unfold eLo
  refine (va_up_o (by decide)).trans ?_
  refine (va_up_o (by decide)).trans ?_
  refine (va_up_o (by decide)).trans ?_
  refine (va_up_o (by decide)).trans ?_
  refine (va_up_o (by decide)).trans ?_
  refine (va_up_o (by decide)).trans ?_
  refine (va_up_o (by decide)).trans ?_
  refine (va_up_o (by decide)).trans ?_
  refine (va_up_o (by decide)).trans ?_
  refine (va_up_o (by decide)).trans ?_
  refine (va_up_o (by decide)).trans ?_
  refine (o_eFi (by decide)).trans ?_
  refine (va_up_o (by decide)).trans ?_
  refine (va_up_o (by decide)).trans ?_
  refine (o_eAx (by decide)).trans ?_
  refine (va_up_o (by decide)).trans ?_
  refine (va_up_o (by decide)).trans ?_
  refine (o_eBt (by decide)).trans ?_
  refine (va_up_o (by decide)).trans ?_
  refine (va_up_o (by decide)).trans ?_
  refine (o_eMk (by decide)).trans ?_
  refine (va_up_o (by decide)).trans ?_
  refine (va_up_o (by decide)).trans ?_
  refine (o_eTr3 (by decide)).trans ?_
  refine (va_up_o (by decide)).trans ?_
  refine (va_up_o (by decide)).trans ?_
  refine (o_eTr2 (by decide)).trans ?_
  refine (va_up_o (by decide)).trans ?_
  refine (va_up_o (by decide)).trans ?_
  exact v_eTr1_35
theorem v_eLo_36 : eLo q en 36 = (.inl (q.2.2.2 0, 19, .inl (fun _ => 0))) := by
  unfold eLo
  refine (va_up_o (by decide)).trans ?_
  refine (va_up_o (by decide)).trans ?_
  refine (va_up_o (by decide)).trans ?_
  refine (va_up_o (by decide)).trans ?_
  refine (va_up_o (by decide)).trans ?_
  refine (va_up_o (by decide)).trans ?_
  refine (va_up_o (by decide)).trans ?_
  refine (va_up_o (by decide)).trans ?_
  refine (va_up_o (by decide)).trans ?_
  refine (va_up_o (by decide)).trans ?_
  refine (va_up_o (by decide)).trans ?_
  refine (o_eFi (by decide)).trans ?_
  refine (va_up_o (by decide)).trans ?_
  refine (va_up_o (by decide)).trans ?_
  refine (o_eAx (by decide)).trans ?_
  refine (va_up_o (by decide)).trans ?_
  refine (va_up_o (by decide)).trans ?_
  refine (o_eBt (by decide)).trans ?_
  refine (va_up_o (by decide)).trans ?_
  refine (va_up_o (by decide)).trans ?_
  refine (o_eMk (by decide)).trans ?_
  refine (va_up_o (by decide)).trans ?_
  refine (va_up_o (by decide)).trans ?_
  refine (o_eTr3 (by decide)).trans ?_
  refine (va_up_o (by decide)).trans ?_
  refine (va_up_o (by decide)).trans ?_
  refine (o_eTr2 (by decide)).trans ?_
  refine (va_up_o (by decide)).trans ?_
  refine (va_up_o (by decide)).trans ?_
  exact v_eTr1_36
theorem v_eLo_37 : eLo q en 37 = (.inl (q.2.2.2 0, 10, .inl (fun _ => 0))) := by
  unfold eLo
  refine (va_up_o (by decide)).trans ?_
  refine (va_up_o (by decide)).trans ?_
  refine (va_up_o (by decide)).trans ?_
  refine (va_up_o (by decide)).trans ?_
  refine (va_up_o (by decide)).trans ?_
  refine (va_up_o (by decide)).trans ?_
  refine (va_up_o (by decide)).trans ?_
  refine (va_up_o (by decide)).trans ?_
  refine (va_up_o (by decide)).trans ?_
  refine (va_up_o (by decide)).trans ?_
  refine (va_up_o (by decide)).trans ?_
  refine (o_eFi (by decide)).trans ?_
  refine (va_up_o (by decide)).trans ?_
  refine (va_up_o (by decide)).trans ?_
  refine (o_eAx (by decide)).trans ?_
  refine (va_up_o (by decide)).trans ?_
  refine (va_up_o (by decide)).trans ?_
  refine (o_eBt (by decide)).trans ?_
  refine (va_up_o (by decide)).trans ?_
  refine (va_up_o (by decide)).trans ?_
  refine (o_eMk (by decide)).trans ?_
  refine (va_up_o (by decide)).trans ?_
  refine (va_up_o (by decide)).trans ?_
  refine (o_eTr3 (by decide)).trans ?_
  refine (va_up_o (by decide)).trans ?_
  refine (va_up_o (by decide)).trans ?_
  refine (o_eTr2 (by decide)).trans ?_
  refine (va_up_o (by decide)).trans ?_
  refine (va_up_o (by decide)).trans ?_
  exact v_eTr1_37
theorem v_eLo_38 : eLo q en 38 = (.inl (q.2.2.2 0, 19, .inl (fun _ => 0))) := by
  unfold eLo
  refine (va_up_o (by decide)).trans ?_
  refine (va_up_o (by decide)).trans ?_
  refine (va_up_o (by decide)).trans ?_
  refine (va_up_o (by decide)).trans ?_
  refine (va_up_o (by decide)).trans ?_
  refine (va_up_o (by decide)).trans ?_
  refine (va_up_o (by decide)).trans ?_
  refine (va_up_o (by decide)).trans ?_
  refine (va_up_o (by decide)).trans ?_
  refine (va_up_o (by decide)).trans ?_
  refine (va_up_o (by decide)).trans ?_
  refine (o_eFi (by decide)).trans ?_
  refine (va_up_o (by decide)).trans ?_
  refine (va_up_o (by decide)).trans ?_
  refine (o_eAx (by decide)).trans ?_
  refine (va_up_o (by decide)).trans ?_
  refine (va_up_o (by decide)).trans ?_
  refine (o_eBt (by decide)).trans ?_
  refine (va_up_o (by decide)).trans ?_
  refine (va_up_o (by decide)).trans ?_
  refine (o_eMk (by decide)).trans ?_
  refine (va_up_o (by decide)).trans ?_
  refine (va_up_o (by decide)).trans ?_
  refine (o_eTr3 (by decide)).trans ?_
  refine (va_up_o (by decide)).trans ?_
  refine (va_up_o (by decide)).trans ?_
  refine (o_eTr2 (by decide)).trans ?_
  refine (va_up_o (by decide)).trans ?_
  refine (va_up_o (by decide)).trans ?_
  exact v_eTr1_38
theorem v_eLo_39 : eLo q en 39 = (.inr (5, [.ref (q.2.2.1 + 40), .ref (q.2.2.1 + 41), .ref (q.2.2.1 + 42), .ref (q.2.2.1 + 43), .ref (q.2.2.1 + 44), .ref (q.2.2.1 + 45), .ref (q.2.2.1 + 46), .ref (q.2.2.1 + 47), .ref (q.2.2.1 + 48), .ref (q.2.2.1 + 49), .ref (q.2.2.1 + 50), .int 0, .int 0, .int 0])) := by
  unfold eLo
  refine (va_up_o (by decide)).trans ?_
  refine (va_up_o (by decide)).trans ?_
  refine (va_up_o (by decide)).trans ?_
  refine (va_up_o (by decide)).trans ?_
  refine (va_up_o (by decide)).trans ?_
  refine (va_up_o (by decide)).trans ?_
  refine (va_up_o (by decide)).trans ?_
  refine (va_up_o (by decide)).trans ?_
  refine (va_up_o (by decide)).trans ?_
  refine (va_up_o (by decide)).trans ?_
  refine (va_up_o (by decide)).trans ?_
  refine (o_eFi (by decide)).trans ?_
  refine (va_up_o (by decide)).trans ?_
  refine (va_up_o (by decide)).trans ?_
  refine (o_eAx (by decide)).trans ?_
  refine (va_up_o (by decide)).trans ?_
  refine (va_up_o (by decide)).trans ?_
  refine (o_eBt (by decide)).trans ?_
  refine (va_up_o (by decide)).trans ?_
  refine (va_up_o (by decide)).trans ?_
  refine (o_eMk (by decide)).trans ?_
  refine (va_up_o (by decide)).trans ?_
  refine (va_up_o (by decide)).trans ?_
  refine (o_eTr3 (by decide)).trans ?_
  refine (va_up_o (by decide)).trans ?_
  refine (va_up_o (by decide)).trans ?_
  exact v_eTr2_39
theorem v_eLo_40 : eLo q en 40 = (.inl (q.2.2.2 0, 19, .inl (fun _ => 0))) := by
  unfold eLo
  refine (va_up_o (by decide)).trans ?_
  refine (va_up_o (by decide)).trans ?_
  refine (va_up_o (by decide)).trans ?_
  refine (va_up_o (by decide)).trans ?_
  refine (va_up_o (by decide)).trans ?_
  refine (va_up_o (by decide)).trans ?_
  refine (va_up_o (by decide)).trans ?_
  refine (va_up_o (by decide)).trans ?_
  refine (va_up_o (by decide)).trans ?_
  refine (va_up_o (by decide)).trans ?_
  refine (va_up_o (by decide)).trans ?_
  refine (o_eFi (by decide)).trans ?_
  refine (va_up_o (by decide)).trans ?_
  refine (va_up_o (by decide)).trans ?_
  refine (o_eAx (by decide)).trans ?_
  refine (va_up_o (by decide)).trans ?_
  refine (va_up_o (by decide)).trans ?_
  refine (o_eBt (by decide)).trans ?_
  refine (va_up_o (by decide)).trans ?_
  refine (va_up_o (by decide)).trans ?_
  refine (o_eMk (by decide)).trans ?_
  refine (va_up_o (by decide)).trans ?_
  refine (va_up_o (by decide)).trans ?_
  refine (o_eTr3 (by decide)).trans ?_
  refine (va_up_o (by decide)).trans ?_
  refine (va_up_o (by decide)).trans ?_
  exact v_eTr2_40
theorem v_eLo_41 : eLo q en 41 = (.inl (q.2.2.2 0, 19, .inl (fun _ => 0))) := by
  unfold eLo
  refine (va_up_o (by decide)).trans ?_
  refine (va_up_o (by decide)).trans ?_
  refine (va_up_o (by decide)).trans ?_
  refine (va_up_o (by decide)).trans ?_
  refine (va_up_o (by decide)).trans ?_
  refine (va_up_o (by decide)).trans ?_
  refine (va_up_o (by decide)).trans ?_
  refine (va_up_o (by decide)).trans ?_
  refine (va_up_o (by decide)).trans ?_
  refine (va_up_o (by decide)).trans ?_
  refine (va_up_o (by decide)).trans ?_
  refine (o_eFi (by decide)).trans ?_
  refine (va_up_o (by decide)).trans ?_
  refine (va_up_o (by decide)).trans ?_
  refine (o_eAx (by decide)).trans ?_
  refine (va_up_o (by decide)).trans ?_
  refine (va_up_o (by decide)).trans ?_
  refine (o_eBt (by decide)).trans ?_
  refine (va_up_o (by decide)).trans ?_
  refine (va_up_o (by decide)).trans ?_
  refine (o_eMk (by decide)).trans ?_
  refine (va_up_o (by decide)).trans ?_
  refine (va_up_o (by decide)).trans ?_
  refine (o_eTr3 (by decide)).trans ?_
  refine (va_up_o (by decide)).trans ?_
  refine (va_up_o (by decide)).trans ?_
  exact v_eTr2_41
theorem v_eLo_42 : eLo q en 42 = (.inl (q.2.2.2 0, 19, .inl (fun _ => 0))) := by
  unfold eLo
  refine (va_up_o (by decide)).trans ?_
  refine (va_up_o (by decide)).trans ?_
  refine (va_up_o (by decide)).trans ?_
  refine (va_up_o (by decide)).trans ?_
  refine (va_up_o (by decide)).trans ?_
  refine (va_up_o (by decide)).trans ?_
  refine (va_up_o (by decide)).trans ?_
  refine (va_up_o (by decide)).trans ?_
  refine (va_up_o (by decide)).trans ?_
  refine (va_up_o (by decide)).trans ?_
  refine (va_up_o (by decide)).trans ?_
  refine (o_eFi (by decide)).trans ?_
  refine (va_up_o (by decide)).trans ?_
  refine (va_up_o (by decide)).trans ?_
  refine (o_eAx (by decide)).trans ?_
  refine (va_up_o (by decide)).trans ?_
  refine (va_up_o (by decide)).trans ?_
  refine (o_eBt (by decide)).trans ?_
  refine (va_up_o (by decide)).trans ?_
  refine (va_up_o (by decide)).trans ?_
  refine (o_eMk (by decide)).trans ?_
  refine (va_up_o (by decide)).trans ?_
  refine (va_up_o (by decide)).trans ?_
  refine (o_eTr3 (by decide)).trans ?_
  refine (va_up_o (by decide)).trans ?_
  refine (va_up_o (by decide)).trans ?_
  exact v_eTr2_42
theorem v_eLo_43 : eLo q en 43 = (.inl (q.2.2.2 0, 19, .inl (fun _ => 0))) := by
  unfold eLo
  refine (va_up_o (by decide)).trans ?_
  refine (va_up_o (by decide)).trans ?_
  refine (va_up_o (by decide)).trans ?_
  refine (va_up_o (by decide)).trans ?_
  refine (va_up_o (by decide)).trans ?_
  refine (va_up_o (by decide)).trans ?_
  refine (va_up_o (by decide)).trans ?_
  refine (va_up_o (by decide)).trans ?_
  refine (va_up_o (by decide)).trans ?_
  refine (va_up_o (by decide)).trans ?_
  refine (va_up_o (by decide)).trans ?_
  refine (o_eFi (by decide)).trans ?_
  refine (va_up_o (by decide)).trans ?_
  refine (va_up_o (by decide)).trans ?_
  refine (o_eAx (by decide)).trans ?_
  refine (va_up_o (by decide)).trans ?_
  refine (va_up_o (by decide)).trans ?_
  refine (o_eBt (by decide)).trans ?_
  refine (va_up_o (by decide)).trans ?_
  refine (va_up_o (by decide)).trans ?_
  refine (o_eMk (by decide)).trans ?_
  refine (va_up_o (by decide)).trans ?_
  refine (va_up_o (by decide)).trans ?_
  refine (o_eTr3 (by decide)).trans ?_
  refine (va_up_o (by decide)).trans ?_
  refine (va_up_o (by decide)).trans ?_
  exact v_eTr2_43
theorem v_eLo_44 : eLo q en 44 = (.inl (q.2.2.2 0, 19, .inl (fun _ => 0))) := by
  unfold eLo
  refine (va_up_o (by decide)).trans ?_
  refine (va_up_o (by decide)).trans ?_
  refine (va_up_o (by decide)).trans ?_
  refine (va_up_o (by decide)).trans ?_
  refine (va_up_o (by decide)).trans ?_
  refine (va_up_o (by decide)).trans ?_
  refine (va_up_o (by decide)).trans ?_
  refine (va_up_o (by decide)).trans ?_
  refine (va_up_o (by decide)).trans ?_
  refine (va_up_o (by decide)).trans ?_
  refine (va_up_o (by decide)).trans ?_
  refine (o_eFi (by decide)).trans ?_
  refine (va_up_o (by decide)).trans ?_
  refine (va_up_o (by decide)).trans ?_
  refine (o_eAx (by decide)).trans ?_
  refine (va_up_o (by decide)).trans ?_
  refine (va_up_o (by decide)).trans ?_
  refine (o_eBt (by decide)).trans ?_
  refine (va_up_o (by decide)).trans ?_
  refine (va_up_o (by decide)).trans ?_
  refine (o_eMk (by decide)).trans ?_
  refine (va_up_o (by decide)).trans ?_
  refine (va_up_o (by decide)).trans ?_
  refine (o_eTr3 (by decide)).trans ?_
  refine (va_up_o (by decide)).trans ?_
  refine (va_up_o (by decide)).trans ?_
  exact v_eTr2_44
theorem v_eLo_45 : eLo q en 45 = (.inl (q.2.2.2 0, 19, .inl (fun _ => 0))) := by
  unfold eLo
  refine (va_up_o (by decide)).trans ?_
  refine (va_up_o (by decide)).trans ?_
  refine (va_up_o (by decide)).trans ?_
  refine (va_up_o (by decide)).trans ?_
  refine (va_up_o (by decide)).trans ?_
  refine (va_up_o (by decide)).trans ?_
  refine (va_up_o (by decide)).trans ?_
  refine (va_up_o (by decide)).trans ?_
  refine (va_up_o (by decide)).trans ?_
  refine (va_up_o (by decide)).trans ?_
  refine (va_up_o (by decide)).trans ?_
  refine (o_eFi (by decide)).trans ?_
  refine (va_up_o (by decide)).trans ?_
  refine (va_up_o (by decide)).trans ?_
  refine (o_eAx (by decide)).trans ?_
  refine (va_up_o (by decide)).trans ?_
  refine (va_up_o (by decide)).trans ?_
  refine (o_eBt (by decide)).trans ?_
  refine (va_up_o (by decide)).trans ?_
  refine (va_up_o (by decide)).trans ?_
  refine (o_eMk (by decide)).trans ?_
  refine (va_up_o (by decide)).trans ?_
  refine (va_up_o (by decide)).trans ?_
  refine (o_eTr3 (by decide)).trans ?_
  refine (va_up_o (by decide)).trans ?_
  refine (va_up_o (by decide)).trans ?_
  exact v_eTr2_45
theorem v_eLo_46 : eLo q en 46 = (.inl (q.2.2.2 0, 19, .inl (fun _ => 0))) := by
  unfold eLo
  refine (va_up_o (by decide)).trans ?_
  refine (va_up_o (by decide)).trans ?_
  refine (va_up_o (by decide)).trans ?_
  refine (va_up_o (by decide)).trans ?_
  refine (va_up_o (by decide)).trans ?_
  refine (va_up_o (by decide)).trans ?_
  refine (va_up_o (by decide)).trans ?_
  refine (va_up_o (by decide)).trans ?_
  refine (va_up_o (by decide)).trans ?_
  refine (va_up_o (by decide)).trans ?_
  refine (va_up_o (by decide)).trans ?_
  refine (o_eFi (by decide)).trans ?_
  refine (va_up_o (by decide)).trans ?_
  refine (va_up_o (by decide)).trans ?_
  refine (o_eAx (by decide)).trans ?_
  refine (va_up_o (by decide)).trans ?_
  refine (va_up_o (by decide)).trans ?_
  refine (o_eBt (by decide)).trans ?_
  refine (va_up_o (by decide)).trans ?_
  refine (va_up_o (by decide)).trans ?_
  refine (o_eMk (by decide)).trans ?_
  refine (va_up_o (by decide)).trans ?_
  refine (va_up_o (by decide)).trans ?_
  refine (o_eTr3 (by decide)).trans ?_
  refine (va_up_o (by decide)).trans ?_
  refine (va_up_o (by decide)).trans ?_
  exact v_eTr2_46
theorem v_eLo_47 : eLo q en 47 = (.inl (q.2.2.2 1, 19, .inl (fun _ => 0))) := by
  unfold eLo
  refine (va_up_o (by decide)).trans ?_
  refine (va_up_o (by decide)).trans ?_
  refine (va_up_o (by decide)).trans ?_
  refine (va_up_o (by decide)).trans ?_
  refine (va_up_o (by decide)).trans ?_
  refine (va_up_o (by decide)).trans ?_
  refine (va_up_o (by decide)).trans ?_
  refine (va_up_o (by decide)).trans ?_
  refine (va_up_o (by decide)).trans ?_
  refine (va_up_o (by decide)).trans ?_
  refine (va_up_o (by decide)).trans ?_
  refine (o_eFi (by decide)).trans ?_
  refine (va_up_o (by decide)).trans ?_
  refine (va_up_o (by decide)).trans ?_
  refine (o_eAx (by decide)).trans ?_
  refine (va_up_o (by decide)).trans ?_
  refine (va_up_o (by decide)).trans ?_
  refine (o_eBt (by decide)).trans ?_
  refine (va_up_o (by decide)).trans ?_
  refine (va_up_o (by decide)).trans ?_
  refine (o_eMk (by decide)).trans ?_
  refine (va_up_o (by decide)).trans ?_
  refine (va_up_o (by decide)).trans ?_
  refine (o_eTr3 (by decide)).trans ?_
  refine (va_up_o (by decide)).trans ?_
  refine (va_up_o (by decide)).trans ?_
  exact v_eTr2_47
theorem v_eLo_48 : eLo q en 48 = (.inl (q.2.2.2 0, 19, .inl (fun _ => 0))) := by
  unfold eLo
  refine (va_up_o (by decide)).trans ?_
  refine (va_up_o (by decide)).trans ?_
  refine (va_up_o (by decide)).trans ?_
  refine (va_up_o (by decide)).trans ?_
  refine (va_up_o (by decide)).trans ?_
  refine (va_up_o (by decide)).trans ?_
  refine (va_up_o (by decide)).trans ?_
  refine (va_up_o (by decide)).trans ?_
  refine (va_up_o (by decide)).trans ?_
  refine (va_up_o (by decide)).trans ?_
  refine (va_up_o (by decide)).trans ?_
  refine (o_eFi (by decide)).trans ?_
  refine (va_up_o (by decide)).trans ?_
  refine (va_up_o (by decide)).trans ?_
  refine (o_eAx (by decide)).trans ?_
  refine (va_up_o (by decide)).trans ?_
  refine (va_up_o (by decide)).trans ?_
  refine (o_eBt (by decide)).trans ?_
  refine (va_up_o (by decide)).trans ?_
  refine (va_up_o (by decide)).trans ?_
  refine (o_eMk (by decide)).trans ?_
  refine (va_up_o (by decide)).trans ?_
  refine (va_up_o (by decide)).trans ?_
  refine (o_eTr3 (by decide)).trans ?_
  refine (va_up_o (by decide)).trans ?_
  refine (va_up_o (by decide)).trans ?_
  exact v_eTr2_48
theorem v_eLo_49 : eLo q en 49 = (.inl (q.2.2.2 0, 10, .inl (fun _ => 0))) := by
  unfold eLo
  refine (va_up_o (by decide)).trans ?_
  refine (va_up_o (by decide)).trans ?_
  refine (va_up_o (by decide)).trans ?_
  refine (va_up_o (by decide)).trans ?_
  refine (va_up_o (by decide)).trans ?_
  refine (va_up_o (by decide)).trans ?_
  refine (va_up_o (by decide)).trans ?_
  refine (va_up_o (by decide)).trans ?_
  refine (va_up_o (by decide)).trans ?_
  refine (va_up_o (by decide)).trans ?_
  refine (va_up_o (by decide)).trans ?_
  refine (o_eFi (by decide)).trans ?_
  refine (va_up_o (by decide)).trans ?_
  refine (va_up_o (by decide)).trans ?_
  refine (o_eAx (by decide)).trans ?_
  refine (va_up_o (by decide)).trans ?_
  refine (va_up_o (by decide)).trans ?_
  refine (o_eBt (by decide)).trans ?_
  refine (va_up_o (by decide)).trans ?_
  refine (va_up_o (by decide)).trans ?_
  refine (o_eMk (by decide)).trans ?_
  refine (va_up_o (by decide)).trans ?_
  refine (va_up_o (by decide)).trans ?_
  refine (o_eTr3 (by decide)).trans ?_
  refine (va_up_o (by decide)).trans ?_
  refine (va_up_o (by decide)).trans ?_
  exact v_eTr2_49
theorem v_eLo_50 : eLo q en 50 = (.inl (q.2.2.2 0, 19, .inl (fun _ => 0))) := by
  unfold eLo
  refine (va_up_o (by decide)).trans ?_
  refine (va_up_o (by decide)).trans ?_
  refine (va_up_o (by decide)).trans ?_
  refine (va_up_o (by decide)).trans ?_
  refine (va_up_o (by decide)).trans ?_
  refine (va_up_o (by decide)).trans ?_
  refine (va_up_o (by decide)).trans ?_
  refine (va_up_o (by decide)).trans ?_
  refine (va_up_o (by decide)).trans ?_
  refine (va_up_o (by decide)).trans ?_
  refine (va_up_o (by decide)).trans ?_
  refine (o_eFi (by decide)).trans ?_
  refine (va_up_o (by decide)).trans ?_
  refine (va_up_o (by decide)).trans ?_
  refine (o_eAx (by decide)).trans ?_
  refine (va_up_o (by decide)).trans ?_
  refine (va_up_o (by decide)).trans ?_
  refine (o_eBt (by decide)).trans ?_
  refine (va_up_o (by decide)).trans ?_
  refine (va_up_o (by decide)).trans ?_
  refine (o_eMk (by decide)).trans ?_
  refine (va_up_o (by decide)).trans ?_
  refine (va_up_o (by decide)).trans ?_
  refine (o_eTr3 (by decide)).trans ?_
  refine (va_up_o (by decide)).trans ?_
  refine (va_up_o (by decide)).trans ?_
  exact v_eTr2_50
theorem v_eLo_51 : eLo q en 51 = (.inr (5, [.ref (q.2.2.1 + 52), .ref (q.2.2.1 + 53), .ref (q.2.2.1 + 54), .ref (q.2.2.1 + 55), .ref (q.2.2.1 + 56), .ref (q.2.2.1 + 57), .ref (q.2.2.1 + 58), .ref (q.2.2.1 + 59), .ref (q.2.2.1 + 60), .ref (q.2.2.1 + 61), .ref (q.2.2.1 + 62), .int 0, .int 0, .int 0])) := by
  unfold eLo
  refine (va_up_o (by decide)).trans ?_
  refine (va_up_o (by decide)).trans ?_
  refine (va_up_o (by decide)).trans ?_
  refine (va_up_o (by decide)).trans ?_
  refine (va_up_o (by decide)).trans ?_
  refine (va_up_o (by decide)).trans ?_
  refine (va_up_o (by decide)).trans ?_
  refine (va_up_o (by decide)).trans ?_
  refine (va_up_o (by decide)).trans ?_
  refine (va_up_o (by decide)).trans ?_
  refine (va_up_o (by decide)).trans ?_
  refine (o_eFi (by decide)).trans ?_
  refine (va_up_o (by decide)).trans ?_
  refine (va_up_o (by decide)).trans ?_
  refine (o_eAx (by decide)).trans ?_
  refine (va_up_o (by decide)).trans ?_
  refine (va_up_o (by decide)).trans ?_
  refine (o_eBt (by decide)).trans ?_
  refine (va_up_o (by decide)).trans ?_
  refine (va_up_o (by decide)).trans ?_
  refine (o_eMk (by decide)).trans ?_
  refine (va_up_o (by decide)).trans ?_
  refine (va_up_o (by decide)).trans ?_
  exact v_eTr3_51
theorem v_eLo_52 : eLo q en 52 = (.inl (q.2.2.2 0, 19, .inl (fun _ => 0))) := by
  unfold eLo
  refine (va_up_o (by decide)).trans ?_
  refine (va_up_o (by decide)).trans ?_
  refine (va_up_o (by decide)).trans ?_
  refine (va_up_o (by decide)).trans ?_
  refine (va_up_o (by decide)).trans ?_
  refine (va_up_o (by decide)).trans ?_
  refine (va_up_o (by decide)).trans ?_
  refine (va_up_o (by decide)).trans ?_
  refine (va_up_o (by decide)).trans ?_
  refine (va_up_o (by decide)).trans ?_
  refine (va_up_o (by decide)).trans ?_
  refine (o_eFi (by decide)).trans ?_
  refine (va_up_o (by decide)).trans ?_
  refine (va_up_o (by decide)).trans ?_
  refine (o_eAx (by decide)).trans ?_
  refine (va_up_o (by decide)).trans ?_
  refine (va_up_o (by decide)).trans ?_
  refine (o_eBt (by decide)).trans ?_
  refine (va_up_o (by decide)).trans ?_
  refine (va_up_o (by decide)).trans ?_
  refine (o_eMk (by decide)).trans ?_
  refine (va_up_o (by decide)).trans ?_
  refine (va_up_o (by decide)).trans ?_
  exact v_eTr3_52
theorem v_eLo_53 : eLo q en 53 = (.inl (q.2.2.2 0, 19, .inl (fun _ => 0))) := by
  unfold eLo
  refine (va_up_o (by decide)).trans ?_
  refine (va_up_o (by decide)).trans ?_
  refine (va_up_o (by decide)).trans ?_
  refine (va_up_o (by decide)).trans ?_
  refine (va_up_o (by decide)).trans ?_
  refine (va_up_o (by decide)).trans ?_
  refine (va_up_o (by decide)).trans ?_
  refine (va_up_o (by decide)).trans ?_
  refine (va_up_o (by decide)).trans ?_
  refine (va_up_o (by decide)).trans ?_
  refine (va_up_o (by decide)).trans ?_
  refine (o_eFi (by decide)).trans ?_
  refine (va_up_o (by decide)).trans ?_
  refine (va_up_o (by decide)).trans ?_
  refine (o_eAx (by decide)).trans ?_
  refine (va_up_o (by decide)).trans ?_
  refine (va_up_o (by decide)).trans ?_
  refine (o_eBt (by decide)).trans ?_
  refine (va_up_o (by decide)).trans ?_
  refine (va_up_o (by decide)).trans ?_
  refine (o_eMk (by decide)).trans ?_
  refine (va_up_o (by decide)).trans ?_
  refine (va_up_o (by decide)).trans ?_
  exact v_eTr3_53
theorem v_eLo_54 : eLo q en 54 = (.inl (q.2.2.2 0, 19, .inl (fun _ => 0))) := by
  unfold eLo
  refine (va_up_o (by decide)).trans ?_
  refine (va_up_o (by decide)).trans ?_
  refine (va_up_o (by decide)).trans ?_
  refine (va_up_o (by decide)).trans ?_
  refine (va_up_o (by decide)).trans ?_
  refine (va_up_o (by decide)).trans ?_
  refine (va_up_o (by decide)).trans ?_
  refine (va_up_o (by decide)).trans ?_
  refine (va_up_o (by decide)).trans ?_
  refine (va_up_o (by decide)).trans ?_
  refine (va_up_o (by decide)).trans ?_
  refine (o_eFi (by decide)).trans ?_
  refine (va_up_o (by decide)).trans ?_
  refine (va_up_o (by decide)).trans ?_
  refine (o_eAx (by decide)).trans ?_
  refine (va_up_o (by decide)).trans ?_
  refine (va_up_o (by decide)).trans ?_
  refine (o_eBt (by decide)).trans ?_
  refine (va_up_o (by decide)).trans ?_
  refine (va_up_o (by decide)).trans ?_
  refine (o_eMk (by decide)).trans ?_
  refine (va_up_o (by decide)).trans ?_
  refine (va_up_o (by decide)).trans ?_
  exact v_eTr3_54
theorem v_eLo_55 : eLo q en 55 = (.inl (q.2.2.2 0, 19, .inl (fun _ => 0))) := by
  unfold eLo
  refine (va_up_o (by decide)).trans ?_
  refine (va_up_o (by decide)).trans ?_
  refine (va_up_o (by decide)).trans ?_
  refine (va_up_o (by decide)).trans ?_
  refine (va_up_o (by decide)).trans ?_
  refine (va_up_o (by decide)).trans ?_
  refine (va_up_o (by decide)).trans ?_
  refine (va_up_o (by decide)).trans ?_
  refine (va_up_o (by decide)).trans ?_
  refine (va_up_o (by decide)).trans ?_
  refine (va_up_o (by decide)).trans ?_
  refine (o_eFi (by decide)).trans ?_
  refine (va_up_o (by decide)).trans ?_
  refine (va_up_o (by decide)).trans ?_
  refine (o_eAx (by decide)).trans ?_
  refine (va_up_o (by decide)).trans ?_
  refine (va_up_o (by decide)).trans ?_
  refine (o_eBt (by decide)).trans ?_
  refine (va_up_o (by decide)).trans ?_
  refine (va_up_o (by decide)).trans ?_
  refine (o_eMk (by decide)).trans ?_
  refine (va_up_o (by decide)).trans ?_
  refine (va_up_o (by decide)).trans ?_
  exact v_eTr3_55
theorem v_eLo_56 : eLo q en 56 = (.inl (q.2.2.2 0, 19, .inl (fun _ => 0))) := by
  unfold eLo
  refine (va_up_o (by decide)).trans ?_
  refine (va_up_o (by decide)).trans ?_
  refine (va_up_o (by decide)).trans ?_
  refine (va_up_o (by decide)).trans ?_
  refine (va_up_o (by decide)).trans ?_
  refine (va_up_o (by decide)).trans ?_
  refine (va_up_o (by decide)).trans ?_
  refine (va_up_o (by decide)).trans ?_
  refine (va_up_o (by decide)).trans ?_
  refine (va_up_o (by decide)).trans ?_
  refine (va_up_o (by decide)).trans ?_
  refine (o_eFi (by decide)).trans ?_
  refine (va_up_o (by decide)).trans ?_
  refine (va_up_o (by decide)).trans ?_
  refine (o_eAx (by decide)).trans ?_
  refine (va_up_o (by decide)).trans ?_
  refine (va_up_o (by decide)).trans ?_
  refine (o_eBt (by decide)).trans ?_
  refine (va_up_o (by decide)).trans ?_
  refine (va_up_o (by decide)).trans ?_
  refine (o_eMk (by decide)).trans ?_
  refine (va_up_o (by decide)).trans ?_
  refine (va_up_o (by decide)).trans ?_
  exact v_eTr3_56
theorem v_eLo_57 : eLo q en 57 = (.inl (q.2.2.2 0, 19, .inl (fun _ => 0))) := by
  unfold eLo
  refine (va_up_o (by decide)).trans ?_
  refine (va_up_o (by decide)).trans ?_
  refine (va_up_o (by decide)).trans ?_
  refine (va_up_o (by decide)).trans ?_
  refine (va_up_o (by decide)).trans ?_
  refine (va_up_o (by decide)).trans ?_
  refine (va_up_o (by decide)).trans ?_
  refine (va_up_o (by decide)).trans ?_
  refine (va_up_o (by decide)).trans ?_
  refine (va_up_o (by decide)).trans ?_
  refine (va_up_o (by decide)).trans ?_
  refine (o_eFi (by decide)).trans ?_
  refine (va_up_o (by decide)).trans ?_
  refine (va_up_o (by decide)).trans ?_
  refine (o_eAx (by decide)).trans ?_
  refine (va_up_o (by decide)).trans ?_
  refine (va_up_o (by decide)).trans ?_
  refine (o_eBt (by decide)).trans ?_
  refine (va_up_o (by decide)).trans ?_
  refine (va_up_o (by decide)).trans ?_
  refine (o_eMk (by decide)).trans ?_
  refine (va_up_o (by decide)).trans ?_
  refine (va_up_o (by decide)).trans ?_
  exact v_eTr3_57
theorem v_eLo_58 : eLo q en 58 = (.inl (q.2.2.2 0, 19, .inl (fun _ => 0))) := by
  unfold eLo
  refine (va_up_o (by decide)).trans ?_
  refine (va_up_o (by decide)).trans ?_
  refine (va_up_o (by decide)).trans ?_
  refine (va_up_o (by decide)).trans ?_
  refine (va_up_o (by decide)).trans ?_
  refine (va_up_o (by decide)).trans ?_
  refine (va_up_o (by decide)).trans ?_
  refine (va_up_o (by decide)).trans ?_
  refine (va_up_o (by decide)).trans ?_
  refine (va_up_o (by decide)).trans ?_
  refine (va_up_o (by decide)).trans ?_
  refine (o_eFi (by decide)).trans ?_
  refine (va_up_o (by decide)).trans ?_
  refine (va_up_o (by decide)).trans ?_
  refine (o_eAx (by decide)).trans ?_
  refine (va_up_o (by decide)).trans ?_
  refine (va_up_o (by decide)).trans ?_
  refine (o_eBt (by decide)).trans ?_
  refine (va_up_o (by decide)).trans ?_
  refine (va_up_o (by decide)).trans ?_
  refine (o_eMk (by decide)).trans ?_
  refine (va_up_o (by decide)).trans ?_
  refine (va_up_o (by decide)).trans ?_
  exact v_eTr3_58
theorem v_eLo_59 : eLo q en 59 = (.inl (q.2.2.2 1, 19, .inl (fun _ => 0))) := by
  unfold eLo
  refine (va_up_o (by decide)).trans ?_
  refine (va_up_o (by decide)).trans ?_
  refine (va_up_o (by decide)).trans ?_
  refine (va_up_o (by decide)).trans ?_
  refine (va_up_o (by decide)).trans ?_
  refine (va_up_o (by decide)).trans ?_
  refine (va_up_o (by decide)).trans ?_
  refine (va_up_o (by decide)).trans ?_
  refine (va_up_o (by decide)).trans ?_
  refine (va_up_o (by decide)).trans ?_
  refine (va_up_o (by decide)).trans ?_
  refine (o_eFi (by decide)).trans ?_
  refine (va_up_o (by decide)).trans ?_
  refine (va_up_o (by decide)).trans ?_
  refine (o_eAx (by decide)).trans ?_
  refine (va_up_o (by decide)).trans ?_
  refine (va_up_o (by decide)).trans ?_
  refine (o_eBt (by decide)).trans ?_
  refine (va_up_o (by decide)).trans ?_
  refine (va_up_o (by decide)).trans ?_
  refine (o_eMk (by decide)).trans ?_
  refine (va_up_o (by decide)).trans ?_
  refine (va_up_o (by decide)).trans ?_
  exact v_eTr3_59
theorem v_eLo_60 : eLo q en 60 = (.inl (q.2.2.2 0, 19, .inl (fun _ => 0))) := by
  unfold eLo
  refine (va_up_o (by decide)).trans ?_
  refine (va_up_o (by decide)).trans ?_
  refine (va_up_o (by decide)).trans ?_
  refine (va_up_o (by decide)).trans ?_
  refine (va_up_o (by decide)).trans ?_
  refine (va_up_o (by decide)).trans ?_
  refine (va_up_o (by decide)).trans ?_
  refine (va_up_o (by decide)).trans ?_
  refine (va_up_o (by decide)).trans ?_
  refine (va_up_o (by decide)).trans ?_
  refine (va_up_o (by decide)).trans ?_
  refine (o_eFi (by decide)).trans ?_
  refine (va_up_o (by decide)).trans ?_
  refine (va_up_o (by decide)).trans ?_
  refine (o_eAx (by decide)).trans ?_
  refine (va_up_o (by decide)).trans ?_
  refine (va_up_o (by decide)).trans ?_
  refine (o_eBt (by decide)).trans ?_
  refine (va_up_o (by decide)).trans ?_
  refine (va_up_o (by decide)).trans ?_
  refine (o_eMk (by decide)).trans ?_
  refine (va_up_o (by decide)).trans ?_
  refine (va_up_o (by decide)).trans ?_
  exact v_eTr3_60
theorem v_eLo_61 : eLo q en 61 = (.inl (q.2.2.2 0, 10, .inl (fun _ => 0))) := by
  unfold eLo
  refine (va_up_o (by decide)).trans ?_
  refine (va_up_o (by decide)).trans ?_
  refine (va_up_o (by decide)).trans ?_
  refine (va_up_o (by decide)).trans ?_
  refine (va_up_o (by decide)).trans ?_
  refine (va_up_o (by decide)).trans ?_
  refine (va_up_o (by decide)).trans ?_
  refine (va_up_o (by decide)).trans ?_
  refine (va_up_o (by decide)).trans ?_
  refine (va_up_o (by decide)).trans ?_
  refine (va_up_o (by decide)).trans ?_
  refine (o_eFi (by decide)).trans ?_
  refine (va_up_o (by decide)).trans ?_
  refine (va_up_o (by decide)).trans ?_
  refine (o_eAx (by decide)).trans ?_
  refine (va_up_o (by decide)).trans ?_
  refine (va_up_o (by decide)).trans ?_
  refine (o_eBt (by decide)).trans ?_
  refine (va_up_o (by decide)).trans ?_
  refine (va_up_o (by decide)).trans ?_
  refine (o_eMk (by decide)).trans ?_
  refine (va_up_o (by decide)).trans ?_
  refine (va_up_o (by decide)).trans ?_
  exact v_eTr3_61
theorem v_eLo_62 : eLo q en 62 = (.inl (q.2.2.2 0, 19, .inl (fun _ => 0))) := by
  unfold eLo
  refine (va_up_o (by decide)).trans ?_
  refine (va_up_o (by decide)).trans ?_
  refine (va_up_o (by decide)).trans ?_
  refine (va_up_o (by decide)).trans ?_
  refine (va_up_o (by decide)).trans ?_
  refine (va_up_o (by decide)).trans ?_
  refine (va_up_o (by decide)).trans ?_
  refine (va_up_o (by decide)).trans ?_
  refine (va_up_o (by decide)).trans ?_
  refine (va_up_o (by decide)).trans ?_
  refine (va_up_o (by decide)).trans ?_
  refine (o_eFi (by decide)).trans ?_
  refine (va_up_o (by decide)).trans ?_
  refine (va_up_o (by decide)).trans ?_
  refine (o_eAx (by decide)).trans ?_
  refine (va_up_o (by decide)).trans ?_
  refine (va_up_o (by decide)).trans ?_
  refine (o_eBt (by decide)).trans ?_
  refine (va_up_o (by decide)).trans ?_
  refine (va_up_o (by decide)).trans ?_
  refine (o_eMk (by decide)).trans ?_
  refine (va_up_o (by decide)).trans ?_
  refine (va_up_o (by decide)).trans ?_
  exact v_eTr3_62
theorem v_eLo_63 : eLo q en 63 = (.inr (3, [.ref (q.2.2.1 + 64), .ref (q.2.2.1 + 75)])) := by
  unfold eLo
  refine (va_up_o (by decide)).trans ?_
  refine (va_up_o (by decide)).trans ?_
  refine (va_up_o (by decide)).trans ?_
  refine (va_up_o (by decide)).trans ?_
  refine (va_up_o (by decide)).trans ?_
  refine (va_up_o (by decide)).trans ?_
  refine (va_up_o (by decide)).trans ?_
  refine (va_up_o (by decide)).trans ?_
  refine (va_up_o (by decide)).trans ?_
  refine (va_up_o (by decide)).trans ?_
  refine (va_up_o (by decide)).trans ?_
  refine (o_eFi (by decide)).trans ?_
  refine (va_up_o (by decide)).trans ?_
  refine (va_up_o (by decide)).trans ?_
  refine (o_eAx (by decide)).trans ?_
  refine (va_up_o (by decide)).trans ?_
  refine (va_up_o (by decide)).trans ?_
  refine (o_eBt (by decide)).trans ?_
  refine (va_up_o (by decide)).trans ?_
  refine (va_up_o (by decide)).trans ?_
  exact v_eMk_63
theorem v_eLo_64 : eLo q en 64 = (refE (q.2.2.2 4) 10 (q.2.2.1 + 64 + 1)) := by
  unfold eLo
  refine (va_up_o (by decide)).trans ?_
  refine (va_up_o (by decide)).trans ?_
  refine (va_up_o (by decide)).trans ?_
  refine (va_up_o (by decide)).trans ?_
  refine (va_up_o (by decide)).trans ?_
  refine (va_up_o (by decide)).trans ?_
  refine (va_up_o (by decide)).trans ?_
  refine (va_up_o (by decide)).trans ?_
  refine (va_up_o (by decide)).trans ?_
  refine (va_up_o (by decide)).trans ?_
  refine (va_up_o (by decide)).trans ?_
  refine (o_eFi (by decide)).trans ?_
  refine (va_up_o (by decide)).trans ?_
  refine (va_up_o (by decide)).trans ?_
  refine (o_eAx (by decide)).trans ?_
  refine (va_up_o (by decide)).trans ?_
  refine (va_up_o (by decide)).trans ?_
  refine (o_eBt (by decide)).trans ?_
  refine (va_up_o (by decide)).trans ?_
  refine (va_up_o (by decide)).trans ?_
  exact v_eMk_64
theorem v_eLo_65 : eLo q en 65 = (.inl (q.2.2.2 0, 10, .inl (fun _ => 0))) := by
  unfold eLo
  refine (va_up_o (by decide)).trans ?_
  refine (va_up_o (by decide)).trans ?_
  refine (va_up_o (by decide)).trans ?_
  refine (va_up_o (by decide)).trans ?_
  refine (va_up_o (by decide)).trans ?_
  refine (va_up_o (by decide)).trans ?_
  refine (va_up_o (by decide)).trans ?_
  refine (va_up_o (by decide)).trans ?_
  refine (va_up_o (by decide)).trans ?_
  refine (va_up_o (by decide)).trans ?_
  refine (va_up_o (by decide)).trans ?_
  refine (o_eFi (by decide)).trans ?_
  refine (va_up_o (by decide)).trans ?_
  refine (va_up_o (by decide)).trans ?_
  refine (o_eAx (by decide)).trans ?_
  refine (va_up_o (by decide)).trans ?_
  refine (va_up_o (by decide)).trans ?_
  refine (o_eBt (by decide)).trans ?_
  refine (va_up_o (by decide)).trans ?_
  refine (va_up_o (by decide)).trans ?_
  exact v_eMk_65
theorem v_eLo_66 : eLo q en 66 = (.inl (q.2.2.2 0, 10, .inl (fun _ => 0))) := by
  unfold eLo
  refine (va_up_o (by decide)).trans ?_
  refine (va_up_o (by decide)).trans ?_
  refine (va_up_o (by decide)).trans ?_
  refine (va_up_o (by decide)).trans ?_
  refine (va_up_o (by decide)).trans ?_
  refine (va_up_o (by decide)).trans ?_
  refine (va_up_o (by decide)).trans ?_
  refine (va_up_o (by decide)).trans ?_
  refine (va_up_o (by decide)).trans ?_
  refine (va_up_o (by decide)).trans ?_
  refine (va_up_o (by decide)).trans ?_
  refine (o_eFi (by decide)).trans ?_
  refine (va_up_o (by decide)).trans ?_
  refine (va_up_o (by decide)).trans ?_
  refine (o_eAx (by decide)).trans ?_
  refine (va_up_o (by decide)).trans ?_
  refine (va_up_o (by decide)).trans ?_
  refine (o_eBt (by decide)).trans ?_
  refine (va_up_o (by decide)).trans ?_
  refine (va_up_o (by decide)).trans ?_
  exact v_eMk_66
theorem v_eLo_67 : eLo q en 67 = (.inl (q.2.2.2 0, 10, .inl (fun _ => 0))) := by
  unfold eLo
  refine (va_up_o (by decide)).trans ?_
  refine (va_up_o (by decide)).trans ?_
  refine (va_up_o (by decide)).trans ?_
  refine (va_up_o (by decide)).trans ?_
  refine (va_up_o (by decide)).trans ?_
  refine (va_up_o (by decide)).trans ?_
  refine (va_up_o (by decide)).trans ?_
  refine (va_up_o (by decide)).trans ?_
  refine (va_up_o (by decide)).trans ?_
  refine (va_up_o (by decide)).trans ?_
  refine (va_up_o (by decide)).trans ?_
  refine (o_eFi (by decide)).trans ?_
  refine (va_up_o (by decide)).trans ?_
  refine (va_up_o (by decide)).trans ?_
  refine (o_eAx (by decide)).trans ?_
  refine (va_up_o (by decide)).trans ?_
  refine (va_up_o (by decide)).trans ?_
  refine (o_eBt (by decide)).trans ?_
  refine (va_up_o (by decide)).trans ?_
  refine (va_up_o (by decide)).trans ?_
  exact v_eMk_67
theorem v_eLo_68 : eLo q en 68 = (.inl (q.2.2.2 0, 10, .inl (fun _ => 0))) := by
  unfold eLo
  refine (va_up_o (by decide)).trans ?_
  refine (va_up_o (by decide)).trans ?_
  refine (va_up_o (by decide)).trans ?_
  refine (va_up_o (by decide)).trans ?_
  refine (va_up_o (by decide)).trans ?_
  refine (va_up_o (by decide)).trans ?_
  refine (va_up_o (by decide)).trans ?_
  refine (va_up_o (by decide)).trans ?_
  refine (va_up_o (by decide)).trans ?_
  refine (va_up_o (by decide)).trans ?_
  refine (va_up_o (by decide)).trans ?_
  refine (o_eFi (by decide)).trans ?_
  refine (va_up_o (by decide)).trans ?_
  refine (va_up_o (by decide)).trans ?_
  refine (o_eAx (by decide)).trans ?_
  refine (va_up_o (by decide)).trans ?_
  refine (va_up_o (by decide)).trans ?_
  refine (o_eBt (by decide)).trans ?_
  refine (va_up_o (by decide)).trans ?_
  refine (va_up_o (by decide)).trans ?_
  exact v_eMk_68
theorem v_eLo_69 : eLo q en 69 = (.inl (q.2.2.2 0, 10, .inl (fun _ => 0))) := by
  unfold eLo
  refine (va_up_o (by decide)).trans ?_
  refine (va_up_o (by decide)).trans ?_
  refine (va_up_o (by decide)).trans ?_
  refine (va_up_o (by decide)).trans ?_
  refine (va_up_o (by decide)).trans ?_
  refine (va_up_o (by decide)).trans ?_
  refine (va_up_o (by decide)).trans ?_
  refine (va_up_o (by decide)).trans ?_
  refine (va_up_o (by decide)).trans ?_
  refine (va_up_o (by decide)).trans ?_
  refine (va_up_o (by decide)).trans ?_
  refine (o_eFi (by decide)).trans ?_
  refine (va_up_o (by decide)).trans ?_
  refine (va_up_o (by decide)).trans ?_
  refine (o_eAx (by decide)).trans ?_
  refine (va_up_o (by decide)).trans ?_
  refine (va_up_o (by decide)).trans ?_
  refine (o_eBt (by decide)).trans ?_
  refine (va_up_o (by decide)).trans ?_
  refine (va_up_o (by decide)).trans ?_
  exact v_eMk_69
theorem v_eLo_70 : eLo q en 70 = (.inl (q.2.2.2 0, 10, .inl (fun _ => 0))) := by
  unfold eLo
  refine (va_up_o (by decide)).trans ?_
  refine (va_up_o (by decide)).trans ?_
  refine (va_up_o (by decide)).trans ?_
  refine (va_up_o (by decide)).trans ?_
  refine (va_up_o (by decide)).trans ?_
  refine (va_up_o (by decide)).trans ?_
  refine (va_up_o (by decide)).trans ?_
  refine (va_up_o (by decide)).trans ?_
  refine (va_up_o (by decide)).trans ?_
  refine (va_up_o (by decide)).trans ?_
  refine (va_up_o (by decide)).trans ?_
  refine (o_eFi (by decide)).trans ?_
  refine (va_up_o (by decide)).trans ?_
  refine (va_up_o (by decide)).trans ?_
  refine (o_eAx (by decide)).trans ?_
  refine (va_up_o (by decide)).trans ?_
  refine (va_up_o (by decide)).trans ?_
  refine (o_eBt (by decide)).trans ?_
  refine (va_up_o (by decide)).trans ?_
  refine (va_up_o (by decide)).trans ?_
  exact v_eMk_70
theorem v_eLo_71 : eLo q en 71 = (.inl (q.2.2.2 0, 10, .inl (fun _ => 0))) := by
  unfold eLo
  refine (va_up_o (by decide)).trans ?_
  refine (va_up_o (by decide)).trans ?_
  refine (va_up_o (by decide)).trans ?_
  refine (va_up_o (by decide)).trans ?_
  refine (va_up_o (by decide)).trans ?_
  refine (va_up_o (by decide)).trans ?_
  refine (va_up_o (by decide)).trans ?_
  refine (va_up_o (by decide)).trans ?_
  refine (va_up_o (by decide)).trans ?_
  refine (va_up_o (by decide)).trans ?_
  refine (va_up_o (by decide)).trans ?_
  refine (o_eFi (by decide)).trans ?_
  refine (va_up_o (by decide)).trans ?_
  refine (va_up_o (by decide)).trans ?_
  refine (o_eAx (by decide)).trans ?_
  refine (va_up_o (by decide)).trans ?_
  refine (va_up_o (by decide)).trans ?_
  refine (o_eBt (by decide)).trans ?_
  refine (va_up_o (by decide)).trans ?_
  refine (va_up_o (by decide)).trans ?_
  exact v_eMk_71
theorem v_eLo_72 : eLo q en 72 = (.inl (q.2.2.2 0, 10, .inl (fun _ => 0))) := by
  unfold eLo
  refine (va_up_o (by decide)).trans ?_
  refine (va_up_o (by decide)).trans ?_
  refine (va_up_o (by decide)).trans ?_
  refine (va_up_o (by decide)).trans ?_
  refine (va_up_o (by decide)).trans ?_
  refine (va_up_o (by decide)).trans ?_
  refine (va_up_o (by decide)).trans ?_
  refine (va_up_o (by decide)).trans ?_
  refine (va_up_o (by decide)).trans ?_
  refine (va_up_o (by decide)).trans ?_
  refine (va_up_o (by decide)).trans ?_
  refine (o_eFi (by decide)).trans ?_
  refine (va_up_o (by decide)).trans ?_
  refine (va_up_o (by decide)).trans ?_
  refine (o_eAx (by decide)).trans ?_
  refine (va_up_o (by decide)).trans ?_
  refine (va_up_o (by decide)).trans ?_
  refine (o_eBt (by decide)).trans ?_
  refine (va_up_o (by decide)).trans ?_
  refine (va_up_o (by decide)).trans ?_
  exact v_eMk_72
theorem v_eLo_73 : eLo q en 73 = (.inl (q.2.2.2 0, 10, .inl (fun _ => 0))) := by
  unfold eLo
  refine (va_up_o (by decide)).trans ?_
  refine (va_up_o (by decide)).trans ?_
  refine (va_up_o (by decide)).trans ?_
  refine (va_up_o (by decide)).trans ?_
  refine (va_up_o (by decide)).trans ?_
  refine (va_up_o (by decide)).trans ?_
  refine (va_up_o (by decide)).trans ?_
  refine (va_up_o (by decide)).trans ?_
  refine (va_up_o (by decide)).trans ?_
  refine (va_up_o (by decide)).trans ?_
  refine (va_up_o (by decide)).trans ?_
  refine (o_eFi (by decide)).trans ?_
  refine (va_up_o (by decide)).trans ?_
  refine (va_up_o (by decide)).trans ?_
  refine (o_eAx (by decide)).trans ?_
  refine (va_up_o (by decide)).trans ?_
  refine (va_up_o (by decide)).trans ?_
  refine (o_eBt (by decide)).trans ?_
  refine (va_up_o (by decide)).trans ?_
  refine (va_up_o (by decide)).trans ?_
  exact v_eMk_73
theorem v_eLo_74 : eLo q en 74 = (.inl (q.2.2.2 0, 10, .inl (fun _ => 0))) := by
  unfold eLo
  refine (va_up_o (by decide)).trans ?_
  refine (va_up_o (by decide)).trans ?_
  refine (va_up_o (by decide)).trans ?_
  refine (va_up_o (by decide)).trans ?_
  refine (va_up_o (by decide)).trans ?_
  refine (va_up_o (by decide)).trans ?_
  refine (va_up_o (by decide)).trans ?_
  refine (va_up_o (by decide)).trans ?_
  refine (va_up_o (by decide)).trans ?_
  refine (va_up_o (by decide)).trans ?_
  refine (va_up_o (by decide)).trans ?_
  refine (o_eFi (by decide)).trans ?_
  refine (va_up_o (by decide)).trans ?_
  refine (va_up_o (by decide)).trans ?_
  refine (o_eAx (by decide)).trans ?_
  refine (va_up_o (by decide)).trans ?_
  refine (va_up_o (by decide)).trans ?_
  refine (o_eBt (by decide)).trans ?_
  refine (va_up_o (by decide)).trans ?_
  refine (va_up_o (by decide)).trans ?_
  exact v_eMk_74
theorem v_eLo_75 : eLo q en 75 = (.inl (q.2.2.2 0, 10, .inl (fun _ => 0))) := by
  unfold eLo
  refine (va_up_o (by decide)).trans ?_
  refine (va_up_o (by decide)).trans ?_
  refine (va_up_o (by decide)).trans ?_
  refine (va_up_o (by decide)).trans ?_
  refine (va_up_o (by decide)).trans ?_
  refine (va_up_o (by decide)).trans ?_
  refine (va_up_o (by decide)).trans ?_
  refine (va_up_o (by decide)).trans ?_
  refine (va_up_o (by decide)).trans ?_
  refine (va_up_o (by decide)).trans ?_
  refine (va_up_o (by decide)).trans ?_
  refine (o_eFi (by decide)).trans ?_
  refine (va_up_o (by decide)).trans ?_
  refine (va_up_o (by decide)).trans ?_
  refine (o_eAx (by decide)).trans ?_
  refine (va_up_o (by decide)).trans ?_
  refine (va_up_o (by decide)).trans ?_
  refine (o_eBt (by decide)).trans ?_
  refine (va_up_o (by decide)).trans ?_
  refine (va_up_o (by decide)).trans ?_
  exact v_eMk_75
theorem v_eLo_76 : eLo q en 76 = (.inr (1, [.ref (q.2.2.1 + 77), .ref (q.2.2.1 + 88)])) := by
  unfold eLo
  refine (va_up_o (by decide)).trans ?_
  refine (va_up_o (by decide)).trans ?_
  refine (va_up_o (by decide)).trans ?_
  refine (va_up_o (by decide)).trans ?_
  refine (va_up_o (by decide)).trans ?_
  refine (va_up_o (by decide)).trans ?_
  refine (va_up_o (by decide)).trans ?_
  refine (va_up_o (by decide)).trans ?_
  refine (va_up_o (by decide)).trans ?_
  refine (va_up_o (by decide)).trans ?_
  refine (va_up_o (by decide)).trans ?_
  refine (o_eFi (by decide)).trans ?_
  refine (va_up_o (by decide)).trans ?_
  refine (va_up_o (by decide)).trans ?_
  refine (o_eAx (by decide)).trans ?_
  refine (va_up_o (by decide)).trans ?_
  refine (va_up_o (by decide)).trans ?_
  exact v_eBt_76
theorem v_eLo_77 : eLo q en 77 = (refE (q.2.2.2 5) 10 (q.2.2.1 + 77 + 1)) := by
  unfold eLo
  refine (va_up_o (by decide)).trans ?_
  refine (va_up_o (by decide)).trans ?_
  refine (va_up_o (by decide)).trans ?_
  refine (va_up_o (by decide)).trans ?_
  refine (va_up_o (by decide)).trans ?_
  refine (va_up_o (by decide)).trans ?_
  refine (va_up_o (by decide)).trans ?_
  refine (va_up_o (by decide)).trans ?_
  refine (va_up_o (by decide)).trans ?_
  refine (va_up_o (by decide)).trans ?_
  refine (va_up_o (by decide)).trans ?_
  refine (o_eFi (by decide)).trans ?_
  refine (va_up_o (by decide)).trans ?_
  refine (va_up_o (by decide)).trans ?_
  refine (o_eAx (by decide)).trans ?_
  refine (va_up_o (by decide)).trans ?_
  refine (va_up_o (by decide)).trans ?_
  exact v_eBt_77
theorem v_eLo_78 : eLo q en 78 = (.inl (q.2.2.2 2, 10, .inr (.inl (fun _ => 0)))) := by
  unfold eLo
  refine (va_up_o (by decide)).trans ?_
  refine (va_up_o (by decide)).trans ?_
  refine (va_up_o (by decide)).trans ?_
  refine (va_up_o (by decide)).trans ?_
  refine (va_up_o (by decide)).trans ?_
  refine (va_up_o (by decide)).trans ?_
  refine (va_up_o (by decide)).trans ?_
  refine (va_up_o (by decide)).trans ?_
  refine (va_up_o (by decide)).trans ?_
  refine (va_up_o (by decide)).trans ?_
  refine (va_up_o (by decide)).trans ?_
  refine (o_eFi (by decide)).trans ?_
  refine (va_up_o (by decide)).trans ?_
  refine (va_up_o (by decide)).trans ?_
  refine (o_eAx (by decide)).trans ?_
  refine (va_up_o (by decide)).trans ?_
  refine (va_up_o (by decide)).trans ?_
  exact v_eBt_78
theorem v_eLo_79 : eLo q en 79 = (.inl (q.2.2.2 2, 10, .inr (.inl (fun _ => 0)))) := by
  unfold eLo
  refine (va_up_o (by decide)).trans ?_
  refine (va_up_o (by decide)).trans ?_
  refine (va_up_o (by decide)).trans ?_
  refine (va_up_o (by decide)).trans ?_
  refine (va_up_o (by decide)).trans ?_
  refine (va_up_o (by decide)).trans ?_
  refine (va_up_o (by decide)).trans ?_
  refine (va_up_o (by decide)).trans ?_
  refine (va_up_o (by decide)).trans ?_
  refine (va_up_o (by decide)).trans ?_
  refine (va_up_o (by decide)).trans ?_
  refine (o_eFi (by decide)).trans ?_
  refine (va_up_o (by decide)).trans ?_
  refine (va_up_o (by decide)).trans ?_
  refine (o_eAx (by decide)).trans ?_
  refine (va_up_o (by decide)).trans ?_
  refine (va_up_o (by decide)).trans ?_
  exact v_eBt_79
theorem v_eLo_80 : eLo q en 80 = (.inl (q.2.2.2 2, 10, .inr (.inl (fun _ => 0)))) := by
  unfold eLo
  refine (va_up_o (by decide)).trans ?_
  refine (va_up_o (by decide)).trans ?_
  refine (va_up_o (by decide)).trans ?_
  refine (va_up_o (by decide)).trans ?_
  refine (va_up_o (by decide)).trans ?_
  refine (va_up_o (by decide)).trans ?_
  refine (va_up_o (by decide)).trans ?_
  refine (va_up_o (by decide)).trans ?_
  refine (va_up_o (by decide)).trans ?_
  refine (va_up_o (by decide)).trans ?_
  refine (va_up_o (by decide)).trans ?_
  refine (o_eFi (by decide)).trans ?_
  refine (va_up_o (by decide)).trans ?_
  refine (va_up_o (by decide)).trans ?_
  refine (o_eAx (by decide)).trans ?_
  refine (va_up_o (by decide)).trans ?_
  refine (va_up_o (by decide)).trans ?_
  exact v_eBt_80
theorem v_eLo_81 : eLo q en 81 = (.inl (q.2.2.2 2, 10, .inr (.inl (fun _ => 0)))) := by
  unfold eLo
  refine (va_up_o (by decide)).trans ?_
  refine (va_up_o (by decide)).trans ?_
  refine (va_up_o (by decide)).trans ?_
  refine (va_up_o (by decide)).trans ?_
  refine (va_up_o (by decide)).trans ?_
  refine (va_up_o (by decide)).trans ?_
  refine (va_up_o (by decide)).trans ?_
  refine (va_up_o (by decide)).trans ?_
  refine (va_up_o (by decide)).trans ?_
  refine (va_up_o (by decide)).trans ?_
  refine (va_up_o (by decide)).trans ?_
  refine (o_eFi (by decide)).trans ?_
  refine (va_up_o (by decide)).trans ?_
  refine (va_up_o (by decide)).trans ?_
  refine (o_eAx (by decide)).trans ?_
  refine (va_up_o (by decide)).trans ?_
  refine (va_up_o (by decide)).trans ?_
  exact v_eBt_81
theorem v_eLo_82 : eLo q en 82 = (.inl (q.2.2.2 2, 10, .inr (.inl (fun _ => 0)))) := by
  unfold eLo
  refine (va_up_o (by decide)).trans ?_
  refine (va_up_o (by decide)).trans ?_
  refine (va_up_o (by decide)).trans ?_
  refine (va_up_o (by decide)).trans ?_
  refine (va_up_o (by decide)).trans ?_
  refine (va_up_o (by decide)).trans ?_
  refine (va_up_o (by decide)).trans ?_
  refine (va_up_o (by decide)).trans ?_
  refine (va_up_o (by decide)).trans ?_
  refine (va_up_o (by decide)).trans ?_
  refine (va_up_o (by decide)).trans ?_
  refine (o_eFi (by decide)).trans ?_
  refine (va_up_o (by decide)).trans ?_
  refine (va_up_o (by decide)).trans ?_
  refine (o_eAx (by decide)).trans ?_
  refine (va_up_o (by decide)).trans ?_
  refine (va_up_o (by decide)).trans ?_
  exact v_eBt_82
theorem v_eLo_83 : eLo q en 83 = (.inl (q.2.2.2 2, 10, .inr (.inl (fun _ => 0)))) := by
  unfold eLo
  refine (va_up_o (by decide)).trans ?_
  refine (va_up_o (by decide)).trans ?_
  refine (va_up_o (by decide)).trans ?_
  refine (va_up_o (by decide)).trans ?_
  refine (va_up_o (by decide)).trans ?_
  refine (va_up_o (by decide)).trans ?_
  refine (va_up_o (by decide)).trans ?_
  refine (va_up_o (by decide)).trans ?_
  refine (va_up_o (by decide)).trans ?_
  refine (va_up_o (by decide)).trans ?_
  refine (va_up_o (by decide)).trans ?_
  refine (o_eFi (by decide)).trans ?_
  refine (va_up_o (by decide)).trans ?_
  refine (va_up_o (by decide)).trans ?_
  refine (o_eAx (by decide)).trans ?_
  refine (va_up_o (by decide)).trans ?_
  refine (va_up_o (by decide)).trans ?_
  exact v_eBt_83
theorem v_eLo_84 : eLo q en 84 = (.inl (q.2.2.2 2, 10, .inr (.inl (fun _ => 0)))) := by
  unfold eLo
  refine (va_up_o (by decide)).trans ?_
  refine (va_up_o (by decide)).trans ?_
  refine (va_up_o (by decide)).trans ?_
  refine (va_up_o (by decide)).trans ?_
  refine (va_up_o (by decide)).trans ?_
  refine (va_up_o (by decide)).trans ?_
  refine (va_up_o (by decide)).trans ?_
  refine (va_up_o (by decide)).trans ?_
  refine (va_up_o (by decide)).trans ?_
  refine (va_up_o (by decide)).trans ?_
  refine (va_up_o (by decide)).trans ?_
  refine (o_eFi (by decide)).trans ?_
  refine (va_up_o (by decide)).trans ?_
  refine (va_up_o (by decide)).trans ?_
  refine (o_eAx (by decide)).trans ?_
  refine (va_up_o (by decide)).trans ?_
  refine (va_up_o (by decide)).trans ?_
  exact v_eBt_84
theorem v_eLo_85 : eLo q en 85 = (.inl (q.2.2.2 2, 10, .inr (.inl (fun _ => 0)))) := by
  unfold eLo
  refine (va_up_o (by decide)).trans ?_
  refine (va_up_o (by decide)).trans ?_
  refine (va_up_o (by decide)).trans ?_
  refine (va_up_o (by decide)).trans ?_
  refine (va_up_o (by decide)).trans ?_
  refine (va_up_o (by decide)).trans ?_
  refine (va_up_o (by decide)).trans ?_
  refine (va_up_o (by decide)).trans ?_
  refine (va_up_o (by decide)).trans ?_
  refine (va_up_o (by decide)).trans ?_
  refine (va_up_o (by decide)).trans ?_
  refine (o_eFi (by decide)).trans ?_
  refine (va_up_o (by decide)).trans ?_
  refine (va_up_o (by decide)).trans ?_
  refine (o_eAx (by decide)).trans ?_
  refine (va_up_o (by decide)).trans ?_
  refine (va_up_o (by decide)).trans ?_
  exact v_eBt_85
theorem v_eLo_86 : eLo q en 86 = (.inl (q.2.2.2 2, 10, .inr (.inl (fun _ => 0)))) := by
  unfold eLo
  refine (va_up_o (by decide)).trans ?_
  refine (va_up_o (by decide)).trans ?_
  refine (va_up_o (by decide)).trans ?_
  refine (va_up_o (by decide)).trans ?_
  refine (va_up_o (by decide)).trans ?_
  refine (va_up_o (by decide)).trans ?_
  refine (va_up_o (by decide)).trans ?_
  refine (va_up_o (by decide)).trans ?_
  refine (va_up_o (by decide)).trans ?_
  refine (va_up_o (by decide)).trans ?_
  refine (va_up_o (by decide)).trans ?_
  refine (o_eFi (by decide)).trans ?_
  refine (va_up_o (by decide)).trans ?_
  refine (va_up_o (by decide)).trans ?_
  refine (o_eAx (by decide)).trans ?_
  refine (va_up_o (by decide)).trans ?_
  refine (va_up_o (by decide)).trans ?_
  exact v_eBt_86
theorem v_eLo_87 : eLo q en 87 = (.inl (q.2.2.2 2, 10, .inr (.inl (fun _ => 0)))) := by
  unfold eLo
  refine (va_up_o (by decide)).trans ?_
  refine (va_up_o (by decide)).trans ?_
  refine (va_up_o (by decide)).trans ?_
  refine (va_up_o (by decide)).trans ?_
  refine (va_up_o (by decide)).trans ?_
  refine (va_up_o (by decide)).trans ?_
  refine (va_up_o (by decide)).trans ?_
  refine (va_up_o (by decide)).trans ?_
  refine (va_up_o (by decide)).trans ?_
  refine (va_up_o (by decide)).trans ?_
  refine (va_up_o (by decide)).trans ?_
  refine (o_eFi (by decide)).trans ?_
  refine (va_up_o (by decide)).trans ?_
  refine (va_up_o (by decide)).trans ?_
  refine (o_eAx (by decide)).trans ?_
  refine (va_up_o (by decide)).trans ?_
  refine (va_up_o (by decide)).trans ?_
  exact v_eBt_87
theorem v_eLo_88 : eLo q en 88 = (.inl (q.2.2.2 0, 10, .inl (fun _ => 0))) := by
  unfold eLo
  refine (va_up_o (by decide)).trans ?_
  refine (va_up_o (by decide)).trans ?_
  refine (va_up_o (by decide)).trans ?_
  refine (va_up_o (by decide)).trans ?_
  refine (va_up_o (by decide)).trans ?_
  refine (va_up_o (by decide)).trans ?_
  refine (va_up_o (by decide)).trans ?_
  refine (va_up_o (by decide)).trans ?_
  refine (va_up_o (by decide)).trans ?_
  refine (va_up_o (by decide)).trans ?_
  refine (va_up_o (by decide)).trans ?_
  refine (o_eFi (by decide)).trans ?_
  refine (va_up_o (by decide)).trans ?_
  refine (va_up_o (by decide)).trans ?_
  refine (o_eAx (by decide)).trans ?_
  refine (va_up_o (by decide)).trans ?_
  refine (va_up_o (by decide)).trans ?_
  exact v_eBt_88
theorem v_eLo_89 : eLo q en 89 = (.inr (0, [.ref (q.2.2.1 + 90), .ref (q.2.2.1 + 99), .ref (q.2.2.1 + 100), .int 0, .int 0])) := by
  unfold eLo
  refine (va_up_o (by decide)).trans ?_
  refine (va_up_o (by decide)).trans ?_
  refine (va_up_o (by decide)).trans ?_
  refine (va_up_o (by decide)).trans ?_
  refine (va_up_o (by decide)).trans ?_
  refine (va_up_o (by decide)).trans ?_
  refine (va_up_o (by decide)).trans ?_
  refine (va_up_o (by decide)).trans ?_
  refine (va_up_o (by decide)).trans ?_
  refine (va_up_o (by decide)).trans ?_
  refine (va_up_o (by decide)).trans ?_
  refine (o_eFi (by decide)).trans ?_
  refine (va_up_o (by decide)).trans ?_
  refine (va_up_o (by decide)).trans ?_
  exact v_eAx_89
theorem v_eLo_90 : eLo q en 90 = (refE (q.2.2.2 4) 8 (q.2.2.1 + 90 + 1)) := by
  unfold eLo
  refine (va_up_o (by decide)).trans ?_
  refine (va_up_o (by decide)).trans ?_
  refine (va_up_o (by decide)).trans ?_
  refine (va_up_o (by decide)).trans ?_
  refine (va_up_o (by decide)).trans ?_
  refine (va_up_o (by decide)).trans ?_
  refine (va_up_o (by decide)).trans ?_
  refine (va_up_o (by decide)).trans ?_
  refine (va_up_o (by decide)).trans ?_
  refine (va_up_o (by decide)).trans ?_
  refine (va_up_o (by decide)).trans ?_
  refine (o_eFi (by decide)).trans ?_
  refine (va_up_o (by decide)).trans ?_
  refine (va_up_o (by decide)).trans ?_
  exact v_eAx_90
theorem v_eLo_91 : eLo q en 91 = (.inl (q.2.2.2 0, 8, .inl (fun _ => 0))) := by
  unfold eLo
  refine (va_up_o (by decide)).trans ?_
  refine (va_up_o (by decide)).trans ?_
  refine (va_up_o (by decide)).trans ?_
  refine (va_up_o (by decide)).trans ?_
  refine (va_up_o (by decide)).trans ?_
  refine (va_up_o (by decide)).trans ?_
  refine (va_up_o (by decide)).trans ?_
  refine (va_up_o (by decide)).trans ?_
  refine (va_up_o (by decide)).trans ?_
  refine (va_up_o (by decide)).trans ?_
  refine (va_up_o (by decide)).trans ?_
  refine (o_eFi (by decide)).trans ?_
  refine (va_up_o (by decide)).trans ?_
  refine (va_up_o (by decide)).trans ?_
  exact v_eAx_91
theorem v_eLo_92 : eLo q en 92 = (.inl (q.2.2.2 0, 8, .inl (fun _ => 0))) := by
  unfold eLo
  refine (va_up_o (by decide)).trans ?_
  refine (va_up_o (by decide)).trans ?_
  refine (va_up_o (by decide)).trans ?_
  refine (va_up_o (by decide)).trans ?_
  refine (va_up_o (by decide)).trans ?_
  refine (va_up_o (by decide)).trans ?_
  refine (va_up_o (by decide)).trans ?_
  refine (va_up_o (by decide)).trans ?_
  refine (va_up_o (by decide)).trans ?_
  refine (va_up_o (by decide)).trans ?_
  refine (va_up_o (by decide)).trans ?_
  refine (o_eFi (by decide)).trans ?_
  refine (va_up_o (by decide)).trans ?_
  refine (va_up_o (by decide)).trans ?_
  exact v_eAx_92
theorem v_eLo_93 : eLo q en 93 = (.inl (q.2.2.2 0, 8, .inl (fun _ => 0))) := by
  unfold eLo
  refine (va_up_o (by decide)).trans ?_
  refine (va_up_o (by decide)).trans ?_
  refine (va_up_o (by decide)).trans ?_
  refine (va_up_o (by decide)).trans ?_
  refine (va_up_o (by decide)).trans ?_
  refine (va_up_o (by decide)).trans ?_
  refine (va_up_o (by decide)).trans ?_
  refine (va_up_o (by decide)).trans ?_
  refine (va_up_o (by decide)).trans ?_
  refine (va_up_o (by decide)).trans ?_
  refine (va_up_o (by decide)).trans ?_
  refine (o_eFi (by decide)).trans ?_
  refine (va_up_o (by decide)).trans ?_
  refine (va_up_o (by decide)).trans ?_
  exact v_eAx_93
theorem v_eLo_94 : eLo q en 94 = (.inl (q.2.2.2 0, 8, .inl (fun _ => 0))) := by
  unfold eLo
  refine (va_up_o (by decide)).trans ?_
  refine (va_up_o (by decide)).trans ?_
  refine (va_up_o (by decide)).trans ?_
  refine (va_up_o (by decide)).trans ?_
  refine (va_up_o (by decide)).trans ?_
  refine (va_up_o (by decide)).trans ?_
  refine (va_up_o (by decide)).trans ?_
  refine (va_up_o (by decide)).trans ?_
  refine (va_up_o (by decide)).trans ?_
  refine (va_up_o (by decide)).trans ?_
  refine (va_up_o (by decide)).trans ?_
  refine (o_eFi (by decide)).trans ?_
  refine (va_up_o (by decide)).trans ?_
  refine (va_up_o (by decide)).trans ?_
  exact v_eAx_94
theorem v_eLo_95 : eLo q en 95 = (.inl (q.2.2.2 0, 8, .inl (fun _ => 0))) := by
  unfold eLo
  refine (va_up_o (by decide)).trans ?_
  refine (va_up_o (by decide)).trans ?_
  refine (va_up_o (by decide)).trans ?_
  refine (va_up_o (by decide)).trans ?_
  refine (va_up_o (by decide)).trans ?_
  refine (va_up_o (by decide)).trans ?_
  refine (va_up_o (by decide)).trans ?_
  refine (va_up_o (by decide)).trans ?_
  refine (va_up_o (by decide)).trans ?_
  refine (va_up_o (by decide)).trans ?_
  refine (va_up_o (by decide)).trans ?_
  refine (o_eFi (by decide)).trans ?_
  refine (va_up_o (by decide)).trans ?_
  refine (va_up_o (by decide)).trans ?_
  exact v_eAx_95
theorem v_eLo_96 : eLo q en 96 = (.inl (q.2.2.2 0, 8, .inl (fun _ => 0))) := by
  unfold eLo
  refine (va_up_o (by decide)).trans ?_
  refine (va_up_o (by decide)).trans ?_
  refine (va_up_o (by decide)).trans ?_
  refine (va_up_o (by decide)).trans ?_
  refine (va_up_o (by decide)).trans ?_
  refine (va_up_o (by decide)).trans ?_
  refine (va_up_o (by decide)).trans ?_
  refine (va_up_o (by decide)).trans ?_
  refine (va_up_o (by decide)).trans ?_
  refine (va_up_o (by decide)).trans ?_
  refine (va_up_o (by decide)).trans ?_
  refine (o_eFi (by decide)).trans ?_
  refine (va_up_o (by decide)).trans ?_
  refine (va_up_o (by decide)).trans ?_
  exact v_eAx_96
theorem v_eLo_97 : eLo q en 97 = (.inl (q.2.2.2 0, 8, .inl (fun _ => 0))) := by
  unfold eLo
  refine (va_up_o (by decide)).trans ?_
  refine (va_up_o (by decide)).trans ?_
  refine (va_up_o (by decide)).trans ?_
  refine (va_up_o (by decide)).trans ?_
  refine (va_up_o (by decide)).trans ?_
  refine (va_up_o (by decide)).trans ?_
  refine (va_up_o (by decide)).trans ?_
  refine (va_up_o (by decide)).trans ?_
  refine (va_up_o (by decide)).trans ?_
  refine (va_up_o (by decide)).trans ?_
  refine (va_up_o (by decide)).trans ?_
  refine (o_eFi (by decide)).trans ?_
  refine (va_up_o (by decide)).trans ?_
  refine (va_up_o (by decide)).trans ?_
  exact v_eAx_97
theorem v_eLo_98 : eLo q en 98 = (.inl (q.2.2.2 0, 8, .inl (fun _ => 0))) := by
  unfold eLo
  refine (va_up_o (by decide)).trans ?_
  refine (va_up_o (by decide)).trans ?_
  refine (va_up_o (by decide)).trans ?_
  refine (va_up_o (by decide)).trans ?_
  refine (va_up_o (by decide)).trans ?_
  refine (va_up_o (by decide)).trans ?_
  refine (va_up_o (by decide)).trans ?_
  refine (va_up_o (by decide)).trans ?_
  refine (va_up_o (by decide)).trans ?_
  refine (va_up_o (by decide)).trans ?_
  refine (va_up_o (by decide)).trans ?_
  refine (o_eFi (by decide)).trans ?_
  refine (va_up_o (by decide)).trans ?_
  refine (va_up_o (by decide)).trans ?_
  exact v_eAx_98
theorem v_eLo_99 : eLo q en 99 = (.inl (q.2.2.2 0, 2048, .inl (fun _ => 0))) := by
  unfold eLo
  refine (va_up_o (by decide)).trans ?_
  refine (va_up_o (by decide)).trans ?_
  refine (va_up_o (by decide)).trans ?_
  refine (va_up_o (by decide)).trans ?_
  refine (va_up_o (by decide)).trans ?_
  refine (va_up_o (by decide)).trans ?_
  refine (va_up_o (by decide)).trans ?_
  refine (va_up_o (by decide)).trans ?_
  refine (va_up_o (by decide)).trans ?_
  refine (va_up_o (by decide)).trans ?_
  refine (va_up_o (by decide)).trans ?_
  refine (o_eFi (by decide)).trans ?_
  refine (va_up_o (by decide)).trans ?_
  refine (va_up_o (by decide)).trans ?_
  exact v_eAx_99
theorem v_eLo_100 : eLo q en 100 = (.inl (q.2.2.2 0, 8, .inl (fun _ => 0))) := by
  unfold eLo
  refine (va_up_o (by decide)).trans ?_
  refine (va_up_o (by decide)).trans ?_
  refine (va_up_o (by decide)).trans ?_
  refine (va_up_o (by decide)).trans ?_
  refine (va_up_o (by decide)).trans ?_
  refine (va_up_o (by decide)).trans ?_
  refine (va_up_o (by decide)).trans ?_
  refine (va_up_o (by decide)).trans ?_
  refine (va_up_o (by decide)).trans ?_
  refine (va_up_o (by decide)).trans ?_
  refine (va_up_o (by decide)).trans ?_
  refine (o_eFi (by decide)).trans ?_
  refine (va_up_o (by decide)).trans ?_
  refine (va_up_o (by decide)).trans ?_
  exact v_eAx_100
theorem v_eLo_101 : eLo q en 101 = (.inr (2, [.ref (q.2.2.1 + 102), .int 0])) := by
  unfold eLo
  refine (va_up_o (by decide)).trans ?_
  refine (va_up_o (by decide)).trans ?_
  refine (va_up_o (by decide)).trans ?_
  refine (va_up_o (by decide)).trans ?_
  refine (va_up_o (by decide)).trans ?_
  refine (va_up_o (by decide)).trans ?_
  refine (va_up_o (by decide)).trans ?_
  refine (va_up_o (by decide)).trans ?_
  refine (va_up_o (by decide)).trans ?_
  refine (va_up_o (by decide)).trans ?_
  refine (va_up_o (by decide)).trans ?_
  exact v_eFi_101
theorem v_eLo_102 : eLo q en 102 = (.inl (q.2.2.2 0, 6, .inl (fun _ => 0))) := by
  unfold eLo
  refine (va_up_o (by decide)).trans ?_
  refine (va_up_o (by decide)).trans ?_
  refine (va_up_o (by decide)).trans ?_
  refine (va_up_o (by decide)).trans ?_
  refine (va_up_o (by decide)).trans ?_
  refine (va_up_o (by decide)).trans ?_
  refine (va_up_o (by decide)).trans ?_
  refine (va_up_o (by decide)).trans ?_
  refine (va_up_o (by decide)).trans ?_
  refine (va_up_o (by decide)).trans ?_
  refine (va_up_o (by decide)).trans ?_
  exact v_eFi_102
theorem v_eLo_103 : eLo q en 103 = (.inl (q.2.2.2 0, 10, .inl (fillF (fun _ => 0) 10 (-9)))) := by
  unfold eLo
  refine (va_up_o (by decide)).trans ?_
  refine (va_up_o (by decide)).trans ?_
  refine (va_up_o (by decide)).trans ?_
  refine (va_up_o (by decide)).trans ?_
  refine (va_up_o (by decide)).trans ?_
  refine (va_up_o (by decide)).trans ?_
  refine (va_up_o (by decide)).trans ?_
  exact va_up_s
theorem v_eLo_104 : eLo q en 104 = (.inl (q.2.2.2 0, 10, .inl (fillF (fun _ => 0) 10 (-9)))) := by
  unfold eLo
  refine (va_up_o (by decide)).trans ?_
  refine (va_up_o (by decide)).trans ?_
  refine (va_up_o (by decide)).trans ?_
  refine (va_up_o (by decide)).trans ?_
  exact va_up_s
theorem v_eLo_105 : eLo q en 105 = (.inl (q.2.2.2 0, 19, .inl (fun _ => 0))) := by
  unfold eLo
  refine (va_up_o (by decide)).trans ?_
  refine (va_up_o (by decide)).trans ?_
  refine (va_up_o (by decide)).trans ?_
  exact va_up_s
end
theorem f_0 (q : NG) : eF q 0 = (.inr (6, [.ref (q.2.2.1 + 1), .ref (q.2.2.1 + 14), .ref (q.2.2.1 + 63), .ref (q.2.2.1 + 76), .ref (q.2.2.1 + 89), .ref (q.2.2.1 + 101), .ref (q.2.2.1 + 103), .ref (q.2.2.1 + 104), .ref (q.2.2.1 + 105), .int 0, .int 0])) := by
  unfold eF
  exact (o_eMo (by decide)).trans ((va_up_o (by decide)).trans v_eLo_0)
theorem f_1 (q : NG) : eF q 1 = (.inr (4, [.ref (q.2.2.1 + 2), .ref (q.2.2.1 + 13), .int 0])) := by
  unfold eF
  exact (o_eMo (by decide)).trans ((va_up_o (by decide)).trans v_eLo_1)
theorem f_2 (q : NG) : eF q 2 = (refE (q.2.2.2 4) 10 (q.2.2.1 + 2 + 1)) := by
  unfold eF
  exact (o_eMo (by decide)).trans ((va_up_o (by decide)).trans v_eLo_2)
theorem f_3 (q : NG) : eF q 3 = (.inl (q.2.2.2 0, 10, .inl (fun _ => 0))) := by
  unfold eF
  exact (o_eMo (by decide)).trans ((va_up_o (by decide)).trans v_eLo_3)
theorem f_4 (q : NG) : eF q 4 = (.inl (q.2.2.2 0, 10, .inl (fun _ => 0))) := by
  unfold eF
  exact (o_eMo (by decide)).trans ((va_up_o (by decide)).trans v_eLo_4)
theorem f_5 (q : NG) : eF q 5 = (.inl (q.2.2.2 0, 10, .inl (fun _ => 0))) := by
  unfold eF
  exact (o_eMo (by decide)).trans ((va_up_o (by decide)).trans v_eLo_5)
theorem f_6 (q : NG) : eF q 6 = (.inl (q.2.2.2 0, 10, .inl (fun _ => 0))) := by
  unfold eF
  exact (o_eMo (by decide)).trans ((va_up_o (by decide)).trans v_eLo_6)
theorem f_7 (q : NG) : eF q 7 = (.inl (q.2.2.2 0, 10, .inl (fun _ => 0))) := by
  unfold eF
  exact (o_eMo (by decide)).trans ((va_up_o (by decide)).trans v_eLo_7)
theorem f_8 (q : NG) : eF q 8 = (.inl (q.2.2.2 0, 10, .inl (fun _ => 0))) := by
  unfold eF
  exact (o_eMo (by decide)).trans ((va_up_o (by decide)).trans v_eLo_8)
theorem f_9 (q : NG) : eF q 9 = (.inl (q.2.2.2 0, 10, .inl (fun _ => 0))) := by
  unfold eF
  exact (o_eMo (by decide)).trans ((va_up_o (by decide)).trans v_eLo_9)
theorem f_10 (q : NG) : eF q 10 = (.inl (q.2.2.2 0, 10, .inl (fun _ => 0))) := by
  unfold eF
  exact (o_eMo (by decide)).trans ((va_up_o (by decide)).trans v_eLo_10)
theorem f_11 (q : NG) : eF q 11 = (.inl (q.2.2.2 0, 10, .inl (fun _ => 0))) := by
  unfold eF
  exact (o_eMo (by decide)).trans ((va_up_o (by decide)).trans v_eLo_11)
theorem f_12 (q : NG) : eF q 12 = (.inl (q.2.2.2 0, 10, .inl (fun _ => 0))) := by
  unfold eF
  exact (o_eMo (by decide)).trans ((va_up_o (by decide)).trans v_eLo_12)
theorem f_13 (q : NG) : eF q 13 = (.inl (q.2.2.2 1, 10, .inl (fun _ => 0))) := by
  unfold eF
  exact (o_eMo (by decide)).trans ((va_up_o (by decide)).trans v_eLo_13)
theorem f_14 (q : NG) : eF q 14 = (.inl (q.2.2.2 3, 4, .inr (.inr (.inr (.inr (va_up (va_up (va_up (va_up (fun _ => none) 0 (some (q.2.2.1 + 15))) 1 (some (q.2.2.1 + 27))) 2 (some (q.2.2.1 + 39))) 3 (some (q.2.2.1 + 51)))))))) := by
  unfold eF
  exact (o_eMo (by decide)).trans ((va_up_o (by decide)).trans v_eLo_14)
theorem f_15 (q : NG) : eF q 15 = (.inr (5, [.ref (q.2.2.1 + 16), .ref (q.2.2.1 + 17), .ref (q.2.2.1 + 18), .ref (q.2.2.1 + 19), .ref (q.2.2.1 + 20), .ref (q.2.2.1 + 21), .ref (q.2.2.1 + 22), .ref (q.2.2.1 + 23), .ref (q.2.2.1 + 24), .ref (q.2.2.1 + 25), .ref (q.2.2.1 + 26), .int 0, .int 0, .int 0])) := by
  unfold eF
  exact (o_eMo (by decide)).trans ((va_up_o (by decide)).trans v_eLo_15)
theorem f_16 (q : NG) : eF q 16 = (.inl (q.2.2.2 0, 19, .inl (fun _ => 0))) := by
  unfold eF
  exact (o_eMo (by decide)).trans ((va_up_o (by decide)).trans v_eLo_16)
theorem f_17 (q : NG) : eF q 17 = (.inl (q.2.2.2 0, 19, .inl (fun _ => 0))) := by
  unfold eF
  exact (o_eMo (by decide)).trans ((va_up_o (by decide)).trans v_eLo_17)
theorem f_18 (q : NG) : eF q 18 = (.inl (q.2.2.2 0, 19, .inl (fun _ => 0))) := by
  unfold eF
  exact (o_eMo (by decide)).trans ((va_up_o (by decide)).trans v_eLo_18)
theorem f_19 (q : NG) : eF q 19 = (.inl (q.2.2.2 0, 19, .inl (fun _ => 0))) := by
  unfold eF
  exact (o_eMo (by decide)).trans ((va_up_o (by decide)).trans v_eLo_19)
theorem f_20 (q : NG) : eF q 20 = (.inl (q.2.2.2 0, 19, .inl (fun _ => 0))) := by
  unfold eF
  exact (o_eMo (by decide)).trans ((va_up_o (by decide)).trans v_eLo_20)
theorem f_21 (q : NG) : eF q 21 = (.inl (q.2.2.2 0, 19, .inl (fun _ => 0))) := by
  unfold eF
  exact (o_eMo (by decide)).trans ((va_up_o (by decide)).trans v_eLo_21)
theorem f_22 (q : NG) : eF q 22 = (.inl (q.2.2.2 0, 19, .inl (fun _ => 0))) := by
  unfold eF
  exact (o_eMo (by decide)).trans ((va_up_o (by decide)).trans v_eLo_22)
theorem f_23 (q : NG) : eF q 23 = (.inl (q.2.2.2 1, 19, .inl (fun _ => 0))) := by
  unfold eF
  exact (o_eMo (by decide)).trans ((va_up_o (by decide)).trans v_eLo_23)
theorem f_24 (q : NG) : eF q 24 = (.inl (q.2.2.2 0, 19, .inl (fun _ => 0))) := by
  unfold eF
  exact (o_eMo (by decide)).trans ((va_up_o (by decide)).trans v_eLo_24)
theorem f_25 (q : NG) : eF q 25 = (.inl (q.2.2.2 0, 10, .inl (fun _ => 0))) := by
  unfold eF
  exact (o_eMo (by decide)).trans ((va_up_o (by decide)).trans v_eLo_25)
theorem f_26 (q : NG) : eF q 26 = (.inl (q.2.2.2 0, 19, .inl (fun _ => 0))) := by
  unfold eF
  exact (o_eMo (by decide)).trans ((va_up_o (by decide)).trans v_eLo_26)
theorem f_27 (q : NG) : eF q 27 = (.inr (5, [.ref (q.2.2.1 + 28), .ref (q.2.2.1 + 29), .ref (q.2.2.1 + 30), .ref (q.2.2.1 + 31), .ref (q.2.2.1 + 32), .ref (q.2.2.1 + 33), .ref (q.2.2.1 + 34), .ref (q.2.2.1 + 35), .ref (q.2.2.1 + 36), .ref (q.2.2.1 + 37), .ref (q.2.2.1 + 38), .int 0, .int 0, .int 0])) := by
  unfold eF
  exact (o_eMo (by decide)).trans ((va_up_o (by decide)).trans v_eLo_27)
theorem f_28 (q : NG) : eF q 28 = (.inl (q.2.2.2 0, 19, .inl (fun _ => 0))) := by
  unfold eF
  exact (o_eMo (by decide)).trans ((va_up_o (by decide)).trans v_eLo_28)
theorem f_29 (q : NG) : eF q 29 = (.inl (q.2.2.2 0, 19, .inl (fun _ => 0))) := by
  unfold eF
  exact (o_eMo (by decide)).trans ((va_up_o (by decide)).trans v_eLo_29)
theorem f_30 (q : NG) : eF q 30 = (.inl (q.2.2.2 0, 19, .inl (fun _ => 0))) := by
  unfold eF
  exact (o_eMo (by decide)).trans ((va_up_o (by decide)).trans v_eLo_30)
theorem f_31 (q : NG) : eF q 31 = (.inl (q.2.2.2 0, 19, .inl (fun _ => 0))) := by
  unfold eF
  exact (o_eMo (by decide)).trans ((va_up_o (by decide)).trans v_eLo_31)
theorem f_32 (q : NG) : eF q 32 = (.inl (q.2.2.2 0, 19, .inl (fun _ => 0))) := by
  unfold eF
  exact (o_eMo (by decide)).trans ((va_up_o (by decide)).trans v_eLo_32)
theorem f_33 (q : NG) : eF q 33 = (.inl (q.2.2.2 0, 19, .inl (fun _ => 0))) := by
  unfold eF
  exact (o_eMo (by decide)).trans ((va_up_o (by decide)).trans v_eLo_33)
theorem f_34 (q : NG) : eF q 34 = (.inl (q.2.2.2 0, 19, .inl (fun _ => 0))) := by
  unfold eF
  exact (o_eMo (by decide)).trans ((va_up_o (by decide)).trans v_eLo_34)
theorem f_35 (q : NG) : eF q 35 = (.inl (q.2.2.2 1, 19, .inl (fun _ => 0))) := by
  unfold eF
  exact (o_eMo (by decide)).trans ((va_up_o (by decide)).trans v_eLo_35)
theorem f_36 (q : NG) : eF q 36 = (.inl (q.2.2.2 0, 19, .inl (fun _ => 0))) := by
  unfold eF
  exact (o_eMo (by decide)).trans ((va_up_o (by decide)).trans v_eLo_36)
theorem f_37 (q : NG) : eF q 37 = (.inl (q.2.2.2 0, 10, .inl (fun _ => 0))) := by
  unfold eF
  exact (o_eMo (by decide)).trans ((va_up_o (by decide)).trans v_eLo_37)
theorem f_38 (q : NG) : eF q 38 = (.inl (q.2.2.2 0, 19, .inl (fun _ => 0))) := by
  unfold eF
  exact (o_eMo (by decide)).trans ((va_up_o (by decide)).trans v_eLo_38)
theorem f_39 (q : NG) : eF q 39 = (.inr (5, [.ref (q.2.2.1 + 40), .ref (q.2.2.1 + 41), .ref (q.2.2.1 + 42), .ref (q.2.2.1 + 43), .ref (q.2.2.1 + 44), .ref (q.2.2.1 + 45), .ref (q.2.2.1 + 46), .ref (q.2.2.1 + 47), .ref (q.2.2.1 + 48), .ref (q.2.2.1 + 49), .ref (q.2.2.1 + 50), .int 0, .int 0, .int 0])) := by
  unfold eF
  exact (o_eMo (by decide)).trans ((va_up_o (by decide)).trans v_eLo_39)
theorem f_40 (q : NG) : eF q 40 = (.inl (q.2.2.2 0, 19, .inl (fun _ => 0))) := by
  unfold eF
  exact (o_eMo (by decide)).trans ((va_up_o (by decide)).trans v_eLo_40)
theorem f_41 (q : NG) : eF q 41 = (.inl (q.2.2.2 0, 19, .inl (fun _ => 0))) := by
  unfold eF
  exact (o_eMo (by decide)).trans ((va_up_o (by decide)).trans v_eLo_41)
theorem f_42 (q : NG) : eF q 42 = (.inl (q.2.2.2 0, 19, .inl (fun _ => 0))) := by
  unfold eF
  exact (o_eMo (by decide)).trans ((va_up_o (by decide)).trans v_eLo_42)
theorem f_43 (q : NG) : eF q 43 = (.inl (q.2.2.2 0, 19, .inl (fun _ => 0))) := by
  unfold eF
  exact (o_eMo (by decide)).trans ((va_up_o (by decide)).trans v_eLo_43)
theorem f_44 (q : NG) : eF q 44 = (.inl (q.2.2.2 0, 19, .inl (fun _ => 0))) := by
  unfold eF
  exact (o_eMo (by decide)).trans ((va_up_o (by decide)).trans v_eLo_44)
theorem f_45 (q : NG) : eF q 45 = (.inl (q.2.2.2 0, 19, .inl (fun _ => 0))) := by
  unfold eF
  exact (o_eMo (by decide)).trans ((va_up_o (by decide)).trans v_eLo_45)
theorem f_46 (q : NG) : eF q 46 = (.inl (q.2.2.2 0, 19, .inl (fun _ => 0))) := by
  unfold eF
  exact (o_eMo (by decide)).trans ((va_up_o (by decide)).trans v_eLo_46)
theorem f_47 (q : NG) : eF q 47 = (.inl (q.2.2.2 1, 19, .inl (fun _ => 0))) := by
  unfold eF
  exact (o_eMo (by decide)).trans ((va_up_o (by decide)).trans v_eLo_47)
theorem f_48 (q : NG) : eF q 48 = (.inl (q.2.2.2 0, 19, .inl (fun _ => 0))) := by
  unfold eF
  exact (o_eMo (by decide)).trans ((va_up_o (by decide)).trans v_eLo_48)
theorem f_49 (q : NG) : eF q 49 = (.inl (q.2.2.2 0, 10, .inl (fun _ => 0))) := by
  unfold eF
  exact (o_eMo (by decide)).trans ((va_up_o (by decide)).trans v_eLo_49)
theorem f_50 (q : NG) : eF q 50 = (.inl (q.2.2.2 0, 19, .inl (fun _ => 0))) := by
  unfold eF
  exact (o_eMo (by decide)).trans ((va_up_o (by decide)).trans v_eLo_50)
theorem f_51 (q : NG) : eF q 51 = (.inr (5, [.ref (q.2.2.1 + 52), .ref (q.2.2.1 + 53), .ref (q.2.2.1 + 54), .ref (q.2.2.1 + 55), .ref (q.2.2.1 + 56), .ref (q.2.2.1 + 57), .ref (q.2.2.1 + 58), .ref (q.2.2.1 + 59), .ref (q.2.2.1 + 60), .ref (q.2.2.1 + 61), .ref (q.2.2.1 + 62), .int 0, .int 0, .int 0])) := by
  unfold eF
  exact (o_eMo (by decide)).trans ((va_up_o (by decide)).trans v_eLo_51)
theorem f_52 (q : NG) : eF q 52 = (.inl (q.2.2.2 0, 19, .inl (fun _ => 0))) := by
  unfold eF
  exact (o_eMo (by decide)).trans ((va_up_o (by decide)).trans v_eLo_52)
theorem f_53 (q : NG) : eF q 53 = (.inl (q.2.2.2 0, 19, .inl (fun _ => 0))) := by
  unfold eF
  exact (o_eMo (by decide)).trans ((va_up_o (by decide)).trans v_eLo_53)
theorem f_54 (q : NG) : eF q 54 = (.inl (q.2.2.2 0, 19, .inl (fun _ => 0))) := by
  unfold eF
  exact (o_eMo (by decide)).trans ((va_up_o (by decide)).trans v_eLo_54)
theorem f_55 (q : NG) : eF q 55 = (.inl (q.2.2.2 0, 19, .inl (fun _ => 0))) := by
  unfold eF
  exact (o_eMo (by decide)).trans ((va_up_o (by decide)).trans v_eLo_55)
theorem f_56 (q : NG) : eF q 56 = (.inl (q.2.2.2 0, 19, .inl (fun _ => 0))) := by
  unfold eF
  exact (o_eMo (by decide)).trans ((va_up_o (by decide)).trans v_eLo_56)
theorem f_57 (q : NG) : eF q 57 = (.inl (q.2.2.2 0, 19, .inl (fun _ => 0))) := by
  unfold eF
  exact (o_eMo (by decide)).trans ((va_up_o (by decide)).trans v_eLo_57)
theorem f_58 (q : NG) : eF q 58 = (.inl (q.2.2.2 0, 19, .inl (fun _ => 0))) := by
  unfold eF
  exact (o_eMo (by decide)).trans ((va_up_o (by decide)).trans v_eLo_58)
theorem f_59 (q : NG) : eF q 59 = (.inl (q.2.2.2 1, 19, .inl (fun _ => 0))) := by
  unfold eF
  exact (o_eMo (by decide)).trans ((va_up_o (by decide)).trans v_eLo_59)
theorem f_60 (q : NG) : eF q 60 = (.inl (q.2.2.2 0, 19, .inl (fun _ => 0))) := by
  unfold eF
  exact (o_eMo (by decide)).trans ((va_up_o (by decide)).trans v_eLo_60)
theorem f_61 (q : NG) : eF q 61 = (.inl (q.2.2.2 0, 10, .inl (fun _ => 0))) := by
  unfold eF
  exact (o_eMo (by decide)).trans ((va_up_o (by decide)).trans v_eLo_61)
theorem f_62 (q : NG) : eF q 62 = (.inl (q.2.2.2 0, 19, .inl (fun _ => 0))) := by
  unfold eF
  exact (o_eMo (by decide)).trans ((va_up_o (by decide)).trans v_eLo_62)
theorem f_63 (q : NG) : eF q 63 = (.inr (3, [.ref (q.2.2.1 + 64), .ref (q.2.2.1 + 75)])) := by
  unfold eF
  exact (o_eMo (by decide)).trans ((va_up_o (by decide)).trans v_eLo_63)
theorem f_64 (q : NG) : eF q 64 = (refE (q.2.2.2 4) 10 (q.2.2.1 + 64 + 1)) := by
  unfold eF
  exact (o_eMo (by decide)).trans ((va_up_o (by decide)).trans v_eLo_64)
theorem f_65 (q : NG) : eF q 65 = (.inl (q.2.2.2 0, 10, .inl (fun _ => 0))) := by
  unfold eF
  exact (o_eMo (by decide)).trans ((va_up_o (by decide)).trans v_eLo_65)
theorem f_66 (q : NG) : eF q 66 = (.inl (q.2.2.2 0, 10, .inl (fun _ => 0))) := by
  unfold eF
  exact (o_eMo (by decide)).trans ((va_up_o (by decide)).trans v_eLo_66)
theorem f_67 (q : NG) : eF q 67 = (.inl (q.2.2.2 0, 10, .inl (fun _ => 0))) := by
  unfold eF
  exact (o_eMo (by decide)).trans ((va_up_o (by decide)).trans v_eLo_67)
theorem f_68 (q : NG) : eF q 68 = (.inl (q.2.2.2 0, 10, .inl (fun _ => 0))) := by
  unfold eF
  exact (o_eMo (by decide)).trans ((va_up_o (by decide)).trans v_eLo_68)
theorem f_69 (q : NG) : eF q 69 = (.inl (q.2.2.2 0, 10, .inl (fun _ => 0))) := by
  unfold eF
  exact (o_eMo (by decide)).trans ((va_up_o (by decide)).trans v_eLo_69)
theorem f_70 (q : NG) : eF q 70 = (.inl (q.2.2.2 0, 10, .inl (fun _ => 0))) := by
  unfold eF
  exact (o_eMo (by decide)).trans ((va_up_o (by decide)).trans v_eLo_70)
theorem f_71 (q : NG) : eF q 71 = (.inl (q.2.2.2 0, 10, .inl (fun _ => 0))) := by
  unfold eF
  exact (o_eMo (by decide)).trans ((va_up_o (by decide)).trans v_eLo_71)
theorem f_72 (q : NG) : eF q 72 = (.inl (q.2.2.2 0, 10, .inl (fun _ => 0))) := by
  unfold eF
  exact (o_eMo (by decide)).trans ((va_up_o (by decide)).trans v_eLo_72)
theorem f_73 (q : NG) : eF q 73 = (.inl (q.2.2.2 0, 10, .inl (fun _ => 0))) := by
  unfold eF
  exact (o_eMo (by decide)).trans ((va_up_o (by decide)).trans v_eLo_73)
theorem f_74 (q : NG) : eF q 74 = (.inl (q.2.2.2 0, 10, .inl (fun _ => 0))) := by
  unfold eF
  exact (o_eMo (by decide)).trans ((va_up_o (by decide)).trans v_eLo_74)
theorem f_75 (q : NG) : eF q 75 = (.inl (q.2.2.2 0, 10, .inl (fun _ => 0))) := by
  unfold eF
  exact (o_eMo (by decide)).trans ((va_up_o (by decide)).trans v_eLo_75)
theorem f_76 (q : NG) : eF q 76 = (.inr (1, [.ref (q.2.2.1 + 77), .ref (q.2.2.1 + 88)])) := by
  unfold eF
  exact (o_eMo (by decide)).trans ((va_up_o (by decide)).trans v_eLo_76)
theorem f_77 (q : NG) : eF q 77 = (refE (q.2.2.2 5) 10 (q.2.2.1 + 77 + 1)) := by
  unfold eF
  exact (o_eMo (by decide)).trans ((va_up_o (by decide)).trans v_eLo_77)
theorem f_78 (q : NG) : eF q 78 = (.inl (q.2.2.2 2, 10, .inr (.inl (fun _ => 0)))) := by
  unfold eF
  exact (o_eMo (by decide)).trans ((va_up_o (by decide)).trans v_eLo_78)
theorem f_79 (q : NG) : eF q 79 = (.inl (q.2.2.2 2, 10, .inr (.inl (fun _ => 0)))) := by
  unfold eF
  exact (o_eMo (by decide)).trans ((va_up_o (by decide)).trans v_eLo_79)
theorem f_80 (q : NG) : eF q 80 = (.inl (q.2.2.2 2, 10, .inr (.inl (fun _ => 0)))) := by
  unfold eF
  exact (o_eMo (by decide)).trans ((va_up_o (by decide)).trans v_eLo_80)
theorem f_81 (q : NG) : eF q 81 = (.inl (q.2.2.2 2, 10, .inr (.inl (fun _ => 0)))) := by
  unfold eF
  exact (o_eMo (by decide)).trans ((va_up_o (by decide)).trans v_eLo_81)
theorem f_82 (q : NG) : eF q 82 = (.inl (q.2.2.2 2, 10, .inr (.inl (fun _ => 0)))) := by
  unfold eF
  exact (o_eMo (by decide)).trans ((va_up_o (by decide)).trans v_eLo_82)
theorem f_83 (q : NG) : eF q 83 = (.inl (q.2.2.2 2, 10, .inr (.inl (fun _ => 0)))) := by
  unfold eF
  exact (o_eMo (by decide)).trans ((va_up_o (by decide)).trans v_eLo_83)
theorem f_84 (q : NG) : eF q 84 = (.inl (q.2.2.2 2, 10, .inr (.inl (fun _ => 0)))) := by
  unfold eF
  exact (o_eMo (by decide)).trans ((va_up_o (by decide)).trans v_eLo_84)
theorem f_85 (q : NG) : eF q 85 = (.inl (q.2.2.2 2, 10, .inr (.inl (fun _ => 0)))) := by
  unfold eF
  exact (o_eMo (by decide)).trans ((va_up_o (by decide)).trans v_eLo_85)
theorem f_86 (q : NG) : eF q 86 = (.inl (q.2.2.2 2, 10, .inr (.inl (fun _ => 0)))) := by
  unfold eF
  exact (o_eMo (by decide)).trans ((va_up_o (by decide)).trans v_eLo_86)
theorem f_87 (q : NG) : eF q 87 = (.inl (q.2.2.2 2, 10, .inr (.inl (fun _ => 0)))) := by
  unfold eF
  exact (o_eMo (by decide)).trans ((va_up_o (by decide)).trans v_eLo_87)
theorem f_88 (q : NG) : eF q 88 = (.inl (q.2.2.2 0, 10, .inl (fun _ => 0))) := by
  unfold eF
  exact (o_eMo (by decide)).trans ((va_up_o (by decide)).trans v_eLo_88)
theorem f_89 (q : NG) : eF q 89 = (.inr (0, [.ref (q.2.2.1 + 90), .ref (q.2.2.1 + 99), .ref (q.2.2.1 + 100), .int 0, .int 0])) := by
  unfold eF
  exact (o_eMo (by decide)).trans ((va_up_o (by decide)).trans v_eLo_89)
theorem f_90 (q : NG) : eF q 90 = (refE (q.2.2.2 4) 8 (q.2.2.1 + 90 + 1)) := by
  unfold eF
  exact (o_eMo (by decide)).trans ((va_up_o (by decide)).trans v_eLo_90)
theorem f_91 (q : NG) : eF q 91 = (.inl (q.2.2.2 0, 8, .inl (fun _ => 0))) := by
  unfold eF
  exact (o_eMo (by decide)).trans ((va_up_o (by decide)).trans v_eLo_91)
theorem f_92 (q : NG) : eF q 92 = (.inl (q.2.2.2 0, 8, .inl (fun _ => 0))) := by
  unfold eF
  exact (o_eMo (by decide)).trans ((va_up_o (by decide)).trans v_eLo_92)
theorem f_93 (q : NG) : eF q 93 = (.inl (q.2.2.2 0, 8, .inl (fun _ => 0))) := by
  unfold eF
  exact (o_eMo (by decide)).trans ((va_up_o (by decide)).trans v_eLo_93)
theorem f_94 (q : NG) : eF q 94 = (.inl (q.2.2.2 0, 8, .inl (fun _ => 0))) := by
  unfold eF
  exact (o_eMo (by decide)).trans ((va_up_o (by decide)).trans v_eLo_94)
theorem f_95 (q : NG) : eF q 95 = (.inl (q.2.2.2 0, 8, .inl (fun _ => 0))) := by
  unfold eF
  exact (o_eMo (by decide)).trans ((va_up_o (by decide)).trans v_eLo_95)
theorem f_96 (q : NG) : eF q 96 = (.inl (q.2.2.2 0, 8, .inl (fun _ => 0))) := by
  unfold eF
  exact (o_eMo (by decide)).trans ((va_up_o (by decide)).trans v_eLo_96)
theorem f_97 (q : NG) : eF q 97 = (.inl (q.2.2.2 0, 8, .inl (fun _ => 0))) := by
  unfold eF
  exact (o_eMo (by decide)).trans ((va_up_o (by decide)).trans v_eLo_97)
theorem f_98 (q : NG) : eF q 98 = (.inl (q.2.2.2 0, 8, .inl (fun _ => 0))) := by
  unfold eF
  exact (o_eMo (by decide)).trans ((va_up_o (by decide)).trans v_eLo_98)
theorem f_99 (q : NG) : eF q 99 = (.inl (q.2.2.2 0, 2048, .inl (fun _ => 0))) := by
  unfold eF
  exact (o_eMo (by decide)).trans ((va_up_o (by decide)).trans v_eLo_99)
theorem f_100 (q : NG) : eF q 100 = (.inl (q.2.2.2 0, 8, .inl (fun _ => 0))) := by
  unfold eF
  exact (o_eMo (by decide)).trans ((va_up_o (by decide)).trans v_eLo_100)
theorem f_101 (q : NG) : eF q 101 = (.inr (2, [.ref (q.2.2.1 + 102), .int 0])) := by
  unfold eF
  exact (o_eMo (by decide)).trans ((va_up_o (by decide)).trans v_eLo_101)
theorem f_102 (q : NG) : eF q 102 = (.inl (q.2.2.2 0, 6, .inl (fun _ => 0))) := by
  unfold eF
  exact (o_eMo (by decide)).trans ((va_up_o (by decide)).trans v_eLo_102)
theorem f_103 (q : NG) : eF q 103 = (.inl (q.2.2.2 0, 10, .inl (fillF (fun _ => 0) 10 (-9)))) := by
  unfold eF
  exact (o_eMo (by decide)).trans ((va_up_o (by decide)).trans v_eLo_103)
theorem f_104 (q : NG) : eF q 104 = (.inl (q.2.2.2 0, 10, .inl (fillF (fun _ => 0) 10 (-9)))) := by
  unfold eF
  exact (o_eMo (by decide)).trans ((va_up_o (by decide)).trans v_eLo_104)
theorem f_105 (q : NG) : eF q 105 = (.inl (q.2.2.2 0, 19, .inl (fun _ => 0))) := by
  unfold eF
  exact (o_eMo (by decide)).trans ((va_up_o (by decide)).trans v_eLo_105)
theorem f_106 (q : NG) : eF q 106 = (.inr (7, [.int 0, .ref (q.2.2.1 + 107), .int 0, .int 0, .ref (q.2.2.1 + 108), .ref (q.2.2.1 + 109), .ref (q.2.2.1 + 110), .ref (q.2.2.1 + 111), .ref (q.2.2.1 + 112), .ref (q.2.2.1 + 113), .ref (q.2.2.1 + 114), .ref (q.2.2.1 + 115), .ref (q.2.2.1 + 116), .ref (q.2.2.1 + 117), .ref (q.2.2.1 + 118), .int 0, .int 0, .ref (q.2.2.1 + 119), .ref (q.2.2.1 + 120), .ref (q.2.2.1 + 121), .ref (q.2.2.1 + 122), .ref (q.2.2.1 + 123), .int 0, .ref (q.2.2.1 + 124), .ref (q.2.2.1 + 125), .int 0, .int 0, .ref (q.2.2.1 + 126), .ref (q.2.2.1 + 127), .int 0, .ref (q.2.2.1 + 128)])) := by
  unfold eF
  exact v_eMo_106
theorem f_107 (q : NG) : eF q 107 = (.inl (q.2.2.2 0, 6, .inl (fun _ => 0))) := by
  unfold eF
  exact v_eMo_107
theorem f_108 (q : NG) : eF q 108 = (.inl (q.2.2.2 1, 10, .inl (fun _ => 0))) := by
  unfold eF
  exact v_eMo_108
theorem f_109 (q : NG) : eF q 109 = (.inl (q.2.2.2 0, 100, .inl (fun _ => 0))) := by
  unfold eF
  exact v_eMo_109
theorem f_110 (q : NG) : eF q 110 = (.inl (q.2.2.2 0, 10, .inl (fun _ => 0))) := by
  unfold eF
  exact v_eMo_110
theorem f_111 (q : NG) : eF q 111 = (.inl (q.2.2.2 0, 4, .inl (fun _ => 0))) := by
  unfold eF
  exact v_eMo_111
theorem f_112 (q : NG) : eF q 112 = (.inl (q.2.2.2 0, 80, .inl (fun _ => 0))) := by
  unfold eF
  exact v_eMo_112
theorem f_113 (q : NG) : eF q 113 = (.inl (q.2.2.2 0, 80, .inl (fun _ => 0))) := by
  unfold eF
  exact v_eMo_113
theorem f_114 (q : NG) : eF q 114 = (.inl (q.2.2.2 0, 80, .inl (fun _ => 0))) := by
  unfold eF
  exact v_eMo_114
theorem f_115 (q : NG) : eF q 115 = (.inl (q.2.2.2 0, 80, .inl (fun _ => 0))) := by
  unfold eF
  exact v_eMo_115
theorem f_116 (q : NG) : eF q 116 = (.inl (q.2.2.2 0, 80, .inl (fun _ => 0))) := by
  unfold eF
  exact v_eMo_116
theorem f_117 (q : NG) : eF q 117 = (.inl (q.2.2.2 1, 80, .inl (fun _ => 0))) := by
  unfold eF
  exact v_eMo_117
theorem f_118 (q : NG) : eF q 118 = (.inl (q.2.2.2 0, 80, .inl (fun _ => 0))) := by
  unfold eF
  exact v_eMo_118
theorem f_119 (q : NG) : eF q 119 = (.inl (q.2.2.2 0, 10, .inl (fun _ => 0))) := by
  unfold eF
  exact v_eMo_119
theorem f_120 (q : NG) : eF q 120 = (.inl (q.2.2.2 0, 10, .inl (fun _ => 0))) := by
  unfold eF
  exact v_eMo_120
theorem f_121 (q : NG) : eF q 121 = (.inl (q.2.2.2 0, 10, .inl (fun _ => 0))) := by
  unfold eF
  exact v_eMo_121
theorem f_122 (q : NG) : eF q 122 = (.inl (q.2.2.2 0, 10, .inl (fun _ => 0))) := by
  unfold eF
  exact v_eMo_122
theorem f_123 (q : NG) : eF q 123 = (.inl (q.2.2.2 0, 10, .inl (fun _ => 0))) := by
  unfold eF
  exact v_eMo_123
theorem f_124 (q : NG) : eF q 124 = (.inl (q.2.2.2 0, 10, .inl (fun _ => 0))) := by
  unfold eF
  exact v_eMo_124
theorem f_125 (q : NG) : eF q 125 = (.inl (q.2.2.2 0, 10, .inl (fun _ => 0))) := by
  unfold eF
  exact v_eMo_125
theorem f_126 (q : NG) : eF q 126 = (.inl (q.2.2.2 0, 64, .inl (fun _ => 0))) := by
  unfold eF
  exact v_eMo_126
theorem f_127 (q : NG) : eF q 127 = (.inl (q.2.2.2 0, 2048, .inl (fun _ => 0))) := by
  unfold eF
  exact v_eMo_127
theorem f_128 (q : NG) : eF q 128 = (.inl (q.2.2.2 0, 8, .inl (fun _ => 0))) := by
  unfold eF
  exact v_eMo_128
set_option maxRecDepth 20000 in
set_option maxHeartbeats 4000000 in
theorem enF_at (q : NG) (b : Nat) : ∀ (k : Nat) (c : LC), layT[k]? = some c → enC (adN q.2.2.1 b) q.2.2.2 σI k c = eF q (offN k) := by
  intro k c h
  match k, h with
  | 0, h =>
    cases h
    refine Eq.trans ?_ (f_0 q).symm
    rfl
  | 1, h =>
    cases h
    refine Eq.trans ?_ (f_1 q).symm
    rfl
  | 2, h =>
    cases h
    refine Eq.trans ?_ (f_2 q).symm
    show (.inl (q.2.2.2 4, 10, .inr (.inr (.inr (.inr (fun j => (([some 20, some 21, some 22, some 23, some 24, some 25, some 26, some 27, some 28, some 29] : List (Option Nat)).getD j none).map (adN q.2.2.1 b)))))) : va_E) = _
    rw [rf_2]
    rfl
  | 3, h =>
    cases h
    refine Eq.trans ?_ (f_13 q).symm
    rfl
  | 4, h =>
    cases h
    refine Eq.trans ?_ (f_14 q).symm
    show (.inl (q.2.2.2 3, 4, .inr (.inr (.inr (.inr (fun j => (([some 58, some 70, some 82, some 94] : List (Option Nat)).getD j none).map (adN q.2.2.1 b)))))) : va_E) = _
    rw [rf_4]
  | 5, h =>
    cases h
    refine Eq.trans ?_ (f_63 q).symm
    rfl
  | 6, h =>
    cases h
    refine Eq.trans ?_ (f_64 q).symm
    show (.inl (q.2.2.2 4, 10, .inr (.inr (.inr (.inr (fun j => (([some 30, some 31, some 32, some 33, some 34, some 35, some 36, some 37, some 38, some 39] : List (Option Nat)).getD j none).map (adN q.2.2.1 b)))))) : va_E) = _
    rw [rf_6]
    rfl
  | 7, h =>
    cases h
    refine Eq.trans ?_ (f_75 q).symm
    rfl
  | 8, h =>
    cases h
    refine Eq.trans ?_ (f_76 q).symm
    rfl
  | 9, h =>
    cases h
    refine Eq.trans ?_ (f_77 q).symm
    show (.inl (q.2.2.2 5, 10, .inr (.inr (.inr (.inr (fun j => (([some 40, some 41, some 42, some 43, some 44, some 45, some 46, some 47, some 48, some 49] : List (Option Nat)).getD j none).map (adN q.2.2.1 b)))))) : va_E) = _
    rw [rf_9]
    rfl
  | 10, h =>
    cases h
    refine Eq.trans ?_ (f_88 q).symm
    rfl
  | 11, h =>
    cases h
    refine Eq.trans ?_ (f_89 q).symm
    rfl
  | 12, h =>
    cases h
    refine Eq.trans ?_ (f_90 q).symm
    show (.inl (q.2.2.2 4, 8, .inr (.inr (.inr (.inr (fun j => (([some 50, some 51, some 52, some 53, some 54, some 55, some 56, some 57] : List (Option Nat)).getD j none).map (adN q.2.2.1 b)))))) : va_E) = _
    rw [rf_12]
    rfl
  | 13, h =>
    cases h
    refine Eq.trans ?_ (f_99 q).symm
    rfl
  | 14, h =>
    cases h
    refine Eq.trans ?_ (f_100 q).symm
    rfl
  | 15, h =>
    cases h
    refine Eq.trans ?_ (f_101 q).symm
    rfl
  | 16, h =>
    cases h
    refine Eq.trans ?_ (f_102 q).symm
    rfl
  | 17, h =>
    cases h
    refine Eq.trans ?_ (f_103 q).symm
    rfl
  | 18, h =>
    cases h
    refine Eq.trans ?_ (f_104 q).symm
    rfl
  | 19, h =>
    cases h
    refine Eq.trans ?_ (f_105 q).symm
    rfl
  | 20, h =>
    cases h
    refine Eq.trans ?_ (f_3 q).symm
    rfl
  | 21, h =>
    cases h
    refine Eq.trans ?_ (f_4 q).symm
    rfl
  | 22, h =>
    cases h
    refine Eq.trans ?_ (f_5 q).symm
    rfl
  | 23, h =>
    cases h
    refine Eq.trans ?_ (f_6 q).symm
    rfl
  | 24, h =>
    cases h
    refine Eq.trans ?_ (f_7 q).symm
    rfl
  | 25, h =>
    cases h
    refine Eq.trans ?_ (f_8 q).symm
    rfl
  | 26, h =>
    cases h
    refine Eq.trans ?_ (f_9 q).symm
    rfl
  | 27, h =>
    cases h
    refine Eq.trans ?_ (f_10 q).symm
    rfl
  | 28, h =>
    cases h
    refine Eq.trans ?_ (f_11 q).symm
    rfl
  | 29, h =>
    cases h
    refine Eq.trans ?_ (f_12 q).symm
    rfl
  | 30, h =>
    cases h
    refine Eq.trans ?_ (f_65 q).symm
    rfl
  | 31, h =>
    cases h
    refine Eq.trans ?_ (f_66 q).symm
    rfl
  | 32, h =>
    cases h
    refine Eq.trans ?_ (f_67 q).symm
    rfl
  | 33, h =>
    cases h
    refine Eq.trans ?_ (f_68 q).symm
    rfl
  | 34, h =>
    cases h
    refine Eq.trans ?_ (f_69 q).symm
    rfl
  | 35, h =>
    cases h
    refine Eq.trans ?_ (f_70 q).symm
    rfl
  | 36, h =>
    cases h
    refine Eq.trans ?_ (f_71 q).symm
    rfl
  | 37, h =>
    cases h
    refine Eq.trans ?_ (f_72 q).symm
    rfl
  | 38, h =>
    cases h
    refine Eq.trans ?_ (f_73 q).symm
    rfl
  | 39, h =>
    cases h
    refine Eq.trans ?_ (f_74 q).symm
    rfl
  | 40, h =>
    cases h
    refine Eq.trans ?_ (f_78 q).symm
    rfl
  | 41, h =>
    cases h
    refine Eq.trans ?_ (f_79 q).symm
    rfl
  | 42, h =>
    cases h
    refine Eq.trans ?_ (f_80 q).symm
    rfl
  | 43, h =>
    cases h
    refine Eq.trans ?_ (f_81 q).symm
    rfl
  | 44, h =>
    cases h
    refine Eq.trans ?_ (f_82 q).symm
    rfl
  | 45, h =>
    cases h
    refine Eq.trans ?_ (f_83 q).symm
    rfl
  | 46, h =>
    cases h
    refine Eq.trans ?_ (f_84 q).symm
    rfl
  | 47, h =>
    cases h
    refine Eq.trans ?_ (f_85 q).symm
    rfl
  | 48, h =>
    cases h
    refine Eq.trans ?_ (f_86 q).symm
    rfl
  | 49, h =>
    cases h
    refine Eq.trans ?_ (f_87 q).symm
    rfl
  | 50, h =>
    cases h
    refine Eq.trans ?_ (f_91 q).symm
    rfl
  | 51, h =>
    cases h
    refine Eq.trans ?_ (f_92 q).symm
    rfl
  | 52, h =>
    cases h
    refine Eq.trans ?_ (f_93 q).symm
    rfl
  | 53, h =>
    cases h
    refine Eq.trans ?_ (f_94 q).symm
    rfl
  | 54, h =>
    cases h
    refine Eq.trans ?_ (f_95 q).symm
    rfl
  | 55, h =>
    cases h
    refine Eq.trans ?_ (f_96 q).symm
    rfl
  | 56, h =>
    cases h
    refine Eq.trans ?_ (f_97 q).symm
    rfl
  | 57, h =>
    cases h
    refine Eq.trans ?_ (f_98 q).symm
    rfl
  | 58, h =>
    cases h
    refine Eq.trans ?_ (f_15 q).symm
    rfl
  | 59, h =>
    cases h
    refine Eq.trans ?_ (f_16 q).symm
    rfl
  | 60, h =>
    cases h
    refine Eq.trans ?_ (f_17 q).symm
    rfl
  | 61, h =>
    cases h
    refine Eq.trans ?_ (f_18 q).symm
    rfl
  | 62, h =>
    cases h
    refine Eq.trans ?_ (f_19 q).symm
    rfl
  | 63, h =>
    cases h
    refine Eq.trans ?_ (f_20 q).symm
    rfl
  | 64, h =>
    cases h
    refine Eq.trans ?_ (f_21 q).symm
    rfl
  | 65, h =>
    cases h
    refine Eq.trans ?_ (f_22 q).symm
    rfl
  | 66, h =>
    cases h
    refine Eq.trans ?_ (f_23 q).symm
    rfl
  | 67, h =>
    cases h
    refine Eq.trans ?_ (f_24 q).symm
    rfl
  | 68, h =>
    cases h
    refine Eq.trans ?_ (f_25 q).symm
    rfl
  | 69, h =>
    cases h
    refine Eq.trans ?_ (f_26 q).symm
    rfl
  | 70, h =>
    cases h
    refine Eq.trans ?_ (f_27 q).symm
    rfl
  | 71, h =>
    cases h
    refine Eq.trans ?_ (f_28 q).symm
    rfl
  | 72, h =>
    cases h
    refine Eq.trans ?_ (f_29 q).symm
    rfl
  | 73, h =>
    cases h
    refine Eq.trans ?_ (f_30 q).symm
    rfl
  | 74, h =>
    cases h
    refine Eq.trans ?_ (f_31 q).symm
    rfl
  | 75, h =>
    cases h
    refine Eq.trans ?_ (f_32 q).symm
    rfl
  | 76, h =>
    cases h
    refine Eq.trans ?_ (f_33 q).symm
    rfl
  | 77, h =>
    cases h
    refine Eq.trans ?_ (f_34 q).symm
    rfl
  | 78, h =>
    cases h
    refine Eq.trans ?_ (f_35 q).symm
    rfl
  | 79, h =>
    cases h
    refine Eq.trans ?_ (f_36 q).symm
    rfl
  | 80, h =>
    cases h
    refine Eq.trans ?_ (f_37 q).symm
    rfl
  | 81, h =>
    cases h
    refine Eq.trans ?_ (f_38 q).symm
    rfl
  | 82, h =>
    cases h
    refine Eq.trans ?_ (f_39 q).symm
    rfl
  | 83, h =>
    cases h
    refine Eq.trans ?_ (f_40 q).symm
    rfl
  | 84, h =>
    cases h
    refine Eq.trans ?_ (f_41 q).symm
    rfl
  | 85, h =>
    cases h
    refine Eq.trans ?_ (f_42 q).symm
    rfl
  | 86, h =>
    cases h
    refine Eq.trans ?_ (f_43 q).symm
    rfl
  | 87, h =>
    cases h
    refine Eq.trans ?_ (f_44 q).symm
    rfl
  | 88, h =>
    cases h
    refine Eq.trans ?_ (f_45 q).symm
    rfl
  | 89, h =>
    cases h
    refine Eq.trans ?_ (f_46 q).symm
    rfl
  | 90, h =>
    cases h
    refine Eq.trans ?_ (f_47 q).symm
    rfl
  | 91, h =>
    cases h
    refine Eq.trans ?_ (f_48 q).symm
    rfl
  | 92, h =>
    cases h
    refine Eq.trans ?_ (f_49 q).symm
    rfl
  | 93, h =>
    cases h
    refine Eq.trans ?_ (f_50 q).symm
    rfl
  | 94, h =>
    cases h
    refine Eq.trans ?_ (f_51 q).symm
    rfl
  | 95, h =>
    cases h
    refine Eq.trans ?_ (f_52 q).symm
    rfl
  | 96, h =>
    cases h
    refine Eq.trans ?_ (f_53 q).symm
    rfl
  | 97, h =>
    cases h
    refine Eq.trans ?_ (f_54 q).symm
    rfl
  | 98, h =>
    cases h
    refine Eq.trans ?_ (f_55 q).symm
    rfl
  | 99, h =>
    cases h
    refine Eq.trans ?_ (f_56 q).symm
    rfl
  | 100, h =>
    cases h
    refine Eq.trans ?_ (f_57 q).symm
    rfl
  | 101, h =>
    cases h
    refine Eq.trans ?_ (f_58 q).symm
    rfl
  | 102, h =>
    cases h
    refine Eq.trans ?_ (f_59 q).symm
    rfl
  | 103, h =>
    cases h
    refine Eq.trans ?_ (f_60 q).symm
    rfl
  | 104, h =>
    cases h
    refine Eq.trans ?_ (f_61 q).symm
    rfl
  | 105, h =>
    cases h
    refine Eq.trans ?_ (f_62 q).symm
    rfl
  | 106, h =>
    cases h
    refine Eq.trans ?_ (f_106 q).symm
    show (.inr (7, List.mapIdx (fdV (adN q.2.2.1 b) (fun _ => 0)) [none, some 107, none, none, some 108, some 109, some 110, some 111, some 112, some 113, some 114, some 115, some 116, some 117, some 118, none, none, some 119, some 120, some 121, some 122, some 123, none, some 124, some 125, none, none, some 126, some 127, none, some 128]) : va_E) = _
    simp only [List.mapIdx_cons, List.mapIdx_nil]
    rfl
  | 107, h =>
    cases h
    refine Eq.trans ?_ (f_107 q).symm
    rfl
  | 108, h =>
    cases h
    refine Eq.trans ?_ (f_108 q).symm
    rfl
  | 109, h =>
    cases h
    refine Eq.trans ?_ (f_109 q).symm
    rfl
  | 110, h =>
    cases h
    refine Eq.trans ?_ (f_110 q).symm
    rfl
  | 111, h =>
    cases h
    refine Eq.trans ?_ (f_111 q).symm
    rfl
  | 112, h =>
    cases h
    refine Eq.trans ?_ (f_112 q).symm
    rfl
  | 113, h =>
    cases h
    refine Eq.trans ?_ (f_113 q).symm
    rfl
  | 114, h =>
    cases h
    refine Eq.trans ?_ (f_114 q).symm
    rfl
  | 115, h =>
    cases h
    refine Eq.trans ?_ (f_115 q).symm
    rfl
  | 116, h =>
    cases h
    refine Eq.trans ?_ (f_116 q).symm
    rfl
  | 117, h =>
    cases h
    refine Eq.trans ?_ (f_117 q).symm
    rfl
  | 118, h =>
    cases h
    refine Eq.trans ?_ (f_118 q).symm
    rfl
  | 119, h =>
    cases h
    refine Eq.trans ?_ (f_119 q).symm
    rfl
  | 120, h =>
    cases h
    refine Eq.trans ?_ (f_120 q).symm
    rfl
  | 121, h =>
    cases h
    refine Eq.trans ?_ (f_121 q).symm
    rfl
  | 122, h =>
    cases h
    refine Eq.trans ?_ (f_122 q).symm
    rfl
  | 123, h =>
    cases h
    refine Eq.trans ?_ (f_123 q).symm
    rfl
  | 124, h =>
    cases h
    refine Eq.trans ?_ (f_124 q).symm
    rfl
  | 125, h =>
    cases h
    refine Eq.trans ?_ (f_125 q).symm
    rfl
  | 126, h =>
    cases h
    refine Eq.trans ?_ (f_126 q).symm
    rfl
  | 127, h =>
    cases h
    refine Eq.trans ?_ (f_127 q).symm
    rfl
  | 128, h =>
    cases h
    refine Eq.trans ?_ (f_128 q).symm
    rfl
  | (k + 129), h => exact absurd (lay_lt h) (by omega)
theorem wdF {q : NG} {b : Nat} {H : Heap} (h : NP q (eF q) 129 H) : va_P (gN q b).2.1 cls8 (wd (gN q b) σI) H := by
  intro k x hk
  obtain ⟨c, h1, rfl⟩ := wd_ex hk
  have hl := lay_lt h1
  have e1 := enF_at q b k c h1
  have e2 : (gN q b).2.2.1 k = q.2.2.1 + offN k := if_neg (by omega)
  show va_at q.2.1 cls8 ((gN q b).2.2.1 k, enC (adN q.2.2.1 b) q.2.2.2 σI k c) H
  rw [e1, e2]
  exact h.2 (offN k) (off_lt k hl)
