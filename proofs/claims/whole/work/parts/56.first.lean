/-! the law: its loop; the first world -/
theorem sw33 (x : Int32) : (∃ k, k < 34 ∧ x = nI k) ∨ (x.toInt < 0 ∨ 33 < x.toInt) := by
  by_cases h : x.toInt < 0 ∨ 33 < x.toInt
  · exact Or.inr h
  · refine Or.inl ⟨x.toInt.toNat, by omega, Int32.toInt_inj.mp ?_⟩
    rw [nI_toInt (by omega)]
    omega
theorem law_more {i L : Nat} (hL : L ≤ 3072) (hi : i ≤ 3100) (h : ¬ nI L - nI 6 < nI i) : i + 6 ≤ L := by
  have h2 := Int32.le_iff_toInt_le.mp (Int32.not_lt.mp h)
  rw [pk_sub_toInt (by omega) (by decide), nI_toInt (by omega)] at h2
  omega
set_option maxHeartbeats 4000000 in
set_option maxRecDepth 20000 in
theorem law_loop {g : GG} {K : AK} {L : Nat} {xs : Nat → Int32} {S : Sp} {σ : AH} (G : Gok g) (BL : CxL g K code 4 "LeafOrderLaw" 7 L xs) (hL : L ≤ 3072) (Rt : ∀ (pc : Nat) (lv : LV) (σ : AH), decode code pc = .ok (.ireturn, 1) → AW g K 4 pc lv [iV 1] σ) (hC : RelC S σ) (hM : RelM S σ) : AW g K 4 18 (lvL 0) [] σ := by
  have B := BL.cx
  refine a_loop (fun m lv τ => ∃ i S, m = 4000 - i ∧ i ≤ 3100 ∧ lv = lvL i ∧ RelC S τ ∧ RelM S τ) (fun m lv τ hm ih => ?_) 4000 _ _ ⟨0, S, rfl, by omega, rfl, hC, hM⟩
  obtain ⟨i, S, rfl, hi, rfl, hC, hM⟩ := hm
  refine a_iload_n B d_law_18 rfl rfl ?_
  refine a_aload_n B d_law_19 rfl rfl ?_
  refine a_slen BL d_law_20 ?_
  refine a_bipush B d_law_21 cb_6 ?_
  refine a_isub B d_law_23 ?_
  refine a_icmp_gt B 1199 d_law_24 rfl (fun c9 => ?_) (fun c9 => ?_)
  · refine a_iconst B d_law_1199 ci_1 ?_
    exact Rt _ _ _ d_law_1200
  · have h6 : i + 6 ≤ L := law_more hL hi c9
    have go : GoL g K i := fun S9 τ9 hC9 hM9 => by
      refine b_iinc (lv1 := lvL (i + 6)) B d_law_1193 rfl ci_6 (by decide) rfl ?_
      refine a_goto B 18 d_law_1196 rfl ?_
      exact ih (4000 - (i + 6)) _ _ (by omega) ⟨i + 6, S9, rfl, by omega, rfl, hC9, hM9⟩
    refine a_aload_n B d_law_27 rfl rfl ?_
    refine a_iload_n B d_law_28 rfl rfl ?_
    refine a_sld BL (by omega) (by omega) d_law_29 ?_
    refine a_bipush B d_law_30 cb_63 ?_
    refine a_iand B d_law_32 ?_
    rcases sw33 (xs i &&& nI 63) with ⟨k, hk, hx⟩ | hx
    · rw [hx]
      match k, hk with
      | 0, _ => exact a_tableIn B 184 d_law_33 (by decide +kernel) (by decide +kernel) (off := 151) (by decide +kernel) (by decide) (w_leaves G BL (by omega) h6 hC hM go)
      | 1, _ => exact a_tableIn B 207 d_law_33 (by decide +kernel) (by decide +kernel) (off := 174) (by decide +kernel) (by decide) (w_row G BL (by omega) h6 hC hM go)
      | 2, _ => exact a_tableIn B 230 d_law_33 (by decide +kernel) (by decide +kernel) (off := 197) (by decide +kernel) (by decide) (w_lay G BL (by omega) h6 hC hM go)
      | 3, _ => exact a_tableIn B 273 d_law_33 (by decide +kernel) (by decide +kernel) (off := 240) (by decide +kernel) (by decide) (w_tear G BL (by omega) h6 hC hM go)
      | 4, _ => exact a_tableIn B 296 d_law_33 (by decide +kernel) (by decide +kernel) (off := 263) (by decide +kernel) (by decide) (w_copy G BL (by omega) h6 hC hM go)
      | 5, _ => exact a_tableIn B 359 d_law_33 (by decide +kernel) (by decide +kernel) (off := 326) (by decide +kernel) (by decide) (w_unlike G BL (by omega) h6 hC hM go)
      | 6, _ => exact a_tableIn B 392 d_law_33 (by decide +kernel) (by decide +kernel) (off := 359) (by decide +kernel) (by decide) (w_mean G BL (by omega) h6 hC hM go)
      | 7, _ => exact a_tableIn B 415 d_law_33 (by decide +kernel) (by decide +kernel) (off := 382) (by decide +kernel) (by decide) (w_make G BL (by omega) h6 hC hM go)
      | 8, _ => exact a_tableIn B 448 d_law_33 (by decide +kernel) (by decide +kernel) (off := 415) (by decide +kernel) (by decide) (w_drop G BL (by omega) h6 hC hM go)
      | 9, _ => exact a_tableIn B 471 d_law_33 (by decide +kernel) (by decide +kernel) (off := 438) (by decide +kernel) (by decide) (w_told G BL (by omega) h6 hC hM go)
      | 10, _ => exact a_tableIn B 514 d_law_33 (by decide +kernel) (by decide +kernel) (off := 481) (by decide +kernel) (by decide) (w_mark G BL (by omega) h6 hC hM go)
      | 11, _ => exact a_tableIn B 557 d_law_33 (by decide +kernel) (by decide +kernel) (off := 524) (by decide +kernel) (by decide) (w_turn G BL (by omega) h6 hC hM go)
      | 12, _ => exact a_tableIn B 590 d_law_33 (by decide +kernel) (by decide +kernel) (off := 557) (by decide +kernel) (by decide) (w_hold G BL (by omega) h6 hC hM go)
      | 13, _ => exact a_tableIn B 649 d_law_33 (by decide +kernel) (by decide +kernel) (off := 616) (by decide +kernel) (by decide) (w_order G BL (by omega) h6 hC hM go)
      | 14, _ => exact a_tableIn B 682 d_law_33 (by decide +kernel) (by decide +kernel) (off := 649) (by decide +kernel) (by decide) (w_price G BL (by omega) h6 hC hM go)
      | 15, _ => exact a_tableIn B 705 d_law_33 (by decide +kernel) (by decide +kernel) (off := 672) (by decide +kernel) (by decide) (w_best G BL (by omega) h6 hC hM go)
      | 16, _ => exact a_tableIn B 728 d_law_33 (by decide +kernel) (by decide +kernel) (off := 695) (by decide +kernel) (by decide) (w_crossings G BL (by omega) h6 hC hM go)
      | 17, _ => exact a_tableIn B 761 d_law_33 (by decide +kernel) (by decide +kernel) (off := 728) (by decide +kernel) (by decide) (w_face G BL (by omega) h6 hC hM go)
      | 18, _ => exact a_tableIn B 794 d_law_33 (by decide +kernel) (by decide +kernel) (off := 761) (by decide +kernel) (by decide) (w_faceBoth G BL (by omega) h6 hC hM go)
      | 19, _ => exact a_tableIn B 827 d_law_33 (by decide +kernel) (by decide +kernel) (off := 794) (by decide +kernel) (by decide) (w_fewest G BL (by omega) h6 hC hM go)
      | 20, _ => exact a_tableIn B 860 d_law_33 (by decide +kernel) (by decide +kernel) (off := 827) (by decide +kernel) (by decide) (w_keep G BL (by omega) h6 hC hM go)
      | 21, _ => exact a_tableIn B 883 d_law_33 (by decide +kernel) (by decide +kernel) (off := 850) (by decide +kernel) (by decide) (w_near G BL (by omega) h6 hC hM go)
      | 22, _ => exact a_tableIn B 906 d_law_33 (by decide +kernel) (by decide +kernel) (off := 873) (by decide +kernel) (by decide) (w_cut G BL (by omega) h6 hC hM go)
      | 23, _ => exact a_tableIn B 939 d_law_33 (by decide +kernel) (by decide +kernel) (off := 906) (by decide +kernel) (by decide) (w_group G BL (by omega) h6 hC hM go)
      | 24, _ => exact a_tableIn B 962 d_law_33 (by decide +kernel) (by decide +kernel) (off := 929) (by decide +kernel) (by decide) (w_same G BL (by omega) h6 hC hM go)
      | 25, _ => exact a_tableIn B 1005 d_law_33 (by decide +kernel) (by decide +kernel) (off := 972) (by decide +kernel) (by decide) (w_axes G BL (by omega) h6 hC hM go)
      | 26, _ => exact a_tableIn B 1028 d_law_33 (by decide +kernel) (by decide +kernel) (off := 995) (by decide +kernel) (by decide) (w_worth G BL (by omega) h6 hC hM go)
      | 27, _ => exact a_tableIn B 1071 d_law_33 (by decide +kernel) (by decide +kernel) (off := 1038) (by decide +kernel) (by decide) (w_laying G BL (by omega) h6 hC hM go)
      | 28, _ => exact a_tableIn B 1084 d_law_33 (by decide +kernel) (by decide +kernel) (off := 1051) (by decide +kernel) (by decide) (w_axis G BL (by omega) h6 hC hM go)
      | 29, _ => exact a_tableIn B 1107 d_law_33 (by decide +kernel) (by decide +kernel) (off := 1074) (by decide +kernel) (by decide) (w_asked G BL (by omega) h6 hC hM go)
      | 30, _ => exact a_tableIn B 1120 d_law_33 (by decide +kernel) (by decide +kernel) (off := 1087) (by decide +kernel) (by decide) (w_count G BL (by omega) h6 hC hM go)
      | 31, _ => exact a_tableIn B 1143 d_law_33 (by decide +kernel) (by decide +kernel) (off := 1110) (by decide +kernel) (by decide) (w_finding G BL (by omega) h6 hC hM go)
      | 32, _ => exact a_tableIn B 1156 d_law_33 (by decide +kernel) (by decide +kernel) (off := 1123) (by decide +kernel) (by decide) (w_findings G BL (by omega) h6 hC hM go)
      | 33, _ => exact a_tableIn B 1179 d_law_33 (by decide +kernel) (by decide +kernel) (off := 1146) (by decide +kernel) (by decide) (w_digest G BL (by omega) h6 hC hM go)
      | (k + 34), h => omega
    · exact a_tableOut B 1193 d_law_33 hx (by decide) (go S _ hC hM)
def offL : List Nat := [0, 1, 2, 13, 14, 63, 64, 75, 76, 77, 88, 89, 90, 99, 100, 101, 102, 103, 104, 105, 3, 4, 5, 6, 7, 8, 9, 10, 11, 12, 65, 66, 67, 68, 69, 70, 71, 72, 73, 74, 78, 79, 80, 81, 82, 83, 84, 85, 86, 87, 91, 92, 93, 94, 95, 96, 97, 98, 15, 16, 17, 18, 19, 20, 21, 22, 23, 24, 25, 26, 27, 28, 29, 30, 31, 32, 33, 34, 35, 36, 37, 38, 39, 40, 41, 42, 43, 44, 45, 46, 47, 48, 49, 50, 51, 52, 53, 54, 55, 56, 57, 58, 59, 60, 61, 62, 106, 107, 108, 109, 110, 111, 112, 113, 114, 115, 116, 117, 118, 119, 120, 121, 122, 123, 124, 125, 126, 127, 128]
def offN (k : Nat) : Nat := offL.getD k 0
def adN (z b k : Nat) : Nat := if k = 129 then b else z + offN k
def gN (q : NG) (b : Nat) : GG := (q.1, q.2.1, adN q.2.2.1 b, q.2.2.2, nA q)
theorem off_inj : ∀ i, i < 129 → ∀ j, j < 129 → offN i = offN j → i = j := by decide +kernel
theorem off_lt : ∀ i, i < 129 → offN i < 129 := by decide +kernel
theorem lay_lt {k : Nat} {c : LC} (h : layT[k]? = some c) : k < 129 := (List.getElem?_eq_some_iff.mp h).1
theorem wd_ex {g : GG} {σ : AH} {k : Nat} {x : Nat × va_E} (h : (wd g σ)[k]? = some x) : ∃ c, layT[k]? = some c ∧ x = (g.2.2.1 k, enC g.2.2.1 g.2.2.2.1 σ k c) := by
  unfold wd at h
  rw [List.getElem?_mapIdx] at h
  cases hk : layT[k]? with
  | none => rw [hk] at h; cases h
  | some c => rw [hk] at h; cases h; exact ⟨c, rfl, rfl⟩
theorem gN_ok (q : NG) (b : Nat) : Gok (gN q b) := by
  intro σ
  have ad : ∀ k, k < 129 → (gN q b).2.2.1 k = q.2.2.1 + offN k := fun k hk => if_neg (by omega)
  refine ⟨fun i j x y hi hj e => ?_, fun k x hk => ?_⟩
  · obtain ⟨c, h1, rfl⟩ := wd_ex hi
    obtain ⟨c', h2, rfl⟩ := wd_ex hj
    have l1 := lay_lt h1
    have l2 := lay_lt h2
    have e : (gN q b).2.2.1 i = (gN q b).2.2.1 j := e
    rw [ad i l1, ad j l2] at e
    exact off_inj i l1 j l2 (by omega)
  · obtain ⟨c, h1, rfl⟩ := wd_ex hk
    show q.2.2.1 ≤ (gN q b).2.2.1 k
    rw [ad k (lay_lt h1)]
    omega
def σI : AH := (fun k => if k = 17 ∨ k = 18 then fillF (fun _ => 0) 10 (-9) else fun _ => 0, fun _ _ => 0)
def SI : Sp := (0, fun _ => false, fun _ _ => 0, fun _ => (0, fun _ => 0, fun _ => 0, fun _ => 0, fun _ => 0, fun _ => 0, fun _ => 0, fun _ => false), 0, 0, fun _ => 0, 0, fun _ => -9, fun _ => -9, 0, fun _ _ => 0, 0, fun _ => 0)
theorem sI_o {k : Nat} (h1 : k ≠ 17) (h2 : k ≠ 18) : σI.1 k = fun _ => 0 := if_neg (fun q => q.elim h1 h2)
theorem RelC_I : RelC SI σI := by
  refine ⟨⟨rfl, by decide, fun i _ => by rw [sI_o (by decide) (by decide)]; rfl, fun i j hi _ => by rw [sI_o (by omega) (by omega)]; rfl, fun _ _ => Nat.zero_le _⟩, fun t ht => Or.inl ⟨rfl, ?_⟩, ⟨rfl, rfl, fun f _ => by rw [sI_o (by decide) (by decide)]; rfl, rfl, Nat.zero_le _, fun l hl => ?_, fun l hl => ?_, rfl, Nat.zero_le _, fun i hi => absurd hi (Nat.not_lt_zero i), fun i hi => absurd hi (Nat.not_lt_zero i)⟩, ⟨rfl, Nat.zero_le _, fun a b ha _ => by rw [sI_o (by omega) (by omega)]; rfl, fun a b => ⟨by show (-1000 : Int) ≤ 0; decide, by show (0 : Int) ≤ 1000; decide⟩⟩⟩
  · have h58 : tI t = 58 + 12 * t := rfl
    rw [sI_o (by omega) (by omega)]
  · show fillF (fun _ => (0 : Int32)) 10 (-9) l = -9
    simp [fillF, hl]
  · show fillF (fun _ => (0 : Int32)) 10 (-9) l = -9
    simp [fillF, hl]
theorem RelM_I : RelM SI σI := by
  refine ⟨⟨rfl, by decide, fun i _ => rfl, fun i j _ _ => rfl, fun _ _ => Nat.zero_le _⟩, fun t ht => ⟨rfl, fun h => absurd rfl h⟩, ⟨rfl, fun f _ => rfl, rfl, rfl, Nat.zero_le _, fun h => absurd rfl h, ⟨false, rfl, (fun h => by cases h), fun _ l _ => rfl⟩, rfl, Nat.zero_le _, fun i hi => absurd hi (Nat.not_lt_zero i)⟩, ⟨rfl, Nat.zero_le _, fun a b _ _ => rfl, fun a b => ⟨by show (-1000 : Int) ≤ 0; decide, by show (0 : Int) ≤ 1000; decide⟩⟩⟩
