/-! the constructors -/
theorem wo_i : Cond.instanceMethod Lib.objectInit ∈ lw_tbl := in_t1 (List.mem_of_getElem? (i := 18) rfl)
theorem wo_c : Cond.code Lib.objectInit ⟨#[0xb1]⟩ 1 none ∈ lw_tbl := in_t1 (List.mem_of_getElem? (i := 19) rfl)
theorem wa_int : Cond.arrayClass .int ∈ lw_tbl := in_t1 (List.mem_of_getElem? (i := 42) rfl)
theorem wa_boolean : Cond.arrayClass .boolean ∈ lw_tbl := in_t1 (List.mem_of_getElem? (i := 43) rfl)
theorem wa_long : Cond.arrayClass .long ∈ lw_tbl := in_t1 (List.mem_of_getElem? (i := 140) rfl)
theorem df_Ax : ∀ j, j < 5 → defaultValue (t_Ax j) = vp_V [.null, .null, .null, .int 0, .int 0] j := by
  intro j
  match j with
  | 0 => intro _; rfl
  | 1 => intro _; rfl
  | 2 => intro _; rfl
  | 3 => intro _; rfl
  | 4 => intro _; rfl
  | (j + 5) => intro h; omega
theorem wn_Ax : Cond.initialized R_Ax ∈ lw_tbl := in_t1 (List.mem_of_getElem? (i := 6) rfl)
theorem wi_Ax : Cond.instantiable R_Ax 5 ∈ lw_tbl := in_t1 (List.mem_of_getElem? (i := 142) rfl)
theorem wc_Ax : Cond.code m_Ax_init.1 m_Ax_init.2.1 m_Ax_init.2.2.1 m_Ax_init.2.2.2 ∈ lw_tbl := in_t1 (List.mem_of_getElem? (i := 145) rfl)
theorem wm_Ax : Cond.instanceMethod m_Ax_init.1 ∈ lw_tbl := in_t1 (List.mem_of_getElem? (i := 144) rfl)
theorem df_Bt : ∀ j, j < 2 → defaultValue (t_Bt j) = vp_V [.null, .null] j := by
  intro j
  match j with
  | 0 => intro _; rfl
  | 1 => intro _; rfl
  | (j + 2) => intro h; omega
theorem wn_Bt : Cond.initialized R_Bt ∈ lw_tbl := in_t1 (List.mem_of_getElem? (i := 5) rfl)
theorem wi_Bt : Cond.instantiable R_Bt 2 ∈ lw_tbl := in_t1 (List.mem_of_getElem? (i := 125) rfl)
theorem wc_Bt : Cond.code m_Bt_init.1 m_Bt_init.2.1 m_Bt_init.2.2.1 m_Bt_init.2.2.2 ∈ lw_tbl := in_t1 (List.mem_of_getElem? (i := 128) rfl)
theorem wm_Bt : Cond.instanceMethod m_Bt_init.1 ∈ lw_tbl := in_t1 (List.mem_of_getElem? (i := 127) rfl)
theorem df_Fi : ∀ j, j < 2 → defaultValue (t_Fi j) = vp_V [.null, .int 0] j := by
  intro j
  match j with
  | 0 => intro _; rfl
  | 1 => intro _; rfl
  | (j + 2) => intro h; omega
theorem wn_Fi : Cond.initialized R_Fi ∈ lw_tbl := in_t1 (List.mem_of_getElem? (i := 7) rfl)
theorem wi_Fi : Cond.instantiable R_Fi 2 ∈ lw_tbl := in_t1 (List.mem_of_getElem? (i := 169) rfl)
theorem wc_Fi : Cond.code m_Fi_init.1 m_Fi_init.2.1 m_Fi_init.2.2.1 m_Fi_init.2.2.2 ∈ lw_tbl := in_t1 (List.mem_of_getElem? (i := 172) rfl)
theorem wm_Fi : Cond.instanceMethod m_Fi_init.1 ∈ lw_tbl := in_t1 (List.mem_of_getElem? (i := 171) rfl)
theorem df_Mk : ∀ j, j < 2 → defaultValue (t_Mk j) = vp_V [.null, .null] j := by
  intro j
  match j with
  | 0 => intro _; rfl
  | 1 => intro _; rfl
  | (j + 2) => intro h; omega
theorem wn_Mk : Cond.initialized R_Mk ∈ lw_tbl := in_t1 (List.mem_of_getElem? (i := 4) rfl)
theorem wi_Mk : Cond.instantiable R_Mk 2 ∈ lw_tbl := in_t1 (List.mem_of_getElem? (i := 111) rfl)
theorem wc_Mk : Cond.code m_Mk_init.1 m_Mk_init.2.1 m_Mk_init.2.2.1 m_Mk_init.2.2.2 ∈ lw_tbl := in_t1 (List.mem_of_getElem? (i := 114) rfl)
theorem wm_Mk : Cond.instanceMethod m_Mk_init.1 ∈ lw_tbl := in_t1 (List.mem_of_getElem? (i := 113) rfl)
theorem df_Ro : ∀ j, j < 3 → defaultValue (t_Ro j) = vp_V [.null, .null, .int 0] j := by
  intro j
  match j with
  | 0 => intro _; rfl
  | 1 => intro _; rfl
  | 2 => intro _; rfl
  | (j + 3) => intro h; omega
theorem wn_Ro : Cond.initialized R_Ro ∈ lw_tbl := in_t1 (List.mem_of_getElem? (i := 2) rfl)
theorem wi_Ro : Cond.instantiable R_Ro 3 ∈ lw_tbl := in_t1 (List.mem_of_getElem? (i := 21) rfl)
theorem wc_Ro : Cond.code m_Ro_init.1 m_Ro_init.2.1 m_Ro_init.2.2.1 m_Ro_init.2.2.2 ∈ lw_tbl := in_t1 (List.mem_of_getElem? (i := 24) rfl)
theorem wm_Ro : Cond.instanceMethod m_Ro_init.1 ∈ lw_tbl := in_t1 (List.mem_of_getElem? (i := 23) rfl)
theorem df_Tr : ∀ j, j < 14 → defaultValue (t_Tr j) = vp_V [.null, .null, .null, .null, .null, .null, .null, .null, .null, .null, .null, .int 0, .int 0, .int 0] j := by
  intro j
  match j with
  | 0 => intro _; rfl
  | 1 => intro _; rfl
  | 2 => intro _; rfl
  | 3 => intro _; rfl
  | 4 => intro _; rfl
  | 5 => intro _; rfl
  | 6 => intro _; rfl
  | 7 => intro _; rfl
  | 8 => intro _; rfl
  | 9 => intro _; rfl
  | 10 => intro _; rfl
  | 11 => intro _; rfl
  | 12 => intro _; rfl
  | 13 => intro _; rfl
  | (j + 14) => intro h; omega
theorem wn_Tr : Cond.initialized R_Tr ∈ lw_tbl := in_t1 (List.mem_of_getElem? (i := 3) rfl)
theorem wi_Tr : Cond.instantiable R_Tr 14 ∈ lw_tbl := in_t1 (List.mem_of_getElem? (i := 46) rfl)
theorem wc_Tr : Cond.code m_Tr_init.1 m_Tr_init.2.1 m_Tr_init.2.2.1 m_Tr_init.2.2.2 ∈ lw_tbl := in_t1 (List.mem_of_getElem? (i := 49) rfl)
theorem wm_Tr : Cond.instanceMethod m_Tr_init.1 ∈ lw_tbl := in_t1 (List.mem_of_getElem? (i := 48) rfl)
theorem df_Lo : ∀ j, j < 11 → defaultValue (t_Lo j) = vp_V [.null, .null, .null, .null, .null, .null, .null, .null, .null, .int 0, .int 0] j := by
  intro j
  match j with
  | 0 => intro _; rfl
  | 1 => intro _; rfl
  | 2 => intro _; rfl
  | 3 => intro _; rfl
  | 4 => intro _; rfl
  | 5 => intro _; rfl
  | 6 => intro _; rfl
  | 7 => intro _; rfl
  | 8 => intro _; rfl
  | 9 => intro _; rfl
  | 10 => intro _; rfl
  | (j + 11) => intro h; omega
theorem wn_Lo : Cond.initialized R_Lo ∈ lw_tbl := in_t1 (List.mem_of_getElem? (i := 1) rfl)
theorem wi_Lo : Cond.instantiable R_Lo 11 ∈ lw_tbl := in_t1 (List.mem_of_getElem? (i := 13) rfl)
theorem wc_Lo : Cond.code m_Lo_init.1 m_Lo_init.2.1 m_Lo_init.2.2.1 m_Lo_init.2.2.2 ∈ lw_tbl := in_t1 (List.mem_of_getElem? (i := 16) rfl)
theorem wm_Lo : Cond.instanceMethod m_Lo_init.1 ∈ lw_tbl := in_t1 (List.mem_of_getElem? (i := 15) rfl)
theorem df_Mo : ∀ j, j < 31 → defaultValue (t_Mo j) = vp_V [.int 0, .null, .int 0, .int 0, .null, .null, .null, .null, .null, .null, .null, .null, .null, .null, .null, .int 0, .int 0, .null, .null, .null, .null, .null, .int 0, .null, .null, .int 0, .int 0, .null, .null, .int 0, .null] j := by
  intro j
  match j with
  | 0 => intro _; rfl
  | 1 => intro _; rfl
  | 2 => intro _; rfl
  | 3 => intro _; rfl
  | 4 => intro _; rfl
  | 5 => intro _; rfl
  | 6 => intro _; rfl
  | 7 => intro _; rfl
  | 8 => intro _; rfl
  | 9 => intro _; rfl
  | 10 => intro _; rfl
  | 11 => intro _; rfl
  | 12 => intro _; rfl
  | 13 => intro _; rfl
  | 14 => intro _; rfl
  | 15 => intro _; rfl
  | 16 => intro _; rfl
  | 17 => intro _; rfl
  | 18 => intro _; rfl
  | 19 => intro _; rfl
  | 20 => intro _; rfl
  | 21 => intro _; rfl
  | 22 => intro _; rfl
  | 23 => intro _; rfl
  | 24 => intro _; rfl
  | 25 => intro _; rfl
  | 26 => intro _; rfl
  | 27 => intro _; rfl
  | 28 => intro _; rfl
  | 29 => intro _; rfl
  | 30 => intro _; rfl
  | (j + 31) => intro h; omega
theorem wn_Mo : Cond.initialized R_Mo ∈ lw_tbl := in_t1 (List.mem_of_getElem? (i := 9) rfl)
theorem wi_Mo : Cond.instantiable R_Mo 31 ∈ lw_tbl := in_t3 (List.mem_of_getElem? (i := 141) rfl)
theorem wc_Mo : Cond.code m_Mo_init.1 m_Mo_init.2.1 m_Mo_init.2.2.1 m_Mo_init.2.2.2 ∈ lw_tbl := in_t3 (List.mem_of_getElem? (i := 144) rfl)
theorem wm_Mo : Cond.instanceMethod m_Mo_init.1 ∈ lw_tbl := in_t3 (List.mem_of_getElem? (i := 143) rfl)
theorem wl_Law_7 : Cond.classLink "LeafOrderLaw" 7 R_Lo ∈ lw_tbl := in_t1 (List.mem_of_getElem? (i := 12) rfl)
theorem wk_Law_9 : Cond.methodLink "LeafOrderLaw" 9 m_Lo_init.1 ∈ lw_tbl := in_t1 (List.mem_of_getElem? (i := 14) rfl)
theorem wk_Lo_3 : Cond.methodLink R_Lo 3 Lib.objectInit ∈ lw_tbl := in_t1 (List.mem_of_getElem? (i := 17) rfl)
theorem wl_Lo_9 : Cond.classLink R_Lo 9 R_Ro ∈ lw_tbl := in_t1 (List.mem_of_getElem? (i := 20) rfl)
theorem wk_Ro_3 : Cond.methodLink R_Ro 3 Lib.objectInit ∈ lw_tbl := in_t1 (List.mem_of_getElem? (i := 25) rfl)
theorem wl_Ro_9 : Cond.classLink R_Ro 9 "[[I" ∈ lw_tbl := in_t1 (List.mem_of_getElem? (i := 26) rfl)
theorem wl_Lo_16 : Cond.classLink R_Lo 16 R_Tr ∈ lw_tbl := in_t1 (List.mem_of_getElem? (i := 44) rfl)
theorem wk_Tr_3 : Cond.methodLink R_Tr 3 Lib.objectInit ∈ lw_tbl := in_t1 (List.mem_of_getElem? (i := 50) rfl)
theorem wl_Lo_23 : Cond.classLink R_Lo 23 R_Mk ∈ lw_tbl := in_t1 (List.mem_of_getElem? (i := 110) rfl)
theorem wk_Mk_3 : Cond.methodLink R_Mk 3 Lib.objectInit ∈ lw_tbl := in_t1 (List.mem_of_getElem? (i := 115) rfl)
theorem wl_Mk_9 : Cond.classLink R_Mk 9 "[[I" ∈ lw_tbl := in_t1 (List.mem_of_getElem? (i := 116) rfl)
theorem wl_Lo_30 : Cond.classLink R_Lo 30 R_Bt ∈ lw_tbl := in_t1 (List.mem_of_getElem? (i := 124) rfl)
theorem wk_Bt_5 : Cond.methodLink R_Bt 5 Lib.objectInit ∈ lw_tbl := in_t1 (List.mem_of_getElem? (i := 129) rfl)
theorem wl_Bt_11 : Cond.classLink R_Bt 11 "[[J" ∈ lw_tbl := in_t1 (List.mem_of_getElem? (i := 130) rfl)
theorem wl_Lo_37 : Cond.classLink R_Lo 37 R_Ax ∈ lw_tbl := in_t1 (List.mem_of_getElem? (i := 141) rfl)
theorem wk_Ax_3 : Cond.methodLink R_Ax 3 Lib.objectInit ∈ lw_tbl := in_t1 (List.mem_of_getElem? (i := 146) rfl)
theorem wl_Ax_9 : Cond.classLink R_Ax 9 "[[I" ∈ lw_tbl := in_t1 (List.mem_of_getElem? (i := 147) rfl)
theorem wl_Lo_44 : Cond.classLink R_Lo 44 R_Fi ∈ lw_tbl := in_t1 (List.mem_of_getElem? (i := 168) rfl)
theorem wk_Fi_3 : Cond.methodLink R_Fi 3 Lib.objectInit ∈ lw_tbl := in_t1 (List.mem_of_getElem? (i := 173) rfl)
theorem wl_Law_10 : Cond.classLink "LeafOrderLaw" 10 R_Mo ∈ lw_tbl := in_t3 (List.mem_of_getElem? (i := 140) rfl)
theorem wk_Law_12 : Cond.methodLink "LeafOrderLaw" 12 m_Mo_init.1 ∈ lw_tbl := in_t3 (List.mem_of_getElem? (i := 142) rfl)
theorem wk_Mo_1 : Cond.methodLink R_Mo 1 Lib.objectInit ∈ lw_tbl := in_t3 (List.mem_of_getElem? (i := 145) rfl)
theorem d_Ro_init_0 : decode prog_6_method_1_code 0 = .ok (.aload_n 0, 1) := by decide +kernel
theorem d_Ro_init_1 : decode prog_6_method_1_code 1 = .ok (.invokespecial 3, 3) := by decide +kernel
theorem d_Ro_init_4 : decode prog_6_method_1_code 4 = .ok (.aload_n 0, 1) := by decide +kernel
theorem d_Ro_init_5 : decode prog_6_method_1_code 5 = .ok (.bipush 10, 2) := by decide +kernel
theorem d_Ro_init_7 : decode prog_6_method_1_code 7 = .ok (.bipush 10, 2) := by decide +kernel
theorem d_Ro_init_9 : decode prog_6_method_1_code 9 = .ok (.multianewarray 9 2, 4) := by decide +kernel
theorem d_Ro_init_13 : decode prog_6_method_1_code 13 = .ok (.putfield 11, 3) := by decide +kernel
theorem d_Ro_init_16 : decode prog_6_method_1_code 16 = .ok (.aload_n 0, 1) := by decide +kernel
theorem d_Ro_init_17 : decode prog_6_method_1_code 17 = .ok (.bipush 10, 2) := by decide +kernel
theorem d_Ro_init_19 : decode prog_6_method_1_code 19 = .ok (.newarray .boolean, 2) := by decide +kernel
theorem d_Ro_init_21 : decode prog_6_method_1_code 21 = .ok (.putfield 16, 3) := by decide +kernel
theorem d_Ro_init_24 : decode prog_6_method_1_code 24 = .ok (.aload_n 0, 1) := by decide +kernel
theorem d_Ro_init_25 : decode prog_6_method_1_code 25 = .ok (.iconst 0, 1) := by decide +kernel
theorem d_Ro_init_26 : decode prog_6_method_1_code 26 = .ok (.putfield 20, 3) := by decide +kernel
theorem d_Ro_init_29 : decode prog_6_method_1_code 29 = .ok (.return_, 1) := by decide +kernel
def eRo (q : NG) (en : Nat → va_E) : Nat → va_E := (va_up (va_up (va_up (va_up (mulE en 2 10 (refE (q.2.2.2 4) 10 (q.2.2.1 + 2 + 1)) (.inl (q.2.2.2 0, 10, .inl (fun _ => 0)))) 1 (.inr (4, [.ref (q.2.2.1 + 2), .null, .int 0]))) 13 (.inl (q.2.2.2 1, 10, .inl (fun _ => 0)))) 1 (.inr (4, [.ref (q.2.2.1 + 2), .ref (q.2.2.1 + 13), .int 0]))) 1 (.inr (4, [.ref (q.2.2.1 + 2), .ref (q.2.2.1 + 13), .int 0])))
set_option maxHeartbeats 4000000 in
set_option maxRecDepth 20000 in
theorem tN_Ro {q : NG} {en : Nat → va_E} (h0 : en 1 = .inr (4, [.null, .null, .int 0])) : TerN q 1 12 120 m_Ro_init [.ref (q.2.2.1 + 1)] en 2 (eRo q en) 14 := by
  refine TerN.mk (ini := true) (by decide +kernel) rfl (Nat.le_of_ble_eq_true rfl) (fun _ => rfl) (fun K B Rt => ?_)
  have B : Nx q K prog_6_method_1_code 1 R_Ro 1 12 120 true := B
  show NW q K 1 0 [(0, .ref (q.2.2.1 + 1))] [] en 2 0 0
  refine n_aload B 0 d_Ro_init_0 rfl ?_
  refine n_objInit B d_Ro_init_1 wk_Ro_3 wo_i wo_c (by decide) ?_
  refine n_aload B 0 d_Ro_init_4 rfl ?_
  refine n_bipush (v := 10) B d_Ro_init_5 (by decide +kernel) ?_
  refine n_bipush (v := 10) B d_Ro_init_7 (by decide +kernel) ?_
  refine n_multiI (N := 10) (M := 10) B wl_Ro_9 d_Ro_init_9 (by decide +kernel) (by decide +kernel) (by decide +kernel) (by decide +kernel) (by decide +kernel) (by decide) (by decide) (by decide) (by decide) ?_
  refine n_putF (i := 1) (ci := 4) (N := 3) (j := 0) (T := F_Ro) (ty := t_Ro) (fs := [.null, .null, .int 0]) (v := .ref (q.2.2.1 + 2)) B (by decide) (by first | rfl | exact h0) rfl i_Ro t_Ro_ok n_Ro (by decide) fl_Ro_11 rfl rfl rfl (Nat.le_of_ble_eq_true rfl) d_Ro_init_13 ?_
  refine n_aload B 0 d_Ro_init_16 rfl ?_
  refine n_bipush (v := 10) B d_Ro_init_17 (by decide +kernel) ?_
  refine n_newa (N := 10) (j := 1) (ty := .boolean) B rfl (by decide) wa_boolean d_Ro_init_19 (by decide +kernel) (by decide +kernel) (by decide) (by decide) (by decide) ?_
  refine n_putF (i := 1) (ci := 4) (N := 3) (j := 1) (T := F_Ro) (ty := t_Ro) (fs := [.ref (q.2.2.1 + 2), .null, .int 0]) (v := .ref (q.2.2.1 + 13)) B (by decide) (by first | rfl | exact h0) rfl i_Ro t_Ro_ok n_Ro (by decide) fl_Ro_16 rfl rfl rfl (Nat.le_of_ble_eq_true rfl) d_Ro_init_21 ?_
  refine n_aload B 0 d_Ro_init_24 rfl ?_
  refine n_iconst (v := 0) B d_Ro_init_25 (by decide +kernel) ?_
  refine n_putF (i := 1) (ci := 4) (N := 3) (j := 2) (T := F_Ro) (ty := t_Ro) (fs := [.ref (q.2.2.1 + 2), .ref (q.2.2.1 + 13), .int 0]) (v := .int 0) B (by decide) (by first | rfl | exact h0) rfl i_Ro t_Ro_ok n_Ro (by decide) fl_Ro_20 rfl rfl rfl (Nat.le_of_ble_eq_true rfl) d_Ro_init_26 ?_
  exact Rt _ _ d_Ro_init_29
theorem d_Tr_init_0 : decode prog_7_method_1_code 0 = .ok (.aload_n 0, 1) := by decide +kernel
theorem d_Tr_init_1 : decode prog_7_method_1_code 1 = .ok (.invokespecial 3, 3) := by decide +kernel
theorem d_Tr_init_4 : decode prog_7_method_1_code 4 = .ok (.aload_n 0, 1) := by decide +kernel
theorem d_Tr_init_5 : decode prog_7_method_1_code 5 = .ok (.bipush 19, 2) := by decide +kernel
theorem d_Tr_init_7 : decode prog_7_method_1_code 7 = .ok (.newarray .int, 2) := by decide +kernel
theorem d_Tr_init_9 : decode prog_7_method_1_code 9 = .ok (.putfield 9, 3) := by decide +kernel
theorem d_Tr_init_12 : decode prog_7_method_1_code 12 = .ok (.aload_n 0, 1) := by decide +kernel
theorem d_Tr_init_13 : decode prog_7_method_1_code 13 = .ok (.bipush 19, 2) := by decide +kernel
theorem d_Tr_init_15 : decode prog_7_method_1_code 15 = .ok (.newarray .int, 2) := by decide +kernel
theorem d_Tr_init_17 : decode prog_7_method_1_code 17 = .ok (.putfield 15, 3) := by decide +kernel
theorem d_Tr_init_20 : decode prog_7_method_1_code 20 = .ok (.aload_n 0, 1) := by decide +kernel
theorem d_Tr_init_21 : decode prog_7_method_1_code 21 = .ok (.bipush 19, 2) := by decide +kernel
theorem d_Tr_init_23 : decode prog_7_method_1_code 23 = .ok (.newarray .int, 2) := by decide +kernel
theorem d_Tr_init_25 : decode prog_7_method_1_code 25 = .ok (.putfield 18, 3) := by decide +kernel
theorem d_Tr_init_28 : decode prog_7_method_1_code 28 = .ok (.aload_n 0, 1) := by decide +kernel
theorem d_Tr_init_29 : decode prog_7_method_1_code 29 = .ok (.bipush 19, 2) := by decide +kernel
theorem d_Tr_init_31 : decode prog_7_method_1_code 31 = .ok (.newarray .int, 2) := by decide +kernel
theorem d_Tr_init_33 : decode prog_7_method_1_code 33 = .ok (.putfield 21, 3) := by decide +kernel
theorem d_Tr_init_36 : decode prog_7_method_1_code 36 = .ok (.aload_n 0, 1) := by decide +kernel
theorem d_Tr_init_37 : decode prog_7_method_1_code 37 = .ok (.bipush 19, 2) := by decide +kernel
theorem d_Tr_init_39 : decode prog_7_method_1_code 39 = .ok (.newarray .int, 2) := by decide +kernel
theorem d_Tr_init_41 : decode prog_7_method_1_code 41 = .ok (.putfield 24, 3) := by decide +kernel
theorem d_Tr_init_44 : decode prog_7_method_1_code 44 = .ok (.aload_n 0, 1) := by decide +kernel
theorem d_Tr_init_45 : decode prog_7_method_1_code 45 = .ok (.bipush 19, 2) := by decide +kernel
theorem d_Tr_init_47 : decode prog_7_method_1_code 47 = .ok (.newarray .int, 2) := by decide +kernel
theorem d_Tr_init_49 : decode prog_7_method_1_code 49 = .ok (.putfield 27, 3) := by decide +kernel
theorem d_Tr_init_52 : decode prog_7_method_1_code 52 = .ok (.aload_n 0, 1) := by decide +kernel
theorem d_Tr_init_53 : decode prog_7_method_1_code 53 = .ok (.bipush 19, 2) := by decide +kernel
theorem d_Tr_init_55 : decode prog_7_method_1_code 55 = .ok (.newarray .int, 2) := by decide +kernel
theorem d_Tr_init_57 : decode prog_7_method_1_code 57 = .ok (.putfield 30, 3) := by decide +kernel
theorem d_Tr_init_60 : decode prog_7_method_1_code 60 = .ok (.aload_n 0, 1) := by decide +kernel
theorem d_Tr_init_61 : decode prog_7_method_1_code 61 = .ok (.bipush 19, 2) := by decide +kernel
theorem d_Tr_init_63 : decode prog_7_method_1_code 63 = .ok (.newarray .boolean, 2) := by decide +kernel
theorem d_Tr_init_65 : decode prog_7_method_1_code 65 = .ok (.putfield 33, 3) := by decide +kernel
theorem d_Tr_init_68 : decode prog_7_method_1_code 68 = .ok (.aload_n 0, 1) := by decide +kernel
theorem d_Tr_init_69 : decode prog_7_method_1_code 69 = .ok (.bipush 19, 2) := by decide +kernel
theorem d_Tr_init_71 : decode prog_7_method_1_code 71 = .ok (.newarray .int, 2) := by decide +kernel
theorem d_Tr_init_73 : decode prog_7_method_1_code 73 = .ok (.putfield 37, 3) := by decide +kernel
theorem d_Tr_init_76 : decode prog_7_method_1_code 76 = .ok (.aload_n 0, 1) := by decide +kernel
theorem d_Tr_init_77 : decode prog_7_method_1_code 77 = .ok (.bipush 10, 2) := by decide +kernel
theorem d_Tr_init_79 : decode prog_7_method_1_code 79 = .ok (.newarray .int, 2) := by decide +kernel
theorem d_Tr_init_81 : decode prog_7_method_1_code 81 = .ok (.putfield 40, 3) := by decide +kernel
theorem d_Tr_init_84 : decode prog_7_method_1_code 84 = .ok (.aload_n 0, 1) := by decide +kernel
theorem d_Tr_init_85 : decode prog_7_method_1_code 85 = .ok (.bipush 19, 2) := by decide +kernel
theorem d_Tr_init_87 : decode prog_7_method_1_code 87 = .ok (.newarray .int, 2) := by decide +kernel
theorem d_Tr_init_89 : decode prog_7_method_1_code 89 = .ok (.putfield 43, 3) := by decide +kernel
theorem d_Tr_init_92 : decode prog_7_method_1_code 92 = .ok (.aload_n 0, 1) := by decide +kernel
theorem d_Tr_init_93 : decode prog_7_method_1_code 93 = .ok (.iconst 0, 1) := by decide +kernel
theorem d_Tr_init_94 : decode prog_7_method_1_code 94 = .ok (.putfield 46, 3) := by decide +kernel
theorem d_Tr_init_97 : decode prog_7_method_1_code 97 = .ok (.aload_n 0, 1) := by decide +kernel
theorem d_Tr_init_98 : decode prog_7_method_1_code 98 = .ok (.iconst 0, 1) := by decide +kernel
theorem d_Tr_init_99 : decode prog_7_method_1_code 99 = .ok (.putfield 50, 3) := by decide +kernel
theorem d_Tr_init_102 : decode prog_7_method_1_code 102 = .ok (.aload_n 0, 1) := by decide +kernel
theorem d_Tr_init_103 : decode prog_7_method_1_code 103 = .ok (.iconst 0, 1) := by decide +kernel
theorem d_Tr_init_104 : decode prog_7_method_1_code 104 = .ok (.putfield 54, 3) := by decide +kernel
theorem d_Tr_init_107 : decode prog_7_method_1_code 107 = .ok (.return_, 1) := by decide +kernel
def eTr0 (q : NG) (en : Nat → va_E) : Nat → va_E := (va_up (va_up (va_up (va_up (va_up (va_up (va_up (va_up (va_up (va_up (va_up (va_up (va_up (va_up (va_up (va_up (va_up (va_up (va_up (va_up (va_up (va_up (va_up (va_up (va_up en 16 (.inl (q.2.2.2 0, 19, .inl (fun _ => 0)))) 15 (.inr (5, [.ref (q.2.2.1 + 16), .null, .null, .null, .null, .null, .null, .null, .null, .null, .null, .int 0, .int 0, .int 0]))) 17 (.inl (q.2.2.2 0, 19, .inl (fun _ => 0)))) 15 (.inr (5, [.ref (q.2.2.1 + 16), .ref (q.2.2.1 + 17), .null, .null, .null, .null, .null, .null, .null, .null, .null, .int 0, .int 0, .int 0]))) 18 (.inl (q.2.2.2 0, 19, .inl (fun _ => 0)))) 15 (.inr (5, [.ref (q.2.2.1 + 16), .ref (q.2.2.1 + 17), .ref (q.2.2.1 + 18), .null, .null, .null, .null, .null, .null, .null, .null, .int 0, .int 0, .int 0]))) 19 (.inl (q.2.2.2 0, 19, .inl (fun _ => 0)))) 15 (.inr (5, [.ref (q.2.2.1 + 16), .ref (q.2.2.1 + 17), .ref (q.2.2.1 + 18), .ref (q.2.2.1 + 19), .null, .null, .null, .null, .null, .null, .null, .int 0, .int 0, .int 0]))) 20 (.inl (q.2.2.2 0, 19, .inl (fun _ => 0)))) 15 (.inr (5, [.ref (q.2.2.1 + 16), .ref (q.2.2.1 + 17), .ref (q.2.2.1 + 18), .ref (q.2.2.1 + 19), .ref (q.2.2.1 + 20), .null, .null, .null, .null, .null, .null, .int 0, .int 0, .int 0]))) 21 (.inl (q.2.2.2 0, 19, .inl (fun _ => 0)))) 15 (.inr (5, [.ref (q.2.2.1 + 16), .ref (q.2.2.1 + 17), .ref (q.2.2.1 + 18), .ref (q.2.2.1 + 19), .ref (q.2.2.1 + 20), .ref (q.2.2.1 + 21), .null, .null, .null, .null, .null, .int 0, .int 0, .int 0]))) 22 (.inl (q.2.2.2 0, 19, .inl (fun _ => 0)))) 15 (.inr (5, [.ref (q.2.2.1 + 16), .ref (q.2.2.1 + 17), .ref (q.2.2.1 + 18), .ref (q.2.2.1 + 19), .ref (q.2.2.1 + 20), .ref (q.2.2.1 + 21), .ref (q.2.2.1 + 22), .null, .null, .null, .null, .int 0, .int 0, .int 0]))) 23 (.inl (q.2.2.2 1, 19, .inl (fun _ => 0)))) 15 (.inr (5, [.ref (q.2.2.1 + 16), .ref (q.2.2.1 + 17), .ref (q.2.2.1 + 18), .ref (q.2.2.1 + 19), .ref (q.2.2.1 + 20), .ref (q.2.2.1 + 21), .ref (q.2.2.1 + 22), .ref (q.2.2.1 + 23), .null, .null, .null, .int 0, .int 0, .int 0]))) 24 (.inl (q.2.2.2 0, 19, .inl (fun _ => 0)))) 15 (.inr (5, [.ref (q.2.2.1 + 16), .ref (q.2.2.1 + 17), .ref (q.2.2.1 + 18), .ref (q.2.2.1 + 19), .ref (q.2.2.1 + 20), .ref (q.2.2.1 + 21), .ref (q.2.2.1 + 22), .ref (q.2.2.1 + 23), .ref (q.2.2.1 + 24), .null, .null, .int 0, .int 0, .int 0]))) 25 (.inl (q.2.2.2 0, 10, .inl (fun _ => 0)))) 15 (.inr (5, [.ref (q.2.2.1 + 16), .ref (q.2.2.1 + 17), .ref (q.2.2.1 + 18), .ref (q.2.2.1 + 19), .ref (q.2.2.1 + 20), .ref (q.2.2.1 + 21), .ref (q.2.2.1 + 22), .ref (q.2.2.1 + 23), .ref (q.2.2.1 + 24), .ref (q.2.2.1 + 25), .null, .int 0, .int 0, .int 0]))) 26 (.inl (q.2.2.2 0, 19, .inl (fun _ => 0)))) 15 (.inr (5, [.ref (q.2.2.1 + 16), .ref (q.2.2.1 + 17), .ref (q.2.2.1 + 18), .ref (q.2.2.1 + 19), .ref (q.2.2.1 + 20), .ref (q.2.2.1 + 21), .ref (q.2.2.1 + 22), .ref (q.2.2.1 + 23), .ref (q.2.2.1 + 24), .ref (q.2.2.1 + 25), .ref (q.2.2.1 + 26), .int 0, .int 0, .int 0]))) 15 (.inr (5, [.ref (q.2.2.1 + 16), .ref (q.2.2.1 + 17), .ref (q.2.2.1 + 18), .ref (q.2.2.1 + 19), .ref (q.2.2.1 + 20), .ref (q.2.2.1 + 21), .ref (q.2.2.1 + 22), .ref (q.2.2.1 + 23), .ref (q.2.2.1 + 24), .ref (q.2.2.1 + 25), .ref (q.2.2.1 + 26), .int 0, .int 0, .int 0]))) 15 (.inr (5, [.ref (q.2.2.1 + 16), .ref (q.2.2.1 + 17), .ref (q.2.2.1 + 18), .ref (q.2.2.1 + 19), .ref (q.2.2.1 + 20), .ref (q.2.2.1 + 21), .ref (q.2.2.1 + 22), .ref (q.2.2.1 + 23), .ref (q.2.2.1 + 24), .ref (q.2.2.1 + 25), .ref (q.2.2.1 + 26), .int 0, .int 0, .int 0]))) 15 (.inr (5, [.ref (q.2.2.1 + 16), .ref (q.2.2.1 + 17), .ref (q.2.2.1 + 18), .ref (q.2.2.1 + 19), .ref (q.2.2.1 + 20), .ref (q.2.2.1 + 21), .ref (q.2.2.1 + 22), .ref (q.2.2.1 + 23), .ref (q.2.2.1 + 24), .ref (q.2.2.1 + 25), .ref (q.2.2.1 + 26), .int 0, .int 0, .int 0])))
set_option maxHeartbeats 4000000 in
set_option maxRecDepth 20000 in
theorem tN_Tr0 {q : NG} {en : Nat → va_E} (h0 : en 15 = .inr (5, [.null, .null, .null, .null, .null, .null, .null, .null, .null, .null, .null, .int 0, .int 0, .int 0])) : TerN q 1 11 200 m_Tr_init [.ref (q.2.2.1 + 15)] en 16 (eTr0 q en) 27 := by
  refine TerN.mk (ini := true) (by decide +kernel) rfl (Nat.le_of_ble_eq_true rfl) (fun _ => rfl) (fun K B Rt => ?_)
  have B : Nx q K prog_7_method_1_code 1 R_Tr 1 11 200 true := B
  show NW q K 1 0 [(0, .ref (q.2.2.1 + 15))] [] en 16 0 0
  refine n_aload B 0 d_Tr_init_0 rfl ?_
  refine n_objInit B d_Tr_init_1 wk_Tr_3 wo_i wo_c (by decide) ?_
  refine n_aload B 0 d_Tr_init_4 rfl ?_
  refine n_bipush (v := 19) B d_Tr_init_5 (by decide +kernel) ?_
  refine n_newa (N := 19) (j := 0) (ty := .int) B rfl (by decide) wa_int d_Tr_init_7 (by decide +kernel) (by decide +kernel) (by decide) (by decide) (by decide) ?_
  refine n_putF (i := 15) (ci := 5) (N := 14) (j := 0) (T := F_Tr) (ty := t_Tr) (fs := [.null, .null, .null, .null, .null, .null, .null, .null, .null, .null, .null, .int 0, .int 0, .int 0]) (v := .ref (q.2.2.1 + 16)) B (by decide) (by first | rfl | exact h0) rfl i_Tr t_Tr_ok n_Tr (by decide) fl_Tr_9 rfl rfl rfl (Nat.le_of_ble_eq_true rfl) d_Tr_init_9 ?_
  refine n_aload B 0 d_Tr_init_12 rfl ?_
  refine n_bipush (v := 19) B d_Tr_init_13 (by decide +kernel) ?_
  refine n_newa (N := 19) (j := 0) (ty := .int) B rfl (by decide) wa_int d_Tr_init_15 (by decide +kernel) (by decide +kernel) (by decide) (by decide) (by decide) ?_
  refine n_putF (i := 15) (ci := 5) (N := 14) (j := 1) (T := F_Tr) (ty := t_Tr) (fs := [.ref (q.2.2.1 + 16), .null, .null, .null, .null, .null, .null, .null, .null, .null, .null, .int 0, .int 0, .int 0]) (v := .ref (q.2.2.1 + 17)) B (by decide) (by first | rfl | exact h0) rfl i_Tr t_Tr_ok n_Tr (by decide) fl_Tr_15 rfl rfl rfl (Nat.le_of_ble_eq_true rfl) d_Tr_init_17 ?_
  refine n_aload B 0 d_Tr_init_20 rfl ?_
  refine n_bipush (v := 19) B d_Tr_init_21 (by decide +kernel) ?_
  refine n_newa (N := 19) (j := 0) (ty := .int) B rfl (by decide) wa_int d_Tr_init_23 (by decide +kernel) (by decide +kernel) (by decide) (by decide) (by decide) ?_
  refine n_putF (i := 15) (ci := 5) (N := 14) (j := 2) (T := F_Tr) (ty := t_Tr) (fs := [.ref (q.2.2.1 + 16), .ref (q.2.2.1 + 17), .null, .null, .null, .null, .null, .null, .null, .null, .null, .int 0, .int 0, .int 0]) (v := .ref (q.2.2.1 + 18)) B (by decide) (by first | rfl | exact h0) rfl i_Tr t_Tr_ok n_Tr (by decide) fl_Tr_18 rfl rfl rfl (Nat.le_of_ble_eq_true rfl) d_Tr_init_25 ?_
  refine n_aload B 0 d_Tr_init_28 rfl ?_
  refine n_bipush (v := 19) B d_Tr_init_29 (by decide +kernel) ?_
  refine n_newa (N := 19) (j := 0) (ty := .int) B rfl (by decide) wa_int d_Tr_init_31 (by decide +kernel) (by decide +kernel) (by decide) (by decide) (by decide) ?_
  refine n_putF (i := 15) (ci := 5) (N := 14) (j := 3) (T := F_Tr) (ty := t_Tr) (fs := [.ref (q.2.2.1 + 16), .ref (q.2.2.1 + 17), .ref (q.2.2.1 + 18), .null, .null, .null, .null, .null, .null, .null, .null, .int 0, .int 0, .int 0]) (v := .ref (q.2.2.1 + 19)) B (by decide) (by first | rfl | exact h0) rfl i_Tr t_Tr_ok n_Tr (by decide) fl_Tr_21 rfl rfl rfl (Nat.le_of_ble_eq_true rfl) d_Tr_init_33 ?_
  refine n_aload B 0 d_Tr_init_36 rfl ?_
  refine n_bipush (v := 19) B d_Tr_init_37 (by decide +kernel) ?_
  refine n_newa (N := 19) (j := 0) (ty := .int) B rfl (by decide) wa_int d_Tr_init_39 (by decide +kernel) (by decide +kernel) (by decide) (by decide) (by decide) ?_
  refine n_putF (i := 15) (ci := 5) (N := 14) (j := 4) (T := F_Tr) (ty := t_Tr) (fs := [.ref (q.2.2.1 + 16), .ref (q.2.2.1 + 17), .ref (q.2.2.1 + 18), .ref (q.2.2.1 + 19), .null, .null, .null, .null, .null, .null, .null, .int 0, .int 0, .int 0]) (v := .ref (q.2.2.1 + 20)) B (by decide) (by first | rfl | exact h0) rfl i_Tr t_Tr_ok n_Tr (by decide) fl_Tr_24 rfl rfl rfl (Nat.le_of_ble_eq_true rfl) d_Tr_init_41 ?_
  refine n_aload B 0 d_Tr_init_44 rfl ?_
  refine n_bipush (v := 19) B d_Tr_init_45 (by decide +kernel) ?_
  refine n_newa (N := 19) (j := 0) (ty := .int) B rfl (by decide) wa_int d_Tr_init_47 (by decide +kernel) (by decide +kernel) (by decide) (by decide) (by decide) ?_
  refine n_putF (i := 15) (ci := 5) (N := 14) (j := 5) (T := F_Tr) (ty := t_Tr) (fs := [.ref (q.2.2.1 + 16), .ref (q.2.2.1 + 17), .ref (q.2.2.1 + 18), .ref (q.2.2.1 + 19), .ref (q.2.2.1 + 20), .null, .null, .null, .null, .null, .null, .int 0, .int 0, .int 0]) (v := .ref (q.2.2.1 + 21)) B (by decide) (by first | rfl | exact h0) rfl i_Tr t_Tr_ok n_Tr (by decide) fl_Tr_27 rfl rfl rfl (Nat.le_of_ble_eq_true rfl) d_Tr_init_49 ?_
  refine n_aload B 0 d_Tr_init_52 rfl ?_
  refine n_bipush (v := 19) B d_Tr_init_53 (by decide +kernel) ?_
  refine n_newa (N := 19) (j := 0) (ty := .int) B rfl (by decide) wa_int d_Tr_init_55 (by decide +kernel) (by decide +kernel) (by decide) (by decide) (by decide) ?_
  refine n_putF (i := 15) (ci := 5) (N := 14) (j := 6) (T := F_Tr) (ty := t_Tr) (fs := [.ref (q.2.2.1 + 16), .ref (q.2.2.1 + 17), .ref (q.2.2.1 + 18), .ref (q.2.2.1 + 19), .ref (q.2.2.1 + 20), .ref (q.2.2.1 + 21), .null, .null, .null, .null, .null, .int 0, .int 0, .int 0]) (v := .ref (q.2.2.1 + 22)) B (by decide) (by first | rfl | exact h0) rfl i_Tr t_Tr_ok n_Tr (by decide) fl_Tr_30 rfl rfl rfl (Nat.le_of_ble_eq_true rfl) d_Tr_init_57 ?_
  refine n_aload B 0 d_Tr_init_60 rfl ?_
  refine n_bipush (v := 19) B d_Tr_init_61 (by decide +kernel) ?_
  refine n_newa (N := 19) (j := 1) (ty := .boolean) B rfl (by decide) wa_boolean d_Tr_init_63 (by decide +kernel) (by decide +kernel) (by decide) (by decide) (by decide) ?_
  refine n_putF (i := 15) (ci := 5) (N := 14) (j := 7) (T := F_Tr) (ty := t_Tr) (fs := [.ref (q.2.2.1 + 16), .ref (q.2.2.1 + 17), .ref (q.2.2.1 + 18), .ref (q.2.2.1 + 19), .ref (q.2.2.1 + 20), .ref (q.2.2.1 + 21), .ref (q.2.2.1 + 22), .null, .null, .null, .null, .int 0, .int 0, .int 0]) (v := .ref (q.2.2.1 + 23)) B (by decide) (by first | rfl | exact h0) rfl i_Tr t_Tr_ok n_Tr (by decide) fl_Tr_33 rfl rfl rfl (Nat.le_of_ble_eq_true rfl) d_Tr_init_65 ?_
  refine n_aload B 0 d_Tr_init_68 rfl ?_
  refine n_bipush (v := 19) B d_Tr_init_69 (by decide +kernel) ?_
  refine n_newa (N := 19) (j := 0) (ty := .int) B rfl (by decide) wa_int d_Tr_init_71 (by decide +kernel) (by decide +kernel) (by decide) (by decide) (by decide) ?_
  refine n_putF (i := 15) (ci := 5) (N := 14) (j := 8) (T := F_Tr) (ty := t_Tr) (fs := [.ref (q.2.2.1 + 16), .ref (q.2.2.1 + 17), .ref (q.2.2.1 + 18), .ref (q.2.2.1 + 19), .ref (q.2.2.1 + 20), .ref (q.2.2.1 + 21), .ref (q.2.2.1 + 22), .ref (q.2.2.1 + 23), .null, .null, .null, .int 0, .int 0, .int 0]) (v := .ref (q.2.2.1 + 24)) B (by decide) (by first | rfl | exact h0) rfl i_Tr t_Tr_ok n_Tr (by decide) fl_Tr_37 rfl rfl rfl (Nat.le_of_ble_eq_true rfl) d_Tr_init_73 ?_
  refine n_aload B 0 d_Tr_init_76 rfl ?_
  refine n_bipush (v := 10) B d_Tr_init_77 (by decide +kernel) ?_
  refine n_newa (N := 10) (j := 0) (ty := .int) B rfl (by decide) wa_int d_Tr_init_79 (by decide +kernel) (by decide +kernel) (by decide) (by decide) (by decide) ?_
  refine n_putF (i := 15) (ci := 5) (N := 14) (j := 9) (T := F_Tr) (ty := t_Tr) (fs := [.ref (q.2.2.1 + 16), .ref (q.2.2.1 + 17), .ref (q.2.2.1 + 18), .ref (q.2.2.1 + 19), .ref (q.2.2.1 + 20), .ref (q.2.2.1 + 21), .ref (q.2.2.1 + 22), .ref (q.2.2.1 + 23), .ref (q.2.2.1 + 24), .null, .null, .int 0, .int 0, .int 0]) (v := .ref (q.2.2.1 + 25)) B (by decide) (by first | rfl | exact h0) rfl i_Tr t_Tr_ok n_Tr (by decide) fl_Tr_40 rfl rfl rfl (Nat.le_of_ble_eq_true rfl) d_Tr_init_81 ?_
  refine n_aload B 0 d_Tr_init_84 rfl ?_
  refine n_bipush (v := 19) B d_Tr_init_85 (by decide +kernel) ?_
  refine n_newa (N := 19) (j := 0) (ty := .int) B rfl (by decide) wa_int d_Tr_init_87 (by decide +kernel) (by decide +kernel) (by decide) (by decide) (by decide) ?_
  refine n_putF (i := 15) (ci := 5) (N := 14) (j := 10) (T := F_Tr) (ty := t_Tr) (fs := [.ref (q.2.2.1 + 16), .ref (q.2.2.1 + 17), .ref (q.2.2.1 + 18), .ref (q.2.2.1 + 19), .ref (q.2.2.1 + 20), .ref (q.2.2.1 + 21), .ref (q.2.2.1 + 22), .ref (q.2.2.1 + 23), .ref (q.2.2.1 + 24), .ref (q.2.2.1 + 25), .null, .int 0, .int 0, .int 0]) (v := .ref (q.2.2.1 + 26)) B (by decide) (by first | rfl | exact h0) rfl i_Tr t_Tr_ok n_Tr (by decide) fl_Tr_43 rfl rfl rfl (Nat.le_of_ble_eq_true rfl) d_Tr_init_89 ?_
  refine n_aload B 0 d_Tr_init_92 rfl ?_
  refine n_iconst (v := 0) B d_Tr_init_93 (by decide +kernel) ?_
  refine n_putF (i := 15) (ci := 5) (N := 14) (j := 11) (T := F_Tr) (ty := t_Tr) (fs := [.ref (q.2.2.1 + 16), .ref (q.2.2.1 + 17), .ref (q.2.2.1 + 18), .ref (q.2.2.1 + 19), .ref (q.2.2.1 + 20), .ref (q.2.2.1 + 21), .ref (q.2.2.1 + 22), .ref (q.2.2.1 + 23), .ref (q.2.2.1 + 24), .ref (q.2.2.1 + 25), .ref (q.2.2.1 + 26), .int 0, .int 0, .int 0]) (v := .int 0) B (by decide) (by first | rfl | exact h0) rfl i_Tr t_Tr_ok n_Tr (by decide) fl_Tr_46 rfl rfl rfl (Nat.le_of_ble_eq_true rfl) d_Tr_init_94 ?_
  refine n_aload B 0 d_Tr_init_97 rfl ?_
  refine n_iconst (v := 0) B d_Tr_init_98 (by decide +kernel) ?_
  refine n_putF (i := 15) (ci := 5) (N := 14) (j := 12) (T := F_Tr) (ty := t_Tr) (fs := [.ref (q.2.2.1 + 16), .ref (q.2.2.1 + 17), .ref (q.2.2.1 + 18), .ref (q.2.2.1 + 19), .ref (q.2.2.1 + 20), .ref (q.2.2.1 + 21), .ref (q.2.2.1 + 22), .ref (q.2.2.1 + 23), .ref (q.2.2.1 + 24), .ref (q.2.2.1 + 25), .ref (q.2.2.1 + 26), .int 0, .int 0, .int 0]) (v := .int 0) B (by decide) (by first | rfl | exact h0) rfl i_Tr t_Tr_ok n_Tr (by decide) fl_Tr_50 rfl rfl rfl (Nat.le_of_ble_eq_true rfl) d_Tr_init_99 ?_
  refine n_aload B 0 d_Tr_init_102 rfl ?_
  refine n_iconst (v := 0) B d_Tr_init_103 (by decide +kernel) ?_
  refine n_putF (i := 15) (ci := 5) (N := 14) (j := 13) (T := F_Tr) (ty := t_Tr) (fs := [.ref (q.2.2.1 + 16), .ref (q.2.2.1 + 17), .ref (q.2.2.1 + 18), .ref (q.2.2.1 + 19), .ref (q.2.2.1 + 20), .ref (q.2.2.1 + 21), .ref (q.2.2.1 + 22), .ref (q.2.2.1 + 23), .ref (q.2.2.1 + 24), .ref (q.2.2.1 + 25), .ref (q.2.2.1 + 26), .int 0, .int 0, .int 0]) (v := .int 0) B (by decide) (by first | rfl | exact h0) rfl i_Tr t_Tr_ok n_Tr (by decide) fl_Tr_54 rfl rfl rfl (Nat.le_of_ble_eq_true rfl) d_Tr_init_104 ?_
  exact Rt _ _ d_Tr_init_107
def eTr1 (q : NG) (en : Nat → va_E) : Nat → va_E := (va_up (va_up (va_up (va_up (va_up (va_up (va_up (va_up (va_up (va_up (va_up (va_up (va_up (va_up (va_up (va_up (va_up (va_up (va_up (va_up (va_up (va_up (va_up (va_up (va_up en 28 (.inl (q.2.2.2 0, 19, .inl (fun _ => 0)))) 27 (.inr (5, [.ref (q.2.2.1 + 28), .null, .null, .null, .null, .null, .null, .null, .null, .null, .null, .int 0, .int 0, .int 0]))) 29 (.inl (q.2.2.2 0, 19, .inl (fun _ => 0)))) 27 (.inr (5, [.ref (q.2.2.1 + 28), .ref (q.2.2.1 + 29), .null, .null, .null, .null, .null, .null, .null, .null, .null, .int 0, .int 0, .int 0]))) 30 (.inl (q.2.2.2 0, 19, .inl (fun _ => 0)))) 27 (.inr (5, [.ref (q.2.2.1 + 28), .ref (q.2.2.1 + 29), .ref (q.2.2.1 + 30), .null, .null, .null, .null, .null, .null, .null, .null, .int 0, .int 0, .int 0]))) 31 (.inl (q.2.2.2 0, 19, .inl (fun _ => 0)))) 27 (.inr (5, [.ref (q.2.2.1 + 28), .ref (q.2.2.1 + 29), .ref (q.2.2.1 + 30), .ref (q.2.2.1 + 31), .null, .null, .null, .null, .null, .null, .null, .int 0, .int 0, .int 0]))) 32 (.inl (q.2.2.2 0, 19, .inl (fun _ => 0)))) 27 (.inr (5, [.ref (q.2.2.1 + 28), .ref (q.2.2.1 + 29), .ref (q.2.2.1 + 30), .ref (q.2.2.1 + 31), .ref (q.2.2.1 + 32), .null, .null, .null, .null, .null, .null, .int 0, .int 0, .int 0]))) 33 (.inl (q.2.2.2 0, 19, .inl (fun _ => 0)))) 27 (.inr (5, [.ref (q.2.2.1 + 28), .ref (q.2.2.1 + 29), .ref (q.2.2.1 + 30), .ref (q.2.2.1 + 31), .ref (q.2.2.1 + 32), .ref (q.2.2.1 + 33), .null, .null, .null, .null, .null, .int 0, .int 0, .int 0]))) 34 (.inl (q.2.2.2 0, 19, .inl (fun _ => 0)))) 27 (.inr (5, [.ref (q.2.2.1 + 28), .ref (q.2.2.1 + 29), .ref (q.2.2.1 + 30), .ref (q.2.2.1 + 31), .ref (q.2.2.1 + 32), .ref (q.2.2.1 + 33), .ref (q.2.2.1 + 34), .null, .null, .null, .null, .int 0, .int 0, .int 0]))) 35 (.inl (q.2.2.2 1, 19, .inl (fun _ => 0)))) 27 (.inr (5, [.ref (q.2.2.1 + 28), .ref (q.2.2.1 + 29), .ref (q.2.2.1 + 30), .ref (q.2.2.1 + 31), .ref (q.2.2.1 + 32), .ref (q.2.2.1 + 33), .ref (q.2.2.1 + 34), .ref (q.2.2.1 + 35), .null, .null, .null, .int 0, .int 0, .int 0]))) 36 (.inl (q.2.2.2 0, 19, .inl (fun _ => 0)))) 27 (.inr (5, [.ref (q.2.2.1 + 28), .ref (q.2.2.1 + 29), .ref (q.2.2.1 + 30), .ref (q.2.2.1 + 31), .ref (q.2.2.1 + 32), .ref (q.2.2.1 + 33), .ref (q.2.2.1 + 34), .ref (q.2.2.1 + 35), .ref (q.2.2.1 + 36), .null, .null, .int 0, .int 0, .int 0]))) 37 (.inl (q.2.2.2 0, 10, .inl (fun _ => 0)))) 27 (.inr (5, [.ref (q.2.2.1 + 28), .ref (q.2.2.1 + 29), .ref (q.2.2.1 + 30), .ref (q.2.2.1 + 31), .ref (q.2.2.1 + 32), .ref (q.2.2.1 + 33), .ref (q.2.2.1 + 34), .ref (q.2.2.1 + 35), .ref (q.2.2.1 + 36), .ref (q.2.2.1 + 37), .null, .int 0, .int 0, .int 0]))) 38 (.inl (q.2.2.2 0, 19, .inl (fun _ => 0)))) 27 (.inr (5, [.ref (q.2.2.1 + 28), .ref (q.2.2.1 + 29), .ref (q.2.2.1 + 30), .ref (q.2.2.1 + 31), .ref (q.2.2.1 + 32), .ref (q.2.2.1 + 33), .ref (q.2.2.1 + 34), .ref (q.2.2.1 + 35), .ref (q.2.2.1 + 36), .ref (q.2.2.1 + 37), .ref (q.2.2.1 + 38), .int 0, .int 0, .int 0]))) 27 (.inr (5, [.ref (q.2.2.1 + 28), .ref (q.2.2.1 + 29), .ref (q.2.2.1 + 30), .ref (q.2.2.1 + 31), .ref (q.2.2.1 + 32), .ref (q.2.2.1 + 33), .ref (q.2.2.1 + 34), .ref (q.2.2.1 + 35), .ref (q.2.2.1 + 36), .ref (q.2.2.1 + 37), .ref (q.2.2.1 + 38), .int 0, .int 0, .int 0]))) 27 (.inr (5, [.ref (q.2.2.1 + 28), .ref (q.2.2.1 + 29), .ref (q.2.2.1 + 30), .ref (q.2.2.1 + 31), .ref (q.2.2.1 + 32), .ref (q.2.2.1 + 33), .ref (q.2.2.1 + 34), .ref (q.2.2.1 + 35), .ref (q.2.2.1 + 36), .ref (q.2.2.1 + 37), .ref (q.2.2.1 + 38), .int 0, .int 0, .int 0]))) 27 (.inr (5, [.ref (q.2.2.1 + 28), .ref (q.2.2.1 + 29), .ref (q.2.2.1 + 30), .ref (q.2.2.1 + 31), .ref (q.2.2.1 + 32), .ref (q.2.2.1 + 33), .ref (q.2.2.1 + 34), .ref (q.2.2.1 + 35), .ref (q.2.2.1 + 36), .ref (q.2.2.1 + 37), .ref (q.2.2.1 + 38), .int 0, .int 0, .int 0])))
set_option maxHeartbeats 4000000 in
set_option maxRecDepth 20000 in
theorem tN_Tr1 {q : NG} {en : Nat → va_E} (h0 : en 27 = .inr (5, [.null, .null, .null, .null, .null, .null, .null, .null, .null, .null, .null, .int 0, .int 0, .int 0])) : TerN q 1 11 200 m_Tr_init [.ref (q.2.2.1 + 27)] en 28 (eTr1 q en) 39 := by
  refine TerN.mk (ini := true) (by decide +kernel) rfl (Nat.le_of_ble_eq_true rfl) (fun _ => rfl) (fun K B Rt => ?_)
  have B : Nx q K prog_7_method_1_code 1 R_Tr 1 11 200 true := B
  show NW q K 1 0 [(0, .ref (q.2.2.1 + 27))] [] en 28 0 0
  refine n_aload B 0 d_Tr_init_0 rfl ?_
  refine n_objInit B d_Tr_init_1 wk_Tr_3 wo_i wo_c (by decide) ?_
  refine n_aload B 0 d_Tr_init_4 rfl ?_
  refine n_bipush (v := 19) B d_Tr_init_5 (by decide +kernel) ?_
  refine n_newa (N := 19) (j := 0) (ty := .int) B rfl (by decide) wa_int d_Tr_init_7 (by decide +kernel) (by decide +kernel) (by decide) (by decide) (by decide) ?_
  refine n_putF (i := 27) (ci := 5) (N := 14) (j := 0) (T := F_Tr) (ty := t_Tr) (fs := [.null, .null, .null, .null, .null, .null, .null, .null, .null, .null, .null, .int 0, .int 0, .int 0]) (v := .ref (q.2.2.1 + 28)) B (by decide) (by first | rfl | exact h0) rfl i_Tr t_Tr_ok n_Tr (by decide) fl_Tr_9 rfl rfl rfl (Nat.le_of_ble_eq_true rfl) d_Tr_init_9 ?_
  refine n_aload B 0 d_Tr_init_12 rfl ?_
  refine n_bipush (v := 19) B d_Tr_init_13 (by decide +kernel) ?_
  refine n_newa (N := 19) (j := 0) (ty := .int) B rfl (by decide) wa_int d_Tr_init_15 (by decide +kernel) (by decide +kernel) (by decide) (by decide) (by decide) ?_
  refine n_putF (i := 27) (ci := 5) (N := 14) (j := 1) (T := F_Tr) (ty := t_Tr) (fs := [.ref (q.2.2.1 + 28), .null, .null, .null, .null, .null, .null, .null, .null, .null, .null, .int 0, .int 0, .int 0]) (v := .ref (q.2.2.1 + 29)) B (by decide) (by first | rfl | exact h0) rfl i_Tr t_Tr_ok n_Tr (by decide) fl_Tr_15 rfl rfl rfl (Nat.le_of_ble_eq_true rfl) d_Tr_init_17 ?_
  refine n_aload B 0 d_Tr_init_20 rfl ?_
  refine n_bipush (v := 19) B d_Tr_init_21 (by decide +kernel) ?_
  refine n_newa (N := 19) (j := 0) (ty := .int) B rfl (by decide) wa_int d_Tr_init_23 (by decide +kernel) (by decide +kernel) (by decide) (by decide) (by decide) ?_
  refine n_putF (i := 27) (ci := 5) (N := 14) (j := 2) (T := F_Tr) (ty := t_Tr) (fs := [.ref (q.2.2.1 + 28), .ref (q.2.2.1 + 29), .null, .null, .null, .null, .null, .null, .null, .null, .null, .int 0, .int 0, .int 0]) (v := .ref (q.2.2.1 + 30)) B (by decide) (by first | rfl | exact h0) rfl i_Tr t_Tr_ok n_Tr (by decide) fl_Tr_18 rfl rfl rfl (Nat.le_of_ble_eq_true rfl) d_Tr_init_25 ?_
  refine n_aload B 0 d_Tr_init_28 rfl ?_
  refine n_bipush (v := 19) B d_Tr_init_29 (by decide +kernel) ?_
  refine n_newa (N := 19) (j := 0) (ty := .int) B rfl (by decide) wa_int d_Tr_init_31 (by decide +kernel) (by decide +kernel) (by decide) (by decide) (by decide) ?_
  refine n_putF (i := 27) (ci := 5) (N := 14) (j := 3) (T := F_Tr) (ty := t_Tr) (fs := [.ref (q.2.2.1 + 28), .ref (q.2.2.1 + 29), .ref (q.2.2.1 + 30), .null, .null, .null, .null, .null, .null, .null, .null, .int 0, .int 0, .int 0]) (v := .ref (q.2.2.1 + 31)) B (by decide) (by first | rfl | exact h0) rfl i_Tr t_Tr_ok n_Tr (by decide) fl_Tr_21 rfl rfl rfl (Nat.le_of_ble_eq_true rfl) d_Tr_init_33 ?_
  refine n_aload B 0 d_Tr_init_36 rfl ?_
  refine n_bipush (v := 19) B d_Tr_init_37 (by decide +kernel) ?_
  refine n_newa (N := 19) (j := 0) (ty := .int) B rfl (by decide) wa_int d_Tr_init_39 (by decide +kernel) (by decide +kernel) (by decide) (by decide) (by decide) ?_
  refine n_putF (i := 27) (ci := 5) (N := 14) (j := 4) (T := F_Tr) (ty := t_Tr) (fs := [.ref (q.2.2.1 + 28), .ref (q.2.2.1 + 29), .ref (q.2.2.1 + 30), .ref (q.2.2.1 + 31), .null, .null, .null, .null, .null, .null, .null, .int 0, .int 0, .int 0]) (v := .ref (q.2.2.1 + 32)) B (by decide) (by first | rfl | exact h0) rfl i_Tr t_Tr_ok n_Tr (by decide) fl_Tr_24 rfl rfl rfl (Nat.le_of_ble_eq_true rfl) d_Tr_init_41 ?_
  refine n_aload B 0 d_Tr_init_44 rfl ?_
  refine n_bipush (v := 19) B d_Tr_init_45 (by decide +kernel) ?_
  refine n_newa (N := 19) (j := 0) (ty := .int) B rfl (by decide) wa_int d_Tr_init_47 (by decide +kernel) (by decide +kernel) (by decide) (by decide) (by decide) ?_
  refine n_putF (i := 27) (ci := 5) (N := 14) (j := 5) (T := F_Tr) (ty := t_Tr) (fs := [.ref (q.2.2.1 + 28), .ref (q.2.2.1 + 29), .ref (q.2.2.1 + 30), .ref (q.2.2.1 + 31), .ref (q.2.2.1 + 32), .null, .null, .null, .null, .null, .null, .int 0, .int 0, .int 0]) (v := .ref (q.2.2.1 + 33)) B (by decide) (by first | rfl | exact h0) rfl i_Tr t_Tr_ok n_Tr (by decide) fl_Tr_27 rfl rfl rfl (Nat.le_of_ble_eq_true rfl) d_Tr_init_49 ?_
  refine n_aload B 0 d_Tr_init_52 rfl ?_
  refine n_bipush (v := 19) B d_Tr_init_53 (by decide +kernel) ?_
  refine n_newa (N := 19) (j := 0) (ty := .int) B rfl (by decide) wa_int d_Tr_init_55 (by decide +kernel) (by decide +kernel) (by decide) (by decide) (by decide) ?_
  refine n_putF (i := 27) (ci := 5) (N := 14) (j := 6) (T := F_Tr) (ty := t_Tr) (fs := [.ref (q.2.2.1 + 28), .ref (q.2.2.1 + 29), .ref (q.2.2.1 + 30), .ref (q.2.2.1 + 31), .ref (q.2.2.1 + 32), .ref (q.2.2.1 + 33), .null, .null, .null, .null, .null, .int 0, .int 0, .int 0]) (v := .ref (q.2.2.1 + 34)) B (by decide) (by first | rfl | exact h0) rfl i_Tr t_Tr_ok n_Tr (by decide) fl_Tr_30 rfl rfl rfl (Nat.le_of_ble_eq_true rfl) d_Tr_init_57 ?_
  refine n_aload B 0 d_Tr_init_60 rfl ?_
  refine n_bipush (v := 19) B d_Tr_init_61 (by decide +kernel) ?_
  refine n_newa (N := 19) (j := 1) (ty := .boolean) B rfl (by decide) wa_boolean d_Tr_init_63 (by decide +kernel) (by decide +kernel) (by decide) (by decide) (by decide) ?_
  refine n_putF (i := 27) (ci := 5) (N := 14) (j := 7) (T := F_Tr) (ty := t_Tr) (fs := [.ref (q.2.2.1 + 28), .ref (q.2.2.1 + 29), .ref (q.2.2.1 + 30), .ref (q.2.2.1 + 31), .ref (q.2.2.1 + 32), .ref (q.2.2.1 + 33), .ref (q.2.2.1 + 34), .null, .null, .null, .null, .int 0, .int 0, .int 0]) (v := .ref (q.2.2.1 + 35)) B (by decide) (by first | rfl | exact h0) rfl i_Tr t_Tr_ok n_Tr (by decide) fl_Tr_33 rfl rfl rfl (Nat.le_of_ble_eq_true rfl) d_Tr_init_65 ?_
  refine n_aload B 0 d_Tr_init_68 rfl ?_
  refine n_bipush (v := 19) B d_Tr_init_69 (by decide +kernel) ?_
  refine n_newa (N := 19) (j := 0) (ty := .int) B rfl (by decide) wa_int d_Tr_init_71 (by decide +kernel) (by decide +kernel) (by decide) (by decide) (by decide) ?_
  refine n_putF (i := 27) (ci := 5) (N := 14) (j := 8) (T := F_Tr) (ty := t_Tr) (fs := [.ref (q.2.2.1 + 28), .ref (q.2.2.1 + 29), .ref (q.2.2.1 + 30), .ref (q.2.2.1 + 31), .ref (q.2.2.1 + 32), .ref (q.2.2.1 + 33), .ref (q.2.2.1 + 34), .ref (q.2.2.1 + 35), .null, .null, .null, .int 0, .int 0, .int 0]) (v := .ref (q.2.2.1 + 36)) B (by decide) (by first | rfl | exact h0) rfl i_Tr t_Tr_ok n_Tr (by decide) fl_Tr_37 rfl rfl rfl (Nat.le_of_ble_eq_true rfl) d_Tr_init_73 ?_
  refine n_aload B 0 d_Tr_init_76 rfl ?_
  refine n_bipush (v := 10) B d_Tr_init_77 (by decide +kernel) ?_
  refine n_newa (N := 10) (j := 0) (ty := .int) B rfl (by decide) wa_int d_Tr_init_79 (by decide +kernel) (by decide +kernel) (by decide) (by decide) (by decide) ?_
  refine n_putF (i := 27) (ci := 5) (N := 14) (j := 9) (T := F_Tr) (ty := t_Tr) (fs := [.ref (q.2.2.1 + 28), .ref (q.2.2.1 + 29), .ref (q.2.2.1 + 30), .ref (q.2.2.1 + 31), .ref (q.2.2.1 + 32), .ref (q.2.2.1 + 33), .ref (q.2.2.1 + 34), .ref (q.2.2.1 + 35), .ref (q.2.2.1 + 36), .null, .null, .int 0, .int 0, .int 0]) (v := .ref (q.2.2.1 + 37)) B (by decide) (by first | rfl | exact h0) rfl i_Tr t_Tr_ok n_Tr (by decide) fl_Tr_40 rfl rfl rfl (Nat.le_of_ble_eq_true rfl) d_Tr_init_81 ?_
  refine n_aload B 0 d_Tr_init_84 rfl ?_
  refine n_bipush (v := 19) B d_Tr_init_85 (by decide +kernel) ?_
  refine n_newa (N := 19) (j := 0) (ty := .int) B rfl (by decide) wa_int d_Tr_init_87 (by decide +kernel) (by decide +kernel) (by decide) (by decide) (by decide) ?_
  refine n_putF (i := 27) (ci := 5) (N := 14) (j := 10) (T := F_Tr) (ty := t_Tr) (fs := [.ref (q.2.2.1 + 28), .ref (q.2.2.1 + 29), .ref (q.2.2.1 + 30), .ref (q.2.2.1 + 31), .ref (q.2.2.1 + 32), .ref (q.2.2.1 + 33), .ref (q.2.2.1 + 34), .ref (q.2.2.1 + 35), .ref (q.2.2.1 + 36), .ref (q.2.2.1 + 37), .null, .int 0, .int 0, .int 0]) (v := .ref (q.2.2.1 + 38)) B (by decide) (by first | rfl | exact h0) rfl i_Tr t_Tr_ok n_Tr (by decide) fl_Tr_43 rfl rfl rfl (Nat.le_of_ble_eq_true rfl) d_Tr_init_89 ?_
  refine n_aload B 0 d_Tr_init_92 rfl ?_
  refine n_iconst (v := 0) B d_Tr_init_93 (by decide +kernel) ?_
  refine n_putF (i := 27) (ci := 5) (N := 14) (j := 11) (T := F_Tr) (ty := t_Tr) (fs := [.ref (q.2.2.1 + 28), .ref (q.2.2.1 + 29), .ref (q.2.2.1 + 30), .ref (q.2.2.1 + 31), .ref (q.2.2.1 + 32), .ref (q.2.2.1 + 33), .ref (q.2.2.1 + 34), .ref (q.2.2.1 + 35), .ref (q.2.2.1 + 36), .ref (q.2.2.1 + 37), .ref (q.2.2.1 + 38), .int 0, .int 0, .int 0]) (v := .int 0) B (by decide) (by first | rfl | exact h0) rfl i_Tr t_Tr_ok n_Tr (by decide) fl_Tr_46 rfl rfl rfl (Nat.le_of_ble_eq_true rfl) d_Tr_init_94 ?_
  refine n_aload B 0 d_Tr_init_97 rfl ?_
  refine n_iconst (v := 0) B d_Tr_init_98 (by decide +kernel) ?_
  refine n_putF (i := 27) (ci := 5) (N := 14) (j := 12) (T := F_Tr) (ty := t_Tr) (fs := [.ref (q.2.2.1 + 28), .ref (q.2.2.1 + 29), .ref (q.2.2.1 + 30), .ref (q.2.2.1 + 31), .ref (q.2.2.1 + 32), .ref (q.2.2.1 + 33), .ref (q.2.2.1 + 34), .ref (q.2.2.1 + 35), .ref (q.2.2.1 + 36), .ref (q.2.2.1 + 37), .ref (q.2.2.1 + 38), .int 0, .int 0, .int 0]) (v := .int 0) B (by decide) (by first | rfl | exact h0) rfl i_Tr t_Tr_ok n_Tr (by decide) fl_Tr_50 rfl rfl rfl (Nat.le_of_ble_eq_true rfl) d_Tr_init_99 ?_
  refine n_aload B 0 d_Tr_init_102 rfl ?_
  refine n_iconst (v := 0) B d_Tr_init_103 (by decide +kernel) ?_
  refine n_putF (i := 27) (ci := 5) (N := 14) (j := 13) (T := F_Tr) (ty := t_Tr) (fs := [.ref (q.2.2.1 + 28), .ref (q.2.2.1 + 29), .ref (q.2.2.1 + 30), .ref (q.2.2.1 + 31), .ref (q.2.2.1 + 32), .ref (q.2.2.1 + 33), .ref (q.2.2.1 + 34), .ref (q.2.2.1 + 35), .ref (q.2.2.1 + 36), .ref (q.2.2.1 + 37), .ref (q.2.2.1 + 38), .int 0, .int 0, .int 0]) (v := .int 0) B (by decide) (by first | rfl | exact h0) rfl i_Tr t_Tr_ok n_Tr (by decide) fl_Tr_54 rfl rfl rfl (Nat.le_of_ble_eq_true rfl) d_Tr_init_104 ?_
  exact Rt _ _ d_Tr_init_107
def eTr2 (q : NG) (en : Nat → va_E) : Nat → va_E := (va_up (va_up (va_up (va_up (va_up (va_up (va_up (va_up (va_up (va_up (va_up (va_up (va_up (va_up (va_up (va_up (va_up (va_up (va_up (va_up (va_up (va_up (va_up (va_up (va_up en 40 (.inl (q.2.2.2 0, 19, .inl (fun _ => 0)))) 39 (.inr (5, [.ref (q.2.2.1 + 40), .null, .null, .null, .null, .null, .null, .null, .null, .null, .null, .int 0, .int 0, .int 0]))) 41 (.inl (q.2.2.2 0, 19, .inl (fun _ => 0)))) 39 (.inr (5, [.ref (q.2.2.1 + 40), .ref (q.2.2.1 + 41), .null, .null, .null, .null, .null, .null, .null, .null, .null, .int 0, .int 0, .int 0]))) 42 (.inl (q.2.2.2 0, 19, .inl (fun _ => 0)))) 39 (.inr (5, [.ref (q.2.2.1 + 40), .ref (q.2.2.1 + 41), .ref (q.2.2.1 + 42), .null, .null, .null, .null, .null, .null, .null, .null, .int 0, .int 0, .int 0]))) 43 (.inl (q.2.2.2 0, 19, .inl (fun _ => 0)))) 39 (.inr (5, [.ref (q.2.2.1 + 40), .ref (q.2.2.1 + 41), .ref (q.2.2.1 + 42), .ref (q.2.2.1 + 43), .null, .null, .null, .null, .null, .null, .null, .int 0, .int 0, .int 0]))) 44 (.inl (q.2.2.2 0, 19, .inl (fun _ => 0)))) 39 (.inr (5, [.ref (q.2.2.1 + 40), .ref (q.2.2.1 + 41), .ref (q.2.2.1 + 42), .ref (q.2.2.1 + 43), .ref (q.2.2.1 + 44), .null, .null, .null, .null, .null, .null, .int 0, .int 0, .int 0]))) 45 (.inl (q.2.2.2 0, 19, .inl (fun _ => 0)))) 39 (.inr (5, [.ref (q.2.2.1 + 40), .ref (q.2.2.1 + 41), .ref (q.2.2.1 + 42), .ref (q.2.2.1 + 43), .ref (q.2.2.1 + 44), .ref (q.2.2.1 + 45), .null, .null, .null, .null, .null, .int 0, .int 0, .int 0]))) 46 (.inl (q.2.2.2 0, 19, .inl (fun _ => 0)))) 39 (.inr (5, [.ref (q.2.2.1 + 40), .ref (q.2.2.1 + 41), .ref (q.2.2.1 + 42), .ref (q.2.2.1 + 43), .ref (q.2.2.1 + 44), .ref (q.2.2.1 + 45), .ref (q.2.2.1 + 46), .null, .null, .null, .null, .int 0, .int 0, .int 0]))) 47 (.inl (q.2.2.2 1, 19, .inl (fun _ => 0)))) 39 (.inr (5, [.ref (q.2.2.1 + 40), .ref (q.2.2.1 + 41), .ref (q.2.2.1 + 42), .ref (q.2.2.1 + 43), .ref (q.2.2.1 + 44), .ref (q.2.2.1 + 45), .ref (q.2.2.1 + 46), .ref (q.2.2.1 + 47), .null, .null, .null, .int 0, .int 0, .int 0]))) 48 (.inl (q.2.2.2 0, 19, .inl (fun _ => 0)))) 39 (.inr (5, [.ref (q.2.2.1 + 40), .ref (q.2.2.1 + 41), .ref (q.2.2.1 + 42), .ref (q.2.2.1 + 43), .ref (q.2.2.1 + 44), .ref (q.2.2.1 + 45), .ref (q.2.2.1 + 46), .ref (q.2.2.1 + 47), .ref (q.2.2.1 + 48), .null, .null, .int 0, .int 0, .int 0]))) 49 (.inl (q.2.2.2 0, 10, .inl (fun _ => 0)))) 39 (.inr (5, [.ref (q.2.2.1 + 40), .ref (q.2.2.1 + 41), .ref (q.2.2.1 + 42), .ref (q.2.2.1 + 43), .ref (q.2.2.1 + 44), .ref (q.2.2.1 + 45), .ref (q.2.2.1 + 46), .ref (q.2.2.1 + 47), .ref (q.2.2.1 + 48), .ref (q.2.2.1 + 49), .null, .int 0, .int 0, .int 0]))) 50 (.inl (q.2.2.2 0, 19, .inl (fun _ => 0)))) 39 (.inr (5, [.ref (q.2.2.1 + 40), .ref (q.2.2.1 + 41), .ref (q.2.2.1 + 42), .ref (q.2.2.1 + 43), .ref (q.2.2.1 + 44), .ref (q.2.2.1 + 45), .ref (q.2.2.1 + 46), .ref (q.2.2.1 + 47), .ref (q.2.2.1 + 48), .ref (q.2.2.1 + 49), .ref (q.2.2.1 + 50), .int 0, .int 0, .int 0]))) 39 (.inr (5, [.ref (q.2.2.1 + 40), .ref (q.2.2.1 + 41), .ref (q.2.2.1 + 42), .ref (q.2.2.1 + 43), .ref (q.2.2.1 + 44), .ref (q.2.2.1 + 45), .ref (q.2.2.1 + 46), .ref (q.2.2.1 + 47), .ref (q.2.2.1 + 48), .ref (q.2.2.1 + 49), .ref (q.2.2.1 + 50), .int 0, .int 0, .int 0]))) 39 (.inr (5, [.ref (q.2.2.1 + 40), .ref (q.2.2.1 + 41), .ref (q.2.2.1 + 42), .ref (q.2.2.1 + 43), .ref (q.2.2.1 + 44), .ref (q.2.2.1 + 45), .ref (q.2.2.1 + 46), .ref (q.2.2.1 + 47), .ref (q.2.2.1 + 48), .ref (q.2.2.1 + 49), .ref (q.2.2.1 + 50), .int 0, .int 0, .int 0]))) 39 (.inr (5, [.ref (q.2.2.1 + 40), .ref (q.2.2.1 + 41), .ref (q.2.2.1 + 42), .ref (q.2.2.1 + 43), .ref (q.2.2.1 + 44), .ref (q.2.2.1 + 45), .ref (q.2.2.1 + 46), .ref (q.2.2.1 + 47), .ref (q.2.2.1 + 48), .ref (q.2.2.1 + 49), .ref (q.2.2.1 + 50), .int 0, .int 0, .int 0])))
set_option maxHeartbeats 4000000 in
set_option maxRecDepth 20000 in
theorem tN_Tr2 {q : NG} {en : Nat → va_E} (h0 : en 39 = .inr (5, [.null, .null, .null, .null, .null, .null, .null, .null, .null, .null, .null, .int 0, .int 0, .int 0])) : TerN q 1 11 200 m_Tr_init [.ref (q.2.2.1 + 39)] en 40 (eTr2 q en) 51 := by
  refine TerN.mk (ini := true) (by decide +kernel) rfl (Nat.le_of_ble_eq_true rfl) (fun _ => rfl) (fun K B Rt => ?_)
  have B : Nx q K prog_7_method_1_code 1 R_Tr 1 11 200 true := B
  show NW q K 1 0 [(0, .ref (q.2.2.1 + 39))] [] en 40 0 0
  refine n_aload B 0 d_Tr_init_0 rfl ?_
  refine n_objInit B d_Tr_init_1 wk_Tr_3 wo_i wo_c (by decide) ?_
  refine n_aload B 0 d_Tr_init_4 rfl ?_
  refine n_bipush (v := 19) B d_Tr_init_5 (by decide +kernel) ?_
  refine n_newa (N := 19) (j := 0) (ty := .int) B rfl (by decide) wa_int d_Tr_init_7 (by decide +kernel) (by decide +kernel) (by decide) (by decide) (by decide) ?_
  refine n_putF (i := 39) (ci := 5) (N := 14) (j := 0) (T := F_Tr) (ty := t_Tr) (fs := [.null, .null, .null, .null, .null, .null, .null, .null, .null, .null, .null, .int 0, .int 0, .int 0]) (v := .ref (q.2.2.1 + 40)) B (by decide) (by first | rfl | exact h0) rfl i_Tr t_Tr_ok n_Tr (by decide) fl_Tr_9 rfl rfl rfl (Nat.le_of_ble_eq_true rfl) d_Tr_init_9 ?_
  refine n_aload B 0 d_Tr_init_12 rfl ?_
  refine n_bipush (v := 19) B d_Tr_init_13 (by decide +kernel) ?_
  refine n_newa (N := 19) (j := 0) (ty := .int) B rfl (by decide) wa_int d_Tr_init_15 (by decide +kernel) (by decide +kernel) (by decide) (by decide) (by decide) ?_
  refine n_putF (i := 39) (ci := 5) (N := 14) (j := 1) (T := F_Tr) (ty := t_Tr) (fs := [.ref (q.2.2.1 + 40), .null, .null, .null, .null, .null, .null, .null, .null, .null, .null, .int 0, .int 0, .int 0]) (v := .ref (q.2.2.1 + 41)) B (by decide) (by first | rfl | exact h0) rfl i_Tr t_Tr_ok n_Tr (by decide) fl_Tr_15 rfl rfl rfl (Nat.le_of_ble_eq_true rfl) d_Tr_init_17 ?_
  refine n_aload B 0 d_Tr_init_20 rfl ?_
  refine n_bipush (v := 19) B d_Tr_init_21 (by decide +kernel) ?_
  refine n_newa (N := 19) (j := 0) (ty := .int) B rfl (by decide) wa_int d_Tr_init_23 (by decide +kernel) (by decide +kernel) (by decide) (by decide) (by decide) ?_
  refine n_putF (i := 39) (ci := 5) (N := 14) (j := 2) (T := F_Tr) (ty := t_Tr) (fs := [.ref (q.2.2.1 + 40), .ref (q.2.2.1 + 41), .null, .null, .null, .null, .null, .null, .null, .null, .null, .int 0, .int 0, .int 0]) (v := .ref (q.2.2.1 + 42)) B (by decide) (by first | rfl | exact h0) rfl i_Tr t_Tr_ok n_Tr (by decide) fl_Tr_18 rfl rfl rfl (Nat.le_of_ble_eq_true rfl) d_Tr_init_25 ?_
  refine n_aload B 0 d_Tr_init_28 rfl ?_
  refine n_bipush (v := 19) B d_Tr_init_29 (by decide +kernel) ?_
  refine n_newa (N := 19) (j := 0) (ty := .int) B rfl (by decide) wa_int d_Tr_init_31 (by decide +kernel) (by decide +kernel) (by decide) (by decide) (by decide) ?_
  refine n_putF (i := 39) (ci := 5) (N := 14) (j := 3) (T := F_Tr) (ty := t_Tr) (fs := [.ref (q.2.2.1 + 40), .ref (q.2.2.1 + 41), .ref (q.2.2.1 + 42), .null, .null, .null, .null, .null, .null, .null, .null, .int 0, .int 0, .int 0]) (v := .ref (q.2.2.1 + 43)) B (by decide) (by first | rfl | exact h0) rfl i_Tr t_Tr_ok n_Tr (by decide) fl_Tr_21 rfl rfl rfl (Nat.le_of_ble_eq_true rfl) d_Tr_init_33 ?_
  refine n_aload B 0 d_Tr_init_36 rfl ?_
  refine n_bipush (v := 19) B d_Tr_init_37 (by decide +kernel) ?_
  refine n_newa (N := 19) (j := 0) (ty := .int) B rfl (by decide) wa_int d_Tr_init_39 (by decide +kernel) (by decide +kernel) (by decide) (by decide) (by decide) ?_
  refine n_putF (i := 39) (ci := 5) (N := 14) (j := 4) (T := F_Tr) (ty := t_Tr) (fs := [.ref (q.2.2.1 + 40), .ref (q.2.2.1 + 41), .ref (q.2.2.1 + 42), .ref (q.2.2.1 + 43), .null, .null, .null, .null, .null, .null, .null, .int 0, .int 0, .int 0]) (v := .ref (q.2.2.1 + 44)) B (by decide) (by first | rfl | exact h0) rfl i_Tr t_Tr_ok n_Tr (by decide) fl_Tr_24 rfl rfl rfl (Nat.le_of_ble_eq_true rfl) d_Tr_init_41 ?_
  refine n_aload B 0 d_Tr_init_44 rfl ?_
  refine n_bipush (v := 19) B d_Tr_init_45 (by decide +kernel) ?_
  refine n_newa (N := 19) (j := 0) (ty := .int) B rfl (by decide) wa_int d_Tr_init_47 (by decide +kernel) (by decide +kernel) (by decide) (by decide) (by decide) ?_
  refine n_putF (i := 39) (ci := 5) (N := 14) (j := 5) (T := F_Tr) (ty := t_Tr) (fs := [.ref (q.2.2.1 + 40), .ref (q.2.2.1 + 41), .ref (q.2.2.1 + 42), .ref (q.2.2.1 + 43), .ref (q.2.2.1 + 44), .null, .null, .null, .null, .null, .null, .int 0, .int 0, .int 0]) (v := .ref (q.2.2.1 + 45)) B (by decide) (by first | rfl | exact h0) rfl i_Tr t_Tr_ok n_Tr (by decide) fl_Tr_27 rfl rfl rfl (Nat.le_of_ble_eq_true rfl) d_Tr_init_49 ?_
  refine n_aload B 0 d_Tr_init_52 rfl ?_
  refine n_bipush (v := 19) B d_Tr_init_53 (by decide +kernel) ?_
  refine n_newa (N := 19) (j := 0) (ty := .int) B rfl (by decide) wa_int d_Tr_init_55 (by decide +kernel) (by decide +kernel) (by decide) (by decide) (by decide) ?_
  refine n_putF (i := 39) (ci := 5) (N := 14) (j := 6) (T := F_Tr) (ty := t_Tr) (fs := [.ref (q.2.2.1 + 40), .ref (q.2.2.1 + 41), .ref (q.2.2.1 + 42), .ref (q.2.2.1 + 43), .ref (q.2.2.1 + 44), .ref (q.2.2.1 + 45), .null, .null, .null, .null, .null, .int 0, .int 0, .int 0]) (v := .ref (q.2.2.1 + 46)) B (by decide) (by first | rfl | exact h0) rfl i_Tr t_Tr_ok n_Tr (by decide) fl_Tr_30 rfl rfl rfl (Nat.le_of_ble_eq_true rfl) d_Tr_init_57 ?_
  refine n_aload B 0 d_Tr_init_60 rfl ?_
  refine n_bipush (v := 19) B d_Tr_init_61 (by decide +kernel) ?_
  refine n_newa (N := 19) (j := 1) (ty := .boolean) B rfl (by decide) wa_boolean d_Tr_init_63 (by decide +kernel) (by decide +kernel) (by decide) (by decide) (by decide) ?_
  refine n_putF (i := 39) (ci := 5) (N := 14) (j := 7) (T := F_Tr) (ty := t_Tr) (fs := [.ref (q.2.2.1 + 40), .ref (q.2.2.1 + 41), .ref (q.2.2.1 + 42), .ref (q.2.2.1 + 43), .ref (q.2.2.1 + 44), .ref (q.2.2.1 + 45), .ref (q.2.2.1 + 46), .null, .null, .null, .null, .int 0, .int 0, .int 0]) (v := .ref (q.2.2.1 + 47)) B (by decide) (by first | rfl | exact h0) rfl i_Tr t_Tr_ok n_Tr (by decide) fl_Tr_33 rfl rfl rfl (Nat.le_of_ble_eq_true rfl) d_Tr_init_65 ?_
  refine n_aload B 0 d_Tr_init_68 rfl ?_
  refine n_bipush (v := 19) B d_Tr_init_69 (by decide +kernel) ?_
  refine n_newa (N := 19) (j := 0) (ty := .int) B rfl (by decide) wa_int d_Tr_init_71 (by decide +kernel) (by decide +kernel) (by decide) (by decide) (by decide) ?_
  refine n_putF (i := 39) (ci := 5) (N := 14) (j := 8) (T := F_Tr) (ty := t_Tr) (fs := [.ref (q.2.2.1 + 40), .ref (q.2.2.1 + 41), .ref (q.2.2.1 + 42), .ref (q.2.2.1 + 43), .ref (q.2.2.1 + 44), .ref (q.2.2.1 + 45), .ref (q.2.2.1 + 46), .ref (q.2.2.1 + 47), .null, .null, .null, .int 0, .int 0, .int 0]) (v := .ref (q.2.2.1 + 48)) B (by decide) (by first | rfl | exact h0) rfl i_Tr t_Tr_ok n_Tr (by decide) fl_Tr_37 rfl rfl rfl (Nat.le_of_ble_eq_true rfl) d_Tr_init_73 ?_
  refine n_aload B 0 d_Tr_init_76 rfl ?_
  refine n_bipush (v := 10) B d_Tr_init_77 (by decide +kernel) ?_
  refine n_newa (N := 10) (j := 0) (ty := .int) B rfl (by decide) wa_int d_Tr_init_79 (by decide +kernel) (by decide +kernel) (by decide) (by decide) (by decide) ?_
  refine n_putF (i := 39) (ci := 5) (N := 14) (j := 9) (T := F_Tr) (ty := t_Tr) (fs := [.ref (q.2.2.1 + 40), .ref (q.2.2.1 + 41), .ref (q.2.2.1 + 42), .ref (q.2.2.1 + 43), .ref (q.2.2.1 + 44), .ref (q.2.2.1 + 45), .ref (q.2.2.1 + 46), .ref (q.2.2.1 + 47), .ref (q.2.2.1 + 48), .null, .null, .int 0, .int 0, .int 0]) (v := .ref (q.2.2.1 + 49)) B (by decide) (by first | rfl | exact h0) rfl i_Tr t_Tr_ok n_Tr (by decide) fl_Tr_40 rfl rfl rfl (Nat.le_of_ble_eq_true rfl) d_Tr_init_81 ?_
  refine n_aload B 0 d_Tr_init_84 rfl ?_
  refine n_bipush (v := 19) B d_Tr_init_85 (by decide +kernel) ?_
  refine n_newa (N := 19) (j := 0) (ty := .int) B rfl (by decide) wa_int d_Tr_init_87 (by decide +kernel) (by decide +kernel) (by decide) (by decide) (by decide) ?_
  refine n_putF (i := 39) (ci := 5) (N := 14) (j := 10) (T := F_Tr) (ty := t_Tr) (fs := [.ref (q.2.2.1 + 40), .ref (q.2.2.1 + 41), .ref (q.2.2.1 + 42), .ref (q.2.2.1 + 43), .ref (q.2.2.1 + 44), .ref (q.2.2.1 + 45), .ref (q.2.2.1 + 46), .ref (q.2.2.1 + 47), .ref (q.2.2.1 + 48), .ref (q.2.2.1 + 49), .null, .int 0, .int 0, .int 0]) (v := .ref (q.2.2.1 + 50)) B (by decide) (by first | rfl | exact h0) rfl i_Tr t_Tr_ok n_Tr (by decide) fl_Tr_43 rfl rfl rfl (Nat.le_of_ble_eq_true rfl) d_Tr_init_89 ?_
  refine n_aload B 0 d_Tr_init_92 rfl ?_
  refine n_iconst (v := 0) B d_Tr_init_93 (by decide +kernel) ?_
  refine n_putF (i := 39) (ci := 5) (N := 14) (j := 11) (T := F_Tr) (ty := t_Tr) (fs := [.ref (q.2.2.1 + 40), .ref (q.2.2.1 + 41), .ref (q.2.2.1 + 42), .ref (q.2.2.1 + 43), .ref (q.2.2.1 + 44), .ref (q.2.2.1 + 45), .ref (q.2.2.1 + 46), .ref (q.2.2.1 + 47), .ref (q.2.2.1 + 48), .ref (q.2.2.1 + 49), .ref (q.2.2.1 + 50), .int 0, .int 0, .int 0]) (v := .int 0) B (by decide) (by first | rfl | exact h0) rfl i_Tr t_Tr_ok n_Tr (by decide) fl_Tr_46 rfl rfl rfl (Nat.le_of_ble_eq_true rfl) d_Tr_init_94 ?_
  refine n_aload B 0 d_Tr_init_97 rfl ?_
  refine n_iconst (v := 0) B d_Tr_init_98 (by decide +kernel) ?_
  refine n_putF (i := 39) (ci := 5) (N := 14) (j := 12) (T := F_Tr) (ty := t_Tr) (fs := [.ref (q.2.2.1 + 40), .ref (q.2.2.1 + 41), .ref (q.2.2.1 + 42), .ref (q.2.2.1 + 43), .ref (q.2.2.1 + 44), .ref (q.2.2.1 + 45), .ref (q.2.2.1 + 46), .ref (q.2.2.1 + 47), .ref (q.2.2.1 + 48), .ref (q.2.2.1 + 49), .ref (q.2.2.1 + 50), .int 0, .int 0, .int 0]) (v := .int 0) B (by decide) (by first | rfl | exact h0) rfl i_Tr t_Tr_ok n_Tr (by decide) fl_Tr_50 rfl rfl rfl (Nat.le_of_ble_eq_true rfl) d_Tr_init_99 ?_
  refine n_aload B 0 d_Tr_init_102 rfl ?_
  refine n_iconst (v := 0) B d_Tr_init_103 (by decide +kernel) ?_
  refine n_putF (i := 39) (ci := 5) (N := 14) (j := 13) (T := F_Tr) (ty := t_Tr) (fs := [.ref (q.2.2.1 + 40), .ref (q.2.2.1 + 41), .ref (q.2.2.1 + 42), .ref (q.2.2.1 + 43), .ref (q.2.2.1 + 44), .ref (q.2.2.1 + 45), .ref (q.2.2.1 + 46), .ref (q.2.2.1 + 47), .ref (q.2.2.1 + 48), .ref (q.2.2.1 + 49), .ref (q.2.2.1 + 50), .int 0, .int 0, .int 0]) (v := .int 0) B (by decide) (by first | rfl | exact h0) rfl i_Tr t_Tr_ok n_Tr (by decide) fl_Tr_54 rfl rfl rfl (Nat.le_of_ble_eq_true rfl) d_Tr_init_104 ?_
  exact Rt _ _ d_Tr_init_107
def eTr3 (q : NG) (en : Nat → va_E) : Nat → va_E := (va_up (va_up (va_up (va_up (va_up (va_up (va_up (va_up (va_up (va_up (va_up (va_up (va_up (va_up (va_up (va_up (va_up (va_up (va_up (va_up (va_up (va_up (va_up (va_up (va_up en 52 (.inl (q.2.2.2 0, 19, .inl (fun _ => 0)))) 51 (.inr (5, [.ref (q.2.2.1 + 52), .null, .null, .null, .null, .null, .null, .null, .null, .null, .null, .int 0, .int 0, .int 0]))) 53 (.inl (q.2.2.2 0, 19, .inl (fun _ => 0)))) 51 (.inr (5, [.ref (q.2.2.1 + 52), .ref (q.2.2.1 + 53), .null, .null, .null, .null, .null, .null, .null, .null, .null, .int 0, .int 0, .int 0]))) 54 (.inl (q.2.2.2 0, 19, .inl (fun _ => 0)))) 51 (.inr (5, [.ref (q.2.2.1 + 52), .ref (q.2.2.1 + 53), .ref (q.2.2.1 + 54), .null, .null, .null, .null, .null, .null, .null, .null, .int 0, .int 0, .int 0]))) 55 (.inl (q.2.2.2 0, 19, .inl (fun _ => 0)))) 51 (.inr (5, [.ref (q.2.2.1 + 52), .ref (q.2.2.1 + 53), .ref (q.2.2.1 + 54), .ref (q.2.2.1 + 55), .null, .null, .null, .null, .null, .null, .null, .int 0, .int 0, .int 0]))) 56 (.inl (q.2.2.2 0, 19, .inl (fun _ => 0)))) 51 (.inr (5, [.ref (q.2.2.1 + 52), .ref (q.2.2.1 + 53), .ref (q.2.2.1 + 54), .ref (q.2.2.1 + 55), .ref (q.2.2.1 + 56), .null, .null, .null, .null, .null, .null, .int 0, .int 0, .int 0]))) 57 (.inl (q.2.2.2 0, 19, .inl (fun _ => 0)))) 51 (.inr (5, [.ref (q.2.2.1 + 52), .ref (q.2.2.1 + 53), .ref (q.2.2.1 + 54), .ref (q.2.2.1 + 55), .ref (q.2.2.1 + 56), .ref (q.2.2.1 + 57), .null, .null, .null, .null, .null, .int 0, .int 0, .int 0]))) 58 (.inl (q.2.2.2 0, 19, .inl (fun _ => 0)))) 51 (.inr (5, [.ref (q.2.2.1 + 52), .ref (q.2.2.1 + 53), .ref (q.2.2.1 + 54), .ref (q.2.2.1 + 55), .ref (q.2.2.1 + 56), .ref (q.2.2.1 + 57), .ref (q.2.2.1 + 58), .null, .null, .null, .null, .int 0, .int 0, .int 0]))) 59 (.inl (q.2.2.2 1, 19, .inl (fun _ => 0)))) 51 (.inr (5, [.ref (q.2.2.1 + 52), .ref (q.2.2.1 + 53), .ref (q.2.2.1 + 54), .ref (q.2.2.1 + 55), .ref (q.2.2.1 + 56), .ref (q.2.2.1 + 57), .ref (q.2.2.1 + 58), .ref (q.2.2.1 + 59), .null, .null, .null, .int 0, .int 0, .int 0]))) 60 (.inl (q.2.2.2 0, 19, .inl (fun _ => 0)))) 51 (.inr (5, [.ref (q.2.2.1 + 52), .ref (q.2.2.1 + 53), .ref (q.2.2.1 + 54), .ref (q.2.2.1 + 55), .ref (q.2.2.1 + 56), .ref (q.2.2.1 + 57), .ref (q.2.2.1 + 58), .ref (q.2.2.1 + 59), .ref (q.2.2.1 + 60), .null, .null, .int 0, .int 0, .int 0]))) 61 (.inl (q.2.2.2 0, 10, .inl (fun _ => 0)))) 51 (.inr (5, [.ref (q.2.2.1 + 52), .ref (q.2.2.1 + 53), .ref (q.2.2.1 + 54), .ref (q.2.2.1 + 55), .ref (q.2.2.1 + 56), .ref (q.2.2.1 + 57), .ref (q.2.2.1 + 58), .ref (q.2.2.1 + 59), .ref (q.2.2.1 + 60), .ref (q.2.2.1 + 61), .null, .int 0, .int 0, .int 0]))) 62 (.inl (q.2.2.2 0, 19, .inl (fun _ => 0)))) 51 (.inr (5, [.ref (q.2.2.1 + 52), .ref (q.2.2.1 + 53), .ref (q.2.2.1 + 54), .ref (q.2.2.1 + 55), .ref (q.2.2.1 + 56), .ref (q.2.2.1 + 57), .ref (q.2.2.1 + 58), .ref (q.2.2.1 + 59), .ref (q.2.2.1 + 60), .ref (q.2.2.1 + 61), .ref (q.2.2.1 + 62), .int 0, .int 0, .int 0]))) 51 (.inr (5, [.ref (q.2.2.1 + 52), .ref (q.2.2.1 + 53), .ref (q.2.2.1 + 54), .ref (q.2.2.1 + 55), .ref (q.2.2.1 + 56), .ref (q.2.2.1 + 57), .ref (q.2.2.1 + 58), .ref (q.2.2.1 + 59), .ref (q.2.2.1 + 60), .ref (q.2.2.1 + 61), .ref (q.2.2.1 + 62), .int 0, .int 0, .int 0]))) 51 (.inr (5, [.ref (q.2.2.1 + 52), .ref (q.2.2.1 + 53), .ref (q.2.2.1 + 54), .ref (q.2.2.1 + 55), .ref (q.2.2.1 + 56), .ref (q.2.2.1 + 57), .ref (q.2.2.1 + 58), .ref (q.2.2.1 + 59), .ref (q.2.2.1 + 60), .ref (q.2.2.1 + 61), .ref (q.2.2.1 + 62), .int 0, .int 0, .int 0]))) 51 (.inr (5, [.ref (q.2.2.1 + 52), .ref (q.2.2.1 + 53), .ref (q.2.2.1 + 54), .ref (q.2.2.1 + 55), .ref (q.2.2.1 + 56), .ref (q.2.2.1 + 57), .ref (q.2.2.1 + 58), .ref (q.2.2.1 + 59), .ref (q.2.2.1 + 60), .ref (q.2.2.1 + 61), .ref (q.2.2.1 + 62), .int 0, .int 0, .int 0])))
set_option maxHeartbeats 4000000 in
set_option maxRecDepth 20000 in
theorem tN_Tr3 {q : NG} {en : Nat → va_E} (h0 : en 51 = .inr (5, [.null, .null, .null, .null, .null, .null, .null, .null, .null, .null, .null, .int 0, .int 0, .int 0])) : TerN q 1 11 200 m_Tr_init [.ref (q.2.2.1 + 51)] en 52 (eTr3 q en) 63 := by
  refine TerN.mk (ini := true) (by decide +kernel) rfl (Nat.le_of_ble_eq_true rfl) (fun _ => rfl) (fun K B Rt => ?_)
  have B : Nx q K prog_7_method_1_code 1 R_Tr 1 11 200 true := B
  show NW q K 1 0 [(0, .ref (q.2.2.1 + 51))] [] en 52 0 0
  refine n_aload B 0 d_Tr_init_0 rfl ?_
  refine n_objInit B d_Tr_init_1 wk_Tr_3 wo_i wo_c (by decide) ?_
  refine n_aload B 0 d_Tr_init_4 rfl ?_
  refine n_bipush (v := 19) B d_Tr_init_5 (by decide +kernel) ?_
  refine n_newa (N := 19) (j := 0) (ty := .int) B rfl (by decide) wa_int d_Tr_init_7 (by decide +kernel) (by decide +kernel) (by decide) (by decide) (by decide) ?_
  refine n_putF (i := 51) (ci := 5) (N := 14) (j := 0) (T := F_Tr) (ty := t_Tr) (fs := [.null, .null, .null, .null, .null, .null, .null, .null, .null, .null, .null, .int 0, .int 0, .int 0]) (v := .ref (q.2.2.1 + 52)) B (by decide) (by first | rfl | exact h0) rfl i_Tr t_Tr_ok n_Tr (by decide) fl_Tr_9 rfl rfl rfl (Nat.le_of_ble_eq_true rfl) d_Tr_init_9 ?_
  refine n_aload B 0 d_Tr_init_12 rfl ?_
  refine n_bipush (v := 19) B d_Tr_init_13 (by decide +kernel) ?_
  refine n_newa (N := 19) (j := 0) (ty := .int) B rfl (by decide) wa_int d_Tr_init_15 (by decide +kernel) (by decide +kernel) (by decide) (by decide) (by decide) ?_
  refine n_putF (i := 51) (ci := 5) (N := 14) (j := 1) (T := F_Tr) (ty := t_Tr) (fs := [.ref (q.2.2.1 + 52), .null, .null, .null, .null, .null, .null, .null, .null, .null, .null, .int 0, .int 0, .int 0]) (v := .ref (q.2.2.1 + 53)) B (by decide) (by first | rfl | exact h0) rfl i_Tr t_Tr_ok n_Tr (by decide) fl_Tr_15 rfl rfl rfl (Nat.le_of_ble_eq_true rfl) d_Tr_init_17 ?_
  refine n_aload B 0 d_Tr_init_20 rfl ?_
  refine n_bipush (v := 19) B d_Tr_init_21 (by decide +kernel) ?_
  refine n_newa (N := 19) (j := 0) (ty := .int) B rfl (by decide) wa_int d_Tr_init_23 (by decide +kernel) (by decide +kernel) (by decide) (by decide) (by decide) ?_
  refine n_putF (i := 51) (ci := 5) (N := 14) (j := 2) (T := F_Tr) (ty := t_Tr) (fs := [.ref (q.2.2.1 + 52), .ref (q.2.2.1 + 53), .null, .null, .null, .null, .null, .null, .null, .null, .null, .int 0, .int 0, .int 0]) (v := .ref (q.2.2.1 + 54)) B (by decide) (by first | rfl | exact h0) rfl i_Tr t_Tr_ok n_Tr (by decide) fl_Tr_18 rfl rfl rfl (Nat.le_of_ble_eq_true rfl) d_Tr_init_25 ?_
  refine n_aload B 0 d_Tr_init_28 rfl ?_
  refine n_bipush (v := 19) B d_Tr_init_29 (by decide +kernel) ?_
  refine n_newa (N := 19) (j := 0) (ty := .int) B rfl (by decide) wa_int d_Tr_init_31 (by decide +kernel) (by decide +kernel) (by decide) (by decide) (by decide) ?_
  refine n_putF (i := 51) (ci := 5) (N := 14) (j := 3) (T := F_Tr) (ty := t_Tr) (fs := [.ref (q.2.2.1 + 52), .ref (q.2.2.1 + 53), .ref (q.2.2.1 + 54), .null, .null, .null, .null, .null, .null, .null, .null, .int 0, .int 0, .int 0]) (v := .ref (q.2.2.1 + 55)) B (by decide) (by first | rfl | exact h0) rfl i_Tr t_Tr_ok n_Tr (by decide) fl_Tr_21 rfl rfl rfl (Nat.le_of_ble_eq_true rfl) d_Tr_init_33 ?_
  refine n_aload B 0 d_Tr_init_36 rfl ?_
  refine n_bipush (v := 19) B d_Tr_init_37 (by decide +kernel) ?_
  refine n_newa (N := 19) (j := 0) (ty := .int) B rfl (by decide) wa_int d_Tr_init_39 (by decide +kernel) (by decide +kernel) (by decide) (by decide) (by decide) ?_
  refine n_putF (i := 51) (ci := 5) (N := 14) (j := 4) (T := F_Tr) (ty := t_Tr) (fs := [.ref (q.2.2.1 + 52), .ref (q.2.2.1 + 53), .ref (q.2.2.1 + 54), .ref (q.2.2.1 + 55), .null, .null, .null, .null, .null, .null, .null, .int 0, .int 0, .int 0]) (v := .ref (q.2.2.1 + 56)) B (by decide) (by first | rfl | exact h0) rfl i_Tr t_Tr_ok n_Tr (by decide) fl_Tr_24 rfl rfl rfl (Nat.le_of_ble_eq_true rfl) d_Tr_init_41 ?_
  refine n_aload B 0 d_Tr_init_44 rfl ?_
  refine n_bipush (v := 19) B d_Tr_init_45 (by decide +kernel) ?_
  refine n_newa (N := 19) (j := 0) (ty := .int) B rfl (by decide) wa_int d_Tr_init_47 (by decide +kernel) (by decide +kernel) (by decide) (by decide) (by decide) ?_
  refine n_putF (i := 51) (ci := 5) (N := 14) (j := 5) (T := F_Tr) (ty := t_Tr) (fs := [.ref (q.2.2.1 + 52), .ref (q.2.2.1 + 53), .ref (q.2.2.1 + 54), .ref (q.2.2.1 + 55), .ref (q.2.2.1 + 56), .null, .null, .null, .null, .null, .null, .int 0, .int 0, .int 0]) (v := .ref (q.2.2.1 + 57)) B (by decide) (by first | rfl | exact h0) rfl i_Tr t_Tr_ok n_Tr (by decide) fl_Tr_27 rfl rfl rfl (Nat.le_of_ble_eq_true rfl) d_Tr_init_49 ?_
  refine n_aload B 0 d_Tr_init_52 rfl ?_
  refine n_bipush (v := 19) B d_Tr_init_53 (by decide +kernel) ?_
  refine n_newa (N := 19) (j := 0) (ty := .int) B rfl (by decide) wa_int d_Tr_init_55 (by decide +kernel) (by decide +kernel) (by decide) (by decide) (by decide) ?_
  refine n_putF (i := 51) (ci := 5) (N := 14) (j := 6) (T := F_Tr) (ty := t_Tr) (fs := [.ref (q.2.2.1 + 52), .ref (q.2.2.1 + 53), .ref (q.2.2.1 + 54), .ref (q.2.2.1 + 55), .ref (q.2.2.1 + 56), .ref (q.2.2.1 + 57), .null, .null, .null, .null, .null, .int 0, .int 0, .int 0]) (v := .ref (q.2.2.1 + 58)) B (by decide) (by first | rfl | exact h0) rfl i_Tr t_Tr_ok n_Tr (by decide) fl_Tr_30 rfl rfl rfl (Nat.le_of_ble_eq_true rfl) d_Tr_init_57 ?_
  refine n_aload B 0 d_Tr_init_60 rfl ?_
  refine n_bipush (v := 19) B d_Tr_init_61 (by decide +kernel) ?_
  refine n_newa (N := 19) (j := 1) (ty := .boolean) B rfl (by decide) wa_boolean d_Tr_init_63 (by decide +kernel) (by decide +kernel) (by decide) (by decide) (by decide) ?_
  refine n_putF (i := 51) (ci := 5) (N := 14) (j := 7) (T := F_Tr) (ty := t_Tr) (fs := [.ref (q.2.2.1 + 52), .ref (q.2.2.1 + 53), .ref (q.2.2.1 + 54), .ref (q.2.2.1 + 55), .ref (q.2.2.1 + 56), .ref (q.2.2.1 + 57), .ref (q.2.2.1 + 58), .null, .null, .null, .null, .int 0, .int 0, .int 0]) (v := .ref (q.2.2.1 + 59)) B (by decide) (by first | rfl | exact h0) rfl i_Tr t_Tr_ok n_Tr (by decide) fl_Tr_33 rfl rfl rfl (Nat.le_of_ble_eq_true rfl) d_Tr_init_65 ?_
  refine n_aload B 0 d_Tr_init_68 rfl ?_
  refine n_bipush (v := 19) B d_Tr_init_69 (by decide +kernel) ?_
  refine n_newa (N := 19) (j := 0) (ty := .int) B rfl (by decide) wa_int d_Tr_init_71 (by decide +kernel) (by decide +kernel) (by decide) (by decide) (by decide) ?_
  refine n_putF (i := 51) (ci := 5) (N := 14) (j := 8) (T := F_Tr) (ty := t_Tr) (fs := [.ref (q.2.2.1 + 52), .ref (q.2.2.1 + 53), .ref (q.2.2.1 + 54), .ref (q.2.2.1 + 55), .ref (q.2.2.1 + 56), .ref (q.2.2.1 + 57), .ref (q.2.2.1 + 58), .ref (q.2.2.1 + 59), .null, .null, .null, .int 0, .int 0, .int 0]) (v := .ref (q.2.2.1 + 60)) B (by decide) (by first | rfl | exact h0) rfl i_Tr t_Tr_ok n_Tr (by decide) fl_Tr_37 rfl rfl rfl (Nat.le_of_ble_eq_true rfl) d_Tr_init_73 ?_
  refine n_aload B 0 d_Tr_init_76 rfl ?_
  refine n_bipush (v := 10) B d_Tr_init_77 (by decide +kernel) ?_
  refine n_newa (N := 10) (j := 0) (ty := .int) B rfl (by decide) wa_int d_Tr_init_79 (by decide +kernel) (by decide +kernel) (by decide) (by decide) (by decide) ?_
  refine n_putF (i := 51) (ci := 5) (N := 14) (j := 9) (T := F_Tr) (ty := t_Tr) (fs := [.ref (q.2.2.1 + 52), .ref (q.2.2.1 + 53), .ref (q.2.2.1 + 54), .ref (q.2.2.1 + 55), .ref (q.2.2.1 + 56), .ref (q.2.2.1 + 57), .ref (q.2.2.1 + 58), .ref (q.2.2.1 + 59), .ref (q.2.2.1 + 60), .null, .null, .int 0, .int 0, .int 0]) (v := .ref (q.2.2.1 + 61)) B (by decide) (by first | rfl | exact h0) rfl i_Tr t_Tr_ok n_Tr (by decide) fl_Tr_40 rfl rfl rfl (Nat.le_of_ble_eq_true rfl) d_Tr_init_81 ?_
  refine n_aload B 0 d_Tr_init_84 rfl ?_
  refine n_bipush (v := 19) B d_Tr_init_85 (by decide +kernel) ?_
  refine n_newa (N := 19) (j := 0) (ty := .int) B rfl (by decide) wa_int d_Tr_init_87 (by decide +kernel) (by decide +kernel) (by decide) (by decide) (by decide) ?_
  refine n_putF (i := 51) (ci := 5) (N := 14) (j := 10) (T := F_Tr) (ty := t_Tr) (fs := [.ref (q.2.2.1 + 52), .ref (q.2.2.1 + 53), .ref (q.2.2.1 + 54), .ref (q.2.2.1 + 55), .ref (q.2.2.1 + 56), .ref (q.2.2.1 + 57), .ref (q.2.2.1 + 58), .ref (q.2.2.1 + 59), .ref (q.2.2.1 + 60), .ref (q.2.2.1 + 61), .null, .int 0, .int 0, .int 0]) (v := .ref (q.2.2.1 + 62)) B (by decide) (by first | rfl | exact h0) rfl i_Tr t_Tr_ok n_Tr (by decide) fl_Tr_43 rfl rfl rfl (Nat.le_of_ble_eq_true rfl) d_Tr_init_89 ?_
  refine n_aload B 0 d_Tr_init_92 rfl ?_
  refine n_iconst (v := 0) B d_Tr_init_93 (by decide +kernel) ?_
  refine n_putF (i := 51) (ci := 5) (N := 14) (j := 11) (T := F_Tr) (ty := t_Tr) (fs := [.ref (q.2.2.1 + 52), .ref (q.2.2.1 + 53), .ref (q.2.2.1 + 54), .ref (q.2.2.1 + 55), .ref (q.2.2.1 + 56), .ref (q.2.2.1 + 57), .ref (q.2.2.1 + 58), .ref (q.2.2.1 + 59), .ref (q.2.2.1 + 60), .ref (q.2.2.1 + 61), .ref (q.2.2.1 + 62), .int 0, .int 0, .int 0]) (v := .int 0) B (by decide) (by first | rfl | exact h0) rfl i_Tr t_Tr_ok n_Tr (by decide) fl_Tr_46 rfl rfl rfl (Nat.le_of_ble_eq_true rfl) d_Tr_init_94 ?_
  refine n_aload B 0 d_Tr_init_97 rfl ?_
  refine n_iconst (v := 0) B d_Tr_init_98 (by decide +kernel) ?_
  refine n_putF (i := 51) (ci := 5) (N := 14) (j := 12) (T := F_Tr) (ty := t_Tr) (fs := [.ref (q.2.2.1 + 52), .ref (q.2.2.1 + 53), .ref (q.2.2.1 + 54), .ref (q.2.2.1 + 55), .ref (q.2.2.1 + 56), .ref (q.2.2.1 + 57), .ref (q.2.2.1 + 58), .ref (q.2.2.1 + 59), .ref (q.2.2.1 + 60), .ref (q.2.2.1 + 61), .ref (q.2.2.1 + 62), .int 0, .int 0, .int 0]) (v := .int 0) B (by decide) (by first | rfl | exact h0) rfl i_Tr t_Tr_ok n_Tr (by decide) fl_Tr_50 rfl rfl rfl (Nat.le_of_ble_eq_true rfl) d_Tr_init_99 ?_
  refine n_aload B 0 d_Tr_init_102 rfl ?_
  refine n_iconst (v := 0) B d_Tr_init_103 (by decide +kernel) ?_
  refine n_putF (i := 51) (ci := 5) (N := 14) (j := 13) (T := F_Tr) (ty := t_Tr) (fs := [.ref (q.2.2.1 + 52), .ref (q.2.2.1 + 53), .ref (q.2.2.1 + 54), .ref (q.2.2.1 + 55), .ref (q.2.2.1 + 56), .ref (q.2.2.1 + 57), .ref (q.2.2.1 + 58), .ref (q.2.2.1 + 59), .ref (q.2.2.1 + 60), .ref (q.2.2.1 + 61), .ref (q.2.2.1 + 62), .int 0, .int 0, .int 0]) (v := .int 0) B (by decide) (by first | rfl | exact h0) rfl i_Tr t_Tr_ok n_Tr (by decide) fl_Tr_54 rfl rfl rfl (Nat.le_of_ble_eq_true rfl) d_Tr_init_104 ?_
  exact Rt _ _ d_Tr_init_107
theorem d_Mk_init_0 : decode prog_5_method_1_code 0 = .ok (.aload_n 0, 1) := by decide +kernel
theorem d_Mk_init_1 : decode prog_5_method_1_code 1 = .ok (.invokespecial 3, 3) := by decide +kernel
theorem d_Mk_init_4 : decode prog_5_method_1_code 4 = .ok (.aload_n 0, 1) := by decide +kernel
theorem d_Mk_init_5 : decode prog_5_method_1_code 5 = .ok (.bipush 10, 2) := by decide +kernel
theorem d_Mk_init_7 : decode prog_5_method_1_code 7 = .ok (.bipush 10, 2) := by decide +kernel
theorem d_Mk_init_9 : decode prog_5_method_1_code 9 = .ok (.multianewarray 9 2, 4) := by decide +kernel
theorem d_Mk_init_13 : decode prog_5_method_1_code 13 = .ok (.putfield 11, 3) := by decide +kernel
theorem d_Mk_init_16 : decode prog_5_method_1_code 16 = .ok (.aload_n 0, 1) := by decide +kernel
theorem d_Mk_init_17 : decode prog_5_method_1_code 17 = .ok (.bipush 10, 2) := by decide +kernel
theorem d_Mk_init_19 : decode prog_5_method_1_code 19 = .ok (.newarray .int, 2) := by decide +kernel
theorem d_Mk_init_21 : decode prog_5_method_1_code 21 = .ok (.putfield 16, 3) := by decide +kernel
theorem d_Mk_init_24 : decode prog_5_method_1_code 24 = .ok (.return_, 1) := by decide +kernel
def eMk (q : NG) (en : Nat → va_E) : Nat → va_E := (va_up (va_up (va_up (mulE en 64 10 (refE (q.2.2.2 4) 10 (q.2.2.1 + 64 + 1)) (.inl (q.2.2.2 0, 10, .inl (fun _ => 0)))) 63 (.inr (3, [.ref (q.2.2.1 + 64), .null]))) 75 (.inl (q.2.2.2 0, 10, .inl (fun _ => 0)))) 63 (.inr (3, [.ref (q.2.2.1 + 64), .ref (q.2.2.1 + 75)])))
set_option maxHeartbeats 4000000 in
set_option maxRecDepth 20000 in
theorem tN_Mk {q : NG} {en : Nat → va_E} (h0 : en 63 = .inr (3, [.null, .null])) : TerN q 1 12 120 m_Mk_init [.ref (q.2.2.1 + 63)] en 64 (eMk q en) 76 := by
  refine TerN.mk (ini := true) (by decide +kernel) rfl (Nat.le_of_ble_eq_true rfl) (fun _ => rfl) (fun K B Rt => ?_)
  have B : Nx q K prog_5_method_1_code 1 R_Mk 1 12 120 true := B
  show NW q K 1 0 [(0, .ref (q.2.2.1 + 63))] [] en 64 0 0
  refine n_aload B 0 d_Mk_init_0 rfl ?_
  refine n_objInit B d_Mk_init_1 wk_Mk_3 wo_i wo_c (by decide) ?_
  refine n_aload B 0 d_Mk_init_4 rfl ?_
  refine n_bipush (v := 10) B d_Mk_init_5 (by decide +kernel) ?_
  refine n_bipush (v := 10) B d_Mk_init_7 (by decide +kernel) ?_
  refine n_multiI (N := 10) (M := 10) B wl_Mk_9 d_Mk_init_9 (by decide +kernel) (by decide +kernel) (by decide +kernel) (by decide +kernel) (by decide +kernel) (by decide) (by decide) (by decide) (by decide) ?_
  refine n_putF (i := 63) (ci := 3) (N := 2) (j := 0) (T := F_Mk) (ty := t_Mk) (fs := [.null, .null]) (v := .ref (q.2.2.1 + 64)) B (by decide) (by first | rfl | exact h0) rfl i_Mk t_Mk_ok n_Mk (by decide) fl_Mk_11 rfl rfl rfl (Nat.le_of_ble_eq_true rfl) d_Mk_init_13 ?_
  refine n_aload B 0 d_Mk_init_16 rfl ?_
  refine n_bipush (v := 10) B d_Mk_init_17 (by decide +kernel) ?_
  refine n_newa (N := 10) (j := 0) (ty := .int) B rfl (by decide) wa_int d_Mk_init_19 (by decide +kernel) (by decide +kernel) (by decide) (by decide) (by decide) ?_
  refine n_putF (i := 63) (ci := 3) (N := 2) (j := 1) (T := F_Mk) (ty := t_Mk) (fs := [.ref (q.2.2.1 + 64), .null]) (v := .ref (q.2.2.1 + 75)) B (by decide) (by first | rfl | exact h0) rfl i_Mk t_Mk_ok n_Mk (by decide) fl_Mk_16 rfl rfl rfl (Nat.le_of_ble_eq_true rfl) d_Mk_init_21 ?_
  exact Rt _ _ d_Mk_init_24
theorem d_Bt_init_0 : decode prog_3_method_1_code 0 = .ok (.aload_n 0, 1) := by decide +kernel
theorem d_Bt_init_1 : decode prog_3_method_1_code 1 = .ok (.invokespecial 5, 3) := by decide +kernel
theorem d_Bt_init_4 : decode prog_3_method_1_code 4 = .ok (.aload_n 0, 1) := by decide +kernel
theorem d_Bt_init_5 : decode prog_3_method_1_code 5 = .ok (.bipush 10, 2) := by decide +kernel
theorem d_Bt_init_7 : decode prog_3_method_1_code 7 = .ok (.bipush 10, 2) := by decide +kernel
theorem d_Bt_init_9 : decode prog_3_method_1_code 9 = .ok (.multianewarray 11 2, 4) := by decide +kernel
theorem d_Bt_init_13 : decode prog_3_method_1_code 13 = .ok (.putfield 13, 3) := by decide +kernel
theorem d_Bt_init_16 : decode prog_3_method_1_code 16 = .ok (.aload_n 0, 1) := by decide +kernel
theorem d_Bt_init_17 : decode prog_3_method_1_code 17 = .ok (.bipush 10, 2) := by decide +kernel
theorem d_Bt_init_19 : decode prog_3_method_1_code 19 = .ok (.newarray .int, 2) := by decide +kernel
theorem d_Bt_init_21 : decode prog_3_method_1_code 21 = .ok (.putfield 16, 3) := by decide +kernel
theorem d_Bt_init_24 : decode prog_3_method_1_code 24 = .ok (.return_, 1) := by decide +kernel
def eBt (q : NG) (en : Nat → va_E) : Nat → va_E := (va_up (va_up (va_up (mulE en 77 10 (refE (q.2.2.2 5) 10 (q.2.2.1 + 77 + 1)) (.inl (q.2.2.2 2, 10, .inr (.inl (fun _ => 0))))) 76 (.inr (1, [.ref (q.2.2.1 + 77), .null]))) 88 (.inl (q.2.2.2 0, 10, .inl (fun _ => 0)))) 76 (.inr (1, [.ref (q.2.2.1 + 77), .ref (q.2.2.1 + 88)])))
set_option maxHeartbeats 4000000 in
set_option maxRecDepth 20000 in
theorem tN_Bt {q : NG} {en : Nat → va_E} (h0 : en 76 = .inr (1, [.null, .null])) : TerN q 1 12 120 m_Bt_init [.ref (q.2.2.1 + 76)] en 77 (eBt q en) 89 := by
  refine TerN.mk (ini := true) (by decide +kernel) rfl (Nat.le_of_ble_eq_true rfl) (fun _ => rfl) (fun K B Rt => ?_)
  have B : Nx q K prog_3_method_1_code 1 R_Bt 1 12 120 true := B
  show NW q K 1 0 [(0, .ref (q.2.2.1 + 76))] [] en 77 0 0
  refine n_aload B 0 d_Bt_init_0 rfl ?_
  refine n_objInit B d_Bt_init_1 wk_Bt_5 wo_i wo_c (by decide) ?_
  refine n_aload B 0 d_Bt_init_4 rfl ?_
  refine n_bipush (v := 10) B d_Bt_init_5 (by decide +kernel) ?_
  refine n_bipush (v := 10) B d_Bt_init_7 (by decide +kernel) ?_
  refine n_multiL (N := 10) (M := 10) B wl_Bt_11 d_Bt_init_9 (by decide +kernel) (by decide +kernel) (by decide +kernel) (by decide +kernel) (by decide +kernel) (by decide) (by decide) (by decide) (by decide) ?_
  refine n_putF (i := 76) (ci := 1) (N := 2) (j := 0) (T := F_Bt) (ty := t_Bt) (fs := [.null, .null]) (v := .ref (q.2.2.1 + 77)) B (by decide) (by first | rfl | exact h0) rfl i_Bt t_Bt_ok n_Bt (by decide) fl_Bt_13 rfl rfl rfl (Nat.le_of_ble_eq_true rfl) d_Bt_init_13 ?_
  refine n_aload B 0 d_Bt_init_16 rfl ?_
  refine n_bipush (v := 10) B d_Bt_init_17 (by decide +kernel) ?_
  refine n_newa (N := 10) (j := 0) (ty := .int) B rfl (by decide) wa_int d_Bt_init_19 (by decide +kernel) (by decide +kernel) (by decide) (by decide) (by decide) ?_
  refine n_putF (i := 76) (ci := 1) (N := 2) (j := 1) (T := F_Bt) (ty := t_Bt) (fs := [.ref (q.2.2.1 + 77), .null]) (v := .ref (q.2.2.1 + 88)) B (by decide) (by first | rfl | exact h0) rfl i_Bt t_Bt_ok n_Bt (by decide) fl_Bt_16 rfl rfl rfl (Nat.le_of_ble_eq_true rfl) d_Bt_init_21 ?_
  exact Rt _ _ d_Bt_init_24
theorem d_Ax_init_0 : decode prog_2_method_1_code 0 = .ok (.aload_n 0, 1) := by decide +kernel
theorem d_Ax_init_1 : decode prog_2_method_1_code 1 = .ok (.invokespecial 3, 3) := by decide +kernel
theorem d_Ax_init_4 : decode prog_2_method_1_code 4 = .ok (.aload_n 0, 1) := by decide +kernel
theorem d_Ax_init_5 : decode prog_2_method_1_code 5 = .ok (.bipush 8, 2) := by decide +kernel
theorem d_Ax_init_7 : decode prog_2_method_1_code 7 = .ok (.bipush 8, 2) := by decide +kernel
theorem d_Ax_init_9 : decode prog_2_method_1_code 9 = .ok (.multianewarray 9 2, 4) := by decide +kernel
theorem d_Ax_init_13 : decode prog_2_method_1_code 13 = .ok (.putfield 11, 3) := by decide +kernel
theorem d_Ax_init_16 : decode prog_2_method_1_code 16 = .ok (.aload_n 0, 1) := by decide +kernel
theorem d_Ax_init_17 : decode prog_2_method_1_code 17 = .ok (.sipush 2048, 3) := by decide +kernel
theorem d_Ax_init_20 : decode prog_2_method_1_code 20 = .ok (.newarray .int, 2) := by decide +kernel
theorem d_Ax_init_22 : decode prog_2_method_1_code 22 = .ok (.putfield 16, 3) := by decide +kernel
theorem d_Ax_init_25 : decode prog_2_method_1_code 25 = .ok (.aload_n 0, 1) := by decide +kernel
theorem d_Ax_init_26 : decode prog_2_method_1_code 26 = .ok (.bipush 8, 2) := by decide +kernel
theorem d_Ax_init_28 : decode prog_2_method_1_code 28 = .ok (.newarray .int, 2) := by decide +kernel
theorem d_Ax_init_30 : decode prog_2_method_1_code 30 = .ok (.putfield 20, 3) := by decide +kernel
theorem d_Ax_init_33 : decode prog_2_method_1_code 33 = .ok (.aload_n 0, 1) := by decide +kernel
theorem d_Ax_init_34 : decode prog_2_method_1_code 34 = .ok (.iconst 0, 1) := by decide +kernel
theorem d_Ax_init_35 : decode prog_2_method_1_code 35 = .ok (.putfield 23, 3) := by decide +kernel
theorem d_Ax_init_38 : decode prog_2_method_1_code 38 = .ok (.aload_n 0, 1) := by decide +kernel
theorem d_Ax_init_39 : decode prog_2_method_1_code 39 = .ok (.iconst 0, 1) := by decide +kernel
theorem d_Ax_init_40 : decode prog_2_method_1_code 40 = .ok (.putfield 27, 3) := by decide +kernel
theorem d_Ax_init_43 : decode prog_2_method_1_code 43 = .ok (.return_, 1) := by decide +kernel
def eAx (q : NG) (en : Nat → va_E) : Nat → va_E := (va_up (va_up (va_up (va_up (va_up (va_up (va_up (mulE en 90 8 (refE (q.2.2.2 4) 8 (q.2.2.1 + 90 + 1)) (.inl (q.2.2.2 0, 8, .inl (fun _ => 0)))) 89 (.inr (0, [.ref (q.2.2.1 + 90), .null, .null, .int 0, .int 0]))) 99 (.inl (q.2.2.2 0, 2048, .inl (fun _ => 0)))) 89 (.inr (0, [.ref (q.2.2.1 + 90), .ref (q.2.2.1 + 99), .null, .int 0, .int 0]))) 100 (.inl (q.2.2.2 0, 8, .inl (fun _ => 0)))) 89 (.inr (0, [.ref (q.2.2.1 + 90), .ref (q.2.2.1 + 99), .ref (q.2.2.1 + 100), .int 0, .int 0]))) 89 (.inr (0, [.ref (q.2.2.1 + 90), .ref (q.2.2.1 + 99), .ref (q.2.2.1 + 100), .int 0, .int 0]))) 89 (.inr (0, [.ref (q.2.2.1 + 90), .ref (q.2.2.1 + 99), .ref (q.2.2.1 + 100), .int 0, .int 0])))
set_option maxHeartbeats 4000000 in
set_option maxRecDepth 20000 in
theorem tN_Ax {q : NG} {en : Nat → va_E} (h0 : en 89 = .inr (0, [.null, .null, .null, .int 0, .int 0])) : TerN q 1 11 2128 m_Ax_init [.ref (q.2.2.1 + 89)] en 90 (eAx q en) 101 := by
  refine TerN.mk (ini := true) (by decide +kernel) rfl (Nat.le_of_ble_eq_true rfl) (fun _ => rfl) (fun K B Rt => ?_)
  have B : Nx q K prog_2_method_1_code 1 R_Ax 1 11 2128 true := B
  show NW q K 1 0 [(0, .ref (q.2.2.1 + 89))] [] en 90 0 0
  refine n_aload B 0 d_Ax_init_0 rfl ?_
  refine n_objInit B d_Ax_init_1 wk_Ax_3 wo_i wo_c (by decide) ?_
  refine n_aload B 0 d_Ax_init_4 rfl ?_
  refine n_bipush (v := 8) B d_Ax_init_5 (by decide +kernel) ?_
  refine n_bipush (v := 8) B d_Ax_init_7 (by decide +kernel) ?_
  refine n_multiI (N := 8) (M := 8) B wl_Ax_9 d_Ax_init_9 (by decide +kernel) (by decide +kernel) (by decide +kernel) (by decide +kernel) (by decide +kernel) (by decide) (by decide) (by decide) (by decide) ?_
  refine n_putF (i := 89) (ci := 0) (N := 5) (j := 0) (T := F_Ax) (ty := t_Ax) (fs := [.null, .null, .null, .int 0, .int 0]) (v := .ref (q.2.2.1 + 90)) B (by decide) (by first | rfl | exact h0) rfl i_Ax t_Ax_ok n_Ax (by decide) fl_Ax_11 rfl rfl rfl (Nat.le_of_ble_eq_true rfl) d_Ax_init_13 ?_
  refine n_aload B 0 d_Ax_init_16 rfl ?_
  refine n_sipush (v := 2048) B d_Ax_init_17 (by decide +kernel) ?_
  refine n_newa (N := 2048) (j := 0) (ty := .int) B rfl (by decide) wa_int d_Ax_init_20 (by decide +kernel) (by decide +kernel) (by decide) (by decide) (by decide) ?_
  refine n_putF (i := 89) (ci := 0) (N := 5) (j := 1) (T := F_Ax) (ty := t_Ax) (fs := [.ref (q.2.2.1 + 90), .null, .null, .int 0, .int 0]) (v := .ref (q.2.2.1 + 99)) B (by decide) (by first | rfl | exact h0) rfl i_Ax t_Ax_ok n_Ax (by decide) fl_Ax_16 rfl rfl rfl (Nat.le_of_ble_eq_true rfl) d_Ax_init_22 ?_
  refine n_aload B 0 d_Ax_init_25 rfl ?_
  refine n_bipush (v := 8) B d_Ax_init_26 (by decide +kernel) ?_
  refine n_newa (N := 8) (j := 0) (ty := .int) B rfl (by decide) wa_int d_Ax_init_28 (by decide +kernel) (by decide +kernel) (by decide) (by decide) (by decide) ?_
  refine n_putF (i := 89) (ci := 0) (N := 5) (j := 2) (T := F_Ax) (ty := t_Ax) (fs := [.ref (q.2.2.1 + 90), .ref (q.2.2.1 + 99), .null, .int 0, .int 0]) (v := .ref (q.2.2.1 + 100)) B (by decide) (by first | rfl | exact h0) rfl i_Ax t_Ax_ok n_Ax (by decide) fl_Ax_20 rfl rfl rfl (Nat.le_of_ble_eq_true rfl) d_Ax_init_30 ?_
  refine n_aload B 0 d_Ax_init_33 rfl ?_
  refine n_iconst (v := 0) B d_Ax_init_34 (by decide +kernel) ?_
  refine n_putF (i := 89) (ci := 0) (N := 5) (j := 3) (T := F_Ax) (ty := t_Ax) (fs := [.ref (q.2.2.1 + 90), .ref (q.2.2.1 + 99), .ref (q.2.2.1 + 100), .int 0, .int 0]) (v := .int 0) B (by decide) (by first | rfl | exact h0) rfl i_Ax t_Ax_ok n_Ax (by decide) fl_Ax_23 rfl rfl rfl (Nat.le_of_ble_eq_true rfl) d_Ax_init_35 ?_
  refine n_aload B 0 d_Ax_init_38 rfl ?_
  refine n_iconst (v := 0) B d_Ax_init_39 (by decide +kernel) ?_
  refine n_putF (i := 89) (ci := 0) (N := 5) (j := 4) (T := F_Ax) (ty := t_Ax) (fs := [.ref (q.2.2.1 + 90), .ref (q.2.2.1 + 99), .ref (q.2.2.1 + 100), .int 0, .int 0]) (v := .int 0) B (by decide) (by first | rfl | exact h0) rfl i_Ax t_Ax_ok n_Ax (by decide) fl_Ax_27 rfl rfl rfl (Nat.le_of_ble_eq_true rfl) d_Ax_init_40 ?_
  exact Rt _ _ d_Ax_init_43
theorem d_Fi_init_0 : decode prog_4_method_1_code 0 = .ok (.aload_n 0, 1) := by decide +kernel
theorem d_Fi_init_1 : decode prog_4_method_1_code 1 = .ok (.invokespecial 3, 3) := by decide +kernel
theorem d_Fi_init_4 : decode prog_4_method_1_code 4 = .ok (.aload_n 0, 1) := by decide +kernel
theorem d_Fi_init_5 : decode prog_4_method_1_code 5 = .ok (.bipush 6, 2) := by decide +kernel
theorem d_Fi_init_7 : decode prog_4_method_1_code 7 = .ok (.newarray .int, 2) := by decide +kernel
theorem d_Fi_init_9 : decode prog_4_method_1_code 9 = .ok (.putfield 9, 3) := by decide +kernel
theorem d_Fi_init_12 : decode prog_4_method_1_code 12 = .ok (.aload_n 0, 1) := by decide +kernel
theorem d_Fi_init_13 : decode prog_4_method_1_code 13 = .ok (.iconst 0, 1) := by decide +kernel
theorem d_Fi_init_14 : decode prog_4_method_1_code 14 = .ok (.putfield 15, 3) := by decide +kernel
theorem d_Fi_init_17 : decode prog_4_method_1_code 17 = .ok (.return_, 1) := by decide +kernel
def eFi (q : NG) (en : Nat → va_E) : Nat → va_E := (va_up (va_up (va_up en 102 (.inl (q.2.2.2 0, 6, .inl (fun _ => 0)))) 101 (.inr (2, [.ref (q.2.2.1 + 102), .int 0]))) 101 (.inr (2, [.ref (q.2.2.1 + 102), .int 0])))
set_option maxHeartbeats 4000000 in
set_option maxRecDepth 20000 in
theorem tN_Fi {q : NG} {en : Nat → va_E} (h0 : en 101 = .inr (2, [.null, .int 0])) : TerN q 1 1 6 m_Fi_init [.ref (q.2.2.1 + 101)] en 102 (eFi q en) 103 := by
  refine TerN.mk (ini := true) (by decide +kernel) rfl (Nat.le_of_ble_eq_true rfl) (fun _ => rfl) (fun K B Rt => ?_)
  have B : Nx q K prog_4_method_1_code 1 R_Fi 1 1 6 true := B
  show NW q K 1 0 [(0, .ref (q.2.2.1 + 101))] [] en 102 0 0
  refine n_aload B 0 d_Fi_init_0 rfl ?_
  refine n_objInit B d_Fi_init_1 wk_Fi_3 wo_i wo_c (by decide) ?_
  refine n_aload B 0 d_Fi_init_4 rfl ?_
  refine n_bipush (v := 6) B d_Fi_init_5 (by decide +kernel) ?_
  refine n_newa (N := 6) (j := 0) (ty := .int) B rfl (by decide) wa_int d_Fi_init_7 (by decide +kernel) (by decide +kernel) (by decide) (by decide) (by decide) ?_
  refine n_putF (i := 101) (ci := 2) (N := 2) (j := 0) (T := F_Fi) (ty := t_Fi) (fs := [.null, .int 0]) (v := .ref (q.2.2.1 + 102)) B (by decide) (by first | rfl | exact h0) rfl i_Fi t_Fi_ok n_Fi (by decide) fl_Fi_9 rfl rfl rfl (Nat.le_of_ble_eq_true rfl) d_Fi_init_9 ?_
  refine n_aload B 0 d_Fi_init_12 rfl ?_
  refine n_iconst (v := 0) B d_Fi_init_13 (by decide +kernel) ?_
  refine n_putF (i := 101) (ci := 2) (N := 2) (j := 1) (T := F_Fi) (ty := t_Fi) (fs := [.ref (q.2.2.1 + 102), .int 0]) (v := .int 0) B (by decide) (by first | rfl | exact h0) rfl i_Fi t_Fi_ok n_Fi (by decide) fl_Fi_15 rfl rfl rfl (Nat.le_of_ble_eq_true rfl) d_Fi_init_14 ?_
  exact Rt _ _ d_Fi_init_17
theorem d_Lo_init_0 : decode prog_1_method_1_code 0 = .ok (.aload_n 0, 1) := by decide +kernel
theorem d_Lo_init_1 : decode prog_1_method_1_code 1 = .ok (.invokespecial 3, 3) := by decide +kernel
theorem d_Lo_init_4 : decode prog_1_method_1_code 4 = .ok (.aload_n 0, 1) := by decide +kernel
theorem d_Lo_init_5 : decode prog_1_method_1_code 5 = .ok (.new 9, 3) := by decide +kernel
theorem d_Lo_init_8 : decode prog_1_method_1_code 8 = .ok (.dup, 1) := by decide +kernel
theorem d_Lo_init_9 : decode prog_1_method_1_code 9 = .ok (.invokespecial 11, 3) := by decide +kernel
theorem d_Lo_init_12 : decode prog_1_method_1_code 12 = .ok (.putfield 12, 3) := by decide +kernel
theorem d_Lo_init_15 : decode prog_1_method_1_code 15 = .ok (.aload_n 0, 1) := by decide +kernel
theorem d_Lo_init_16 : decode prog_1_method_1_code 16 = .ok (.iconst 4, 1) := by decide +kernel
theorem d_Lo_init_17 : decode prog_1_method_1_code 17 = .ok (.anewarray 16, 3) := by decide +kernel
theorem d_Lo_init_20 : decode prog_1_method_1_code 20 = .ok (.putfield 18, 3) := by decide +kernel
theorem d_Lo_init_23 : decode prog_1_method_1_code 23 = .ok (.iconst 0, 1) := by decide +kernel
theorem d_Lo_init_24 : decode prog_1_method_1_code 24 = .ok (.istore_n 1, 1) := by decide +kernel
theorem d_Lo_init_25 : decode prog_1_method_1_code 25 = .ok (.iload_n 1, 1) := by decide +kernel
theorem d_Lo_init_26 : decode prog_1_method_1_code 26 = .ok (.iconst 4, 1) := by decide +kernel
theorem d_Lo_init_27 : decode prog_1_method_1_code 27 = .ok (.if_icmp .ge 22, 3) := by decide +kernel
theorem d_Lo_init_30 : decode prog_1_method_1_code 30 = .ok (.aload_n 0, 1) := by decide +kernel
theorem d_Lo_init_31 : decode prog_1_method_1_code 31 = .ok (.getfield 18, 3) := by decide +kernel
theorem d_Lo_init_34 : decode prog_1_method_1_code 34 = .ok (.iload_n 1, 1) := by decide +kernel
theorem d_Lo_init_35 : decode prog_1_method_1_code 35 = .ok (.new 16, 3) := by decide +kernel
theorem d_Lo_init_38 : decode prog_1_method_1_code 38 = .ok (.dup, 1) := by decide +kernel
theorem d_Lo_init_39 : decode prog_1_method_1_code 39 = .ok (.invokespecial 22, 3) := by decide +kernel
theorem d_Lo_init_42 : decode prog_1_method_1_code 42 = .ok (.aastore, 1) := by decide +kernel
theorem d_Lo_init_43 : decode prog_1_method_1_code 43 = .ok (.iinc 1 1, 3) := by decide +kernel
theorem d_Lo_init_46 : decode prog_1_method_1_code 46 = .ok (.goto (-21), 3) := by decide +kernel
theorem d_Lo_init_49 : decode prog_1_method_1_code 49 = .ok (.aload_n 0, 1) := by decide +kernel
theorem d_Lo_init_50 : decode prog_1_method_1_code 50 = .ok (.new 23, 3) := by decide +kernel
theorem d_Lo_init_53 : decode prog_1_method_1_code 53 = .ok (.dup, 1) := by decide +kernel
theorem d_Lo_init_54 : decode prog_1_method_1_code 54 = .ok (.invokespecial 25, 3) := by decide +kernel
theorem d_Lo_init_57 : decode prog_1_method_1_code 57 = .ok (.putfield 26, 3) := by decide +kernel
theorem d_Lo_init_60 : decode prog_1_method_1_code 60 = .ok (.aload_n 0, 1) := by decide +kernel
theorem d_Lo_init_61 : decode prog_1_method_1_code 61 = .ok (.new 30, 3) := by decide +kernel
theorem d_Lo_init_64 : decode prog_1_method_1_code 64 = .ok (.dup, 1) := by decide +kernel
theorem d_Lo_init_65 : decode prog_1_method_1_code 65 = .ok (.invokespecial 32, 3) := by decide +kernel
theorem d_Lo_init_68 : decode prog_1_method_1_code 68 = .ok (.putfield 33, 3) := by decide +kernel
theorem d_Lo_init_71 : decode prog_1_method_1_code 71 = .ok (.aload_n 0, 1) := by decide +kernel
theorem d_Lo_init_72 : decode prog_1_method_1_code 72 = .ok (.new 37, 3) := by decide +kernel
theorem d_Lo_init_75 : decode prog_1_method_1_code 75 = .ok (.dup, 1) := by decide +kernel
theorem d_Lo_init_76 : decode prog_1_method_1_code 76 = .ok (.invokespecial 39, 3) := by decide +kernel
theorem d_Lo_init_79 : decode prog_1_method_1_code 79 = .ok (.putfield 40, 3) := by decide +kernel
theorem d_Lo_init_82 : decode prog_1_method_1_code 82 = .ok (.aload_n 0, 1) := by decide +kernel
theorem d_Lo_init_83 : decode prog_1_method_1_code 83 = .ok (.new 44, 3) := by decide +kernel
theorem d_Lo_init_86 : decode prog_1_method_1_code 86 = .ok (.dup, 1) := by decide +kernel
theorem d_Lo_init_87 : decode prog_1_method_1_code 87 = .ok (.invokespecial 46, 3) := by decide +kernel
theorem d_Lo_init_90 : decode prog_1_method_1_code 90 = .ok (.putfield 47, 3) := by decide +kernel
theorem d_Lo_init_93 : decode prog_1_method_1_code 93 = .ok (.aload_n 0, 1) := by decide +kernel
theorem d_Lo_init_94 : decode prog_1_method_1_code 94 = .ok (.bipush 10, 2) := by decide +kernel
theorem d_Lo_init_96 : decode prog_1_method_1_code 96 = .ok (.newarray .int, 2) := by decide +kernel
theorem d_Lo_init_98 : decode prog_1_method_1_code 98 = .ok (.putfield 51, 3) := by decide +kernel
theorem d_Lo_init_101 : decode prog_1_method_1_code 101 = .ok (.aload_n 0, 1) := by decide +kernel
theorem d_Lo_init_102 : decode prog_1_method_1_code 102 = .ok (.getfield 51, 3) := by decide +kernel
theorem d_Lo_init_105 : decode prog_1_method_1_code 105 = .ok (.bipush (-9), 2) := by decide +kernel
theorem d_Lo_init_107 : decode prog_1_method_1_code 107 = .ok (.invokestatic 55, 3) := by decide +kernel
theorem d_Lo_init_110 : decode prog_1_method_1_code 110 = .ok (.aload_n 0, 1) := by decide +kernel
theorem d_Lo_init_111 : decode prog_1_method_1_code 111 = .ok (.bipush 10, 2) := by decide +kernel
theorem d_Lo_init_113 : decode prog_1_method_1_code 113 = .ok (.newarray .int, 2) := by decide +kernel
theorem d_Lo_init_115 : decode prog_1_method_1_code 115 = .ok (.putfield 61, 3) := by decide +kernel
theorem d_Lo_init_118 : decode prog_1_method_1_code 118 = .ok (.aload_n 0, 1) := by decide +kernel
theorem d_Lo_init_119 : decode prog_1_method_1_code 119 = .ok (.getfield 61, 3) := by decide +kernel
theorem d_Lo_init_122 : decode prog_1_method_1_code 122 = .ok (.bipush (-9), 2) := by decide +kernel
theorem d_Lo_init_124 : decode prog_1_method_1_code 124 = .ok (.invokestatic 55, 3) := by decide +kernel
theorem d_Lo_init_127 : decode prog_1_method_1_code 127 = .ok (.aload_n 0, 1) := by decide +kernel
theorem d_Lo_init_128 : decode prog_1_method_1_code 128 = .ok (.bipush 19, 2) := by decide +kernel
theorem d_Lo_init_130 : decode prog_1_method_1_code 130 = .ok (.newarray .int, 2) := by decide +kernel
theorem d_Lo_init_132 : decode prog_1_method_1_code 132 = .ok (.putfield 64, 3) := by decide +kernel
theorem d_Lo_init_135 : decode prog_1_method_1_code 135 = .ok (.aload_n 0, 1) := by decide +kernel
theorem d_Lo_init_136 : decode prog_1_method_1_code 136 = .ok (.iconst 0, 1) := by decide +kernel
theorem d_Lo_init_137 : decode prog_1_method_1_code 137 = .ok (.putfield 67, 3) := by decide +kernel
theorem d_Lo_init_140 : decode prog_1_method_1_code 140 = .ok (.aload_n 0, 1) := by decide +kernel
theorem d_Lo_init_141 : decode prog_1_method_1_code 141 = .ok (.iconst 0, 1) := by decide +kernel
theorem d_Lo_init_142 : decode prog_1_method_1_code 142 = .ok (.putfield 71, 3) := by decide +kernel
theorem d_Lo_init_145 : decode prog_1_method_1_code 145 = .ok (.return_, 1) := by decide +kernel
def eLo (q : NG) (en : Nat → va_E) : Nat → va_E := (va_up (va_up (va_up (va_up (va_up (va_up (va_up (va_up (va_up (va_up (va_up (eFi q (va_up (va_up (eAx q (va_up (va_up (eBt q (va_up (va_up (eMk q (va_up (va_up (eTr3 q (va_up (va_up (eTr2 q (va_up (va_up (eTr1 q (va_up (va_up (eTr0 q (va_up (va_up (va_up (va_up (eRo q (va_up en 1 (.inr (4, [.null, .null, .int 0])))) 0 (.inr (6, [.ref (q.2.2.1 + 1), .null, .null, .null, .null, .null, .null, .null, .null, .int 0, .int 0]))) 14 (.inl (q.2.2.2 3, 4, .inr (.inr (.inr (.inr (fun _ => none))))))) 0 (.inr (6, [.ref (q.2.2.1 + 1), .ref (q.2.2.1 + 14), .null, .null, .null, .null, .null, .null, .null, .int 0, .int 0]))) 15 (.inr (5, [.null, .null, .null, .null, .null, .null, .null, .null, .null, .null, .null, .int 0, .int 0, .int 0])))) 14 (.inl (q.2.2.2 3, 4, .inr (.inr (.inr (.inr (va_up (fun _ => none) 0 (some (q.2.2.1 + 15))))))))) 27 (.inr (5, [.null, .null, .null, .null, .null, .null, .null, .null, .null, .null, .null, .int 0, .int 0, .int 0])))) 14 (.inl (q.2.2.2 3, 4, .inr (.inr (.inr (.inr (va_up (va_up (fun _ => none) 0 (some (q.2.2.1 + 15))) 1 (some (q.2.2.1 + 27))))))))) 39 (.inr (5, [.null, .null, .null, .null, .null, .null, .null, .null, .null, .null, .null, .int 0, .int 0, .int 0])))) 14 (.inl (q.2.2.2 3, 4, .inr (.inr (.inr (.inr (va_up (va_up (va_up (fun _ => none) 0 (some (q.2.2.1 + 15))) 1 (some (q.2.2.1 + 27))) 2 (some (q.2.2.1 + 39))))))))) 51 (.inr (5, [.null, .null, .null, .null, .null, .null, .null, .null, .null, .null, .null, .int 0, .int 0, .int 0])))) 14 (.inl (q.2.2.2 3, 4, .inr (.inr (.inr (.inr (va_up (va_up (va_up (va_up (fun _ => none) 0 (some (q.2.2.1 + 15))) 1 (some (q.2.2.1 + 27))) 2 (some (q.2.2.1 + 39))) 3 (some (q.2.2.1 + 51))))))))) 63 (.inr (3, [.null, .null])))) 0 (.inr (6, [.ref (q.2.2.1 + 1), .ref (q.2.2.1 + 14), .ref (q.2.2.1 + 63), .null, .null, .null, .null, .null, .null, .int 0, .int 0]))) 76 (.inr (1, [.null, .null])))) 0 (.inr (6, [.ref (q.2.2.1 + 1), .ref (q.2.2.1 + 14), .ref (q.2.2.1 + 63), .ref (q.2.2.1 + 76), .null, .null, .null, .null, .null, .int 0, .int 0]))) 89 (.inr (0, [.null, .null, .null, .int 0, .int 0])))) 0 (.inr (6, [.ref (q.2.2.1 + 1), .ref (q.2.2.1 + 14), .ref (q.2.2.1 + 63), .ref (q.2.2.1 + 76), .ref (q.2.2.1 + 89), .null, .null, .null, .null, .int 0, .int 0]))) 101 (.inr (2, [.null, .int 0])))) 0 (.inr (6, [.ref (q.2.2.1 + 1), .ref (q.2.2.1 + 14), .ref (q.2.2.1 + 63), .ref (q.2.2.1 + 76), .ref (q.2.2.1 + 89), .ref (q.2.2.1 + 101), .null, .null, .null, .int 0, .int 0]))) 103 (.inl (q.2.2.2 0, 10, .inl (fun _ => 0)))) 0 (.inr (6, [.ref (q.2.2.1 + 1), .ref (q.2.2.1 + 14), .ref (q.2.2.1 + 63), .ref (q.2.2.1 + 76), .ref (q.2.2.1 + 89), .ref (q.2.2.1 + 101), .ref (q.2.2.1 + 103), .null, .null, .int 0, .int 0]))) 103 (.inl (q.2.2.2 0, 10, .inl (fillF (fun _ => 0) 10 (-9))))) 104 (.inl (q.2.2.2 0, 10, .inl (fun _ => 0)))) 0 (.inr (6, [.ref (q.2.2.1 + 1), .ref (q.2.2.1 + 14), .ref (q.2.2.1 + 63), .ref (q.2.2.1 + 76), .ref (q.2.2.1 + 89), .ref (q.2.2.1 + 101), .ref (q.2.2.1 + 103), .ref (q.2.2.1 + 104), .null, .int 0, .int 0]))) 104 (.inl (q.2.2.2 0, 10, .inl (fillF (fun _ => 0) 10 (-9))))) 105 (.inl (q.2.2.2 0, 19, .inl (fun _ => 0)))) 0 (.inr (6, [.ref (q.2.2.1 + 1), .ref (q.2.2.1 + 14), .ref (q.2.2.1 + 63), .ref (q.2.2.1 + 76), .ref (q.2.2.1 + 89), .ref (q.2.2.1 + 101), .ref (q.2.2.1 + 103), .ref (q.2.2.1 + 104), .ref (q.2.2.1 + 105), .int 0, .int 0]))) 0 (.inr (6, [.ref (q.2.2.1 + 1), .ref (q.2.2.1 + 14), .ref (q.2.2.1 + 63), .ref (q.2.2.1 + 76), .ref (q.2.2.1 + 89), .ref (q.2.2.1 + 101), .ref (q.2.2.1 + 103), .ref (q.2.2.1 + 104), .ref (q.2.2.1 + 105), .int 0, .int 0]))) 0 (.inr (6, [.ref (q.2.2.1 + 1), .ref (q.2.2.1 + 14), .ref (q.2.2.1 + 63), .ref (q.2.2.1 + 76), .ref (q.2.2.1 + 89), .ref (q.2.2.1 + 101), .ref (q.2.2.1 + 103), .ref (q.2.2.1 + 104), .ref (q.2.2.1 + 105), .int 0, .int 0])))
set_option maxHeartbeats 4000000 in
set_option maxRecDepth 20000 in
theorem tN_Lo {q : NG} {en : Nat → va_E} (h0 : en 0 = .inr (6, [.null, .null, .null, .null, .null, .null, .null, .null, .null, .int 0, .int 0])) : TerN q 2 105 3407 m_Lo_init [.ref (q.2.2.1 + 0)] en 1 (eLo q en) 106 := by
  refine TerN.mk (ini := true) (by decide +kernel) rfl (Nat.le_of_ble_eq_true rfl) (fun _ => rfl) (fun K B Rt => ?_)
  have B : Nx q K prog_1_method_1_code 2 R_Lo 2 105 3407 true := B
  show NW q K 2 0 [(0, .ref (q.2.2.1 + 0))] [] en 1 0 0
  refine n_aload B 0 d_Lo_init_0 rfl ?_
  refine n_objInit B d_Lo_init_1 wk_Lo_3 wo_i wo_c (by decide) ?_
  refine n_aload B 0 d_Lo_init_4 rfl ?_
  refine n_newo (ci := 4) (N := 3) (T := F_Ro) (ty := t_Ro) (fs := [.null, .null, .int 0]) B rfl i_Ro t_Ro_ok df_Ro wl_Lo_9 wi_Ro wn_Ro d_Lo_init_5 (by decide) (by decide) ?_
  refine n_dup B d_Lo_init_8 ?_
  refine n_callIN (d1 := 1) (C1 := 12) (S1 := 120) B (tN_Ro (q := q) (en := _) rfl) d_Lo_init_9 (by decide +kernel) wm_Ro wn_Ro wc_Ro rfl (by decide +kernel) (by decide) (by decide) (Nat.le_of_ble_eq_true rfl) (by decide) (by decide) ?_
  refine n_putF (i := 0) (ci := 6) (N := 11) (j := 0) (T := F_Lo) (ty := t_Lo) (fs := [.null, .null, .null, .null, .null, .null, .null, .null, .null, .int 0, .int 0]) (v := .ref (q.2.2.1 + 1)) B (by decide) (by first | rfl | exact h0) rfl i_Lo t_Lo_ok n_Lo (by decide) fl_Lo_12 rfl rfl rfl (Nat.le_of_ble_eq_true rfl) d_Lo_init_12 ?_
  refine n_aload B 0 d_Lo_init_15 rfl ?_
  refine n_iconst (v := 4) B d_Lo_init_16 (by decide +kernel) ?_
  refine n_newq (N := 4) B wl_Lo_16 d_Lo_init_17 (by decide +kernel) (by decide +kernel) (by decide) (by decide) (by decide) ?_
  refine n_putF (i := 0) (ci := 6) (N := 11) (j := 1) (T := F_Lo) (ty := t_Lo) (fs := [.ref (q.2.2.1 + 1), .null, .null, .null, .null, .null, .null, .null, .null, .int 0, .int 0]) (v := .ref (q.2.2.1 + 14)) B (by decide) (by first | rfl | exact h0) rfl i_Lo t_Lo_ok n_Lo (by decide) fl_Lo_18 rfl rfl rfl (Nat.le_of_ble_eq_true rfl) d_Lo_init_20 ?_
  refine n_iconst (v := 0) B d_Lo_init_23 (by decide +kernel) ?_
  refine n_istore (lv1 := [(1, .int 0), (0, .ref (q.2.2.1 + 0))]) B d_Lo_init_24 (by decide) rfl ?_
  refine n_iload B 0 d_Lo_init_25 rfl ?_
  refine n_iconst (v := 4) B d_Lo_init_26 (by decide +kernel) ?_
  refine n_icmp_ge B 49 d_Lo_init_27 rfl (fun c9 => absurd c9 (by decide +kernel)) (fun _ => ?_)
  refine n_aload B 1 d_Lo_init_30 rfl ?_
  refine n_get (i := 0) (ci := 6) (N := 11) (j := 1) (T := F_Lo) (fs := [.ref (q.2.2.1 + 1), .ref (q.2.2.1 + 14), .null, .null, .null, .null, .null, .null, .null, .int 0, .int 0]) B (by decide) (by first | rfl | exact h0) rfl i_Lo (by decide) fl_Lo_18 rfl rfl d_Lo_init_31 ?_
  refine n_iload B 0 d_Lo_init_34 rfl ?_
  refine n_newo (ci := 5) (N := 14) (T := F_Tr) (ty := t_Tr) (fs := [.null, .null, .null, .null, .null, .null, .null, .null, .null, .null, .null, .int 0, .int 0, .int 0]) B rfl i_Tr t_Tr_ok df_Tr wl_Lo_16 wi_Tr wn_Tr d_Lo_init_35 (by decide) (by decide) ?_
  refine n_dup B d_Lo_init_38 ?_
  refine n_callIN (d1 := 1) (C1 := 11) (S1 := 200) B (tN_Tr0 (q := q) (en := _) rfl) d_Lo_init_39 (by decide +kernel) wm_Tr wn_Tr wc_Tr rfl (by decide +kernel) (by decide) (by decide) (Nat.le_of_ble_eq_true rfl) (by decide) (by decide) ?_
  refine n_aast (i := 14) (i2 := 15) (N := 4) (x := 0) B (by decide) rfl (by decide) rfl (by unfold vp_in; decide +kernel) d_Lo_init_42 ?_
  refine n_iinc (lv1 := [(1, .int 1), (0, .ref (q.2.2.1 + 0))]) B 0 d_Lo_init_43 rfl (by decide +kernel) (by decide) rfl ?_
  refine n_goto B 25 d_Lo_init_46 rfl ?_
  refine n_iload B 0 d_Lo_init_25 rfl ?_
  refine n_iconst (v := 4) B d_Lo_init_26 (by decide +kernel) ?_
  refine n_icmp_ge B 49 d_Lo_init_27 rfl (fun c9 => absurd c9 (by decide +kernel)) (fun _ => ?_)
  refine n_aload B 1 d_Lo_init_30 rfl ?_
  refine n_get (i := 0) (ci := 6) (N := 11) (j := 1) (T := F_Lo) (fs := [.ref (q.2.2.1 + 1), .ref (q.2.2.1 + 14), .null, .null, .null, .null, .null, .null, .null, .int 0, .int 0]) B (by decide) (by first | rfl | exact h0) rfl i_Lo (by decide) fl_Lo_18 rfl rfl d_Lo_init_31 ?_
  refine n_iload B 0 d_Lo_init_34 rfl ?_
  refine n_newo (ci := 5) (N := 14) (T := F_Tr) (ty := t_Tr) (fs := [.null, .null, .null, .null, .null, .null, .null, .null, .null, .null, .null, .int 0, .int 0, .int 0]) B rfl i_Tr t_Tr_ok df_Tr wl_Lo_16 wi_Tr wn_Tr d_Lo_init_35 (by decide) (by decide) ?_
  refine n_dup B d_Lo_init_38 ?_
  refine n_callIN (d1 := 1) (C1 := 11) (S1 := 200) B (tN_Tr1 (q := q) (en := _) rfl) d_Lo_init_39 (by decide +kernel) wm_Tr wn_Tr wc_Tr rfl (by decide +kernel) (by decide) (by decide) (Nat.le_of_ble_eq_true rfl) (by decide) (by decide) ?_
  refine n_aast (i := 14) (i2 := 27) (N := 4) (x := 1) B (by decide) rfl (by decide) rfl (by unfold vp_in; decide +kernel) d_Lo_init_42 ?_
  refine n_iinc (lv1 := [(1, .int 2), (0, .ref (q.2.2.1 + 0))]) B 0 d_Lo_init_43 rfl (by decide +kernel) (by decide) rfl ?_
  refine n_goto B 25 d_Lo_init_46 rfl ?_
  refine n_iload B 0 d_Lo_init_25 rfl ?_
  refine n_iconst (v := 4) B d_Lo_init_26 (by decide +kernel) ?_
  refine n_icmp_ge B 49 d_Lo_init_27 rfl (fun c9 => absurd c9 (by decide +kernel)) (fun _ => ?_)
  refine n_aload B 1 d_Lo_init_30 rfl ?_
  refine n_get (i := 0) (ci := 6) (N := 11) (j := 1) (T := F_Lo) (fs := [.ref (q.2.2.1 + 1), .ref (q.2.2.1 + 14), .null, .null, .null, .null, .null, .null, .null, .int 0, .int 0]) B (by decide) (by first | rfl | exact h0) rfl i_Lo (by decide) fl_Lo_18 rfl rfl d_Lo_init_31 ?_
  refine n_iload B 0 d_Lo_init_34 rfl ?_
  refine n_newo (ci := 5) (N := 14) (T := F_Tr) (ty := t_Tr) (fs := [.null, .null, .null, .null, .null, .null, .null, .null, .null, .null, .null, .int 0, .int 0, .int 0]) B rfl i_Tr t_Tr_ok df_Tr wl_Lo_16 wi_Tr wn_Tr d_Lo_init_35 (by decide) (by decide) ?_
  refine n_dup B d_Lo_init_38 ?_
  refine n_callIN (d1 := 1) (C1 := 11) (S1 := 200) B (tN_Tr2 (q := q) (en := _) rfl) d_Lo_init_39 (by decide +kernel) wm_Tr wn_Tr wc_Tr rfl (by decide +kernel) (by decide) (by decide) (Nat.le_of_ble_eq_true rfl) (by decide) (by decide) ?_
  refine n_aast (i := 14) (i2 := 39) (N := 4) (x := 2) B (by decide) rfl (by decide) rfl (by unfold vp_in; decide +kernel) d_Lo_init_42 ?_
  refine n_iinc (lv1 := [(1, .int 3), (0, .ref (q.2.2.1 + 0))]) B 0 d_Lo_init_43 rfl (by decide +kernel) (by decide) rfl ?_
  refine n_goto B 25 d_Lo_init_46 rfl ?_
  refine n_iload B 0 d_Lo_init_25 rfl ?_
  refine n_iconst (v := 4) B d_Lo_init_26 (by decide +kernel) ?_
  refine n_icmp_ge B 49 d_Lo_init_27 rfl (fun c9 => absurd c9 (by decide +kernel)) (fun _ => ?_)
  refine n_aload B 1 d_Lo_init_30 rfl ?_
  refine n_get (i := 0) (ci := 6) (N := 11) (j := 1) (T := F_Lo) (fs := [.ref (q.2.2.1 + 1), .ref (q.2.2.1 + 14), .null, .null, .null, .null, .null, .null, .null, .int 0, .int 0]) B (by decide) (by first | rfl | exact h0) rfl i_Lo (by decide) fl_Lo_18 rfl rfl d_Lo_init_31 ?_
  refine n_iload B 0 d_Lo_init_34 rfl ?_
  refine n_newo (ci := 5) (N := 14) (T := F_Tr) (ty := t_Tr) (fs := [.null, .null, .null, .null, .null, .null, .null, .null, .null, .null, .null, .int 0, .int 0, .int 0]) B rfl i_Tr t_Tr_ok df_Tr wl_Lo_16 wi_Tr wn_Tr d_Lo_init_35 (by decide) (by decide) ?_
  refine n_dup B d_Lo_init_38 ?_
  refine n_callIN (d1 := 1) (C1 := 11) (S1 := 200) B (tN_Tr3 (q := q) (en := _) rfl) d_Lo_init_39 (by decide +kernel) wm_Tr wn_Tr wc_Tr rfl (by decide +kernel) (by decide) (by decide) (Nat.le_of_ble_eq_true rfl) (by decide) (by decide) ?_
  refine n_aast (i := 14) (i2 := 51) (N := 4) (x := 3) B (by decide) rfl (by decide) rfl (by unfold vp_in; decide +kernel) d_Lo_init_42 ?_
  refine n_iinc (lv1 := [(1, .int 4), (0, .ref (q.2.2.1 + 0))]) B 0 d_Lo_init_43 rfl (by decide +kernel) (by decide) rfl ?_
  refine n_goto B 25 d_Lo_init_46 rfl ?_
  refine n_iload B 0 d_Lo_init_25 rfl ?_
  refine n_iconst (v := 4) B d_Lo_init_26 (by decide +kernel) ?_
  refine n_icmp_ge B 49 d_Lo_init_27 rfl (fun _ => ?_) (fun c9 => absurd (by decide +kernel) c9)
  refine n_aload B 1 d_Lo_init_49 rfl ?_
  refine n_newo (ci := 3) (N := 2) (T := F_Mk) (ty := t_Mk) (fs := [.null, .null]) B rfl i_Mk t_Mk_ok df_Mk wl_Lo_23 wi_Mk wn_Mk d_Lo_init_50 (by decide) (by decide) ?_
  refine n_dup B d_Lo_init_53 ?_
  refine n_callIN (d1 := 1) (C1 := 12) (S1 := 120) B (tN_Mk (q := q) (en := _) rfl) d_Lo_init_54 (by decide +kernel) wm_Mk wn_Mk wc_Mk rfl (by decide +kernel) (by decide) (by decide) (Nat.le_of_ble_eq_true rfl) (by decide) (by decide) ?_
  refine n_putF (i := 0) (ci := 6) (N := 11) (j := 2) (T := F_Lo) (ty := t_Lo) (fs := [.ref (q.2.2.1 + 1), .ref (q.2.2.1 + 14), .null, .null, .null, .null, .null, .null, .null, .int 0, .int 0]) (v := .ref (q.2.2.1 + 63)) B (by decide) (by first | rfl | exact h0) rfl i_Lo t_Lo_ok n_Lo (by decide) fl_Lo_26 rfl rfl rfl (Nat.le_of_ble_eq_true rfl) d_Lo_init_57 ?_
  refine n_aload B 1 d_Lo_init_60 rfl ?_
  refine n_newo (ci := 1) (N := 2) (T := F_Bt) (ty := t_Bt) (fs := [.null, .null]) B rfl i_Bt t_Bt_ok df_Bt wl_Lo_30 wi_Bt wn_Bt d_Lo_init_61 (by decide) (by decide) ?_
  refine n_dup B d_Lo_init_64 ?_
  refine n_callIN (d1 := 1) (C1 := 12) (S1 := 120) B (tN_Bt (q := q) (en := _) rfl) d_Lo_init_65 (by decide +kernel) wm_Bt wn_Bt wc_Bt rfl (by decide +kernel) (by decide) (by decide) (Nat.le_of_ble_eq_true rfl) (by decide) (by decide) ?_
  refine n_putF (i := 0) (ci := 6) (N := 11) (j := 3) (T := F_Lo) (ty := t_Lo) (fs := [.ref (q.2.2.1 + 1), .ref (q.2.2.1 + 14), .ref (q.2.2.1 + 63), .null, .null, .null, .null, .null, .null, .int 0, .int 0]) (v := .ref (q.2.2.1 + 76)) B (by decide) (by first | rfl | exact h0) rfl i_Lo t_Lo_ok n_Lo (by decide) fl_Lo_33 rfl rfl rfl (Nat.le_of_ble_eq_true rfl) d_Lo_init_68 ?_
  refine n_aload B 1 d_Lo_init_71 rfl ?_
  refine n_newo (ci := 0) (N := 5) (T := F_Ax) (ty := t_Ax) (fs := [.null, .null, .null, .int 0, .int 0]) B rfl i_Ax t_Ax_ok df_Ax wl_Lo_37 wi_Ax wn_Ax d_Lo_init_72 (by decide) (by decide) ?_
  refine n_dup B d_Lo_init_75 ?_
  refine n_callIN (d1 := 1) (C1 := 11) (S1 := 2128) B (tN_Ax (q := q) (en := _) rfl) d_Lo_init_76 (by decide +kernel) wm_Ax wn_Ax wc_Ax rfl (by decide +kernel) (by decide) (by decide) (Nat.le_of_ble_eq_true rfl) (by decide) (by decide) ?_
  refine n_putF (i := 0) (ci := 6) (N := 11) (j := 4) (T := F_Lo) (ty := t_Lo) (fs := [.ref (q.2.2.1 + 1), .ref (q.2.2.1 + 14), .ref (q.2.2.1 + 63), .ref (q.2.2.1 + 76), .null, .null, .null, .null, .null, .int 0, .int 0]) (v := .ref (q.2.2.1 + 89)) B (by decide) (by first | rfl | exact h0) rfl i_Lo t_Lo_ok n_Lo (by decide) fl_Lo_40 rfl rfl rfl (Nat.le_of_ble_eq_true rfl) d_Lo_init_79 ?_
  refine n_aload B 1 d_Lo_init_82 rfl ?_
  refine n_newo (ci := 2) (N := 2) (T := F_Fi) (ty := t_Fi) (fs := [.null, .int 0]) B rfl i_Fi t_Fi_ok df_Fi wl_Lo_44 wi_Fi wn_Fi d_Lo_init_83 (by decide) (by decide) ?_
  refine n_dup B d_Lo_init_86 ?_
  refine n_callIN (d1 := 1) (C1 := 1) (S1 := 6) B (tN_Fi (q := q) (en := _) rfl) d_Lo_init_87 (by decide +kernel) wm_Fi wn_Fi wc_Fi rfl (by decide +kernel) (by decide) (by decide) (Nat.le_of_ble_eq_true rfl) (by decide) (by decide) ?_
  refine n_putF (i := 0) (ci := 6) (N := 11) (j := 5) (T := F_Lo) (ty := t_Lo) (fs := [.ref (q.2.2.1 + 1), .ref (q.2.2.1 + 14), .ref (q.2.2.1 + 63), .ref (q.2.2.1 + 76), .ref (q.2.2.1 + 89), .null, .null, .null, .null, .int 0, .int 0]) (v := .ref (q.2.2.1 + 101)) B (by decide) (by first | rfl | exact h0) rfl i_Lo t_Lo_ok n_Lo (by decide) fl_Lo_47 rfl rfl rfl (Nat.le_of_ble_eq_true rfl) d_Lo_init_90 ?_
  refine n_aload B 1 d_Lo_init_93 rfl ?_
  refine n_bipush (v := 10) B d_Lo_init_94 (by decide +kernel) ?_
  refine n_newa (N := 10) (j := 0) (ty := .int) B rfl (by decide) wa_int d_Lo_init_96 (by decide +kernel) (by decide +kernel) (by decide) (by decide) (by decide) ?_
  refine n_putF (i := 0) (ci := 6) (N := 11) (j := 6) (T := F_Lo) (ty := t_Lo) (fs := [.ref (q.2.2.1 + 1), .ref (q.2.2.1 + 14), .ref (q.2.2.1 + 63), .ref (q.2.2.1 + 76), .ref (q.2.2.1 + 89), .ref (q.2.2.1 + 101), .null, .null, .null, .int 0, .int 0]) (v := .ref (q.2.2.1 + 103)) B (by decide) (by first | rfl | exact h0) rfl i_Lo t_Lo_ok n_Lo (by decide) fl_Lo_51 rfl rfl rfl (Nat.le_of_ble_eq_true rfl) d_Lo_init_98 ?_
  refine n_aload B 1 d_Lo_init_101 rfl ?_
  refine n_get (i := 0) (ci := 6) (N := 11) (j := 6) (T := F_Lo) (fs := [.ref (q.2.2.1 + 1), .ref (q.2.2.1 + 14), .ref (q.2.2.1 + 63), .ref (q.2.2.1 + 76), .ref (q.2.2.1 + 89), .ref (q.2.2.1 + 101), .ref (q.2.2.1 + 103), .null, .null, .int 0, .int 0]) B (by decide) (by first | rfl | exact h0) rfl i_Lo (by decide) fl_Lo_51 rfl rfl d_Lo_init_102 ?_
  refine n_bipush (v := (-9)) B d_Lo_init_105 (by decide +kernel) ?_
  refine n_callS B (t_N_fill (q := q) (i := 103) (N := 10) (f := fun _ => 0) (-9) (by decide) rfl (by decide)) d_Lo_init_107 ok_Ar_fill_IIV ml_Lo_55 rfl (by decide) (by decide) rfl (Nat.le_of_ble_eq_true rfl) (by decide) (by decide) ?_
  refine n_aload B 1 d_Lo_init_110 rfl ?_
  refine n_bipush (v := 10) B d_Lo_init_111 (by decide +kernel) ?_
  refine n_newa (N := 10) (j := 0) (ty := .int) B rfl (by decide) wa_int d_Lo_init_113 (by decide +kernel) (by decide +kernel) (by decide) (by decide) (by decide) ?_
  refine n_putF (i := 0) (ci := 6) (N := 11) (j := 7) (T := F_Lo) (ty := t_Lo) (fs := [.ref (q.2.2.1 + 1), .ref (q.2.2.1 + 14), .ref (q.2.2.1 + 63), .ref (q.2.2.1 + 76), .ref (q.2.2.1 + 89), .ref (q.2.2.1 + 101), .ref (q.2.2.1 + 103), .null, .null, .int 0, .int 0]) (v := .ref (q.2.2.1 + 104)) B (by decide) (by first | rfl | exact h0) rfl i_Lo t_Lo_ok n_Lo (by decide) fl_Lo_61 rfl rfl rfl (Nat.le_of_ble_eq_true rfl) d_Lo_init_115 ?_
  refine n_aload B 1 d_Lo_init_118 rfl ?_
  refine n_get (i := 0) (ci := 6) (N := 11) (j := 7) (T := F_Lo) (fs := [.ref (q.2.2.1 + 1), .ref (q.2.2.1 + 14), .ref (q.2.2.1 + 63), .ref (q.2.2.1 + 76), .ref (q.2.2.1 + 89), .ref (q.2.2.1 + 101), .ref (q.2.2.1 + 103), .ref (q.2.2.1 + 104), .null, .int 0, .int 0]) B (by decide) (by first | rfl | exact h0) rfl i_Lo (by decide) fl_Lo_61 rfl rfl d_Lo_init_119 ?_
  refine n_bipush (v := (-9)) B d_Lo_init_122 (by decide +kernel) ?_
  refine n_callS B (t_N_fill (q := q) (i := 104) (N := 10) (f := fun _ => 0) (-9) (by decide) rfl (by decide)) d_Lo_init_124 ok_Ar_fill_IIV ml_Lo_55 rfl (by decide) (by decide) rfl (Nat.le_of_ble_eq_true rfl) (by decide) (by decide) ?_
  refine n_aload B 1 d_Lo_init_127 rfl ?_
  refine n_bipush (v := 19) B d_Lo_init_128 (by decide +kernel) ?_
  refine n_newa (N := 19) (j := 0) (ty := .int) B rfl (by decide) wa_int d_Lo_init_130 (by decide +kernel) (by decide +kernel) (by decide) (by decide) (by decide) ?_
  refine n_putF (i := 0) (ci := 6) (N := 11) (j := 8) (T := F_Lo) (ty := t_Lo) (fs := [.ref (q.2.2.1 + 1), .ref (q.2.2.1 + 14), .ref (q.2.2.1 + 63), .ref (q.2.2.1 + 76), .ref (q.2.2.1 + 89), .ref (q.2.2.1 + 101), .ref (q.2.2.1 + 103), .ref (q.2.2.1 + 104), .null, .int 0, .int 0]) (v := .ref (q.2.2.1 + 105)) B (by decide) (by first | rfl | exact h0) rfl i_Lo t_Lo_ok n_Lo (by decide) fl_Lo_64 rfl rfl rfl (Nat.le_of_ble_eq_true rfl) d_Lo_init_132 ?_
  refine n_aload B 1 d_Lo_init_135 rfl ?_
  refine n_iconst (v := 0) B d_Lo_init_136 (by decide +kernel) ?_
  refine n_putF (i := 0) (ci := 6) (N := 11) (j := 9) (T := F_Lo) (ty := t_Lo) (fs := [.ref (q.2.2.1 + 1), .ref (q.2.2.1 + 14), .ref (q.2.2.1 + 63), .ref (q.2.2.1 + 76), .ref (q.2.2.1 + 89), .ref (q.2.2.1 + 101), .ref (q.2.2.1 + 103), .ref (q.2.2.1 + 104), .ref (q.2.2.1 + 105), .int 0, .int 0]) (v := .int 0) B (by decide) (by first | rfl | exact h0) rfl i_Lo t_Lo_ok n_Lo (by decide) fl_Lo_67 rfl rfl rfl (Nat.le_of_ble_eq_true rfl) d_Lo_init_137 ?_
  refine n_aload B 1 d_Lo_init_140 rfl ?_
  refine n_iconst (v := 0) B d_Lo_init_141 (by decide +kernel) ?_
  refine n_putF (i := 0) (ci := 6) (N := 11) (j := 10) (T := F_Lo) (ty := t_Lo) (fs := [.ref (q.2.2.1 + 1), .ref (q.2.2.1 + 14), .ref (q.2.2.1 + 63), .ref (q.2.2.1 + 76), .ref (q.2.2.1 + 89), .ref (q.2.2.1 + 101), .ref (q.2.2.1 + 103), .ref (q.2.2.1 + 104), .ref (q.2.2.1 + 105), .int 0, .int 0]) (v := .int 0) B (by decide) (by first | rfl | exact h0) rfl i_Lo t_Lo_ok n_Lo (by decide) fl_Lo_71 rfl rfl rfl (Nat.le_of_ble_eq_true rfl) d_Lo_init_142 ?_
  exact Rt _ _ d_Lo_init_145
theorem d_Mo_init_0 : decode prog_9_method_1_code 0 = .ok (.aload_n 0, 1) := by decide +kernel
theorem d_Mo_init_1 : decode prog_9_method_1_code 1 = .ok (.invokespecial 1, 3) := by decide +kernel
theorem d_Mo_init_4 : decode prog_9_method_1_code 4 = .ok (.aload_n 0, 1) := by decide +kernel
theorem d_Mo_init_5 : decode prog_9_method_1_code 5 = .ok (.bipush 6, 2) := by decide +kernel
theorem d_Mo_init_7 : decode prog_9_method_1_code 7 = .ok (.newarray .int, 2) := by decide +kernel
theorem d_Mo_init_9 : decode prog_9_method_1_code 9 = .ok (.putfield 7, 3) := by decide +kernel
theorem d_Mo_init_12 : decode prog_9_method_1_code 12 = .ok (.aload_n 0, 1) := by decide +kernel
theorem d_Mo_init_13 : decode prog_9_method_1_code 13 = .ok (.bipush 10, 2) := by decide +kernel
theorem d_Mo_init_15 : decode prog_9_method_1_code 15 = .ok (.newarray .boolean, 2) := by decide +kernel
theorem d_Mo_init_17 : decode prog_9_method_1_code 17 = .ok (.putfield 13, 3) := by decide +kernel
theorem d_Mo_init_20 : decode prog_9_method_1_code 20 = .ok (.aload_n 0, 1) := by decide +kernel
theorem d_Mo_init_21 : decode prog_9_method_1_code 21 = .ok (.bipush 100, 2) := by decide +kernel
theorem d_Mo_init_23 : decode prog_9_method_1_code 23 = .ok (.newarray .int, 2) := by decide +kernel
theorem d_Mo_init_25 : decode prog_9_method_1_code 25 = .ok (.putfield 17, 3) := by decide +kernel
theorem d_Mo_init_28 : decode prog_9_method_1_code 28 = .ok (.aload_n 0, 1) := by decide +kernel
theorem d_Mo_init_29 : decode prog_9_method_1_code 29 = .ok (.bipush 10, 2) := by decide +kernel
theorem d_Mo_init_31 : decode prog_9_method_1_code 31 = .ok (.newarray .int, 2) := by decide +kernel
theorem d_Mo_init_33 : decode prog_9_method_1_code 33 = .ok (.putfield 20, 3) := by decide +kernel
theorem d_Mo_init_36 : decode prog_9_method_1_code 36 = .ok (.aload_n 0, 1) := by decide +kernel
theorem d_Mo_init_37 : decode prog_9_method_1_code 37 = .ok (.iconst 4, 1) := by decide +kernel
theorem d_Mo_init_38 : decode prog_9_method_1_code 38 = .ok (.newarray .int, 2) := by decide +kernel
theorem d_Mo_init_40 : decode prog_9_method_1_code 40 = .ok (.putfield 23, 3) := by decide +kernel
theorem d_Mo_init_43 : decode prog_9_method_1_code 43 = .ok (.aload_n 0, 1) := by decide +kernel
theorem d_Mo_init_44 : decode prog_9_method_1_code 44 = .ok (.bipush 80, 2) := by decide +kernel
theorem d_Mo_init_46 : decode prog_9_method_1_code 46 = .ok (.newarray .int, 2) := by decide +kernel
theorem d_Mo_init_48 : decode prog_9_method_1_code 48 = .ok (.putfield 26, 3) := by decide +kernel
theorem d_Mo_init_51 : decode prog_9_method_1_code 51 = .ok (.aload_n 0, 1) := by decide +kernel
theorem d_Mo_init_52 : decode prog_9_method_1_code 52 = .ok (.bipush 80, 2) := by decide +kernel
theorem d_Mo_init_54 : decode prog_9_method_1_code 54 = .ok (.newarray .int, 2) := by decide +kernel
theorem d_Mo_init_56 : decode prog_9_method_1_code 56 = .ok (.putfield 29, 3) := by decide +kernel
theorem d_Mo_init_59 : decode prog_9_method_1_code 59 = .ok (.aload_n 0, 1) := by decide +kernel
theorem d_Mo_init_60 : decode prog_9_method_1_code 60 = .ok (.bipush 80, 2) := by decide +kernel
theorem d_Mo_init_62 : decode prog_9_method_1_code 62 = .ok (.newarray .int, 2) := by decide +kernel
theorem d_Mo_init_64 : decode prog_9_method_1_code 64 = .ok (.putfield 32, 3) := by decide +kernel
theorem d_Mo_init_67 : decode prog_9_method_1_code 67 = .ok (.aload_n 0, 1) := by decide +kernel
theorem d_Mo_init_68 : decode prog_9_method_1_code 68 = .ok (.bipush 80, 2) := by decide +kernel
theorem d_Mo_init_70 : decode prog_9_method_1_code 70 = .ok (.newarray .int, 2) := by decide +kernel
theorem d_Mo_init_72 : decode prog_9_method_1_code 72 = .ok (.putfield 35, 3) := by decide +kernel
theorem d_Mo_init_75 : decode prog_9_method_1_code 75 = .ok (.aload_n 0, 1) := by decide +kernel
theorem d_Mo_init_76 : decode prog_9_method_1_code 76 = .ok (.bipush 80, 2) := by decide +kernel
theorem d_Mo_init_78 : decode prog_9_method_1_code 78 = .ok (.newarray .int, 2) := by decide +kernel
theorem d_Mo_init_80 : decode prog_9_method_1_code 80 = .ok (.putfield 38, 3) := by decide +kernel
theorem d_Mo_init_83 : decode prog_9_method_1_code 83 = .ok (.aload_n 0, 1) := by decide +kernel
theorem d_Mo_init_84 : decode prog_9_method_1_code 84 = .ok (.bipush 80, 2) := by decide +kernel
theorem d_Mo_init_86 : decode prog_9_method_1_code 86 = .ok (.newarray .boolean, 2) := by decide +kernel
theorem d_Mo_init_88 : decode prog_9_method_1_code 88 = .ok (.putfield 41, 3) := by decide +kernel
theorem d_Mo_init_91 : decode prog_9_method_1_code 91 = .ok (.aload_n 0, 1) := by decide +kernel
theorem d_Mo_init_92 : decode prog_9_method_1_code 92 = .ok (.bipush 80, 2) := by decide +kernel
theorem d_Mo_init_94 : decode prog_9_method_1_code 94 = .ok (.newarray .int, 2) := by decide +kernel
theorem d_Mo_init_96 : decode prog_9_method_1_code 96 = .ok (.putfield 44, 3) := by decide +kernel
theorem d_Mo_init_99 : decode prog_9_method_1_code 99 = .ok (.aload_n 0, 1) := by decide +kernel
theorem d_Mo_init_100 : decode prog_9_method_1_code 100 = .ok (.bipush 10, 2) := by decide +kernel
theorem d_Mo_init_102 : decode prog_9_method_1_code 102 = .ok (.newarray .int, 2) := by decide +kernel
theorem d_Mo_init_104 : decode prog_9_method_1_code 104 = .ok (.putfield 47, 3) := by decide +kernel
theorem d_Mo_init_107 : decode prog_9_method_1_code 107 = .ok (.aload_n 0, 1) := by decide +kernel
theorem d_Mo_init_108 : decode prog_9_method_1_code 108 = .ok (.bipush 10, 2) := by decide +kernel
theorem d_Mo_init_110 : decode prog_9_method_1_code 110 = .ok (.newarray .int, 2) := by decide +kernel
theorem d_Mo_init_112 : decode prog_9_method_1_code 112 = .ok (.putfield 50, 3) := by decide +kernel
theorem d_Mo_init_115 : decode prog_9_method_1_code 115 = .ok (.aload_n 0, 1) := by decide +kernel
theorem d_Mo_init_116 : decode prog_9_method_1_code 116 = .ok (.bipush 10, 2) := by decide +kernel
theorem d_Mo_init_118 : decode prog_9_method_1_code 118 = .ok (.newarray .int, 2) := by decide +kernel
theorem d_Mo_init_120 : decode prog_9_method_1_code 120 = .ok (.putfield 53, 3) := by decide +kernel
theorem d_Mo_init_123 : decode prog_9_method_1_code 123 = .ok (.aload_n 0, 1) := by decide +kernel
theorem d_Mo_init_124 : decode prog_9_method_1_code 124 = .ok (.bipush 10, 2) := by decide +kernel
theorem d_Mo_init_126 : decode prog_9_method_1_code 126 = .ok (.newarray .int, 2) := by decide +kernel
theorem d_Mo_init_128 : decode prog_9_method_1_code 128 = .ok (.putfield 56, 3) := by decide +kernel
theorem d_Mo_init_131 : decode prog_9_method_1_code 131 = .ok (.aload_n 0, 1) := by decide +kernel
theorem d_Mo_init_132 : decode prog_9_method_1_code 132 = .ok (.bipush 10, 2) := by decide +kernel
theorem d_Mo_init_134 : decode prog_9_method_1_code 134 = .ok (.newarray .int, 2) := by decide +kernel
theorem d_Mo_init_136 : decode prog_9_method_1_code 136 = .ok (.putfield 59, 3) := by decide +kernel
theorem d_Mo_init_139 : decode prog_9_method_1_code 139 = .ok (.aload_n 0, 1) := by decide +kernel
theorem d_Mo_init_140 : decode prog_9_method_1_code 140 = .ok (.bipush 10, 2) := by decide +kernel
theorem d_Mo_init_142 : decode prog_9_method_1_code 142 = .ok (.newarray .int, 2) := by decide +kernel
theorem d_Mo_init_144 : decode prog_9_method_1_code 144 = .ok (.putfield 62, 3) := by decide +kernel
theorem d_Mo_init_147 : decode prog_9_method_1_code 147 = .ok (.aload_n 0, 1) := by decide +kernel
theorem d_Mo_init_148 : decode prog_9_method_1_code 148 = .ok (.bipush 10, 2) := by decide +kernel
theorem d_Mo_init_150 : decode prog_9_method_1_code 150 = .ok (.newarray .int, 2) := by decide +kernel
theorem d_Mo_init_152 : decode prog_9_method_1_code 152 = .ok (.putfield 65, 3) := by decide +kernel
theorem d_Mo_init_155 : decode prog_9_method_1_code 155 = .ok (.aload_n 0, 1) := by decide +kernel
theorem d_Mo_init_156 : decode prog_9_method_1_code 156 = .ok (.bipush 64, 2) := by decide +kernel
theorem d_Mo_init_158 : decode prog_9_method_1_code 158 = .ok (.newarray .int, 2) := by decide +kernel
theorem d_Mo_init_160 : decode prog_9_method_1_code 160 = .ok (.putfield 68, 3) := by decide +kernel
theorem d_Mo_init_163 : decode prog_9_method_1_code 163 = .ok (.aload_n 0, 1) := by decide +kernel
theorem d_Mo_init_164 : decode prog_9_method_1_code 164 = .ok (.sipush 2048, 3) := by decide +kernel
theorem d_Mo_init_167 : decode prog_9_method_1_code 167 = .ok (.newarray .int, 2) := by decide +kernel
theorem d_Mo_init_169 : decode prog_9_method_1_code 169 = .ok (.putfield 71, 3) := by decide +kernel
theorem d_Mo_init_172 : decode prog_9_method_1_code 172 = .ok (.aload_n 0, 1) := by decide +kernel
theorem d_Mo_init_173 : decode prog_9_method_1_code 173 = .ok (.bipush 8, 2) := by decide +kernel
theorem d_Mo_init_175 : decode prog_9_method_1_code 175 = .ok (.newarray .int, 2) := by decide +kernel
theorem d_Mo_init_177 : decode prog_9_method_1_code 177 = .ok (.putfield 74, 3) := by decide +kernel
theorem d_Mo_init_180 : decode prog_9_method_1_code 180 = .ok (.return_, 1) := by decide +kernel
def eMo (q : NG) (en : Nat → va_E) : Nat → va_E := (va_up (va_up (va_up (va_up (va_up (va_up (va_up (va_up (va_up (va_up (va_up (va_up (va_up (va_up (va_up (va_up (va_up (va_up (va_up (va_up (va_up (va_up (va_up (va_up (va_up (va_up (va_up (va_up (va_up (va_up (va_up (va_up (va_up (va_up (va_up (va_up (va_up (va_up (va_up (va_up (va_up (va_up (va_up (va_up en 107 (.inl (q.2.2.2 0, 6, .inl (fun _ => 0)))) 106 (.inr (7, [.int 0, .ref (q.2.2.1 + 107), .int 0, .int 0, .null, .null, .null, .null, .null, .null, .null, .null, .null, .null, .null, .int 0, .int 0, .null, .null, .null, .null, .null, .int 0, .null, .null, .int 0, .int 0, .null, .null, .int 0, .null]))) 108 (.inl (q.2.2.2 1, 10, .inl (fun _ => 0)))) 106 (.inr (7, [.int 0, .ref (q.2.2.1 + 107), .int 0, .int 0, .ref (q.2.2.1 + 108), .null, .null, .null, .null, .null, .null, .null, .null, .null, .null, .int 0, .int 0, .null, .null, .null, .null, .null, .int 0, .null, .null, .int 0, .int 0, .null, .null, .int 0, .null]))) 109 (.inl (q.2.2.2 0, 100, .inl (fun _ => 0)))) 106 (.inr (7, [.int 0, .ref (q.2.2.1 + 107), .int 0, .int 0, .ref (q.2.2.1 + 108), .ref (q.2.2.1 + 109), .null, .null, .null, .null, .null, .null, .null, .null, .null, .int 0, .int 0, .null, .null, .null, .null, .null, .int 0, .null, .null, .int 0, .int 0, .null, .null, .int 0, .null]))) 110 (.inl (q.2.2.2 0, 10, .inl (fun _ => 0)))) 106 (.inr (7, [.int 0, .ref (q.2.2.1 + 107), .int 0, .int 0, .ref (q.2.2.1 + 108), .ref (q.2.2.1 + 109), .ref (q.2.2.1 + 110), .null, .null, .null, .null, .null, .null, .null, .null, .int 0, .int 0, .null, .null, .null, .null, .null, .int 0, .null, .null, .int 0, .int 0, .null, .null, .int 0, .null]))) 111 (.inl (q.2.2.2 0, 4, .inl (fun _ => 0)))) 106 (.inr (7, [.int 0, .ref (q.2.2.1 + 107), .int 0, .int 0, .ref (q.2.2.1 + 108), .ref (q.2.2.1 + 109), .ref (q.2.2.1 + 110), .ref (q.2.2.1 + 111), .null, .null, .null, .null, .null, .null, .null, .int 0, .int 0, .null, .null, .null, .null, .null, .int 0, .null, .null, .int 0, .int 0, .null, .null, .int 0, .null]))) 112 (.inl (q.2.2.2 0, 80, .inl (fun _ => 0)))) 106 (.inr (7, [.int 0, .ref (q.2.2.1 + 107), .int 0, .int 0, .ref (q.2.2.1 + 108), .ref (q.2.2.1 + 109), .ref (q.2.2.1 + 110), .ref (q.2.2.1 + 111), .ref (q.2.2.1 + 112), .null, .null, .null, .null, .null, .null, .int 0, .int 0, .null, .null, .null, .null, .null, .int 0, .null, .null, .int 0, .int 0, .null, .null, .int 0, .null]))) 113 (.inl (q.2.2.2 0, 80, .inl (fun _ => 0)))) 106 (.inr (7, [.int 0, .ref (q.2.2.1 + 107), .int 0, .int 0, .ref (q.2.2.1 + 108), .ref (q.2.2.1 + 109), .ref (q.2.2.1 + 110), .ref (q.2.2.1 + 111), .ref (q.2.2.1 + 112), .ref (q.2.2.1 + 113), .null, .null, .null, .null, .null, .int 0, .int 0, .null, .null, .null, .null, .null, .int 0, .null, .null, .int 0, .int 0, .null, .null, .int 0, .null]))) 114 (.inl (q.2.2.2 0, 80, .inl (fun _ => 0)))) 106 (.inr (7, [.int 0, .ref (q.2.2.1 + 107), .int 0, .int 0, .ref (q.2.2.1 + 108), .ref (q.2.2.1 + 109), .ref (q.2.2.1 + 110), .ref (q.2.2.1 + 111), .ref (q.2.2.1 + 112), .ref (q.2.2.1 + 113), .ref (q.2.2.1 + 114), .null, .null, .null, .null, .int 0, .int 0, .null, .null, .null, .null, .null, .int 0, .null, .null, .int 0, .int 0, .null, .null, .int 0, .null]))) 115 (.inl (q.2.2.2 0, 80, .inl (fun _ => 0)))) 106 (.inr (7, [.int 0, .ref (q.2.2.1 + 107), .int 0, .int 0, .ref (q.2.2.1 + 108), .ref (q.2.2.1 + 109), .ref (q.2.2.1 + 110), .ref (q.2.2.1 + 111), .ref (q.2.2.1 + 112), .ref (q.2.2.1 + 113), .ref (q.2.2.1 + 114), .ref (q.2.2.1 + 115), .null, .null, .null, .int 0, .int 0, .null, .null, .null, .null, .null, .int 0, .null, .null, .int 0, .int 0, .null, .null, .int 0, .null]))) 116 (.inl (q.2.2.2 0, 80, .inl (fun _ => 0)))) 106 (.inr (7, [.int 0, .ref (q.2.2.1 + 107), .int 0, .int 0, .ref (q.2.2.1 + 108), .ref (q.2.2.1 + 109), .ref (q.2.2.1 + 110), .ref (q.2.2.1 + 111), .ref (q.2.2.1 + 112), .ref (q.2.2.1 + 113), .ref (q.2.2.1 + 114), .ref (q.2.2.1 + 115), .ref (q.2.2.1 + 116), .null, .null, .int 0, .int 0, .null, .null, .null, .null, .null, .int 0, .null, .null, .int 0, .int 0, .null, .null, .int 0, .null]))) 117 (.inl (q.2.2.2 1, 80, .inl (fun _ => 0)))) 106 (.inr (7, [.int 0, .ref (q.2.2.1 + 107), .int 0, .int 0, .ref (q.2.2.1 + 108), .ref (q.2.2.1 + 109), .ref (q.2.2.1 + 110), .ref (q.2.2.1 + 111), .ref (q.2.2.1 + 112), .ref (q.2.2.1 + 113), .ref (q.2.2.1 + 114), .ref (q.2.2.1 + 115), .ref (q.2.2.1 + 116), .ref (q.2.2.1 + 117), .null, .int 0, .int 0, .null, .null, .null, .null, .null, .int 0, .null, .null, .int 0, .int 0, .null, .null, .int 0, .null]))) 118 (.inl (q.2.2.2 0, 80, .inl (fun _ => 0)))) 106 (.inr (7, [.int 0, .ref (q.2.2.1 + 107), .int 0, .int 0, .ref (q.2.2.1 + 108), .ref (q.2.2.1 + 109), .ref (q.2.2.1 + 110), .ref (q.2.2.1 + 111), .ref (q.2.2.1 + 112), .ref (q.2.2.1 + 113), .ref (q.2.2.1 + 114), .ref (q.2.2.1 + 115), .ref (q.2.2.1 + 116), .ref (q.2.2.1 + 117), .ref (q.2.2.1 + 118), .int 0, .int 0, .null, .null, .null, .null, .null, .int 0, .null, .null, .int 0, .int 0, .null, .null, .int 0, .null]))) 119 (.inl (q.2.2.2 0, 10, .inl (fun _ => 0)))) 106 (.inr (7, [.int 0, .ref (q.2.2.1 + 107), .int 0, .int 0, .ref (q.2.2.1 + 108), .ref (q.2.2.1 + 109), .ref (q.2.2.1 + 110), .ref (q.2.2.1 + 111), .ref (q.2.2.1 + 112), .ref (q.2.2.1 + 113), .ref (q.2.2.1 + 114), .ref (q.2.2.1 + 115), .ref (q.2.2.1 + 116), .ref (q.2.2.1 + 117), .ref (q.2.2.1 + 118), .int 0, .int 0, .ref (q.2.2.1 + 119), .null, .null, .null, .null, .int 0, .null, .null, .int 0, .int 0, .null, .null, .int 0, .null]))) 120 (.inl (q.2.2.2 0, 10, .inl (fun _ => 0)))) 106 (.inr (7, [.int 0, .ref (q.2.2.1 + 107), .int 0, .int 0, .ref (q.2.2.1 + 108), .ref (q.2.2.1 + 109), .ref (q.2.2.1 + 110), .ref (q.2.2.1 + 111), .ref (q.2.2.1 + 112), .ref (q.2.2.1 + 113), .ref (q.2.2.1 + 114), .ref (q.2.2.1 + 115), .ref (q.2.2.1 + 116), .ref (q.2.2.1 + 117), .ref (q.2.2.1 + 118), .int 0, .int 0, .ref (q.2.2.1 + 119), .ref (q.2.2.1 + 120), .null, .null, .null, .int 0, .null, .null, .int 0, .int 0, .null, .null, .int 0, .null]))) 121 (.inl (q.2.2.2 0, 10, .inl (fun _ => 0)))) 106 (.inr (7, [.int 0, .ref (q.2.2.1 + 107), .int 0, .int 0, .ref (q.2.2.1 + 108), .ref (q.2.2.1 + 109), .ref (q.2.2.1 + 110), .ref (q.2.2.1 + 111), .ref (q.2.2.1 + 112), .ref (q.2.2.1 + 113), .ref (q.2.2.1 + 114), .ref (q.2.2.1 + 115), .ref (q.2.2.1 + 116), .ref (q.2.2.1 + 117), .ref (q.2.2.1 + 118), .int 0, .int 0, .ref (q.2.2.1 + 119), .ref (q.2.2.1 + 120), .ref (q.2.2.1 + 121), .null, .null, .int 0, .null, .null, .int 0, .int 0, .null, .null, .int 0, .null]))) 122 (.inl (q.2.2.2 0, 10, .inl (fun _ => 0)))) 106 (.inr (7, [.int 0, .ref (q.2.2.1 + 107), .int 0, .int 0, .ref (q.2.2.1 + 108), .ref (q.2.2.1 + 109), .ref (q.2.2.1 + 110), .ref (q.2.2.1 + 111), .ref (q.2.2.1 + 112), .ref (q.2.2.1 + 113), .ref (q.2.2.1 + 114), .ref (q.2.2.1 + 115), .ref (q.2.2.1 + 116), .ref (q.2.2.1 + 117), .ref (q.2.2.1 + 118), .int 0, .int 0, .ref (q.2.2.1 + 119), .ref (q.2.2.1 + 120), .ref (q.2.2.1 + 121), .ref (q.2.2.1 + 122), .null, .int 0, .null, .null, .int 0, .int 0, .null, .null, .int 0, .null]))) 123 (.inl (q.2.2.2 0, 10, .inl (fun _ => 0)))) 106 (.inr (7, [.int 0, .ref (q.2.2.1 + 107), .int 0, .int 0, .ref (q.2.2.1 + 108), .ref (q.2.2.1 + 109), .ref (q.2.2.1 + 110), .ref (q.2.2.1 + 111), .ref (q.2.2.1 + 112), .ref (q.2.2.1 + 113), .ref (q.2.2.1 + 114), .ref (q.2.2.1 + 115), .ref (q.2.2.1 + 116), .ref (q.2.2.1 + 117), .ref (q.2.2.1 + 118), .int 0, .int 0, .ref (q.2.2.1 + 119), .ref (q.2.2.1 + 120), .ref (q.2.2.1 + 121), .ref (q.2.2.1 + 122), .ref (q.2.2.1 + 123), .int 0, .null, .null, .int 0, .int 0, .null, .null, .int 0, .null]))) 124 (.inl (q.2.2.2 0, 10, .inl (fun _ => 0)))) 106 (.inr (7, [.int 0, .ref (q.2.2.1 + 107), .int 0, .int 0, .ref (q.2.2.1 + 108), .ref (q.2.2.1 + 109), .ref (q.2.2.1 + 110), .ref (q.2.2.1 + 111), .ref (q.2.2.1 + 112), .ref (q.2.2.1 + 113), .ref (q.2.2.1 + 114), .ref (q.2.2.1 + 115), .ref (q.2.2.1 + 116), .ref (q.2.2.1 + 117), .ref (q.2.2.1 + 118), .int 0, .int 0, .ref (q.2.2.1 + 119), .ref (q.2.2.1 + 120), .ref (q.2.2.1 + 121), .ref (q.2.2.1 + 122), .ref (q.2.2.1 + 123), .int 0, .ref (q.2.2.1 + 124), .null, .int 0, .int 0, .null, .null, .int 0, .null]))) 125 (.inl (q.2.2.2 0, 10, .inl (fun _ => 0)))) 106 (.inr (7, [.int 0, .ref (q.2.2.1 + 107), .int 0, .int 0, .ref (q.2.2.1 + 108), .ref (q.2.2.1 + 109), .ref (q.2.2.1 + 110), .ref (q.2.2.1 + 111), .ref (q.2.2.1 + 112), .ref (q.2.2.1 + 113), .ref (q.2.2.1 + 114), .ref (q.2.2.1 + 115), .ref (q.2.2.1 + 116), .ref (q.2.2.1 + 117), .ref (q.2.2.1 + 118), .int 0, .int 0, .ref (q.2.2.1 + 119), .ref (q.2.2.1 + 120), .ref (q.2.2.1 + 121), .ref (q.2.2.1 + 122), .ref (q.2.2.1 + 123), .int 0, .ref (q.2.2.1 + 124), .ref (q.2.2.1 + 125), .int 0, .int 0, .null, .null, .int 0, .null]))) 126 (.inl (q.2.2.2 0, 64, .inl (fun _ => 0)))) 106 (.inr (7, [.int 0, .ref (q.2.2.1 + 107), .int 0, .int 0, .ref (q.2.2.1 + 108), .ref (q.2.2.1 + 109), .ref (q.2.2.1 + 110), .ref (q.2.2.1 + 111), .ref (q.2.2.1 + 112), .ref (q.2.2.1 + 113), .ref (q.2.2.1 + 114), .ref (q.2.2.1 + 115), .ref (q.2.2.1 + 116), .ref (q.2.2.1 + 117), .ref (q.2.2.1 + 118), .int 0, .int 0, .ref (q.2.2.1 + 119), .ref (q.2.2.1 + 120), .ref (q.2.2.1 + 121), .ref (q.2.2.1 + 122), .ref (q.2.2.1 + 123), .int 0, .ref (q.2.2.1 + 124), .ref (q.2.2.1 + 125), .int 0, .int 0, .ref (q.2.2.1 + 126), .null, .int 0, .null]))) 127 (.inl (q.2.2.2 0, 2048, .inl (fun _ => 0)))) 106 (.inr (7, [.int 0, .ref (q.2.2.1 + 107), .int 0, .int 0, .ref (q.2.2.1 + 108), .ref (q.2.2.1 + 109), .ref (q.2.2.1 + 110), .ref (q.2.2.1 + 111), .ref (q.2.2.1 + 112), .ref (q.2.2.1 + 113), .ref (q.2.2.1 + 114), .ref (q.2.2.1 + 115), .ref (q.2.2.1 + 116), .ref (q.2.2.1 + 117), .ref (q.2.2.1 + 118), .int 0, .int 0, .ref (q.2.2.1 + 119), .ref (q.2.2.1 + 120), .ref (q.2.2.1 + 121), .ref (q.2.2.1 + 122), .ref (q.2.2.1 + 123), .int 0, .ref (q.2.2.1 + 124), .ref (q.2.2.1 + 125), .int 0, .int 0, .ref (q.2.2.1 + 126), .ref (q.2.2.1 + 127), .int 0, .null]))) 128 (.inl (q.2.2.2 0, 8, .inl (fun _ => 0)))) 106 (.inr (7, [.int 0, .ref (q.2.2.1 + 107), .int 0, .int 0, .ref (q.2.2.1 + 108), .ref (q.2.2.1 + 109), .ref (q.2.2.1 + 110), .ref (q.2.2.1 + 111), .ref (q.2.2.1 + 112), .ref (q.2.2.1 + 113), .ref (q.2.2.1 + 114), .ref (q.2.2.1 + 115), .ref (q.2.2.1 + 116), .ref (q.2.2.1 + 117), .ref (q.2.2.1 + 118), .int 0, .int 0, .ref (q.2.2.1 + 119), .ref (q.2.2.1 + 120), .ref (q.2.2.1 + 121), .ref (q.2.2.1 + 122), .ref (q.2.2.1 + 123), .int 0, .ref (q.2.2.1 + 124), .ref (q.2.2.1 + 125), .int 0, .int 0, .ref (q.2.2.1 + 126), .ref (q.2.2.1 + 127), .int 0, .ref (q.2.2.1 + 128)])))
set_option maxHeartbeats 4000000 in
set_option maxRecDepth 20000 in
theorem tN_Mo {q : NG} {en : Nat → va_E} (h0 : en 106 = .inr (7, [.int 0, .null, .int 0, .int 0, .null, .null, .null, .null, .null, .null, .null, .null, .null, .null, .null, .int 0, .int 0, .null, .null, .null, .null, .null, .int 0, .null, .null, .int 0, .int 0, .null, .null, .int 0, .null])) : TerN q 1 22 2880 m_Mo_init [.ref (q.2.2.1 + 106)] en 107 (eMo q en) 129 := by
  refine TerN.mk (ini := true) (by decide +kernel) rfl (Nat.le_of_ble_eq_true rfl) (fun _ => rfl) (fun K B Rt => ?_)
  have B : Nx q K prog_9_method_1_code 1 R_Mo 1 22 2880 true := B
  show NW q K 1 0 [(0, .ref (q.2.2.1 + 106))] [] en 107 0 0
  refine n_aload B 0 d_Mo_init_0 rfl ?_
  refine n_objInit B d_Mo_init_1 wk_Mo_1 wo_i wo_c (by decide) ?_
  refine n_aload B 0 d_Mo_init_4 rfl ?_
  refine n_bipush (v := 6) B d_Mo_init_5 (by decide +kernel) ?_
  refine n_newa (N := 6) (j := 0) (ty := .int) B rfl (by decide) wa_int d_Mo_init_7 (by decide +kernel) (by decide +kernel) (by decide) (by decide) (by decide) ?_
  refine n_putF (i := 106) (ci := 7) (N := 31) (j := 1) (T := F_Mo) (ty := t_Mo) (fs := [.int 0, .null, .int 0, .int 0, .null, .null, .null, .null, .null, .null, .null, .null, .null, .null, .null, .int 0, .int 0, .null, .null, .null, .null, .null, .int 0, .null, .null, .int 0, .int 0, .null, .null, .int 0, .null]) (v := .ref (q.2.2.1 + 107)) B (by decide) (by first | rfl | exact h0) rfl i_Mo t_Mo_ok n_Mo (by decide) fl_Mo_7 rfl rfl rfl (Nat.le_of_ble_eq_true rfl) d_Mo_init_9 ?_
  refine n_aload B 0 d_Mo_init_12 rfl ?_
  refine n_bipush (v := 10) B d_Mo_init_13 (by decide +kernel) ?_
  refine n_newa (N := 10) (j := 1) (ty := .boolean) B rfl (by decide) wa_boolean d_Mo_init_15 (by decide +kernel) (by decide +kernel) (by decide) (by decide) (by decide) ?_
  refine n_putF (i := 106) (ci := 7) (N := 31) (j := 4) (T := F_Mo) (ty := t_Mo) (fs := [.int 0, .ref (q.2.2.1 + 107), .int 0, .int 0, .null, .null, .null, .null, .null, .null, .null, .null, .null, .null, .null, .int 0, .int 0, .null, .null, .null, .null, .null, .int 0, .null, .null, .int 0, .int 0, .null, .null, .int 0, .null]) (v := .ref (q.2.2.1 + 108)) B (by decide) (by first | rfl | exact h0) rfl i_Mo t_Mo_ok n_Mo (by decide) fl_Mo_13 rfl rfl rfl (Nat.le_of_ble_eq_true rfl) d_Mo_init_17 ?_
  refine n_aload B 0 d_Mo_init_20 rfl ?_
  refine n_bipush (v := 100) B d_Mo_init_21 (by decide +kernel) ?_
  refine n_newa (N := 100) (j := 0) (ty := .int) B rfl (by decide) wa_int d_Mo_init_23 (by decide +kernel) (by decide +kernel) (by decide) (by decide) (by decide) ?_
  refine n_putF (i := 106) (ci := 7) (N := 31) (j := 5) (T := F_Mo) (ty := t_Mo) (fs := [.int 0, .ref (q.2.2.1 + 107), .int 0, .int 0, .ref (q.2.2.1 + 108), .null, .null, .null, .null, .null, .null, .null, .null, .null, .null, .int 0, .int 0, .null, .null, .null, .null, .null, .int 0, .null, .null, .int 0, .int 0, .null, .null, .int 0, .null]) (v := .ref (q.2.2.1 + 109)) B (by decide) (by first | rfl | exact h0) rfl i_Mo t_Mo_ok n_Mo (by decide) fl_Mo_17 rfl rfl rfl (Nat.le_of_ble_eq_true rfl) d_Mo_init_25 ?_
  refine n_aload B 0 d_Mo_init_28 rfl ?_
  refine n_bipush (v := 10) B d_Mo_init_29 (by decide +kernel) ?_
  refine n_newa (N := 10) (j := 0) (ty := .int) B rfl (by decide) wa_int d_Mo_init_31 (by decide +kernel) (by decide +kernel) (by decide) (by decide) (by decide) ?_
  refine n_putF (i := 106) (ci := 7) (N := 31) (j := 6) (T := F_Mo) (ty := t_Mo) (fs := [.int 0, .ref (q.2.2.1 + 107), .int 0, .int 0, .ref (q.2.2.1 + 108), .ref (q.2.2.1 + 109), .null, .null, .null, .null, .null, .null, .null, .null, .null, .int 0, .int 0, .null, .null, .null, .null, .null, .int 0, .null, .null, .int 0, .int 0, .null, .null, .int 0, .null]) (v := .ref (q.2.2.1 + 110)) B (by decide) (by first | rfl | exact h0) rfl i_Mo t_Mo_ok n_Mo (by decide) fl_Mo_20 rfl rfl rfl (Nat.le_of_ble_eq_true rfl) d_Mo_init_33 ?_
  refine n_aload B 0 d_Mo_init_36 rfl ?_
  refine n_iconst (v := 4) B d_Mo_init_37 (by decide +kernel) ?_
  refine n_newa (N := 4) (j := 0) (ty := .int) B rfl (by decide) wa_int d_Mo_init_38 (by decide +kernel) (by decide +kernel) (by decide) (by decide) (by decide) ?_
  refine n_putF (i := 106) (ci := 7) (N := 31) (j := 7) (T := F_Mo) (ty := t_Mo) (fs := [.int 0, .ref (q.2.2.1 + 107), .int 0, .int 0, .ref (q.2.2.1 + 108), .ref (q.2.2.1 + 109), .ref (q.2.2.1 + 110), .null, .null, .null, .null, .null, .null, .null, .null, .int 0, .int 0, .null, .null, .null, .null, .null, .int 0, .null, .null, .int 0, .int 0, .null, .null, .int 0, .null]) (v := .ref (q.2.2.1 + 111)) B (by decide) (by first | rfl | exact h0) rfl i_Mo t_Mo_ok n_Mo (by decide) fl_Mo_23 rfl rfl rfl (Nat.le_of_ble_eq_true rfl) d_Mo_init_40 ?_
  refine n_aload B 0 d_Mo_init_43 rfl ?_
  refine n_bipush (v := 80) B d_Mo_init_44 (by decide +kernel) ?_
  refine n_newa (N := 80) (j := 0) (ty := .int) B rfl (by decide) wa_int d_Mo_init_46 (by decide +kernel) (by decide +kernel) (by decide) (by decide) (by decide) ?_
  refine n_putF (i := 106) (ci := 7) (N := 31) (j := 8) (T := F_Mo) (ty := t_Mo) (fs := [.int 0, .ref (q.2.2.1 + 107), .int 0, .int 0, .ref (q.2.2.1 + 108), .ref (q.2.2.1 + 109), .ref (q.2.2.1 + 110), .ref (q.2.2.1 + 111), .null, .null, .null, .null, .null, .null, .null, .int 0, .int 0, .null, .null, .null, .null, .null, .int 0, .null, .null, .int 0, .int 0, .null, .null, .int 0, .null]) (v := .ref (q.2.2.1 + 112)) B (by decide) (by first | rfl | exact h0) rfl i_Mo t_Mo_ok n_Mo (by decide) fl_Mo_26 rfl rfl rfl (Nat.le_of_ble_eq_true rfl) d_Mo_init_48 ?_
  refine n_aload B 0 d_Mo_init_51 rfl ?_
  refine n_bipush (v := 80) B d_Mo_init_52 (by decide +kernel) ?_
  refine n_newa (N := 80) (j := 0) (ty := .int) B rfl (by decide) wa_int d_Mo_init_54 (by decide +kernel) (by decide +kernel) (by decide) (by decide) (by decide) ?_
  refine n_putF (i := 106) (ci := 7) (N := 31) (j := 9) (T := F_Mo) (ty := t_Mo) (fs := [.int 0, .ref (q.2.2.1 + 107), .int 0, .int 0, .ref (q.2.2.1 + 108), .ref (q.2.2.1 + 109), .ref (q.2.2.1 + 110), .ref (q.2.2.1 + 111), .ref (q.2.2.1 + 112), .null, .null, .null, .null, .null, .null, .int 0, .int 0, .null, .null, .null, .null, .null, .int 0, .null, .null, .int 0, .int 0, .null, .null, .int 0, .null]) (v := .ref (q.2.2.1 + 113)) B (by decide) (by first | rfl | exact h0) rfl i_Mo t_Mo_ok n_Mo (by decide) fl_Mo_29 rfl rfl rfl (Nat.le_of_ble_eq_true rfl) d_Mo_init_56 ?_
  refine n_aload B 0 d_Mo_init_59 rfl ?_
  refine n_bipush (v := 80) B d_Mo_init_60 (by decide +kernel) ?_
  refine n_newa (N := 80) (j := 0) (ty := .int) B rfl (by decide) wa_int d_Mo_init_62 (by decide +kernel) (by decide +kernel) (by decide) (by decide) (by decide) ?_
  refine n_putF (i := 106) (ci := 7) (N := 31) (j := 10) (T := F_Mo) (ty := t_Mo) (fs := [.int 0, .ref (q.2.2.1 + 107), .int 0, .int 0, .ref (q.2.2.1 + 108), .ref (q.2.2.1 + 109), .ref (q.2.2.1 + 110), .ref (q.2.2.1 + 111), .ref (q.2.2.1 + 112), .ref (q.2.2.1 + 113), .null, .null, .null, .null, .null, .int 0, .int 0, .null, .null, .null, .null, .null, .int 0, .null, .null, .int 0, .int 0, .null, .null, .int 0, .null]) (v := .ref (q.2.2.1 + 114)) B (by decide) (by first | rfl | exact h0) rfl i_Mo t_Mo_ok n_Mo (by decide) fl_Mo_32 rfl rfl rfl (Nat.le_of_ble_eq_true rfl) d_Mo_init_64 ?_
  refine n_aload B 0 d_Mo_init_67 rfl ?_
  refine n_bipush (v := 80) B d_Mo_init_68 (by decide +kernel) ?_
  refine n_newa (N := 80) (j := 0) (ty := .int) B rfl (by decide) wa_int d_Mo_init_70 (by decide +kernel) (by decide +kernel) (by decide) (by decide) (by decide) ?_
  refine n_putF (i := 106) (ci := 7) (N := 31) (j := 11) (T := F_Mo) (ty := t_Mo) (fs := [.int 0, .ref (q.2.2.1 + 107), .int 0, .int 0, .ref (q.2.2.1 + 108), .ref (q.2.2.1 + 109), .ref (q.2.2.1 + 110), .ref (q.2.2.1 + 111), .ref (q.2.2.1 + 112), .ref (q.2.2.1 + 113), .ref (q.2.2.1 + 114), .null, .null, .null, .null, .int 0, .int 0, .null, .null, .null, .null, .null, .int 0, .null, .null, .int 0, .int 0, .null, .null, .int 0, .null]) (v := .ref (q.2.2.1 + 115)) B (by decide) (by first | rfl | exact h0) rfl i_Mo t_Mo_ok n_Mo (by decide) fl_Mo_35 rfl rfl rfl (Nat.le_of_ble_eq_true rfl) d_Mo_init_72 ?_
  refine n_aload B 0 d_Mo_init_75 rfl ?_
  refine n_bipush (v := 80) B d_Mo_init_76 (by decide +kernel) ?_
  refine n_newa (N := 80) (j := 0) (ty := .int) B rfl (by decide) wa_int d_Mo_init_78 (by decide +kernel) (by decide +kernel) (by decide) (by decide) (by decide) ?_
  refine n_putF (i := 106) (ci := 7) (N := 31) (j := 12) (T := F_Mo) (ty := t_Mo) (fs := [.int 0, .ref (q.2.2.1 + 107), .int 0, .int 0, .ref (q.2.2.1 + 108), .ref (q.2.2.1 + 109), .ref (q.2.2.1 + 110), .ref (q.2.2.1 + 111), .ref (q.2.2.1 + 112), .ref (q.2.2.1 + 113), .ref (q.2.2.1 + 114), .ref (q.2.2.1 + 115), .null, .null, .null, .int 0, .int 0, .null, .null, .null, .null, .null, .int 0, .null, .null, .int 0, .int 0, .null, .null, .int 0, .null]) (v := .ref (q.2.2.1 + 116)) B (by decide) (by first | rfl | exact h0) rfl i_Mo t_Mo_ok n_Mo (by decide) fl_Mo_38 rfl rfl rfl (Nat.le_of_ble_eq_true rfl) d_Mo_init_80 ?_
  refine n_aload B 0 d_Mo_init_83 rfl ?_
  refine n_bipush (v := 80) B d_Mo_init_84 (by decide +kernel) ?_
  refine n_newa (N := 80) (j := 1) (ty := .boolean) B rfl (by decide) wa_boolean d_Mo_init_86 (by decide +kernel) (by decide +kernel) (by decide) (by decide) (by decide) ?_
  refine n_putF (i := 106) (ci := 7) (N := 31) (j := 13) (T := F_Mo) (ty := t_Mo) (fs := [.int 0, .ref (q.2.2.1 + 107), .int 0, .int 0, .ref (q.2.2.1 + 108), .ref (q.2.2.1 + 109), .ref (q.2.2.1 + 110), .ref (q.2.2.1 + 111), .ref (q.2.2.1 + 112), .ref (q.2.2.1 + 113), .ref (q.2.2.1 + 114), .ref (q.2.2.1 + 115), .ref (q.2.2.1 + 116), .null, .null, .int 0, .int 0, .null, .null, .null, .null, .null, .int 0, .null, .null, .int 0, .int 0, .null, .null, .int 0, .null]) (v := .ref (q.2.2.1 + 117)) B (by decide) (by first | rfl | exact h0) rfl i_Mo t_Mo_ok n_Mo (by decide) fl_Mo_41 rfl rfl rfl (Nat.le_of_ble_eq_true rfl) d_Mo_init_88 ?_
  refine n_aload B 0 d_Mo_init_91 rfl ?_
  refine n_bipush (v := 80) B d_Mo_init_92 (by decide +kernel) ?_
  refine n_newa (N := 80) (j := 0) (ty := .int) B rfl (by decide) wa_int d_Mo_init_94 (by decide +kernel) (by decide +kernel) (by decide) (by decide) (by decide) ?_
  refine n_putF (i := 106) (ci := 7) (N := 31) (j := 14) (T := F_Mo) (ty := t_Mo) (fs := [.int 0, .ref (q.2.2.1 + 107), .int 0, .int 0, .ref (q.2.2.1 + 108), .ref (q.2.2.1 + 109), .ref (q.2.2.1 + 110), .ref (q.2.2.1 + 111), .ref (q.2.2.1 + 112), .ref (q.2.2.1 + 113), .ref (q.2.2.1 + 114), .ref (q.2.2.1 + 115), .ref (q.2.2.1 + 116), .ref (q.2.2.1 + 117), .null, .int 0, .int 0, .null, .null, .null, .null, .null, .int 0, .null, .null, .int 0, .int 0, .null, .null, .int 0, .null]) (v := .ref (q.2.2.1 + 118)) B (by decide) (by first | rfl | exact h0) rfl i_Mo t_Mo_ok n_Mo (by decide) fl_Mo_44 rfl rfl rfl (Nat.le_of_ble_eq_true rfl) d_Mo_init_96 ?_
  refine n_aload B 0 d_Mo_init_99 rfl ?_
  refine n_bipush (v := 10) B d_Mo_init_100 (by decide +kernel) ?_
  refine n_newa (N := 10) (j := 0) (ty := .int) B rfl (by decide) wa_int d_Mo_init_102 (by decide +kernel) (by decide +kernel) (by decide) (by decide) (by decide) ?_
  refine n_putF (i := 106) (ci := 7) (N := 31) (j := 17) (T := F_Mo) (ty := t_Mo) (fs := [.int 0, .ref (q.2.2.1 + 107), .int 0, .int 0, .ref (q.2.2.1 + 108), .ref (q.2.2.1 + 109), .ref (q.2.2.1 + 110), .ref (q.2.2.1 + 111), .ref (q.2.2.1 + 112), .ref (q.2.2.1 + 113), .ref (q.2.2.1 + 114), .ref (q.2.2.1 + 115), .ref (q.2.2.1 + 116), .ref (q.2.2.1 + 117), .ref (q.2.2.1 + 118), .int 0, .int 0, .null, .null, .null, .null, .null, .int 0, .null, .null, .int 0, .int 0, .null, .null, .int 0, .null]) (v := .ref (q.2.2.1 + 119)) B (by decide) (by first | rfl | exact h0) rfl i_Mo t_Mo_ok n_Mo (by decide) fl_Mo_47 rfl rfl rfl (Nat.le_of_ble_eq_true rfl) d_Mo_init_104 ?_
  refine n_aload B 0 d_Mo_init_107 rfl ?_
  refine n_bipush (v := 10) B d_Mo_init_108 (by decide +kernel) ?_
  refine n_newa (N := 10) (j := 0) (ty := .int) B rfl (by decide) wa_int d_Mo_init_110 (by decide +kernel) (by decide +kernel) (by decide) (by decide) (by decide) ?_
  refine n_putF (i := 106) (ci := 7) (N := 31) (j := 18) (T := F_Mo) (ty := t_Mo) (fs := [.int 0, .ref (q.2.2.1 + 107), .int 0, .int 0, .ref (q.2.2.1 + 108), .ref (q.2.2.1 + 109), .ref (q.2.2.1 + 110), .ref (q.2.2.1 + 111), .ref (q.2.2.1 + 112), .ref (q.2.2.1 + 113), .ref (q.2.2.1 + 114), .ref (q.2.2.1 + 115), .ref (q.2.2.1 + 116), .ref (q.2.2.1 + 117), .ref (q.2.2.1 + 118), .int 0, .int 0, .ref (q.2.2.1 + 119), .null, .null, .null, .null, .int 0, .null, .null, .int 0, .int 0, .null, .null, .int 0, .null]) (v := .ref (q.2.2.1 + 120)) B (by decide) (by first | rfl | exact h0) rfl i_Mo t_Mo_ok n_Mo (by decide) fl_Mo_50 rfl rfl rfl (Nat.le_of_ble_eq_true rfl) d_Mo_init_112 ?_
  refine n_aload B 0 d_Mo_init_115 rfl ?_
  refine n_bipush (v := 10) B d_Mo_init_116 (by decide +kernel) ?_
  refine n_newa (N := 10) (j := 0) (ty := .int) B rfl (by decide) wa_int d_Mo_init_118 (by decide +kernel) (by decide +kernel) (by decide) (by decide) (by decide) ?_
  refine n_putF (i := 106) (ci := 7) (N := 31) (j := 19) (T := F_Mo) (ty := t_Mo) (fs := [.int 0, .ref (q.2.2.1 + 107), .int 0, .int 0, .ref (q.2.2.1 + 108), .ref (q.2.2.1 + 109), .ref (q.2.2.1 + 110), .ref (q.2.2.1 + 111), .ref (q.2.2.1 + 112), .ref (q.2.2.1 + 113), .ref (q.2.2.1 + 114), .ref (q.2.2.1 + 115), .ref (q.2.2.1 + 116), .ref (q.2.2.1 + 117), .ref (q.2.2.1 + 118), .int 0, .int 0, .ref (q.2.2.1 + 119), .ref (q.2.2.1 + 120), .null, .null, .null, .int 0, .null, .null, .int 0, .int 0, .null, .null, .int 0, .null]) (v := .ref (q.2.2.1 + 121)) B (by decide) (by first | rfl | exact h0) rfl i_Mo t_Mo_ok n_Mo (by decide) fl_Mo_53 rfl rfl rfl (Nat.le_of_ble_eq_true rfl) d_Mo_init_120 ?_
  refine n_aload B 0 d_Mo_init_123 rfl ?_
  refine n_bipush (v := 10) B d_Mo_init_124 (by decide +kernel) ?_
  refine n_newa (N := 10) (j := 0) (ty := .int) B rfl (by decide) wa_int d_Mo_init_126 (by decide +kernel) (by decide +kernel) (by decide) (by decide) (by decide) ?_
  refine n_putF (i := 106) (ci := 7) (N := 31) (j := 20) (T := F_Mo) (ty := t_Mo) (fs := [.int 0, .ref (q.2.2.1 + 107), .int 0, .int 0, .ref (q.2.2.1 + 108), .ref (q.2.2.1 + 109), .ref (q.2.2.1 + 110), .ref (q.2.2.1 + 111), .ref (q.2.2.1 + 112), .ref (q.2.2.1 + 113), .ref (q.2.2.1 + 114), .ref (q.2.2.1 + 115), .ref (q.2.2.1 + 116), .ref (q.2.2.1 + 117), .ref (q.2.2.1 + 118), .int 0, .int 0, .ref (q.2.2.1 + 119), .ref (q.2.2.1 + 120), .ref (q.2.2.1 + 121), .null, .null, .int 0, .null, .null, .int 0, .int 0, .null, .null, .int 0, .null]) (v := .ref (q.2.2.1 + 122)) B (by decide) (by first | rfl | exact h0) rfl i_Mo t_Mo_ok n_Mo (by decide) fl_Mo_56 rfl rfl rfl (Nat.le_of_ble_eq_true rfl) d_Mo_init_128 ?_
  refine n_aload B 0 d_Mo_init_131 rfl ?_
  refine n_bipush (v := 10) B d_Mo_init_132 (by decide +kernel) ?_
  refine n_newa (N := 10) (j := 0) (ty := .int) B rfl (by decide) wa_int d_Mo_init_134 (by decide +kernel) (by decide +kernel) (by decide) (by decide) (by decide) ?_
  refine n_putF (i := 106) (ci := 7) (N := 31) (j := 21) (T := F_Mo) (ty := t_Mo) (fs := [.int 0, .ref (q.2.2.1 + 107), .int 0, .int 0, .ref (q.2.2.1 + 108), .ref (q.2.2.1 + 109), .ref (q.2.2.1 + 110), .ref (q.2.2.1 + 111), .ref (q.2.2.1 + 112), .ref (q.2.2.1 + 113), .ref (q.2.2.1 + 114), .ref (q.2.2.1 + 115), .ref (q.2.2.1 + 116), .ref (q.2.2.1 + 117), .ref (q.2.2.1 + 118), .int 0, .int 0, .ref (q.2.2.1 + 119), .ref (q.2.2.1 + 120), .ref (q.2.2.1 + 121), .ref (q.2.2.1 + 122), .null, .int 0, .null, .null, .int 0, .int 0, .null, .null, .int 0, .null]) (v := .ref (q.2.2.1 + 123)) B (by decide) (by first | rfl | exact h0) rfl i_Mo t_Mo_ok n_Mo (by decide) fl_Mo_59 rfl rfl rfl (Nat.le_of_ble_eq_true rfl) d_Mo_init_136 ?_
  refine n_aload B 0 d_Mo_init_139 rfl ?_
  refine n_bipush (v := 10) B d_Mo_init_140 (by decide +kernel) ?_
  refine n_newa (N := 10) (j := 0) (ty := .int) B rfl (by decide) wa_int d_Mo_init_142 (by decide +kernel) (by decide +kernel) (by decide) (by decide) (by decide) ?_
  refine n_putF (i := 106) (ci := 7) (N := 31) (j := 23) (T := F_Mo) (ty := t_Mo) (fs := [.int 0, .ref (q.2.2.1 + 107), .int 0, .int 0, .ref (q.2.2.1 + 108), .ref (q.2.2.1 + 109), .ref (q.2.2.1 + 110), .ref (q.2.2.1 + 111), .ref (q.2.2.1 + 112), .ref (q.2.2.1 + 113), .ref (q.2.2.1 + 114), .ref (q.2.2.1 + 115), .ref (q.2.2.1 + 116), .ref (q.2.2.1 + 117), .ref (q.2.2.1 + 118), .int 0, .int 0, .ref (q.2.2.1 + 119), .ref (q.2.2.1 + 120), .ref (q.2.2.1 + 121), .ref (q.2.2.1 + 122), .ref (q.2.2.1 + 123), .int 0, .null, .null, .int 0, .int 0, .null, .null, .int 0, .null]) (v := .ref (q.2.2.1 + 124)) B (by decide) (by first | rfl | exact h0) rfl i_Mo t_Mo_ok n_Mo (by decide) fl_Mo_62 rfl rfl rfl (Nat.le_of_ble_eq_true rfl) d_Mo_init_144 ?_
  refine n_aload B 0 d_Mo_init_147 rfl ?_
  refine n_bipush (v := 10) B d_Mo_init_148 (by decide +kernel) ?_
  refine n_newa (N := 10) (j := 0) (ty := .int) B rfl (by decide) wa_int d_Mo_init_150 (by decide +kernel) (by decide +kernel) (by decide) (by decide) (by decide) ?_
  refine n_putF (i := 106) (ci := 7) (N := 31) (j := 24) (T := F_Mo) (ty := t_Mo) (fs := [.int 0, .ref (q.2.2.1 + 107), .int 0, .int 0, .ref (q.2.2.1 + 108), .ref (q.2.2.1 + 109), .ref (q.2.2.1 + 110), .ref (q.2.2.1 + 111), .ref (q.2.2.1 + 112), .ref (q.2.2.1 + 113), .ref (q.2.2.1 + 114), .ref (q.2.2.1 + 115), .ref (q.2.2.1 + 116), .ref (q.2.2.1 + 117), .ref (q.2.2.1 + 118), .int 0, .int 0, .ref (q.2.2.1 + 119), .ref (q.2.2.1 + 120), .ref (q.2.2.1 + 121), .ref (q.2.2.1 + 122), .ref (q.2.2.1 + 123), .int 0, .ref (q.2.2.1 + 124), .null, .int 0, .int 0, .null, .null, .int 0, .null]) (v := .ref (q.2.2.1 + 125)) B (by decide) (by first | rfl | exact h0) rfl i_Mo t_Mo_ok n_Mo (by decide) fl_Mo_65 rfl rfl rfl (Nat.le_of_ble_eq_true rfl) d_Mo_init_152 ?_
  refine n_aload B 0 d_Mo_init_155 rfl ?_
  refine n_bipush (v := 64) B d_Mo_init_156 (by decide +kernel) ?_
  refine n_newa (N := 64) (j := 0) (ty := .int) B rfl (by decide) wa_int d_Mo_init_158 (by decide +kernel) (by decide +kernel) (by decide) (by decide) (by decide) ?_
  refine n_putF (i := 106) (ci := 7) (N := 31) (j := 27) (T := F_Mo) (ty := t_Mo) (fs := [.int 0, .ref (q.2.2.1 + 107), .int 0, .int 0, .ref (q.2.2.1 + 108), .ref (q.2.2.1 + 109), .ref (q.2.2.1 + 110), .ref (q.2.2.1 + 111), .ref (q.2.2.1 + 112), .ref (q.2.2.1 + 113), .ref (q.2.2.1 + 114), .ref (q.2.2.1 + 115), .ref (q.2.2.1 + 116), .ref (q.2.2.1 + 117), .ref (q.2.2.1 + 118), .int 0, .int 0, .ref (q.2.2.1 + 119), .ref (q.2.2.1 + 120), .ref (q.2.2.1 + 121), .ref (q.2.2.1 + 122), .ref (q.2.2.1 + 123), .int 0, .ref (q.2.2.1 + 124), .ref (q.2.2.1 + 125), .int 0, .int 0, .null, .null, .int 0, .null]) (v := .ref (q.2.2.1 + 126)) B (by decide) (by first | rfl | exact h0) rfl i_Mo t_Mo_ok n_Mo (by decide) fl_Mo_68 rfl rfl rfl (Nat.le_of_ble_eq_true rfl) d_Mo_init_160 ?_
  refine n_aload B 0 d_Mo_init_163 rfl ?_
  refine n_sipush (v := 2048) B d_Mo_init_164 (by decide +kernel) ?_
  refine n_newa (N := 2048) (j := 0) (ty := .int) B rfl (by decide) wa_int d_Mo_init_167 (by decide +kernel) (by decide +kernel) (by decide) (by decide) (by decide) ?_
  refine n_putF (i := 106) (ci := 7) (N := 31) (j := 28) (T := F_Mo) (ty := t_Mo) (fs := [.int 0, .ref (q.2.2.1 + 107), .int 0, .int 0, .ref (q.2.2.1 + 108), .ref (q.2.2.1 + 109), .ref (q.2.2.1 + 110), .ref (q.2.2.1 + 111), .ref (q.2.2.1 + 112), .ref (q.2.2.1 + 113), .ref (q.2.2.1 + 114), .ref (q.2.2.1 + 115), .ref (q.2.2.1 + 116), .ref (q.2.2.1 + 117), .ref (q.2.2.1 + 118), .int 0, .int 0, .ref (q.2.2.1 + 119), .ref (q.2.2.1 + 120), .ref (q.2.2.1 + 121), .ref (q.2.2.1 + 122), .ref (q.2.2.1 + 123), .int 0, .ref (q.2.2.1 + 124), .ref (q.2.2.1 + 125), .int 0, .int 0, .ref (q.2.2.1 + 126), .null, .int 0, .null]) (v := .ref (q.2.2.1 + 127)) B (by decide) (by first | rfl | exact h0) rfl i_Mo t_Mo_ok n_Mo (by decide) fl_Mo_71 rfl rfl rfl (Nat.le_of_ble_eq_true rfl) d_Mo_init_169 ?_
  refine n_aload B 0 d_Mo_init_172 rfl ?_
  refine n_bipush (v := 8) B d_Mo_init_173 (by decide +kernel) ?_
  refine n_newa (N := 8) (j := 0) (ty := .int) B rfl (by decide) wa_int d_Mo_init_175 (by decide +kernel) (by decide +kernel) (by decide) (by decide) (by decide) ?_
  refine n_putF (i := 106) (ci := 7) (N := 31) (j := 30) (T := F_Mo) (ty := t_Mo) (fs := [.int 0, .ref (q.2.2.1 + 107), .int 0, .int 0, .ref (q.2.2.1 + 108), .ref (q.2.2.1 + 109), .ref (q.2.2.1 + 110), .ref (q.2.2.1 + 111), .ref (q.2.2.1 + 112), .ref (q.2.2.1 + 113), .ref (q.2.2.1 + 114), .ref (q.2.2.1 + 115), .ref (q.2.2.1 + 116), .ref (q.2.2.1 + 117), .ref (q.2.2.1 + 118), .int 0, .int 0, .ref (q.2.2.1 + 119), .ref (q.2.2.1 + 120), .ref (q.2.2.1 + 121), .ref (q.2.2.1 + 122), .ref (q.2.2.1 + 123), .int 0, .ref (q.2.2.1 + 124), .ref (q.2.2.1 + 125), .int 0, .int 0, .ref (q.2.2.1 + 126), .ref (q.2.2.1 + 127), .int 0, .null]) (v := .ref (q.2.2.1 + 128)) B (by decide) (by first | rfl | exact h0) rfl i_Mo t_Mo_ok n_Mo (by decide) fl_Mo_74 rfl rfl rfl (Nat.le_of_ble_eq_true rfl) d_Mo_init_177 ?_
  exact Rt _ _ d_Mo_init_180
