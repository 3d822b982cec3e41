theorem ly_0 : layT[0]? = some (12, 11, [some 1, some 4, some 5, some 8, some 11, some 15, some 17, some 18, some 19, none, none]) := rfl
theorem ly_1 : layT[1]? = some (10, 3, [some 2, some 3, none]) := rfl
theorem ly_2 : layT[2]? = some (4, 10, [some 20, some 21, some 22, some 23, some 24, some 25, some 26, some 27, some 28, some 29]) := rfl
theorem ly_3 : layT[3]? = some (1, 10, []) := rfl
theorem ly_4 : layT[4]? = some (3, 4, [some 58, some 70, some 82, some 94]) := rfl
theorem ly_5 : layT[5]? = some (9, 2, [some 6, some 7]) := rfl
theorem ly_6 : layT[6]? = some (4, 10, [some 30, some 31, some 32, some 33, some 34, some 35, some 36, some 37, some 38, some 39]) := rfl
theorem ly_7 : layT[7]? = some (0, 10, []) := rfl
theorem ly_8 : layT[8]? = some (7, 2, [some 9, some 10]) := rfl
theorem ly_9 : layT[9]? = some (5, 10, [some 40, some 41, some 42, some 43, some 44, some 45, some 46, some 47, some 48, some 49]) := rfl
theorem ly_10 : layT[10]? = some (0, 10, []) := rfl
theorem ly_11 : layT[11]? = some (6, 5, [some 12, some 13, some 14, none, none]) := rfl
theorem ly_12 : layT[12]? = some (4, 8, [some 50, some 51, some 52, some 53, some 54, some 55, some 56, some 57]) := rfl
theorem ly_13 : layT[13]? = some (0, 2048, []) := rfl
theorem ly_14 : layT[14]? = some (0, 8, []) := rfl
theorem ly_15 : layT[15]? = some (8, 2, [some 16, none]) := rfl
theorem ly_16 : layT[16]? = some (0, 6, []) := rfl
theorem ly_17 : layT[17]? = some (0, 10, []) := rfl
theorem ly_18 : layT[18]? = some (0, 10, []) := rfl
theorem ly_19 : layT[19]? = some (0, 19, []) := rfl
theorem ly_106 : layT[106]? = some (13, 31, [none, some 107, none, none, some 108, some 109, some 110, some 111, some 112, some 113, some 114, some 115, some 116, some 117, some 118, none, none, some 119, some 120, some 121, some 122, some 123, none, some 124, some 125, none, none, some 126, some 127, none, some 128]) := rfl
theorem ly_107 : layT[107]? = some (0, 6, []) := rfl
theorem ly_108 : layT[108]? = some (1, 10, []) := rfl
theorem ly_109 : layT[109]? = some (0, 100, []) := rfl
theorem ly_110 : layT[110]? = some (0, 10, []) := rfl
theorem ly_111 : layT[111]? = some (0, 4, []) := rfl
theorem ly_112 : layT[112]? = some (0, 80, []) := rfl
theorem ly_113 : layT[113]? = some (0, 80, []) := rfl
theorem ly_114 : layT[114]? = some (0, 80, []) := rfl
theorem ly_115 : layT[115]? = some (0, 80, []) := rfl
theorem ly_116 : layT[116]? = some (0, 80, []) := rfl
theorem ly_117 : layT[117]? = some (1, 80, []) := rfl
theorem ly_118 : layT[118]? = some (0, 80, []) := rfl
theorem ly_119 : layT[119]? = some (0, 10, []) := rfl
theorem ly_120 : layT[120]? = some (0, 10, []) := rfl
theorem ly_121 : layT[121]? = some (0, 10, []) := rfl
theorem ly_122 : layT[122]? = some (0, 10, []) := rfl
theorem ly_123 : layT[123]? = some (0, 10, []) := rfl
theorem ly_124 : layT[124]? = some (0, 10, []) := rfl
theorem ly_125 : layT[125]? = some (0, 10, []) := rfl
theorem ly_126 : layT[126]? = some (0, 64, []) := rfl
theorem ly_127 : layT[127]? = some (0, 2048, []) := rfl
theorem ly_128 : layT[128]? = some (0, 8, []) := rfl
theorem ly_pl {n : Nat} (h : n < 10) : layT[20 + n]? = some (0, 10, []) := by
  rcases (by omega : n = 0 ∨ n = 1 ∨ n = 2 ∨ n = 3 ∨ n = 4 ∨ n = 5 ∨ n = 6 ∨ n = 7 ∨ n = 8 ∨ n = 9) with rfl | rfl | rfl | rfl | rfl | rfl | rfl | rfl | rfl | rfl <;> rfl
theorem ly_ap {n : Nat} (h : n < 10) : layT[30 + n]? = some (0, 10, []) := by
  rcases (by omega : n = 0 ∨ n = 1 ∨ n = 2 ∨ n = 3 ∨ n = 4 ∨ n = 5 ∨ n = 6 ∨ n = 7 ∨ n = 8 ∨ n = 9) with rfl | rfl | rfl | rfl | rfl | rfl | rfl | rfl | rfl | rfl <;> rfl
theorem ly_ke {n : Nat} (h : n < 10) : layT[40 + n]? = some (2, 10, []) := by
  rcases (by omega : n = 0 ∨ n = 1 ∨ n = 2 ∨ n = 3 ∨ n = 4 ∨ n = 5 ∨ n = 6 ∨ n = 7 ∨ n = 8 ∨ n = 9) with rfl | rfl | rfl | rfl | rfl | rfl | rfl | rfl | rfl | rfl <;> rfl
theorem ly_wo {n : Nat} (h : n < 8) : layT[50 + n]? = some (0, 8, []) := by
  rcases (by omega : n = 0 ∨ n = 1 ∨ n = 2 ∨ n = 3 ∨ n = 4 ∨ n = 5 ∨ n = 6 ∨ n = 7) with rfl | rfl | rfl | rfl | rfl | rfl | rfl | rfl <;> rfl
abbrev tI (t : Nat) : Nat := 58 + 12 * t
theorem ly_T {t : Nat} (h : t < 4) : layT[tI t]? = some (11, 14, [some (tI t + 1), some (tI t + 2), some (tI t + 3), some (tI t + 4), some (tI t + 5), some (tI t + 6), some (tI t + 7), some (tI t + 8), some (tI t + 9), some (tI t + 10), some (tI t + 11), none, none, none]) := by
  rcases (by omega : t = 0 ∨ t = 1 ∨ t = 2 ∨ t = 3) with rfl | rfl | rfl | rfl <;> rfl
theorem ly_T_left {t : Nat} (h : t < 4) : layT[tI t + 1]? = some (0, 19, []) := by
  rcases (by omega : t = 0 ∨ t = 1 ∨ t = 2 ∨ t = 3) with rfl | rfl | rfl | rfl <;> rfl
theorem ly_T_right {t : Nat} (h : t < 4) : layT[tI t + 2]? = some (0, 19, []) := by
  rcases (by omega : t = 0 ∨ t = 1 ∨ t = 2 ∨ t = 3) with rfl | rfl | rfl | rfl <;> rfl
theorem ly_T_above {t : Nat} (h : t < 4) : layT[tI t + 3]? = some (0, 19, []) := by
  rcases (by omega : t = 0 ∨ t = 1 ∨ t = 2 ∨ t = 3) with rfl | rfl | rfl | rfl <;> rfl
theorem ly_T_height {t : Nat} (h : t < 4) : layT[tI t + 4]? = some (0, 19, []) := by
  rcases (by omega : t = 0 ∨ t = 1 ∨ t = 2 ∨ t = 3) with rfl | rfl | rfl | rfl <;> rfl
theorem ly_T_size {t : Nat} (h : t < 4) : layT[tI t + 5]? = some (0, 19, []) := by
  rcases (by omega : t = 0 ∨ t = 1 ∨ t = 2 ∨ t = 3) with rfl | rfl | rfl | rfl <;> rfl
theorem ly_T_leafSet {t : Nat} (h : t < 4) : layT[tI t + 6]? = some (0, 19, []) := by
  rcases (by omega : t = 0 ∨ t = 1 ∨ t = 2 ∨ t = 3) with rfl | rfl | rfl | rfl <;> rfl
theorem ly_T_turned {t : Nat} (h : t < 4) : layT[tI t + 7]? = some (0, 19, []) := by
  rcases (by omega : t = 0 ∨ t = 1 ∨ t = 2 ∨ t = 3) with rfl | rfl | rfl | rfl <;> rfl
theorem ly_T_held {t : Nat} (h : t < 4) : layT[tI t + 8]? = some (1, 19, []) := by
  rcases (by omega : t = 0 ∨ t = 1 ∨ t = 2 ∨ t = 3) with rfl | rfl | rfl | rfl <;> rfl
theorem ly_T_start {t : Nat} (h : t < 4) : layT[tI t + 9]? = some (0, 19, []) := by
  rcases (by omega : t = 0 ∨ t = 1 ∨ t = 2 ∨ t = 3) with rfl | rfl | rfl | rfl <;> rfl
theorem ly_T_leafAt {t : Nat} (h : t < 4) : layT[tI t + 10]? = some (0, 10, []) := by
  rcases (by omega : t = 0 ∨ t = 1 ∨ t = 2 ∨ t = 3) with rfl | rfl | rfl | rfl <;> rfl
theorem ly_T_holder {t : Nat} (h : t < 4) : layT[tI t + 11]? = some (0, 19, []) := by
  rcases (by omega : t = 0 ∨ t = 1 ∨ t = 2 ∨ t = 3) with rfl | rfl | rfl | rfl <;> rfl
section AFD
variable {g : GG} {K : AK} {cc : ByteArray} {nL : Nat} {own : String} {d : Nat} {pc : Nat} {lv : LV} {st : List AV} {σ : AH}
theorem gf_Ax_worths (B : Cx g K cc nL own d) {idx : Nat} (dg : decode cc pc = .ok (.getfield idx, 3)) (hl : Cond.fieldLink own idx R_Ax "worths" "[[I" ∈ lw_tbl) (k : AW g K nL (pc + 3) lv (rV 12 :: st) σ) : AW g K nL pc lv (rV (11) :: st) σ := a_get (ci := 0) (j := 0) (C := R_Ax) (T := F_Ax) (N := 5) B ly_11 rfl i_Ax (by decide) rfl hl rfl dg _ rfl k
theorem gf_Ax_greatest (B : Cx g K cc nL own d) {idx : Nat} (dg : decode cc pc = .ok (.getfield idx, 3)) (hl : Cond.fieldLink own idx R_Ax "greatest" "[I" ∈ lw_tbl) (k : AW g K nL (pc + 3) lv (rV 13 :: st) σ) : AW g K nL pc lv (rV (11) :: st) σ := a_get (ci := 0) (j := 1) (C := R_Ax) (T := F_Ax) (N := 5) B ly_11 rfl i_Ax (by decide) rfl hl rfl dg _ rfl k
theorem gf_Ax_laid (B : Cx g K cc nL own d) {idx : Nat} (dg : decode cc pc = .ok (.getfield idx, 3)) (hl : Cond.fieldLink own idx R_Ax "laid" "[I" ∈ lw_tbl) (k : AW g K nL (pc + 3) lv (rV 14 :: st) σ) : AW g K nL pc lv (rV (11) :: st) σ := a_get (ci := 0) (j := 2) (C := R_Ax) (T := F_Ax) (N := 5) B ly_11 rfl i_Ax (by decide) rfl hl rfl dg _ rfl k
theorem gf_Ax_axisCount (B : Cx g K cc nL own d) {idx : Nat} (dg : decode cc pc = .ok (.getfield idx, 3)) (hl : Cond.fieldLink own idx R_Ax "axisCount" "I" ∈ lw_tbl) (k : AW g K nL (pc + 3) lv (iV (σ.1 (11) 3) :: st) σ) : AW g K nL pc lv (rV (11) :: st) σ := a_get (ci := 0) (j := 3) (C := R_Ax) (T := F_Ax) (N := 5) B ly_11 rfl i_Ax (by decide) rfl hl rfl dg _ rfl k
theorem pf_Ax_axisCount (B : Cx g K cc nL own d) {idx : Nat} {x : Int32} (dg : decode cc pc = .ok (.putfield idx, 3)) (hl : Cond.fieldLink own idx R_Ax "axisCount" "I" ∈ lw_tbl) (k : AW g K nL (pc + 3) lv st (up1 σ (11) (upd (σ.1 (11)) 3 x))) : AW g K nL pc lv (iV x :: rV (11) :: st) σ := a_put (ci := 0) (j := 3) (C := R_Ax) (T := F_Ax) (N := 5) (ty0 := t_Ax) B ly_11 rfl i_Ax t_Ax_ok n_Ax (by decide) rfl hl rfl rfl rfl rfl dg k
theorem gf_Ax_laidCount (B : Cx g K cc nL own d) {idx : Nat} (dg : decode cc pc = .ok (.getfield idx, 3)) (hl : Cond.fieldLink own idx R_Ax "laidCount" "I" ∈ lw_tbl) (k : AW g K nL (pc + 3) lv (iV (σ.1 (11) 4) :: st) σ) : AW g K nL pc lv (rV (11) :: st) σ := a_get (ci := 0) (j := 4) (C := R_Ax) (T := F_Ax) (N := 5) B ly_11 rfl i_Ax (by decide) rfl hl rfl dg _ rfl k
theorem pf_Ax_laidCount (B : Cx g K cc nL own d) {idx : Nat} {x : Int32} (dg : decode cc pc = .ok (.putfield idx, 3)) (hl : Cond.fieldLink own idx R_Ax "laidCount" "I" ∈ lw_tbl) (k : AW g K nL (pc + 3) lv st (up1 σ (11) (upd (σ.1 (11)) 4 x))) : AW g K nL pc lv (iV x :: rV (11) :: st) σ := a_put (ci := 0) (j := 4) (C := R_Ax) (T := F_Ax) (N := 5) (ty0 := t_Ax) B ly_11 rfl i_Ax t_Ax_ok n_Ax (by decide) rfl hl rfl rfl rfl rfl dg k
theorem gf_Bt_keys (B : Cx g K cc nL own d) {idx : Nat} (dg : decode cc pc = .ok (.getfield idx, 3)) (hl : Cond.fieldLink own idx R_Bt "keys" "[[J" ∈ lw_tbl) (k : AW g K nL (pc + 3) lv (rV 9 :: st) σ) : AW g K nL pc lv (rV (8) :: st) σ := a_get (ci := 1) (j := 0) (C := R_Bt) (T := F_Bt) (N := 2) B ly_8 rfl i_Bt (by decide) rfl hl rfl dg _ rfl k
theorem gf_Bt_places (B : Cx g K cc nL own d) {idx : Nat} (dg : decode cc pc = .ok (.getfield idx, 3)) (hl : Cond.fieldLink own idx R_Bt "places" "[I" ∈ lw_tbl) (k : AW g K nL (pc + 3) lv (rV 10 :: st) σ) : AW g K nL pc lv (rV (8) :: st) σ := a_get (ci := 1) (j := 1) (C := R_Bt) (T := F_Bt) (N := 2) B ly_8 rfl i_Bt (by decide) rfl hl rfl dg _ rfl k
theorem gf_Fi_counts (B : Cx g K cc nL own d) {idx : Nat} (dg : decode cc pc = .ok (.getfield idx, 3)) (hl : Cond.fieldLink own idx R_Fi "counts" "[I" ∈ lw_tbl) (k : AW g K nL (pc + 3) lv (rV 16 :: st) σ) : AW g K nL pc lv (rV (15) :: st) σ := a_get (ci := 2) (j := 0) (C := R_Fi) (T := F_Fi) (N := 2) B ly_15 rfl i_Fi (by decide) rfl hl rfl dg _ rfl k
theorem gf_Fi_latest (B : Cx g K cc nL own d) {idx : Nat} (dg : decode cc pc = .ok (.getfield idx, 3)) (hl : Cond.fieldLink own idx R_Fi "latest" "I" ∈ lw_tbl) (k : AW g K nL (pc + 3) lv (iV (σ.1 (15) 1) :: st) σ) : AW g K nL pc lv (rV (15) :: st) σ := a_get (ci := 2) (j := 1) (C := R_Fi) (T := F_Fi) (N := 2) B ly_15 rfl i_Fi (by decide) rfl hl rfl dg _ rfl k
theorem pf_Fi_latest (B : Cx g K cc nL own d) {idx : Nat} {x : Int32} (dg : decode cc pc = .ok (.putfield idx, 3)) (hl : Cond.fieldLink own idx R_Fi "latest" "I" ∈ lw_tbl) (k : AW g K nL (pc + 3) lv st (up1 σ (15) (upd (σ.1 (15)) 1 x))) : AW g K nL pc lv (iV x :: rV (15) :: st) σ := a_put (ci := 2) (j := 1) (C := R_Fi) (T := F_Fi) (N := 2) (ty0 := t_Fi) B ly_15 rfl i_Fi t_Fi_ok n_Fi (by decide) rfl hl rfl rfl rfl rfl dg k
theorem gf_Mk_apart (B : Cx g K cc nL own d) {idx : Nat} (dg : decode cc pc = .ok (.getfield idx, 3)) (hl : Cond.fieldLink own idx R_Mk "apart" "[[I" ∈ lw_tbl) (k : AW g K nL (pc + 3) lv (rV 6 :: st) σ) : AW g K nL pc lv (rV (5) :: st) σ := a_get (ci := 3) (j := 0) (C := R_Mk) (T := F_Mk) (N := 2) B ly_5 rfl i_Mk (by decide) rfl hl rfl dg _ rfl k
theorem gf_Mk_nodeOf (B : Cx g K cc nL own d) {idx : Nat} (dg : decode cc pc = .ok (.getfield idx, 3)) (hl : Cond.fieldLink own idx R_Mk "nodeOf" "[I" ∈ lw_tbl) (k : AW g K nL (pc + 3) lv (rV 7 :: st) σ) : AW g K nL pc lv (rV (5) :: st) σ := a_get (ci := 3) (j := 1) (C := R_Mk) (T := F_Mk) (N := 2) B ly_5 rfl i_Mk (by decide) rfl hl rfl dg _ rfl k
theorem gf_Ro_places (B : Cx g K cc nL own d) {idx : Nat} (dg : decode cc pc = .ok (.getfield idx, 3)) (hl : Cond.fieldLink own idx R_Ro "places" "[[I" ∈ lw_tbl) (k : AW g K nL (pc + 3) lv (rV 2 :: st) σ) : AW g K nL pc lv (rV (1) :: st) σ := a_get (ci := 4) (j := 0) (C := R_Ro) (T := F_Ro) (N := 3) B ly_1 rfl i_Ro (by decide) rfl hl rfl dg _ rfl k
theorem gf_Ro_there (B : Cx g K cc nL own d) {idx : Nat} (dg : decode cc pc = .ok (.getfield idx, 3)) (hl : Cond.fieldLink own idx R_Ro "there" "[Z" ∈ lw_tbl) (k : AW g K nL (pc + 3) lv (rV 3 :: st) σ) : AW g K nL pc lv (rV (1) :: st) σ := a_get (ci := 4) (j := 1) (C := R_Ro) (T := F_Ro) (N := 3) B ly_1 rfl i_Ro (by decide) rfl hl rfl dg _ rfl k
theorem gf_Ro_leafCount (B : Cx g K cc nL own d) {idx : Nat} (dg : decode cc pc = .ok (.getfield idx, 3)) (hl : Cond.fieldLink own idx R_Ro "leafCount" "I" ∈ lw_tbl) (k : AW g K nL (pc + 3) lv (iV (σ.1 (1) 2) :: st) σ) : AW g K nL pc lv (rV (1) :: st) σ := a_get (ci := 4) (j := 2) (C := R_Ro) (T := F_Ro) (N := 3) B ly_1 rfl i_Ro (by decide) rfl hl rfl dg _ rfl k
theorem pf_Ro_leafCount (B : Cx g K cc nL own d) {idx : Nat} {x : Int32} (dg : decode cc pc = .ok (.putfield idx, 3)) (hl : Cond.fieldLink own idx R_Ro "leafCount" "I" ∈ lw_tbl) (k : AW g K nL (pc + 3) lv st (up1 σ (1) (upd (σ.1 (1)) 2 x))) : AW g K nL pc lv (iV x :: rV (1) :: st) σ := a_put (ci := 4) (j := 2) (C := R_Ro) (T := F_Ro) (N := 3) (ty0 := t_Ro) B ly_1 rfl i_Ro t_Ro_ok n_Ro (by decide) rfl hl rfl rfl rfl rfl dg k
theorem gf_Tr_left (B : Cx g K cc nL own d) {idx : Nat} {t : Nat} (ht : t < 4) (dg : decode cc pc = .ok (.getfield idx, 3)) (hl : Cond.fieldLink own idx R_Tr "left" "[I" ∈ lw_tbl) (k : AW g K nL (pc + 3) lv (rV (tI t + 1) :: st) σ) : AW g K nL pc lv (rV (tI t) :: st) σ := a_get (ci := 5) (j := 0) (C := R_Tr) (T := F_Tr) (N := 14) B (ly_T ht) rfl i_Tr (by decide) rfl hl rfl dg _ rfl k
theorem gf_Tr_right (B : Cx g K cc nL own d) {idx : Nat} {t : Nat} (ht : t < 4) (dg : decode cc pc = .ok (.getfield idx, 3)) (hl : Cond.fieldLink own idx R_Tr "right" "[I" ∈ lw_tbl) (k : AW g K nL (pc + 3) lv (rV (tI t + 2) :: st) σ) : AW g K nL pc lv (rV (tI t) :: st) σ := a_get (ci := 5) (j := 1) (C := R_Tr) (T := F_Tr) (N := 14) B (ly_T ht) rfl i_Tr (by decide) rfl hl rfl dg _ rfl k
theorem gf_Tr_above (B : Cx g K cc nL own d) {idx : Nat} {t : Nat} (ht : t < 4) (dg : decode cc pc = .ok (.getfield idx, 3)) (hl : Cond.fieldLink own idx R_Tr "above" "[I" ∈ lw_tbl) (k : AW g K nL (pc + 3) lv (rV (tI t + 3) :: st) σ) : AW g K nL pc lv (rV (tI t) :: st) σ := a_get (ci := 5) (j := 2) (C := R_Tr) (T := F_Tr) (N := 14) B (ly_T ht) rfl i_Tr (by decide) rfl hl rfl dg _ rfl k
theorem gf_Tr_height (B : Cx g K cc nL own d) {idx : Nat} {t : Nat} (ht : t < 4) (dg : decode cc pc = .ok (.getfield idx, 3)) (hl : Cond.fieldLink own idx R_Tr "height" "[I" ∈ lw_tbl) (k : AW g K nL (pc + 3) lv (rV (tI t + 4) :: st) σ) : AW g K nL pc lv (rV (tI t) :: st) σ := a_get (ci := 5) (j := 3) (C := R_Tr) (T := F_Tr) (N := 14) B (ly_T ht) rfl i_Tr (by decide) rfl hl rfl dg _ rfl k
theorem gf_Tr_size (B : Cx g K cc nL own d) {idx : Nat} {t : Nat} (ht : t < 4) (dg : decode cc pc = .ok (.getfield idx, 3)) (hl : Cond.fieldLink own idx R_Tr "size" "[I" ∈ lw_tbl) (k : AW g K nL (pc + 3) lv (rV (tI t + 5) :: st) σ) : AW g K nL pc lv (rV (tI t) :: st) σ := a_get (ci := 5) (j := 4) (C := R_Tr) (T := F_Tr) (N := 14) B (ly_T ht) rfl i_Tr (by decide) rfl hl rfl dg _ rfl k
theorem gf_Tr_leafSet (B : Cx g K cc nL own d) {idx : Nat} {t : Nat} (ht : t < 4) (dg : decode cc pc = .ok (.getfield idx, 3)) (hl : Cond.fieldLink own idx R_Tr "leafSet" "[I" ∈ lw_tbl) (k : AW g K nL (pc + 3) lv (rV (tI t + 6) :: st) σ) : AW g K nL pc lv (rV (tI t) :: st) σ := a_get (ci := 5) (j := 5) (C := R_Tr) (T := F_Tr) (N := 14) B (ly_T ht) rfl i_Tr (by decide) rfl hl rfl dg _ rfl k
theorem gf_Tr_turned (B : Cx g K cc nL own d) {idx : Nat} {t : Nat} (ht : t < 4) (dg : decode cc pc = .ok (.getfield idx, 3)) (hl : Cond.fieldLink own idx R_Tr "turned" "[I" ∈ lw_tbl) (k : AW g K nL (pc + 3) lv (rV (tI t + 7) :: st) σ) : AW g K nL pc lv (rV (tI t) :: st) σ := a_get (ci := 5) (j := 6) (C := R_Tr) (T := F_Tr) (N := 14) B (ly_T ht) rfl i_Tr (by decide) rfl hl rfl dg _ rfl k
theorem gf_Tr_held (B : Cx g K cc nL own d) {idx : Nat} {t : Nat} (ht : t < 4) (dg : decode cc pc = .ok (.getfield idx, 3)) (hl : Cond.fieldLink own idx R_Tr "held" "[Z" ∈ lw_tbl) (k : AW g K nL (pc + 3) lv (rV (tI t + 8) :: st) σ) : AW g K nL pc lv (rV (tI t) :: st) σ := a_get (ci := 5) (j := 7) (C := R_Tr) (T := F_Tr) (N := 14) B (ly_T ht) rfl i_Tr (by decide) rfl hl rfl dg _ rfl k
theorem gf_Tr_start (B : Cx g K cc nL own d) {idx : Nat} {t : Nat} (ht : t < 4) (dg : decode cc pc = .ok (.getfield idx, 3)) (hl : Cond.fieldLink own idx R_Tr "start" "[I" ∈ lw_tbl) (k : AW g K nL (pc + 3) lv (rV (tI t + 9) :: st) σ) : AW g K nL pc lv (rV (tI t) :: st) σ := a_get (ci := 5) (j := 8) (C := R_Tr) (T := F_Tr) (N := 14) B (ly_T ht) rfl i_Tr (by decide) rfl hl rfl dg _ rfl k
theorem gf_Tr_leafAt (B : Cx g K cc nL own d) {idx : Nat} {t : Nat} (ht : t < 4) (dg : decode cc pc = .ok (.getfield idx, 3)) (hl : Cond.fieldLink own idx R_Tr "leafAt" "[I" ∈ lw_tbl) (k : AW g K nL (pc + 3) lv (rV (tI t + 10) :: st) σ) : AW g K nL pc lv (rV (tI t) :: st) σ := a_get (ci := 5) (j := 9) (C := R_Tr) (T := F_Tr) (N := 14) B (ly_T ht) rfl i_Tr (by decide) rfl hl rfl dg _ rfl k
theorem gf_Tr_holder (B : Cx g K cc nL own d) {idx : Nat} {t : Nat} (ht : t < 4) (dg : decode cc pc = .ok (.getfield idx, 3)) (hl : Cond.fieldLink own idx R_Tr "holder" "[I" ∈ lw_tbl) (k : AW g K nL (pc + 3) lv (rV (tI t + 11) :: st) σ) : AW g K nL pc lv (rV (tI t) :: st) σ := a_get (ci := 5) (j := 10) (C := R_Tr) (T := F_Tr) (N := 14) B (ly_T ht) rfl i_Tr (by decide) rfl hl rfl dg _ rfl k
theorem gf_Tr_there (B : Cx g K cc nL own d) {idx : Nat} {t : Nat} (ht : t < 4) (dg : decode cc pc = .ok (.getfield idx, 3)) (hl : Cond.fieldLink own idx R_Tr "there" "Z" ∈ lw_tbl) (k : AW g K nL (pc + 3) lv (iV (σ.1 (tI t) 11) :: st) σ) : AW g K nL pc lv (rV (tI t) :: st) σ := a_get (ci := 5) (j := 11) (C := R_Tr) (T := F_Tr) (N := 14) B (ly_T ht) rfl i_Tr (by decide) rfl hl rfl dg _ rfl k
theorem pf_Tr_there (B : Cx g K cc nL own d) {idx : Nat} {t : Nat} (ht : t < 4) {x : Int32} (hz : x = 0 ∨ x = 1) (dg : decode cc pc = .ok (.putfield idx, 3)) (hl : Cond.fieldLink own idx R_Tr "there" "Z" ∈ lw_tbl) (k : AW g K nL (pc + 3) lv st (up1 σ (tI t) (upd (σ.1 (tI t)) 11 x))) : AW g K nL pc lv (iV x :: rV (tI t) :: st) σ := by
  rcases hz with rfl | rfl
  · exact a_put (ci := 5) (j := 11) (C := R_Tr) (T := F_Tr) (N := 14) (ty0 := t_Tr) B (ly_T ht) rfl i_Tr t_Tr_ok n_Tr (by decide) rfl hl rfl rfl rfl rfl dg k
  · exact a_put (ci := 5) (j := 11) (C := R_Tr) (T := F_Tr) (N := 14) (ty0 := t_Tr) B (ly_T ht) rfl i_Tr t_Tr_ok n_Tr (by decide) rfl hl rfl rfl rfl rfl dg k
theorem gf_Tr_leafCount (B : Cx g K cc nL own d) {idx : Nat} {t : Nat} (ht : t < 4) (dg : decode cc pc = .ok (.getfield idx, 3)) (hl : Cond.fieldLink own idx R_Tr "leafCount" "I" ∈ lw_tbl) (k : AW g K nL (pc + 3) lv (iV (σ.1 (tI t) 12) :: st) σ) : AW g K nL pc lv (rV (tI t) :: st) σ := a_get (ci := 5) (j := 12) (C := R_Tr) (T := F_Tr) (N := 14) B (ly_T ht) rfl i_Tr (by decide) rfl hl rfl dg _ rfl k
theorem pf_Tr_leafCount (B : Cx g K cc nL own d) {idx : Nat} {t : Nat} (ht : t < 4) {x : Int32} (dg : decode cc pc = .ok (.putfield idx, 3)) (hl : Cond.fieldLink own idx R_Tr "leafCount" "I" ∈ lw_tbl) (k : AW g K nL (pc + 3) lv st (up1 σ (tI t) (upd (σ.1 (tI t)) 12 x))) : AW g K nL pc lv (iV x :: rV (tI t) :: st) σ := a_put (ci := 5) (j := 12) (C := R_Tr) (T := F_Tr) (N := 14) (ty0 := t_Tr) B (ly_T ht) rfl i_Tr t_Tr_ok n_Tr (by decide) rfl hl rfl rfl rfl rfl dg k
theorem gf_Tr_nodeCount (B : Cx g K cc nL own d) {idx : Nat} {t : Nat} (ht : t < 4) (dg : decode cc pc = .ok (.getfield idx, 3)) (hl : Cond.fieldLink own idx R_Tr "nodeCount" "I" ∈ lw_tbl) (k : AW g K nL (pc + 3) lv (iV (σ.1 (tI t) 13) :: st) σ) : AW g K nL pc lv (rV (tI t) :: st) σ := a_get (ci := 5) (j := 13) (C := R_Tr) (T := F_Tr) (N := 14) B (ly_T ht) rfl i_Tr (by decide) rfl hl rfl dg _ rfl k
theorem pf_Tr_nodeCount (B : Cx g K cc nL own d) {idx : Nat} {t : Nat} (ht : t < 4) {x : Int32} (dg : decode cc pc = .ok (.putfield idx, 3)) (hl : Cond.fieldLink own idx R_Tr "nodeCount" "I" ∈ lw_tbl) (k : AW g K nL (pc + 3) lv st (up1 σ (tI t) (upd (σ.1 (tI t)) 13 x))) : AW g K nL pc lv (iV x :: rV (tI t) :: st) σ := a_put (ci := 5) (j := 13) (C := R_Tr) (T := F_Tr) (N := 14) (ty0 := t_Tr) B (ly_T ht) rfl i_Tr t_Tr_ok n_Tr (by decide) rfl hl rfl rfl rfl rfl dg k
theorem gf_Lo_rows (B : Cx g K cc nL own d) {idx : Nat} (dg : decode cc pc = .ok (.getfield idx, 3)) (hl : Cond.fieldLink own idx R_Lo "rows" "LLeafOrder$Rows;" ∈ lw_tbl) (k : AW g K nL (pc + 3) lv (rV 1 :: st) σ) : AW g K nL pc lv (rV (0) :: st) σ := a_get (ci := 6) (j := 0) (C := R_Lo) (T := F_Lo) (N := 11) B ly_0 rfl i_Lo (by decide) rfl hl rfl dg _ rfl k
theorem gf_Lo_trees (B : Cx g K cc nL own d) {idx : Nat} (dg : decode cc pc = .ok (.getfield idx, 3)) (hl : Cond.fieldLink own idx R_Lo "trees" "[LLeafOrder$Tree;" ∈ lw_tbl) (k : AW g K nL (pc + 3) lv (rV 4 :: st) σ) : AW g K nL pc lv (rV (0) :: st) σ := a_get (ci := 6) (j := 1) (C := R_Lo) (T := F_Lo) (N := 11) B ly_0 rfl i_Lo (by decide) rfl hl rfl dg _ rfl k
theorem gf_Lo_maker (B : Cx g K cc nL own d) {idx : Nat} (dg : decode cc pc = .ok (.getfield idx, 3)) (hl : Cond.fieldLink own idx R_Lo "maker" "LLeafOrder$Maker;" ∈ lw_tbl) (k : AW g K nL (pc + 3) lv (rV 5 :: st) σ) : AW g K nL pc lv (rV (0) :: st) σ := a_get (ci := 6) (j := 2) (C := R_Lo) (T := F_Lo) (N := 11) B ly_0 rfl i_Lo (by decide) rfl hl rfl dg _ rfl k
theorem gf_Lo_bestTurns (B : Cx g K cc nL own d) {idx : Nat} (dg : decode cc pc = .ok (.getfield idx, 3)) (hl : Cond.fieldLink own idx R_Lo "bestTurns" "LLeafOrder$BestTurns;" ∈ lw_tbl) (k : AW g K nL (pc + 3) lv (rV 8 :: st) σ) : AW g K nL pc lv (rV (0) :: st) σ := a_get (ci := 6) (j := 3) (C := R_Lo) (T := F_Lo) (N := 11) B ly_0 rfl i_Lo (by decide) rfl hl rfl dg _ rfl k
theorem gf_Lo_axesLaid (B : Cx g K cc nL own d) {idx : Nat} (dg : decode cc pc = .ok (.getfield idx, 3)) (hl : Cond.fieldLink own idx R_Lo "axesLaid" "LLeafOrder$Axes;" ∈ lw_tbl) (k : AW g K nL (pc + 3) lv (rV 11 :: st) σ) : AW g K nL pc lv (rV (0) :: st) σ := a_get (ci := 6) (j := 4) (C := R_Lo) (T := F_Lo) (N := 11) B ly_0 rfl i_Lo (by decide) rfl hl rfl dg _ rfl k
theorem gf_Lo_found (B : Cx g K cc nL own d) {idx : Nat} (dg : decode cc pc = .ok (.getfield idx, 3)) (hl : Cond.fieldLink own idx R_Lo "found" "LLeafOrder$Findings;" ∈ lw_tbl) (k : AW g K nL (pc + 3) lv (rV 15 :: st) σ) : AW g K nL pc lv (rV (0) :: st) σ := a_get (ci := 6) (j := 5) (C := R_Lo) (T := F_Lo) (N := 11) B ly_0 rfl i_Lo (by decide) rfl hl rfl dg _ rfl k
theorem gf_Lo_groups (B : Cx g K cc nL own d) {idx : Nat} (dg : decode cc pc = .ok (.getfield idx, 3)) (hl : Cond.fieldLink own idx R_Lo "groups" "[I" ∈ lw_tbl) (k : AW g K nL (pc + 3) lv (rV 17 :: st) σ) : AW g K nL pc lv (rV (0) :: st) σ := a_get (ci := 6) (j := 6) (C := R_Lo) (T := F_Lo) (N := 11) B ly_0 rfl i_Lo (by decide) rfl hl rfl dg _ rfl k
theorem gf_Lo_keptPlaces (B : Cx g K cc nL own d) {idx : Nat} (dg : decode cc pc = .ok (.getfield idx, 3)) (hl : Cond.fieldLink own idx R_Lo "keptPlaces" "[I" ∈ lw_tbl) (k : AW g K nL (pc + 3) lv (rV 18 :: st) σ) : AW g K nL pc lv (rV (0) :: st) σ := a_get (ci := 6) (j := 7) (C := R_Lo) (T := F_Lo) (N := 11) B ly_0 rfl i_Lo (by decide) rfl hl rfl dg _ rfl k
theorem gf_Lo_triedStarts (B : Cx g K cc nL own d) {idx : Nat} (dg : decode cc pc = .ok (.getfield idx, 3)) (hl : Cond.fieldLink own idx R_Lo "triedStarts" "[I" ∈ lw_tbl) (k : AW g K nL (pc + 3) lv (rV 19 :: st) σ) : AW g K nL pc lv (rV (0) :: st) σ := a_get (ci := 6) (j := 8) (C := R_Lo) (T := F_Lo) (N := 11) B ly_0 rfl i_Lo (by decide) rfl hl rfl dg _ rfl k
theorem gf_Lo_keptCount (B : Cx g K cc nL own d) {idx : Nat} (dg : decode cc pc = .ok (.getfield idx, 3)) (hl : Cond.fieldLink own idx R_Lo "keptCount" "I" ∈ lw_tbl) (k : AW g K nL (pc + 3) lv (iV (σ.1 (0) 9) :: st) σ) : AW g K nL pc lv (rV (0) :: st) σ := a_get (ci := 6) (j := 9) (C := R_Lo) (T := F_Lo) (N := 11) B ly_0 rfl i_Lo (by decide) rfl hl rfl dg _ rfl k
theorem pf_Lo_keptCount (B : Cx g K cc nL own d) {idx : Nat} {x : Int32} (dg : decode cc pc = .ok (.putfield idx, 3)) (hl : Cond.fieldLink own idx R_Lo "keptCount" "I" ∈ lw_tbl) (k : AW g K nL (pc + 3) lv st (up1 σ (0) (upd (σ.1 (0)) 9 x))) : AW g K nL pc lv (iV x :: rV (0) :: st) σ := a_put (ci := 6) (j := 9) (C := R_Lo) (T := F_Lo) (N := 11) (ty0 := t_Lo) B ly_0 rfl i_Lo t_Lo_ok n_Lo (by decide) rfl hl rfl rfl rfl rfl dg k
theorem gf_Lo_latestAsked (B : Cx g K cc nL own d) {idx : Nat} (dg : decode cc pc = .ok (.getfield idx, 3)) (hl : Cond.fieldLink own idx R_Lo "latestAsked" "I" ∈ lw_tbl) (k : AW g K nL (pc + 3) lv (iV (σ.1 (0) 10) :: st) σ) : AW g K nL pc lv (rV (0) :: st) σ := a_get (ci := 6) (j := 10) (C := R_Lo) (T := F_Lo) (N := 11) B ly_0 rfl i_Lo (by decide) rfl hl rfl dg _ rfl k
theorem pf_Lo_latestAsked (B : Cx g K cc nL own d) {idx : Nat} {x : Int32} (dg : decode cc pc = .ok (.putfield idx, 3)) (hl : Cond.fieldLink own idx R_Lo "latestAsked" "I" ∈ lw_tbl) (k : AW g K nL (pc + 3) lv st (up1 σ (0) (upd (σ.1 (0)) 10 x))) : AW g K nL pc lv (iV x :: rV (0) :: st) σ := a_put (ci := 6) (j := 10) (C := R_Lo) (T := F_Lo) (N := 11) (ty0 := t_Lo) B ly_0 rfl i_Lo t_Lo_ok n_Lo (by decide) rfl hl rfl rfl rfl rfl dg k
theorem gf_Mo_finding (B : Cx g K cc nL own d) {idx : Nat} (dg : decode cc pc = .ok (.getfield idx, 3)) (hl : Cond.fieldLink own idx R_Mo "finding" "I" ∈ lw_tbl) (k : AW g K nL (pc + 3) lv (iV (σ.1 (106) 0) :: st) σ) : AW g K nL pc lv (rV (106) :: st) σ := a_get (ci := 7) (j := 0) (C := R_Mo) (T := F_Mo) (N := 31) B ly_106 rfl i_Mo (by decide) rfl hl rfl dg _ rfl k
theorem pf_Mo_finding (B : Cx g K cc nL own d) {idx : Nat} {x : Int32} (dg : decode cc pc = .ok (.putfield idx, 3)) (hl : Cond.fieldLink own idx R_Mo "finding" "I" ∈ lw_tbl) (k : AW g K nL (pc + 3) lv st (up1 σ (106) (upd (σ.1 (106)) 0 x))) : AW g K nL pc lv (iV x :: rV (106) :: st) σ := a_put (ci := 7) (j := 0) (C := R_Mo) (T := F_Mo) (N := 31) (ty0 := t_Mo) B ly_106 rfl i_Mo t_Mo_ok n_Mo (by decide) rfl hl rfl rfl rfl rfl dg k
theorem gf_Mo_findings (B : Cx g K cc nL own d) {idx : Nat} (dg : decode cc pc = .ok (.getfield idx, 3)) (hl : Cond.fieldLink own idx R_Mo "findings" "[I" ∈ lw_tbl) (k : AW g K nL (pc + 3) lv (rV 107 :: st) σ) : AW g K nL pc lv (rV (106) :: st) σ := a_get (ci := 7) (j := 1) (C := R_Mo) (T := F_Mo) (N := 31) B ly_106 rfl i_Mo (by decide) rfl hl rfl dg _ rfl k
theorem gf_Mo_asked (B : Cx g K cc nL own d) {idx : Nat} (dg : decode cc pc = .ok (.getfield idx, 3)) (hl : Cond.fieldLink own idx R_Mo "asked" "I" ∈ lw_tbl) (k : AW g K nL (pc + 3) lv (iV (σ.1 (106) 2) :: st) σ) : AW g K nL pc lv (rV (106) :: st) σ := a_get (ci := 7) (j := 2) (C := R_Mo) (T := F_Mo) (N := 31) B ly_106 rfl i_Mo (by decide) rfl hl rfl dg _ rfl k
theorem pf_Mo_asked (B : Cx g K cc nL own d) {idx : Nat} {x : Int32} (dg : decode cc pc = .ok (.putfield idx, 3)) (hl : Cond.fieldLink own idx R_Mo "asked" "I" ∈ lw_tbl) (k : AW g K nL (pc + 3) lv st (up1 σ (106) (upd (σ.1 (106)) 2 x))) : AW g K nL pc lv (iV x :: rV (106) :: st) σ := a_put (ci := 7) (j := 2) (C := R_Mo) (T := F_Mo) (N := 31) (ty0 := t_Mo) B ly_106 rfl i_Mo t_Mo_ok n_Mo (by decide) rfl hl rfl rfl rfl rfl dg k
theorem gf_Mo_leaves (B : Cx g K cc nL own d) {idx : Nat} (dg : decode cc pc = .ok (.getfield idx, 3)) (hl : Cond.fieldLink own idx R_Mo "leaves" "I" ∈ lw_tbl) (k : AW g K nL (pc + 3) lv (iV (σ.1 (106) 3) :: st) σ) : AW g K nL pc lv (rV (106) :: st) σ := a_get (ci := 7) (j := 3) (C := R_Mo) (T := F_Mo) (N := 31) B ly_106 rfl i_Mo (by decide) rfl hl rfl dg _ rfl k
theorem pf_Mo_leaves (B : Cx g K cc nL own d) {idx : Nat} {x : Int32} (dg : decode cc pc = .ok (.putfield idx, 3)) (hl : Cond.fieldLink own idx R_Mo "leaves" "I" ∈ lw_tbl) (k : AW g K nL (pc + 3) lv st (up1 σ (106) (upd (σ.1 (106)) 3 x))) : AW g K nL pc lv (iV x :: rV (106) :: st) σ := a_put (ci := 7) (j := 3) (C := R_Mo) (T := F_Mo) (N := 31) (ty0 := t_Mo) B ly_106 rfl i_Mo t_Mo_ok n_Mo (by decide) rfl hl rfl rfl rfl rfl dg k
theorem gf_Mo_isRow (B : Cx g K cc nL own d) {idx : Nat} (dg : decode cc pc = .ok (.getfield idx, 3)) (hl : Cond.fieldLink own idx R_Mo "isRow" "[Z" ∈ lw_tbl) (k : AW g K nL (pc + 3) lv (rV 108 :: st) σ) : AW g K nL pc lv (rV (106) :: st) σ := a_get (ci := 7) (j := 4) (C := R_Mo) (T := F_Mo) (N := 31) B ly_106 rfl i_Mo (by decide) rfl hl rfl dg _ rfl k
theorem gf_Mo_rows (B : Cx g K cc nL own d) {idx : Nat} (dg : decode cc pc = .ok (.getfield idx, 3)) (hl : Cond.fieldLink own idx R_Mo "rows" "[I" ∈ lw_tbl) (k : AW g K nL (pc + 3) lv (rV 109 :: st) σ) : AW g K nL pc lv (rV (106) :: st) σ := a_get (ci := 7) (j := 5) (C := R_Mo) (T := F_Mo) (N := 31) B ly_106 rfl i_Mo (by decide) rfl hl rfl dg _ rfl k
theorem gf_Mo_moving (B : Cx g K cc nL own d) {idx : Nat} (dg : decode cc pc = .ok (.getfield idx, 3)) (hl : Cond.fieldLink own idx R_Mo "moving" "[I" ∈ lw_tbl) (k : AW g K nL (pc + 3) lv (rV 110 :: st) σ) : AW g K nL pc lv (rV (106) :: st) σ := a_get (ci := 7) (j := 6) (C := R_Mo) (T := F_Mo) (N := 31) B ly_106 rfl i_Mo (by decide) rfl hl rfl dg _ rfl k
theorem gf_Mo_sizes (B : Cx g K cc nL own d) {idx : Nat} (dg : decode cc pc = .ok (.getfield idx, 3)) (hl : Cond.fieldLink own idx R_Mo "sizes" "[I" ∈ lw_tbl) (k : AW g K nL (pc + 3) lv (rV 111 :: st) σ) : AW g K nL pc lv (rV (106) :: st) σ := a_get (ci := 7) (j := 7) (C := R_Mo) (T := F_Mo) (N := 31) B ly_106 rfl i_Mo (by decide) rfl hl rfl dg _ rfl k
theorem gf_Mo_firsts (B : Cx g K cc nL own d) {idx : Nat} (dg : decode cc pc = .ok (.getfield idx, 3)) (hl : Cond.fieldLink own idx R_Mo "firsts" "[I" ∈ lw_tbl) (k : AW g K nL (pc + 3) lv (rV 112 :: st) σ) : AW g K nL pc lv (rV (106) :: st) σ := a_get (ci := 7) (j := 8) (C := R_Mo) (T := F_Mo) (N := 31) B ly_106 rfl i_Mo (by decide) rfl hl rfl dg _ rfl k
theorem gf_Mo_others (B : Cx g K cc nL own d) {idx : Nat} (dg : decode cc pc = .ok (.getfield idx, 3)) (hl : Cond.fieldLink own idx R_Mo "others" "[I" ∈ lw_tbl) (k : AW g K nL (pc + 3) lv (rV 113 :: st) σ) : AW g K nL pc lv (rV (106) :: st) σ := a_get (ci := 7) (j := 9) (C := R_Mo) (T := F_Mo) (N := 31) B ly_106 rfl i_Mo (by decide) rfl hl rfl dg _ rfl k
theorem gf_Mo_ups (B : Cx g K cc nL own d) {idx : Nat} (dg : decode cc pc = .ok (.getfield idx, 3)) (hl : Cond.fieldLink own idx R_Mo "ups" "[I" ∈ lw_tbl) (k : AW g K nL (pc + 3) lv (rV 114 :: st) σ) : AW g K nL pc lv (rV (106) :: st) σ := a_get (ci := 7) (j := 10) (C := R_Mo) (T := F_Mo) (N := 31) B ly_106 rfl i_Mo (by decide) rfl hl rfl dg _ rfl k
theorem gf_Mo_heights (B : Cx g K cc nL own d) {idx : Nat} (dg : decode cc pc = .ok (.getfield idx, 3)) (hl : Cond.fieldLink own idx R_Mo "heights" "[I" ∈ lw_tbl) (k : AW g K nL (pc + 3) lv (rV 115 :: st) σ) : AW g K nL pc lv (rV (106) :: st) σ := a_get (ci := 7) (j := 11) (C := R_Mo) (T := F_Mo) (N := 31) B ly_106 rfl i_Mo (by decide) rfl hl rfl dg _ rfl k
theorem gf_Mo_turned (B : Cx g K cc nL own d) {idx : Nat} (dg : decode cc pc = .ok (.getfield idx, 3)) (hl : Cond.fieldLink own idx R_Mo "turned" "[I" ∈ lw_tbl) (k : AW g K nL (pc + 3) lv (rV 116 :: st) σ) : AW g K nL pc lv (rV (106) :: st) σ := a_get (ci := 7) (j := 12) (C := R_Mo) (T := F_Mo) (N := 31) B ly_106 rfl i_Mo (by decide) rfl hl rfl dg _ rfl k
theorem gf_Mo_isHeld (B : Cx g K cc nL own d) {idx : Nat} (dg : decode cc pc = .ok (.getfield idx, 3)) (hl : Cond.fieldLink own idx R_Mo "isHeld" "[Z" ∈ lw_tbl) (k : AW g K nL (pc + 3) lv (rV 117 :: st) σ) : AW g K nL pc lv (rV (106) :: st) σ := a_get (ci := 7) (j := 13) (C := R_Mo) (T := F_Mo) (N := 31) B ly_106 rfl i_Mo (by decide) rfl hl rfl dg _ rfl k
theorem gf_Mo_below (B : Cx g K cc nL own d) {idx : Nat} (dg : decode cc pc = .ok (.getfield idx, 3)) (hl : Cond.fieldLink own idx R_Mo "below" "[I" ∈ lw_tbl) (k : AW g K nL (pc + 3) lv (rV 118 :: st) σ) : AW g K nL pc lv (rV (106) :: st) σ := a_get (ci := 7) (j := 14) (C := R_Mo) (T := F_Mo) (N := 31) B ly_106 rfl i_Mo (by decide) rfl hl rfl dg _ rfl k
theorem gf_Mo_farUp (B : Cx g K cc nL own d) {idx : Nat} (dg : decode cc pc = .ok (.getfield idx, 3)) (hl : Cond.fieldLink own idx R_Mo "farUp" "I" ∈ lw_tbl) (k : AW g K nL (pc + 3) lv (iV (σ.1 (106) 15) :: st) σ) : AW g K nL pc lv (rV (106) :: st) σ := a_get (ci := 7) (j := 15) (C := R_Mo) (T := F_Mo) (N := 31) B ly_106 rfl i_Mo (by decide) rfl hl rfl dg _ rfl k
theorem pf_Mo_farUp (B : Cx g K cc nL own d) {idx : Nat} {x : Int32} (dg : decode cc pc = .ok (.putfield idx, 3)) (hl : Cond.fieldLink own idx R_Mo "farUp" "I" ∈ lw_tbl) (k : AW g K nL (pc + 3) lv st (up1 σ (106) (upd (σ.1 (106)) 15 x))) : AW g K nL pc lv (iV x :: rV (106) :: st) σ := a_put (ci := 7) (j := 15) (C := R_Mo) (T := F_Mo) (N := 31) (ty0 := t_Mo) B ly_106 rfl i_Mo t_Mo_ok n_Mo (by decide) rfl hl rfl rfl rfl rfl dg k
theorem gf_Mo_farLow (B : Cx g K cc nL own d) {idx : Nat} (dg : decode cc pc = .ok (.getfield idx, 3)) (hl : Cond.fieldLink own idx R_Mo "farLow" "I" ∈ lw_tbl) (k : AW g K nL (pc + 3) lv (iV (σ.1 (106) 16) :: st) σ) : AW g K nL pc lv (rV (106) :: st) σ := a_get (ci := 7) (j := 16) (C := R_Mo) (T := F_Mo) (N := 31) B ly_106 rfl i_Mo (by decide) rfl hl rfl dg _ rfl k
theorem pf_Mo_farLow (B : Cx g K cc nL own d) {idx : Nat} {x : Int32} (dg : decode cc pc = .ok (.putfield idx, 3)) (hl : Cond.fieldLink own idx R_Mo "farLow" "I" ∈ lw_tbl) (k : AW g K nL (pc + 3) lv st (up1 σ (106) (upd (σ.1 (106)) 16 x))) : AW g K nL pc lv (iV x :: rV (106) :: st) σ := a_put (ci := 7) (j := 16) (C := R_Mo) (T := F_Mo) (N := 31) (ty0 := t_Mo) B ly_106 rfl i_Mo t_Mo_ok n_Mo (by decide) rfl hl rfl rfl rfl rfl dg k
theorem gf_Mo_groupNode (B : Cx g K cc nL own d) {idx : Nat} (dg : decode cc pc = .ok (.getfield idx, 3)) (hl : Cond.fieldLink own idx R_Mo "groupNode" "[I" ∈ lw_tbl) (k : AW g K nL (pc + 3) lv (rV 119 :: st) σ) : AW g K nL pc lv (rV (106) :: st) σ := a_get (ci := 7) (j := 17) (C := R_Mo) (T := F_Mo) (N := 31) B ly_106 rfl i_Mo (by decide) rfl hl rfl dg _ rfl k
theorem gf_Mo_order (B : Cx g K cc nL own d) {idx : Nat} (dg : decode cc pc = .ok (.getfield idx, 3)) (hl : Cond.fieldLink own idx R_Mo "order" "[I" ∈ lw_tbl) (k : AW g K nL (pc + 3) lv (rV 120 :: st) σ) : AW g K nL pc lv (rV (106) :: st) σ := a_get (ci := 7) (j := 18) (C := R_Mo) (T := F_Mo) (N := 31) B ly_106 rfl i_Mo (by decide) rfl hl rfl dg _ rfl k
theorem gf_Mo_places (B : Cx g K cc nL own d) {idx : Nat} (dg : decode cc pc = .ok (.getfield idx, 3)) (hl : Cond.fieldLink own idx R_Mo "places" "[I" ∈ lw_tbl) (k : AW g K nL (pc + 3) lv (rV 121 :: st) σ) : AW g K nL pc lv (rV (106) :: st) σ := a_get (ci := 7) (j := 19) (C := R_Mo) (T := F_Mo) (N := 31) B ly_106 rfl i_Mo (by decide) rfl hl rfl dg _ rfl k
theorem gf_Mo_bestOrder (B : Cx g K cc nL own d) {idx : Nat} (dg : decode cc pc = .ok (.getfield idx, 3)) (hl : Cond.fieldLink own idx R_Mo "bestOrder" "[I" ∈ lw_tbl) (k : AW g K nL (pc + 3) lv (rV 122 :: st) σ) : AW g K nL pc lv (rV (106) :: st) σ := a_get (ci := 7) (j := 20) (C := R_Mo) (T := F_Mo) (N := 31) B ly_106 rfl i_Mo (by decide) rfl hl rfl dg _ rfl k
theorem gf_Mo_against (B : Cx g K cc nL own d) {idx : Nat} (dg : decode cc pc = .ok (.getfield idx, 3)) (hl : Cond.fieldLink own idx R_Mo "against" "[I" ∈ lw_tbl) (k : AW g K nL (pc + 3) lv (rV 123 :: st) σ) : AW g K nL pc lv (rV (106) :: st) σ := a_get (ci := 7) (j := 21) (C := R_Mo) (T := F_Mo) (N := 31) B ly_106 rfl i_Mo (by decide) rfl hl rfl dg _ rfl k
theorem gf_Mo_keptMany (B : Cx g K cc nL own d) {idx : Nat} (dg : decode cc pc = .ok (.getfield idx, 3)) (hl : Cond.fieldLink own idx R_Mo "keptMany" "I" ∈ lw_tbl) (k : AW g K nL (pc + 3) lv (iV (σ.1 (106) 22) :: st) σ) : AW g K nL pc lv (rV (106) :: st) σ := a_get (ci := 7) (j := 22) (C := R_Mo) (T := F_Mo) (N := 31) B ly_106 rfl i_Mo (by decide) rfl hl rfl dg _ rfl k
theorem pf_Mo_keptMany (B : Cx g K cc nL own d) {idx : Nat} {x : Int32} (dg : decode cc pc = .ok (.putfield idx, 3)) (hl : Cond.fieldLink own idx R_Mo "keptMany" "I" ∈ lw_tbl) (k : AW g K nL (pc + 3) lv st (up1 σ (106) (upd (σ.1 (106)) 22 x))) : AW g K nL pc lv (iV x :: rV (106) :: st) σ := a_put (ci := 7) (j := 22) (C := R_Mo) (T := F_Mo) (N := 31) (ty0 := t_Mo) B ly_106 rfl i_Mo t_Mo_ok n_Mo (by decide) rfl hl rfl rfl rfl rfl dg k
theorem gf_Mo_kept (B : Cx g K cc nL own d) {idx : Nat} (dg : decode cc pc = .ok (.getfield idx, 3)) (hl : Cond.fieldLink own idx R_Mo "kept" "[I" ∈ lw_tbl) (k : AW g K nL (pc + 3) lv (rV 124 :: st) σ) : AW g K nL pc lv (rV (106) :: st) σ := a_get (ci := 7) (j := 23) (C := R_Mo) (T := F_Mo) (N := 31) B ly_106 rfl i_Mo (by decide) rfl hl rfl dg _ rfl k
theorem gf_Mo_groups (B : Cx g K cc nL own d) {idx : Nat} (dg : decode cc pc = .ok (.getfield idx, 3)) (hl : Cond.fieldLink own idx R_Mo "groups" "[I" ∈ lw_tbl) (k : AW g K nL (pc + 3) lv (rV 125 :: st) σ) : AW g K nL pc lv (rV (106) :: st) σ := a_get (ci := 7) (j := 24) (C := R_Mo) (T := F_Mo) (N := 31) B ly_106 rfl i_Mo (by decide) rfl hl rfl dg _ rfl k
theorem gf_Mo_isGroups (B : Cx g K cc nL own d) {idx : Nat} (dg : decode cc pc = .ok (.getfield idx, 3)) (hl : Cond.fieldLink own idx R_Mo "isGroups" "Z" ∈ lw_tbl) (k : AW g K nL (pc + 3) lv (iV (σ.1 (106) 25) :: st) σ) : AW g K nL pc lv (rV (106) :: st) σ := a_get (ci := 7) (j := 25) (C := R_Mo) (T := F_Mo) (N := 31) B ly_106 rfl i_Mo (by decide) rfl hl rfl dg _ rfl k
theorem pf_Mo_isGroups (B : Cx g K cc nL own d) {idx : Nat} {x : Int32} (hz : x = 0 ∨ x = 1) (dg : decode cc pc = .ok (.putfield idx, 3)) (hl : Cond.fieldLink own idx R_Mo "isGroups" "Z" ∈ lw_tbl) (k : AW g K nL (pc + 3) lv st (up1 σ (106) (upd (σ.1 (106)) 25 x))) : AW g K nL pc lv (iV x :: rV (106) :: st) σ := by
  rcases hz with rfl | rfl
  · exact a_put (ci := 7) (j := 25) (C := R_Mo) (T := F_Mo) (N := 31) (ty0 := t_Mo) B ly_106 rfl i_Mo t_Mo_ok n_Mo (by decide) rfl hl rfl rfl rfl rfl dg k
  · exact a_put (ci := 7) (j := 25) (C := R_Mo) (T := F_Mo) (N := 31) (ty0 := t_Mo) B ly_106 rfl i_Mo t_Mo_ok n_Mo (by decide) rfl hl rfl rfl rfl rfl dg k
theorem gf_Mo_many (B : Cx g K cc nL own d) {idx : Nat} (dg : decode cc pc = .ok (.getfield idx, 3)) (hl : Cond.fieldLink own idx R_Mo "many" "I" ∈ lw_tbl) (k : AW g K nL (pc + 3) lv (iV (σ.1 (106) 26) :: st) σ) : AW g K nL pc lv (rV (106) :: st) σ := a_get (ci := 7) (j := 26) (C := R_Mo) (T := F_Mo) (N := 31) B ly_106 rfl i_Mo (by decide) rfl hl rfl dg _ rfl k
theorem pf_Mo_many (B : Cx g K cc nL own d) {idx : Nat} {x : Int32} (dg : decode cc pc = .ok (.putfield idx, 3)) (hl : Cond.fieldLink own idx R_Mo "many" "I" ∈ lw_tbl) (k : AW g K nL (pc + 3) lv st (up1 σ (106) (upd (σ.1 (106)) 26 x))) : AW g K nL pc lv (iV x :: rV (106) :: st) σ := a_put (ci := 7) (j := 26) (C := R_Mo) (T := F_Mo) (N := 31) (ty0 := t_Mo) B ly_106 rfl i_Mo t_Mo_ok n_Mo (by decide) rfl hl rfl rfl rfl rfl dg k
theorem gf_Mo_worths (B : Cx g K cc nL own d) {idx : Nat} (dg : decode cc pc = .ok (.getfield idx, 3)) (hl : Cond.fieldLink own idx R_Mo "worths" "[I" ∈ lw_tbl) (k : AW g K nL (pc + 3) lv (rV 126 :: st) σ) : AW g K nL pc lv (rV (106) :: st) σ := a_get (ci := 7) (j := 27) (C := R_Mo) (T := F_Mo) (N := 31) B ly_106 rfl i_Mo (by decide) rfl hl rfl dg _ rfl k
theorem gf_Mo_ahead (B : Cx g K cc nL own d) {idx : Nat} (dg : decode cc pc = .ok (.getfield idx, 3)) (hl : Cond.fieldLink own idx R_Mo "ahead" "[I" ∈ lw_tbl) (k : AW g K nL (pc + 3) lv (rV 127 :: st) σ) : AW g K nL pc lv (rV (106) :: st) σ := a_get (ci := 7) (j := 28) (C := R_Mo) (T := F_Mo) (N := 31) B ly_106 rfl i_Mo (by decide) rfl hl rfl dg _ rfl k
theorem gf_Mo_laid (B : Cx g K cc nL own d) {idx : Nat} (dg : decode cc pc = .ok (.getfield idx, 3)) (hl : Cond.fieldLink own idx R_Mo "laid" "I" ∈ lw_tbl) (k : AW g K nL (pc + 3) lv (iV (σ.1 (106) 29) :: st) σ) : AW g K nL pc lv (rV (106) :: st) σ := a_get (ci := 7) (j := 29) (C := R_Mo) (T := F_Mo) (N := 31) B ly_106 rfl i_Mo (by decide) rfl hl rfl dg _ rfl k
theorem pf_Mo_laid (B : Cx g K cc nL own d) {idx : Nat} {x : Int32} (dg : decode cc pc = .ok (.putfield idx, 3)) (hl : Cond.fieldLink own idx R_Mo "laid" "I" ∈ lw_tbl) (k : AW g K nL (pc + 3) lv st (up1 σ (106) (upd (σ.1 (106)) 29 x))) : AW g K nL pc lv (iV x :: rV (106) :: st) σ := a_put (ci := 7) (j := 29) (C := R_Mo) (T := F_Mo) (N := 31) (ty0 := t_Mo) B ly_106 rfl i_Mo t_Mo_ok n_Mo (by decide) rfl hl rfl rfl rfl rfl dg k
theorem gf_Mo_laying (B : Cx g K cc nL own d) {idx : Nat} (dg : decode cc pc = .ok (.getfield idx, 3)) (hl : Cond.fieldLink own idx R_Mo "laying" "[I" ∈ lw_tbl) (k : AW g K nL (pc + 3) lv (rV 128 :: st) σ) : AW g K nL pc lv (rV (106) :: st) σ := a_get (ci := 7) (j := 30) (C := R_Mo) (T := F_Mo) (N := 31) B ly_106 rfl i_Mo (by decide) rfl hl rfl dg _ rfl k
theorem al_pl (B : Cx g K cc nL own d) {i : Int32} (n : Nat) (hi : i = nI n) (hn : n < 10) (dg : decode cc pc = .ok (.aaload, 1)) (k : AW g K nL (pc + 1) lv (rV (20 + n) :: st) σ) : AW g K nL pc lv (iV i :: rV 2 :: st) σ := a_aald B ly_2 (Or.inr (Or.inl rfl)) n hi hn (by rcases (by omega : n = 0 ∨ n = 1 ∨ n = 2 ∨ n = 3 ∨ n = 4 ∨ n = 5 ∨ n = 6 ∨ n = 7 ∨ n = 8 ∨ n = 9) with rfl | rfl | rfl | rfl | rfl | rfl | rfl | rfl | rfl | rfl <;> rfl) dg k
theorem al_ap (B : Cx g K cc nL own d) {i : Int32} (n : Nat) (hi : i = nI n) (hn : n < 10) (dg : decode cc pc = .ok (.aaload, 1)) (k : AW g K nL (pc + 1) lv (rV (30 + n) :: st) σ) : AW g K nL pc lv (iV i :: rV 6 :: st) σ := a_aald B ly_6 (Or.inr (Or.inl rfl)) n hi hn (by rcases (by omega : n = 0 ∨ n = 1 ∨ n = 2 ∨ n = 3 ∨ n = 4 ∨ n = 5 ∨ n = 6 ∨ n = 7 ∨ n = 8 ∨ n = 9) with rfl | rfl | rfl | rfl | rfl | rfl | rfl | rfl | rfl | rfl <;> rfl) dg k
theorem al_ke (B : Cx g K cc nL own d) {i : Int32} (n : Nat) (hi : i = nI n) (hn : n < 10) (dg : decode cc pc = .ok (.aaload, 1)) (k : AW g K nL (pc + 1) lv (rV (40 + n) :: st) σ) : AW g K nL pc lv (iV i :: rV 9 :: st) σ := a_aald B ly_9 (Or.inr (Or.inr rfl)) n hi hn (by rcases (by omega : n = 0 ∨ n = 1 ∨ n = 2 ∨ n = 3 ∨ n = 4 ∨ n = 5 ∨ n = 6 ∨ n = 7 ∨ n = 8 ∨ n = 9) with rfl | rfl | rfl | rfl | rfl | rfl | rfl | rfl | rfl | rfl <;> rfl) dg k
theorem al_wo (B : Cx g K cc nL own d) {i : Int32} (n : Nat) (hi : i = nI n) (hn : n < 8) (dg : decode cc pc = .ok (.aaload, 1)) (k : AW g K nL (pc + 1) lv (rV (50 + n) :: st) σ) : AW g K nL pc lv (iV i :: rV 12 :: st) σ := a_aald B ly_12 (Or.inr (Or.inl rfl)) n hi hn (by rcases (by omega : n = 0 ∨ n = 1 ∨ n = 2 ∨ n = 3 ∨ n = 4 ∨ n = 5 ∨ n = 6 ∨ n = 7) with rfl | rfl | rfl | rfl | rfl | rfl | rfl | rfl <;> rfl) dg k
theorem al_tr (B : Cx g K cc nL own d) {i : Int32} (n : Nat) (hi : i = nI n) (hn : n < 4) (dg : decode cc pc = .ok (.aaload, 1)) (k : AW g K nL (pc + 1) lv (rV (tI n) :: st) σ) : AW g K nL pc lv (iV i :: rV 4 :: st) σ := a_aald B ly_4 (Or.inl rfl) n hi hn (by rcases (by omega : n = 0 ∨ n = 1 ∨ n = 2 ∨ n = 3) with rfl | rfl | rfl | rfl <;> rfl) dg k
theorem nI_ad (a b : Nat) : nI a + nI b = nI (a + b) := by
  apply Int32.toBitVec_inj.mp
  show BitVec.ofNat 32 a + BitVec.ofNat 32 b = BitVec.ofNat 32 (a + b)
  rw [BitVec.ofNat_add]
theorem nI_mul (a b : Nat) : nI a * nI b = nI (a * b) := by
  apply Int32.toBitVec_inj.mp
  show BitVec.ofNat 32 a * BitVec.ofNat 32 b = BitVec.ofNat 32 (a * b)
  rw [BitVec.ofNat_mul]
theorem nI_sub' {a b : Nat} (h : b ≤ a) : nI a - nI b = nI (a - b) := by
  have e : nI a = nI (a - b) + nI b := by rw [nI_ad]; congr 1; omega
  rw [e, Int32.add_sub_cancel]
theorem nI_le' {a b : Nat} (ha : a < 2 ^ 31) (hb : b < 2 ^ 31) : nI a ≤ nI b ↔ a ≤ b := by
  rw [Int32.le_iff_toInt_le, nI_toInt ha, nI_toInt hb]
  omega
theorem nI_lt' {a b : Nat} (ha : a < 2 ^ 31) (hb : b < 2 ^ 31) : nI a < nI b ↔ a < b := by
  rw [Int32.lt_iff_toInt_lt, nI_toInt ha, nI_toInt hb]
  omega
theorem nI_inj' {a b : Nat} (ha : a < 2 ^ 31) (hb : b < 2 ^ 31) : nI a = nI b ↔ a = b := by
  constructor
  · intro h
    have h1 := congrArg Int32.toInt h
    rw [nI_toInt ha, nI_toInt hb] at h1
    omega
  · rintro rfl; rfl
theorem nI_nn {a : Nat} (ha : a < 2 ^ 31) : ¬ nI a < 0 := by
  rw [Int32.lt_iff_toInt_lt, nI_toInt ha, Int32.toInt_zero]
  omega
theorem nI_ge0 {a : Nat} (ha : a < 2 ^ 31) : 0 ≤ nI a := by
  rw [Int32.le_iff_toInt_le, nI_toInt ha, Int32.toInt_zero]
  omega
theorem b_iadd (B : Cx g K cc nL own d) {a b : Nat} (dg : decode cc pc = .ok (.iadd, 1)) (k : AW g K nL (pc + 1) lv (iV (nI (a + b)) :: st) σ) : AW g K nL pc lv (iV (nI b) :: iV (nI a) :: st) σ := a_iadd B dg (by rw [nI_ad]; exact k)
theorem b_imul (B : Cx g K cc nL own d) {a b : Nat} (dg : decode cc pc = .ok (.imul, 1)) (k : AW g K nL (pc + 1) lv (iV (nI (a * b)) :: st) σ) : AW g K nL pc lv (iV (nI b) :: iV (nI a) :: st) σ := a_imul B dg (by rw [nI_mul]; exact k)
theorem b_isub (B : Cx g K cc nL own d) {a b : Nat} (h : b ≤ a) (dg : decode cc pc = .ok (.isub, 1)) (k : AW g K nL (pc + 1) lv (iV (nI (a - b)) :: st) σ) : AW g K nL pc lv (iV (nI b) :: iV (nI a) :: st) σ := a_isub B dg (by rw [nI_sub' h]; exact k)
theorem b_iinc (B : Cx g K cc nL own d) {i a b : Nat} {n : Int} {lv1 : LV} (dg : decode cc pc = .ok (.iinc i n, 3)) (h0 : lkV lv i = some (iV (nI a))) (hv : Int32.ofInt n = nI b) (hn : i < nL) (h : st1 lv i (iV (nI (a + b))) = lv1) (k : AW g K nL (pc + 3) lv1 st σ) : AW g K nL pc lv st σ := a_iinc B dg h0 (by rw [hv, nI_ad]) hn h k
theorem b_icmp_eq (B : Cx g K cc nL own d) {a b : Nat} {off : Int} (tgt : Nat) (dg : decode cc pc = .ok (.if_icmp .eq off, 3)) (ht : (pc : Int) + off = (tgt : Int)) (ha : a < 2 ^ 31) (hb : b < 2 ^ 31) (kt : a = b → AW g K nL tgt lv st σ) (kf : ¬ a = b → AW g K nL (pc + 3) lv st σ) : AW g K nL pc lv (iV (nI b) :: iV (nI a) :: st) σ := a_icmp_eq B tgt dg ht (fun h => kt ((nI_inj' ha hb).mp h)) (fun h => kf (fun q => h (by rw [q])))
theorem b_icmp_ne (B : Cx g K cc nL own d) {a b : Nat} {off : Int} (tgt : Nat) (dg : decode cc pc = .ok (.if_icmp .ne off, 3)) (ht : (pc : Int) + off = (tgt : Int)) (ha : a < 2 ^ 31) (hb : b < 2 ^ 31) (kt : ¬ a = b → AW g K nL tgt lv st σ) (kf : a = b → AW g K nL (pc + 3) lv st σ) : AW g K nL pc lv (iV (nI b) :: iV (nI a) :: st) σ := a_icmp_ne B tgt dg ht (fun h => kt (fun q => h (by rw [q]))) (fun h => kf ((nI_inj' ha hb).mp h))
theorem b_icmp_lt (B : Cx g K cc nL own d) {a b : Nat} {off : Int} (tgt : Nat) (dg : decode cc pc = .ok (.if_icmp .lt off, 3)) (ht : (pc : Int) + off = (tgt : Int)) (ha : a < 2 ^ 31) (hb : b < 2 ^ 31) (kt : a < b → AW g K nL tgt lv st σ) (kf : b ≤ a → AW g K nL (pc + 3) lv st σ) : AW g K nL pc lv (iV (nI b) :: iV (nI a) :: st) σ := a_icmp_lt B tgt dg ht (fun h => kt ((nI_lt' ha hb).mp h)) (fun h => kf (by have := mt (nI_lt' ha hb).mpr h; omega))
theorem b_icmp_ge (B : Cx g K cc nL own d) {a b : Nat} {off : Int} (tgt : Nat) (dg : decode cc pc = .ok (.if_icmp .ge off, 3)) (ht : (pc : Int) + off = (tgt : Int)) (ha : a < 2 ^ 31) (hb : b < 2 ^ 31) (kt : b ≤ a → AW g K nL tgt lv st σ) (kf : a < b → AW g K nL (pc + 3) lv st σ) : AW g K nL pc lv (iV (nI b) :: iV (nI a) :: st) σ := a_icmp_ge B tgt dg ht (fun h => kt ((nI_le' hb ha).mp h)) (fun h => kf (by have := mt (nI_le' hb ha).mpr h; omega))
theorem b_icmp_gt (B : Cx g K cc nL own d) {a b : Nat} {off : Int} (tgt : Nat) (dg : decode cc pc = .ok (.if_icmp .gt off, 3)) (ht : (pc : Int) + off = (tgt : Int)) (ha : a < 2 ^ 31) (hb : b < 2 ^ 31) (kt : b < a → AW g K nL tgt lv st σ) (kf : a ≤ b → AW g K nL (pc + 3) lv st σ) : AW g K nL pc lv (iV (nI b) :: iV (nI a) :: st) σ := a_icmp_gt B tgt dg ht (fun h => kt ((nI_lt' hb ha).mp h)) (fun h => kf (by have := mt (nI_lt' hb ha).mpr h; omega))
theorem b_icmp_le (B : Cx g K cc nL own d) {a b : Nat} {off : Int} (tgt : Nat) (dg : decode cc pc = .ok (.if_icmp .le off, 3)) (ht : (pc : Int) + off = (tgt : Int)) (ha : a < 2 ^ 31) (hb : b < 2 ^ 31) (kt : a ≤ b → AW g K nL tgt lv st σ) (kf : b < a → AW g K nL (pc + 3) lv st σ) : AW g K nL pc lv (iV (nI b) :: iV (nI a) :: st) σ := a_icmp_le B tgt dg ht (fun h => kt ((nI_le' ha hb).mp h)) (fun h => kf (by have := mt (nI_le' ha hb).mpr h; omega))
/-- a loop that counts up: the states as functions of the count -/
theorem a_for {lf : Nat → LV} {τ : Nat → AH} (n : Nat) (hstep : ∀ i, i < n → AW g K nL pc (lf (i + 1)) st (τ (i + 1)) → AW g K nL pc (lf i) st (τ i)) (hend : AW g K nL pc (lf n) st (τ n)) : ∀ i, i ≤ n → AW g K nL pc (lf i) st (τ i) := by
  have key : ∀ k i, i + k = n → AW g K nL pc (lf i) st (τ i) := by
    intro k
    induction k with
    | zero =>
      intro i h
      have : i = n := by omega
      subst this
      exact hend
    | succ k ih =>
      intro i h
      exact hstep i (by omega) (ih (i + 1) (by omega))
  intro i h
  exact key (n - i) i (by omega)
/-- a loop with an invariant over a measure that falls -/
theorem a_loop (I : Nat → LV → AH → Prop) (hstep : ∀ n lv σ, I n lv σ → (∀ n' lv' σ', n' < n → I n' lv' σ' → AW g K nL pc lv' st σ') → AW g K nL pc lv st σ) : ∀ n lv σ, I n lv σ → AW g K nL pc lv st σ := by
  intro n
  induction n using Nat.strongRecOn with
  | ind n ih =>
    intro lv σ h
    exact hstep n lv σ h (fun n' lv' σ' hn h' => ih n' hn lv' σ' h')
end AFD
theorem cb_m9 : (Int8.ofInt (-9)).toInt32 = (-9 : Int32) := by decide +kernel
theorem cb_m4 : (Int8.ofInt (-4)).toInt32 = (-4 : Int32) := by decide +kernel
theorem cb_m3 : (Int8.ofInt (-3)).toInt32 = (-3 : Int32) := by decide +kernel
theorem cb_6 : (Int8.ofInt 6).toInt32 = nI 6 := by decide +kernel
theorem cb_8 : (Int8.ofInt 8).toInt32 = nI 8 := by decide +kernel
theorem cb_9 : (Int8.ofInt 9).toInt32 = nI 9 := by decide +kernel
theorem cb_10 : (Int8.ofInt 10).toInt32 = nI 10 := by decide +kernel
theorem cb_19 : (Int8.ofInt 19).toInt32 = nI 19 := by decide +kernel
theorem cb_20 : (Int8.ofInt 20).toInt32 = nI 20 := by decide +kernel
theorem cb_40 : (Int8.ofInt 40).toInt32 = nI 40 := by decide +kernel
theorem cb_63 : (Int8.ofInt 63).toInt32 = nI 63 := by decide +kernel
theorem cb_64 : (Int8.ofInt 64).toInt32 = nI 64 := by decide +kernel
theorem cb_80 : (Int8.ofInt 80).toInt32 = nI 80 := by decide +kernel
theorem cb_100 : (Int8.ofInt 100).toInt32 = nI 100 := by decide +kernel
theorem ci_m1 : Int32.ofInt (-1) = (-1 : Int32) := by decide +kernel
theorem ci_0 : Int32.ofInt 0 = nI 0 := by decide +kernel
theorem ci_1 : Int32.ofInt 1 = nI 1 := by decide +kernel
theorem ci_2 : Int32.ofInt 2 = nI 2 := by decide +kernel
theorem ci_3 : Int32.ofInt 3 = nI 3 := by decide +kernel
theorem ci_4 : Int32.ofInt 4 = nI 4 := by decide +kernel
theorem ci_5 : Int32.ofInt 5 = nI 5 := by decide +kernel
theorem ci_6 : Int32.ofInt 6 = nI 6 := by decide +kernel
theorem cs_m1000 : (Int16.ofInt (-1000)).toInt32 = (-1000 : Int32) := by decide +kernel
theorem cs_1000 : (Int16.ofInt 1000).toInt32 = nI 1000 := by decide +kernel
theorem cs_2048 : (Int16.ofInt 2048).toInt32 = nI 2048 := by decide +kernel
theorem cs_10000 : (Int16.ofInt 10000).toInt32 = nI 10000 := by decide +kernel
