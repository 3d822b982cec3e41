/-! the reference: the digest, the laying of axes -/
theorem d_Mo_digest_0 : decode prog_9_method_65_code 0 = .ok (.ldc2_w 206, 3) := by decide +kernel
theorem d_Mo_digest_3 : decode prog_9_method_65_code 3 = .ok (.ldc2_w 208, 3) := by decide +kernel
theorem d_Mo_digest_6 : decode prog_9_method_65_code 6 = .ok (.aload_n 0, 1) := by decide +kernel
theorem d_Mo_digest_7 : decode prog_9_method_65_code 7 = .ok (.getfield 84, 3) := by decide +kernel
theorem d_Mo_digest_10 : decode prog_9_method_65_code 10 = .ok (.i2l, 1) := by decide +kernel
theorem d_Mo_digest_11 : decode prog_9_method_65_code 11 = .ok (.ladd, 1) := by decide +kernel
theorem d_Mo_digest_12 : decode prog_9_method_65_code 12 = .ok (.lmul, 1) := by decide +kernel
theorem d_Mo_digest_13 : decode prog_9_method_65_code 13 = .ok (.aload_n 0, 1) := by decide +kernel
theorem d_Mo_digest_14 : decode prog_9_method_65_code 14 = .ok (.getfield 193, 3) := by decide +kernel
theorem d_Mo_digest_17 : decode prog_9_method_65_code 17 = .ok (.i2l, 1) := by decide +kernel
theorem d_Mo_digest_18 : decode prog_9_method_65_code 18 = .ok (.ladd, 1) := by decide +kernel
theorem d_Mo_digest_19 : decode prog_9_method_65_code 19 = .ok (.lstore_n 1, 1) := by decide +kernel
theorem d_Mo_digest_20 : decode prog_9_method_65_code 20 = .ok (.iconst 0, 1) := by decide +kernel
theorem d_Mo_digest_21 : decode prog_9_method_65_code 21 = .ok (.istore_n 3, 1) := by decide +kernel
theorem d_Mo_digest_22 : decode prog_9_method_65_code 22 = .ok (.iload_n 3, 1) := by decide +kernel
theorem d_Mo_digest_23 : decode prog_9_method_65_code 23 = .ok (.bipush 10, 2) := by decide +kernel
theorem d_Mo_digest_25 : decode prog_9_method_65_code 25 = .ok (.if_icmp .ge 71, 3) := by decide +kernel
theorem d_Mo_digest_28 : decode prog_9_method_65_code 28 = .ok (.aload_n 0, 1) := by decide +kernel
theorem d_Mo_digest_29 : decode prog_9_method_65_code 29 = .ok (.getfield 13, 3) := by decide +kernel
theorem d_Mo_digest_32 : decode prog_9_method_65_code 32 = .ok (.iload_n 3, 1) := by decide +kernel
theorem d_Mo_digest_33 : decode prog_9_method_65_code 33 = .ok (.baload, 1) := by decide +kernel
theorem d_Mo_digest_34 : decode prog_9_method_65_code 34 = .ok (.ifCond .ne 11, 3) := by decide +kernel
theorem d_Mo_digest_37 : decode prog_9_method_65_code 37 = .ok (.ldc2_w 206, 3) := by decide +kernel
theorem d_Mo_digest_40 : decode prog_9_method_65_code 40 = .ok (.lload_n 1, 1) := by decide +kernel
theorem d_Mo_digest_41 : decode prog_9_method_65_code 41 = .ok (.lmul, 1) := by decide +kernel
theorem d_Mo_digest_42 : decode prog_9_method_65_code 42 = .ok (.lconst 1, 1) := by decide +kernel
theorem d_Mo_digest_43 : decode prog_9_method_65_code 43 = .ok (.lsub, 1) := by decide +kernel
theorem d_Mo_digest_44 : decode prog_9_method_65_code 44 = .ok (.lstore_n 1, 1) := by decide +kernel
theorem d_Mo_digest_45 : decode prog_9_method_65_code 45 = .ok (.iconst 0, 1) := by decide +kernel
theorem d_Mo_digest_46 : decode prog_9_method_65_code 46 = .ok (.istore 4, 2) := by decide +kernel
theorem d_Mo_digest_48 : decode prog_9_method_65_code 48 = .ok (.iload 4, 2) := by decide +kernel
theorem d_Mo_digest_50 : decode prog_9_method_65_code 50 = .ok (.bipush 10, 2) := by decide +kernel
theorem d_Mo_digest_52 : decode prog_9_method_65_code 52 = .ok (.if_icmp .ge 38, 3) := by decide +kernel
theorem d_Mo_digest_55 : decode prog_9_method_65_code 55 = .ok (.aload_n 0, 1) := by decide +kernel
theorem d_Mo_digest_56 : decode prog_9_method_65_code 56 = .ok (.getfield 13, 3) := by decide +kernel
theorem d_Mo_digest_59 : decode prog_9_method_65_code 59 = .ok (.iload_n 3, 1) := by decide +kernel
theorem d_Mo_digest_60 : decode prog_9_method_65_code 60 = .ok (.baload, 1) := by decide +kernel
theorem d_Mo_digest_61 : decode prog_9_method_65_code 61 = .ok (.ifCond .eq 29, 3) := by decide +kernel
theorem d_Mo_digest_64 : decode prog_9_method_65_code 64 = .ok (.ldc2_w 206, 3) := by decide +kernel
theorem d_Mo_digest_67 : decode prog_9_method_65_code 67 = .ok (.lload_n 1, 1) := by decide +kernel
theorem d_Mo_digest_68 : decode prog_9_method_65_code 68 = .ok (.lmul, 1) := by decide +kernel
theorem d_Mo_digest_69 : decode prog_9_method_65_code 69 = .ok (.aload_n 0, 1) := by decide +kernel
theorem d_Mo_digest_70 : decode prog_9_method_65_code 70 = .ok (.getfield 17, 3) := by decide +kernel
theorem d_Mo_digest_73 : decode prog_9_method_65_code 73 = .ok (.bipush 10, 2) := by decide +kernel
theorem d_Mo_digest_75 : decode prog_9_method_65_code 75 = .ok (.iload_n 3, 1) := by decide +kernel
theorem d_Mo_digest_76 : decode prog_9_method_65_code 76 = .ok (.imul, 1) := by decide +kernel
theorem d_Mo_digest_77 : decode prog_9_method_65_code 77 = .ok (.iload 4, 2) := by decide +kernel
theorem d_Mo_digest_79 : decode prog_9_method_65_code 79 = .ok (.iadd, 1) := by decide +kernel
theorem d_Mo_digest_80 : decode prog_9_method_65_code 80 = .ok (.iaload, 1) := by decide +kernel
theorem d_Mo_digest_81 : decode prog_9_method_65_code 81 = .ok (.i2l, 1) := by decide +kernel
theorem d_Mo_digest_82 : decode prog_9_method_65_code 82 = .ok (.ladd, 1) := by decide +kernel
theorem d_Mo_digest_83 : decode prog_9_method_65_code 83 = .ok (.lstore_n 1, 1) := by decide +kernel
theorem d_Mo_digest_84 : decode prog_9_method_65_code 84 = .ok (.iinc 4 1, 3) := by decide +kernel
theorem d_Mo_digest_87 : decode prog_9_method_65_code 87 = .ok (.goto (-39), 3) := by decide +kernel
theorem d_Mo_digest_90 : decode prog_9_method_65_code 90 = .ok (.iinc 3 1, 3) := by decide +kernel
theorem d_Mo_digest_93 : decode prog_9_method_65_code 93 = .ok (.goto (-71), 3) := by decide +kernel
theorem d_Mo_digest_96 : decode prog_9_method_65_code 96 = .ok (.iconst 0, 1) := by decide +kernel
theorem d_Mo_digest_97 : decode prog_9_method_65_code 97 = .ok (.istore_n 3, 1) := by decide +kernel
theorem d_Mo_digest_98 : decode prog_9_method_65_code 98 = .ok (.iload_n 3, 1) := by decide +kernel
theorem d_Mo_digest_99 : decode prog_9_method_65_code 99 = .ok (.iconst 4, 1) := by decide +kernel
theorem d_Mo_digest_100 : decode prog_9_method_65_code 100 = .ok (.if_icmp .ge 77, 3) := by decide +kernel
theorem d_Mo_digest_103 : decode prog_9_method_65_code 103 = .ok (.aload_n 0, 1) := by decide +kernel
theorem d_Mo_digest_104 : decode prog_9_method_65_code 104 = .ok (.getfield 23, 3) := by decide +kernel
theorem d_Mo_digest_107 : decode prog_9_method_65_code 107 = .ok (.iload_n 3, 1) := by decide +kernel
theorem d_Mo_digest_108 : decode prog_9_method_65_code 108 = .ok (.iaload, 1) := by decide +kernel
theorem d_Mo_digest_109 : decode prog_9_method_65_code 109 = .ok (.ifCond .ne 11, 3) := by decide +kernel
theorem d_Mo_digest_112 : decode prog_9_method_65_code 112 = .ok (.ldc2_w 206, 3) := by decide +kernel
theorem d_Mo_digest_115 : decode prog_9_method_65_code 115 = .ok (.lload_n 1, 1) := by decide +kernel
theorem d_Mo_digest_116 : decode prog_9_method_65_code 116 = .ok (.lmul, 1) := by decide +kernel
theorem d_Mo_digest_117 : decode prog_9_method_65_code 117 = .ok (.lconst 1, 1) := by decide +kernel
theorem d_Mo_digest_118 : decode prog_9_method_65_code 118 = .ok (.lsub, 1) := by decide +kernel
theorem d_Mo_digest_119 : decode prog_9_method_65_code 119 = .ok (.lstore_n 1, 1) := by decide +kernel
theorem d_Mo_digest_120 : decode prog_9_method_65_code 120 = .ok (.iconst 0, 1) := by decide +kernel
theorem d_Mo_digest_121 : decode prog_9_method_65_code 121 = .ok (.istore 4, 2) := by decide +kernel
theorem d_Mo_digest_123 : decode prog_9_method_65_code 123 = .ok (.iload 4, 2) := by decide +kernel
theorem d_Mo_digest_125 : decode prog_9_method_65_code 125 = .ok (.aload_n 0, 1) := by decide +kernel
theorem d_Mo_digest_126 : decode prog_9_method_65_code 126 = .ok (.iload_n 3, 1) := by decide +kernel
theorem d_Mo_digest_127 : decode prog_9_method_65_code 127 = .ok (.invokevirtual 123, 3) := by decide +kernel
theorem d_Mo_digest_130 : decode prog_9_method_65_code 130 = .ok (.if_icmp .ge 41, 3) := by decide +kernel
theorem d_Mo_digest_133 : decode prog_9_method_65_code 133 = .ok (.iconst 0, 1) := by decide +kernel
theorem d_Mo_digest_134 : decode prog_9_method_65_code 134 = .ok (.istore 5, 2) := by decide +kernel
theorem d_Mo_digest_136 : decode prog_9_method_65_code 136 = .ok (.iload 5, 2) := by decide +kernel
theorem d_Mo_digest_138 : decode prog_9_method_65_code 138 = .ok (.iconst 5, 1) := by decide +kernel
theorem d_Mo_digest_139 : decode prog_9_method_65_code 139 = .ok (.if_icmp .gt 26, 3) := by decide +kernel
theorem d_Mo_digest_142 : decode prog_9_method_65_code 142 = .ok (.ldc2_w 206, 3) := by decide +kernel
theorem d_Mo_digest_145 : decode prog_9_method_65_code 145 = .ok (.lload_n 1, 1) := by decide +kernel
theorem d_Mo_digest_146 : decode prog_9_method_65_code 146 = .ok (.lmul, 1) := by decide +kernel
theorem d_Mo_digest_147 : decode prog_9_method_65_code 147 = .ok (.aload_n 0, 1) := by decide +kernel
theorem d_Mo_digest_148 : decode prog_9_method_65_code 148 = .ok (.iload_n 3, 1) := by decide +kernel
theorem d_Mo_digest_149 : decode prog_9_method_65_code 149 = .ok (.iload 4, 2) := by decide +kernel
theorem d_Mo_digest_151 : decode prog_9_method_65_code 151 = .ok (.iload 5, 2) := by decide +kernel
theorem d_Mo_digest_153 : decode prog_9_method_65_code 153 = .ok (.invokevirtual 142, 3) := by decide +kernel
theorem d_Mo_digest_156 : decode prog_9_method_65_code 156 = .ok (.i2l, 1) := by decide +kernel
theorem d_Mo_digest_157 : decode prog_9_method_65_code 157 = .ok (.ladd, 1) := by decide +kernel
theorem d_Mo_digest_158 : decode prog_9_method_65_code 158 = .ok (.lstore_n 1, 1) := by decide +kernel
theorem d_Mo_digest_159 : decode prog_9_method_65_code 159 = .ok (.iinc 5 1, 3) := by decide +kernel
theorem d_Mo_digest_162 : decode prog_9_method_65_code 162 = .ok (.goto (-26), 3) := by decide +kernel
theorem d_Mo_digest_165 : decode prog_9_method_65_code 165 = .ok (.iinc 4 1, 3) := by decide +kernel
theorem d_Mo_digest_168 : decode prog_9_method_65_code 168 = .ok (.goto (-45), 3) := by decide +kernel
theorem d_Mo_digest_171 : decode prog_9_method_65_code 171 = .ok (.iinc 3 1, 3) := by decide +kernel
theorem d_Mo_digest_174 : decode prog_9_method_65_code 174 = .ok (.goto (-76), 3) := by decide +kernel
theorem d_Mo_digest_177 : decode prog_9_method_65_code 177 = .ok (.iconst 0, 1) := by decide +kernel
theorem d_Mo_digest_178 : decode prog_9_method_65_code 178 = .ok (.istore_n 3, 1) := by decide +kernel
theorem d_Mo_digest_179 : decode prog_9_method_65_code 179 = .ok (.iload_n 3, 1) := by decide +kernel
theorem d_Mo_digest_180 : decode prog_9_method_65_code 180 = .ok (.aload_n 0, 1) := by decide +kernel
theorem d_Mo_digest_181 : decode prog_9_method_65_code 181 = .ok (.getfield 193, 3) := by decide +kernel
theorem d_Mo_digest_184 : decode prog_9_method_65_code 184 = .ok (.if_icmp .ge 49, 3) := by decide +kernel
theorem d_Mo_digest_187 : decode prog_9_method_65_code 187 = .ok (.iload_n 3, 1) := by decide +kernel
theorem d_Mo_digest_188 : decode prog_9_method_65_code 188 = .ok (.iconst 1, 1) := by decide +kernel
theorem d_Mo_digest_189 : decode prog_9_method_65_code 189 = .ok (.iadd, 1) := by decide +kernel
theorem d_Mo_digest_190 : decode prog_9_method_65_code 190 = .ok (.istore 4, 2) := by decide +kernel
theorem d_Mo_digest_192 : decode prog_9_method_65_code 192 = .ok (.iload 4, 2) := by decide +kernel
theorem d_Mo_digest_194 : decode prog_9_method_65_code 194 = .ok (.aload_n 0, 1) := by decide +kernel
theorem d_Mo_digest_195 : decode prog_9_method_65_code 195 = .ok (.getfield 193, 3) := by decide +kernel
theorem d_Mo_digest_198 : decode prog_9_method_65_code 198 = .ok (.if_icmp .ge 29, 3) := by decide +kernel
theorem d_Mo_digest_201 : decode prog_9_method_65_code 201 = .ok (.ldc2_w 206, 3) := by decide +kernel
theorem d_Mo_digest_204 : decode prog_9_method_65_code 204 = .ok (.lload_n 1, 1) := by decide +kernel
theorem d_Mo_digest_205 : decode prog_9_method_65_code 205 = .ok (.lmul, 1) := by decide +kernel
theorem d_Mo_digest_206 : decode prog_9_method_65_code 206 = .ok (.aload_n 0, 1) := by decide +kernel
theorem d_Mo_digest_207 : decode prog_9_method_65_code 207 = .ok (.getfield 68, 3) := by decide +kernel
theorem d_Mo_digest_210 : decode prog_9_method_65_code 210 = .ok (.bipush 8, 2) := by decide +kernel
theorem d_Mo_digest_212 : decode prog_9_method_65_code 212 = .ok (.iload_n 3, 1) := by decide +kernel
theorem d_Mo_digest_213 : decode prog_9_method_65_code 213 = .ok (.imul, 1) := by decide +kernel
theorem d_Mo_digest_214 : decode prog_9_method_65_code 214 = .ok (.iload 4, 2) := by decide +kernel
theorem d_Mo_digest_216 : decode prog_9_method_65_code 216 = .ok (.iadd, 1) := by decide +kernel
theorem d_Mo_digest_217 : decode prog_9_method_65_code 217 = .ok (.iaload, 1) := by decide +kernel
theorem d_Mo_digest_218 : decode prog_9_method_65_code 218 = .ok (.i2l, 1) := by decide +kernel
theorem d_Mo_digest_219 : decode prog_9_method_65_code 219 = .ok (.ladd, 1) := by decide +kernel
theorem d_Mo_digest_220 : decode prog_9_method_65_code 220 = .ok (.lstore_n 1, 1) := by decide +kernel
theorem d_Mo_digest_221 : decode prog_9_method_65_code 221 = .ok (.iinc 4 1, 3) := by decide +kernel
theorem d_Mo_digest_224 : decode prog_9_method_65_code 224 = .ok (.goto (-32), 3) := by decide +kernel
theorem d_Mo_digest_227 : decode prog_9_method_65_code 227 = .ok (.iinc 3 1, 3) := by decide +kernel
theorem d_Mo_digest_230 : decode prog_9_method_65_code 230 = .ok (.goto (-51), 3) := by decide +kernel
theorem d_Mo_digest_233 : decode prog_9_method_65_code 233 = .ok (.lload_n 1, 1) := by decide +kernel
theorem d_Mo_digest_234 : decode prog_9_method_65_code 234 = .ok (.lreturn, 1) := by decide +kernel
set_option maxHeartbeats 4000000 in
set_option maxRecDepth 20000 in
theorem tM_digest {g : GG} (G : Gok g) {σ : AH} {S : Sp} (hS : RelM S σ) : TerL g 2 m_Mo_digest [rV 106] σ (fun r τ => r = sp_digest S ∧ τ = σ) := by
  refine TerL.mk G (by decide +kernel) rfl (Nat.le_of_ble_eq_true rfl) (fun K B Rt => ?_)
  have B : Cx g K prog_9_method_65_code 6 R_Mo 2 := B
  have Rt : RetL g K prog_9_method_65_code 6 (fun r τ => r = sp_digest S ∧ τ = σ) := Rt
  show AW g K 6 0 [(0, rV 106)] [] σ
  obtain ⟨hN, hn, hth, hpl, hbd⟩ := id hS.1
  obtain ⟨xN, xm, xw, xW⟩ := id hS.2.2.2
  refine a_ldc2 B d_Mo_digest_0 kl_Mo_206 ?_
  refine a_ldc2 B d_Mo_digest_3 kl_Mo_208 ?_
  rw [show (527 : Int64) = 31 * 17 from by decide]
  refine a_aload_n B d_Mo_digest_6 rfl rfl ?_
  refine gf_Mo_leaves B d_Mo_digest_7 fl_Mo_84 ?_
  rw [hN]
  refine a_i2l B d_Mo_digest_10 ?_
  refine a_ladd B d_Mo_digest_11 ?_
  refine a_lmul B d_Mo_digest_12 ?_
  refine a_aload_n B d_Mo_digest_13 rfl rfl ?_
  refine gf_Mo_many B d_Mo_digest_14 fl_Mo_193 ?_
  rw [xN]
  refine a_i2l B d_Mo_digest_17 ?_
  refine a_ladd B d_Mo_digest_18 ?_
  refine a_lstore_n (lv1 := [(0, _), (1, _)]) B d_Mo_digest_19 rfl (by decide) rfl ?_
  refine a_iconst B d_Mo_digest_20 ci_0 ?_
  refine a_istore_n (lv1 := [(0, _), (1, _), (3, _)]) B d_Mo_digest_21 rfl (by decide) rfl ?_
  refine a_for (lf := fun i => [(0, rV 106), (1, lV (dgRows (sTh S) (sPl S) i (31 * (31 * 17 + (nI (sN S)).toInt64) + (nI (sMx S)).toInt64))), (3, iV (nI i))]) (τ := fun i => σ) 10 (fun i hi ihi => ?_) ?_ 0 (Nat.zero_le _)
  · skip
    refine a_iload_n B d_Mo_digest_22 rfl rfl ?_
    refine a_bipush B d_Mo_digest_23 cb_10 ?_
    first | refine b_icmp_ge B 96 d_Mo_digest_25 rfl (by omega) (by omega) (fun c_25 => ?_) (fun c_25 => ?_) | refine a_icmp_ge B 96 d_Mo_digest_25 rfl (fun c_25 => ?_) (fun c_25 => ?_)
    · skip
      exact absurd c_25 (by omega)
    have inT : sTh S i = true → AW g K 6 48 [(0, rV 106), (1, lV (dgRows (sTh S) (sPl S) i (31 * (31 * 17 + (nI (sN S)).toInt64) + (nI (sMx S)).toInt64))), (3, iV (nI i)), (4, iV (nI 0))] [] σ := by
      intro hb
      refine a_for (lf := fun j => [(0, rV 106), (1, lV (dgIn (fun j => nI (sPl S i j)) j (dgRows (sTh S) (sPl S) i (31 * (31 * 17 + (nI (sN S)).toInt64) + (nI (sMx S)).toInt64)))), (3, iV (nI i)), (4, iV (nI j))]) (τ := fun j => σ) 10 (fun j hj ihj => ?_) ?_ 0 (Nat.zero_le _)
      · skip
        refine a_iload B d_Mo_digest_48 rfl ?_
        refine a_bipush B d_Mo_digest_50 cb_10 ?_
        first | refine b_icmp_ge B 90 d_Mo_digest_52 rfl (by omega) (by omega) (fun c_52 => ?_) (fun c_52 => ?_) | refine a_icmp_ge B 90 d_Mo_digest_52 rfl (fun c_52 => ?_) (fun c_52 => ?_)
        · skip
          exact absurd c_52 (by omega)
        refine a_aload_n B d_Mo_digest_55 rfl rfl ?_
        refine gf_Mo_isRow B d_Mo_digest_56 fl_Mo_13 ?_
        refine a_iload_n B d_Mo_digest_59 rfl rfl ?_
        refine a_zald B ly_108 _ rfl (by first | assumption | omega) d_Mo_digest_60 ?_
        rw [hth i (by omega)]
        first | refine b_if_eq_b B 90 d_Mo_digest_61 rfl (fun c_61 => ?_) (fun c_61 => ?_) | refine a_if_eq B 90 d_Mo_digest_61 rfl (fun c_61 => ?_) (fun c_61 => ?_)
        · exact absurd (hb.symm.trans c_61) (by decide)
        refine a_ldc2 B d_Mo_digest_64 kl_Mo_206 ?_
        refine a_lload_n B d_Mo_digest_67 rfl rfl ?_
        refine a_lmul B d_Mo_digest_68 ?_
        refine a_aload_n B d_Mo_digest_69 rfl rfl ?_
        refine gf_Mo_rows B d_Mo_digest_70 fl_Mo_17 ?_
        refine a_bipush B d_Mo_digest_73 cb_10 ?_
        refine a_iload_n B d_Mo_digest_75 rfl rfl ?_
        first | refine b_imul B d_Mo_digest_76 ?_ | refine a_imul B d_Mo_digest_76 ?_
        refine a_iload B d_Mo_digest_77 rfl ?_
        first | refine b_iadd B d_Mo_digest_79 ?_ | refine a_iadd B d_Mo_digest_79 ?_
        refine a_iald B ly_109 _ rfl (by first | assumption | omega) d_Mo_digest_80 ?_
        rw [hpl i j (by omega) (by omega)]
        refine a_i2l B d_Mo_digest_81 ?_
        refine a_ladd B d_Mo_digest_82 ?_
        refine a_lstore_n (lv1 := [(0, _), (1, _), (3, _), (4, _)]) B d_Mo_digest_83 rfl (by decide) rfl ?_
        first | refine b_iinc (lv1 := [(0, _), (1, _), (3, _), (4, _)]) B d_Mo_digest_84 rfl ci_1 (by decide) rfl ?_ | refine a_iinc (lv1 := [(0, _), (1, _), (3, _), (4, _)]) B d_Mo_digest_84 rfl rfl (by decide) rfl ?_
        refine a_goto B 48 d_Mo_digest_87 rfl ?_
        exact ihj
      · skip
        refine a_iload B d_Mo_digest_48 rfl ?_
        refine a_bipush B d_Mo_digest_50 cb_10 ?_
        first | refine b_icmp_ge B 90 d_Mo_digest_52 rfl (by omega) (by omega) (fun c_52 => ?_) (fun c_52 => ?_) | refine a_icmp_ge B 90 d_Mo_digest_52 rfl (fun c_52 => ?_) (fun c_52 => ?_)
        · skip
          first | refine b_iinc (lv1 := [(0, _), (1, _), (3, _), (4, _)]) B d_Mo_digest_90 rfl ci_1 (by decide) rfl ?_ | refine a_iinc (lv1 := [(0, _), (1, _), (3, _), (4, _)]) B d_Mo_digest_90 rfl rfl (by decide) rfl ?_
          refine a_goto B 22 d_Mo_digest_93 rfl ?_
          refine a_sub (lv1 := [(0, _), (1, _), (3, _)]) rfl ?_
          have e9 : dgRows (sTh S) (sPl S) (i + 1) (31 * (31 * 17 + (nI (sN S)).toInt64) + (nI (sMx S)).toInt64) = dgIn (fun j => nI (sPl S i j)) 10 (dgRows (sTh S) (sPl S) i (31 * (31 * 17 + (nI (sN S)).toInt64) + (nI (sMx S)).toInt64)) := (by show dgRow (sTh S i) _ _ = _; rw [hb]; rfl)
          rw [e9] at ihi
          exact ihi
        exact absurd c_52 (by omega)
    have inF : sTh S i = false → AW g K 6 48 [(0, rV 106), (1, lV (31 * (dgRows (sTh S) (sPl S) i (31 * (31 * 17 + (nI (sN S)).toInt64) + (nI (sMx S)).toInt64)) - 1)), (3, iV (nI i)), (4, iV (nI 0))] [] σ := by
      intro hb
      refine a_iload B d_Mo_digest_48 rfl ?_
      refine a_bipush B d_Mo_digest_50 cb_10 ?_
      first | refine b_icmp_ge B 90 d_Mo_digest_52 rfl (by omega) (by omega) (fun c_52 => ?_) (fun c_52 => ?_) | refine a_icmp_ge B 90 d_Mo_digest_52 rfl (fun c_52 => ?_) (fun c_52 => ?_)
      · exact absurd c_52 (by omega)
      refine a_aload_n B d_Mo_digest_55 rfl rfl ?_
      refine gf_Mo_isRow B d_Mo_digest_56 fl_Mo_13 ?_
      refine a_iload_n B d_Mo_digest_59 rfl rfl ?_
      refine a_zald B ly_108 _ rfl (by first | assumption | omega) d_Mo_digest_60 ?_
      rw [hth i (by omega)]
      first | refine b_if_eq_b B 90 d_Mo_digest_61 rfl (fun c_61 => ?_) (fun c_61 => ?_) | refine a_if_eq B 90 d_Mo_digest_61 rfl (fun c_61 => ?_) (fun c_61 => ?_)
      · skip
        first | refine b_iinc (lv1 := [(0, _), (1, _), (3, _), (4, _)]) B d_Mo_digest_90 rfl ci_1 (by decide) rfl ?_ | refine a_iinc (lv1 := [(0, _), (1, _), (3, _), (4, _)]) B d_Mo_digest_90 rfl rfl (by decide) rfl ?_
        refine a_goto B 22 d_Mo_digest_93 rfl ?_
        refine a_sub (lv1 := [(0, _), (1, _), (3, _)]) rfl ?_
        have e9 : dgRows (sTh S) (sPl S) (i + 1) (31 * (31 * 17 + (nI (sN S)).toInt64) + (nI (sMx S)).toInt64) = 31 * (dgRows (sTh S) (sPl S) i (31 * (31 * 17 + (nI (sN S)).toInt64) + (nI (sMx S)).toInt64)) - 1 := (by show dgRow (sTh S i) _ _ = _; rw [hb]; rfl)
        rw [e9] at ihi
        exact ihi
      · exact absurd (hb.symm.trans c_61) (by decide)
    refine a_aload_n B d_Mo_digest_28 rfl rfl ?_
    refine gf_Mo_isRow B d_Mo_digest_29 fl_Mo_13 ?_
    refine a_iload_n B d_Mo_digest_32 rfl rfl ?_
    refine a_zald B ly_108 _ rfl (by first | assumption | omega) d_Mo_digest_33 ?_
    rw [hth i (by omega)]
    first | refine b_if_ne_b B 45 d_Mo_digest_34 rfl (fun c_34 => ?_) (fun c_34 => ?_) | refine a_if_ne B 45 d_Mo_digest_34 rfl (fun c_34 => ?_) (fun c_34 => ?_)
    · skip
      refine a_iconst B d_Mo_digest_45 ci_0 ?_
      refine a_istore (lv1 := [(0, _), (1, _), (3, _), (4, _)]) B d_Mo_digest_46 (by decide) rfl ?_
      first | exact inT c_34 | exact inF c_34
    refine a_ldc2 B d_Mo_digest_37 kl_Mo_206 ?_
    refine a_lload_n B d_Mo_digest_40 rfl rfl ?_
    refine a_lmul B d_Mo_digest_41 ?_
    refine a_lconst (v := 1) B d_Mo_digest_42 rfl ?_
    refine a_lsub B d_Mo_digest_43 ?_
    refine a_lstore_n (lv1 := [(0, _), (1, _), (3, _)]) B d_Mo_digest_44 rfl (by decide) rfl ?_
    refine a_iconst B d_Mo_digest_45 ci_0 ?_
    refine a_istore (lv1 := [(0, _), (1, _), (3, _), (4, _)]) B d_Mo_digest_46 (by decide) rfl ?_
    first | exact inT c_34 | exact inF c_34
  · skip
    refine a_iload_n B d_Mo_digest_22 rfl rfl ?_
    refine a_bipush B d_Mo_digest_23 cb_10 ?_
    first | refine b_icmp_ge B 96 d_Mo_digest_25 rfl (by omega) (by omega) (fun c_25 => ?_) (fun c_25 => ?_) | refine a_icmp_ge B 96 d_Mo_digest_25 rfl (fun c_25 => ?_) (fun c_25 => ?_)
    · skip
      refine a_iconst B d_Mo_digest_96 ci_0 ?_
      refine a_istore_n (lv1 := [(0, _), (1, _), (3, _)]) B d_Mo_digest_97 rfl (by decide) rfl ?_
      refine a_for (lf := fun i => [(0, rV 106), (1, lV (dgTrees S i (dgRows (sTh S) (sPl S) 10 (31 * (31 * 17 + (nI (sN S)).toInt64) + (nI (sMx S)).toInt64)))), (3, iV (nI i))]) (τ := fun i => σ) 4 (fun i hi ihi => ?_) ?_ 0 (Nat.zero_le _)
      · skip
        refine a_iload_n B d_Mo_digest_98 rfl rfl ?_
        refine a_iconst B d_Mo_digest_99 ci_4 ?_
        first | refine b_icmp_ge B 177 d_Mo_digest_100 rfl (by omega) (by omega) (fun c_100 => ?_) (fun c_100 => ?_) | refine a_icmp_ge B 177 d_Mo_digest_100 rfl (fun c_100 => ?_) (fun c_100 => ?_)
        · skip
          exact absurd c_100 (by omega)
        have inN : tN (sT S i) ≠ 0 → AW g K 6 123 [(0, rV 106), (1, lV (dgTrees S i (dgRows (sTh S) (sPl S) 10 (31 * (31 * 17 + (nI (sN S)).toInt64) + (nI (sMx S)).toInt64)))), (3, iV (nI i)), (4, iV (nI 0))] [] σ := by
          intro hn
          obtain ⟨tW, tA, tB, tX⟩ := (hS.2.1 i (by omega)).2 hn
          obtain ⟨a1, a2, a3, a4, a5, a6⟩ := id tA
          have w1 := tW.1
          have w10 := tW.2.1
          refine a_for (lf := fun k => [(0, rV 106), (1, lV (dgTree (sT S i) k (dgTrees S i (dgRows (sTh S) (sPl S) 10 (31 * (31 * 17 + (nI (sN S)).toInt64) + (nI (sMx S)).toInt64))))), (3, iV (nI i)), (4, iV (nI k))]) (τ := fun k => σ) (2 * tN (sT S i) - 1) (fun k hk ihk => ?_) ?_ 0 (Nat.zero_le _)
          · skip
            refine a_iload B d_Mo_digest_123 rfl ?_
            refine a_aload_n B d_Mo_digest_125 rfl rfl ?_
            refine a_iload_n B d_Mo_digest_126 rfl rfl ?_
            refine a_callVI (ci := 7) B (t_Mo_nodes G (show i < 4 by omega) w1 w10 a1) d_Mo_digest_127 ok_Mo_nodes ml_Mo_123 ly_106 rfl rfl (by decide) (by decide) rfl (Nat.le_of_ble_eq_true rfl) (fun r_127 τ_127 h_127 => ?_)
            obtain ⟨hr_127, hs_127⟩ := h_127
            subst hr_127
            replace hs_127 := hs_127.symm
            subst hs_127
            first | refine b_icmp_ge B 171 d_Mo_digest_130 rfl (by omega) (by omega) (fun c_130 => ?_) (fun c_130 => ?_) | refine a_icmp_ge B 171 d_Mo_digest_130 rfl (fun c_130 => ?_) (fun c_130 => ?_)
            · skip
              exact absurd c_130 (by omega)
            refine a_iconst B d_Mo_digest_133 ci_0 ?_
            refine a_istore (lv1 := [(0, _), (1, _), (3, _), (4, _), (5, _)]) B d_Mo_digest_134 (by decide) rfl ?_
            refine a_for (lf := fun w => [(0, rV 106), (1, lV (dgIn (tellT (sT S i) k) w (dgTree (sT S i) k (dgTrees S i (dgRows (sTh S) (sPl S) 10 (31 * (31 * 17 + (nI (sN S)).toInt64) + (nI (sMx S)).toInt64)))))), (3, iV (nI i)), (4, iV (nI k)), (5, iV (nI w))]) (τ := fun w => σ) 6 (fun w hw ihw => ?_) ?_ 0 (Nat.zero_le _)
            · skip
              refine a_iload B d_Mo_digest_136 rfl ?_
              refine a_iconst B d_Mo_digest_138 ci_5 ?_
              first | refine b_icmp_gt B 165 d_Mo_digest_139 rfl (by omega) (by omega) (fun c_139 => ?_) (fun c_139 => ?_) | refine a_icmp_gt B 165 d_Mo_digest_139 rfl (fun c_139 => ?_) (fun c_139 => ?_)
              · skip
                exact absurd c_139 (by omega)
              refine a_ldc2 B d_Mo_digest_142 kl_Mo_206 ?_
              refine a_lload_n B d_Mo_digest_145 rfl rfl ?_
              refine a_lmul B d_Mo_digest_146 ?_
              refine a_aload_n B d_Mo_digest_147 rfl rfl ?_
              refine a_iload_n B d_Mo_digest_148 rfl rfl ?_
              refine a_iload B d_Mo_digest_149 rfl ?_
              refine a_iload B d_Mo_digest_151 rfl ?_
              refine a_callVI (ci := 7) B (t_Mo_tells G (show i < 4 by omega) tW tA tB (v := k) (by omega) hw) d_Mo_digest_153 ok_Mo_tells ml_Mo_142 ly_106 rfl rfl (by decide) (by decide) rfl (Nat.le_of_ble_eq_true rfl) (fun r_153 τ_153 h_153 => ?_)
              obtain ⟨hr_153, hs_153⟩ := h_153
              subst hr_153
              replace hs_153 := hs_153.symm
              subst hs_153
              refine a_i2l B d_Mo_digest_156 ?_
              refine a_ladd B d_Mo_digest_157 ?_
              refine a_lstore_n (lv1 := [(0, _), (1, _), (3, _), (4, _), (5, _)]) B d_Mo_digest_158 rfl (by decide) rfl ?_
              first | refine b_iinc (lv1 := [(0, _), (1, _), (3, _), (4, _), (5, _)]) B d_Mo_digest_159 rfl ci_1 (by decide) rfl ?_ | refine a_iinc (lv1 := [(0, _), (1, _), (3, _), (4, _), (5, _)]) B d_Mo_digest_159 rfl rfl (by decide) rfl ?_
              refine a_goto B 136 d_Mo_digest_162 rfl ?_
              exact ihw
            · skip
              refine a_iload B d_Mo_digest_136 rfl ?_
              refine a_iconst B d_Mo_digest_138 ci_5 ?_
              first | refine b_icmp_gt B 165 d_Mo_digest_139 rfl (by omega) (by omega) (fun c_139 => ?_) (fun c_139 => ?_) | refine a_icmp_gt B 165 d_Mo_digest_139 rfl (fun c_139 => ?_) (fun c_139 => ?_)
              · skip
                first | refine b_iinc (lv1 := [(0, _), (1, _), (3, _), (4, _), (5, _)]) B d_Mo_digest_165 rfl ci_1 (by decide) rfl ?_ | refine a_iinc (lv1 := [(0, _), (1, _), (3, _), (4, _), (5, _)]) B d_Mo_digest_165 rfl rfl (by decide) rfl ?_
                refine a_goto B 123 d_Mo_digest_168 rfl ?_
                refine a_sub (lv1 := [(0, _), (1, _), (3, _), (4, _)]) rfl ?_
                exact ihk
              exact absurd c_139 (by omega)
          · skip
            refine a_iload B d_Mo_digest_123 rfl ?_
            refine a_aload_n B d_Mo_digest_125 rfl rfl ?_
            refine a_iload_n B d_Mo_digest_126 rfl rfl ?_
            refine a_callVI (ci := 7) B (t_Mo_nodes G (show i < 4 by omega) w1 w10 a1) d_Mo_digest_127 ok_Mo_nodes ml_Mo_123 ly_106 rfl rfl (by decide) (by decide) rfl (Nat.le_of_ble_eq_true rfl) (fun r_127 τ_127 h_127 => ?_)
            obtain ⟨hr_127, hs_127⟩ := h_127
            subst hr_127
            replace hs_127 := hs_127.symm
            subst hs_127
            first | refine b_icmp_ge B 171 d_Mo_digest_130 rfl (by omega) (by omega) (fun c_130 => ?_) (fun c_130 => ?_) | refine a_icmp_ge B 171 d_Mo_digest_130 rfl (fun c_130 => ?_) (fun c_130 => ?_)
            · skip
              first | refine b_iinc (lv1 := [(0, _), (1, _), (3, _), (4, _)]) B d_Mo_digest_171 rfl ci_1 (by decide) rfl ?_ | refine a_iinc (lv1 := [(0, _), (1, _), (3, _), (4, _)]) B d_Mo_digest_171 rfl rfl (by decide) rfl ?_
              refine a_goto B 98 d_Mo_digest_174 rfl ?_
              refine a_sub (lv1 := [(0, _), (1, _), (3, _)]) rfl ?_
              have e9 : dgTrees S (i + 1) (dgRows (sTh S) (sPl S) 10 (31 * (31 * 17 + (nI (sN S)).toInt64) + (nI (sMx S)).toInt64)) = dgTree (sT S i) (2 * tN (sT S i) - 1) (dgTrees S i (dgRows (sTh S) (sPl S) 10 (31 * (31 * 17 + (nI (sN S)).toInt64) + (nI (sMx S)).toInt64))) := if_neg hn
              rw [e9] at ihi
              exact ihi
            exact absurd c_130 (by omega)
        have inZ : tN (sT S i) = 0 → AW g K 6 123 [(0, rV 106), (1, lV (31 * (dgTrees S i (dgRows (sTh S) (sPl S) 10 (31 * (31 * 17 + (nI (sN S)).toInt64) + (nI (sMx S)).toInt64))) - 1)), (3, iV (nI i)), (4, iV (nI 0))] [] σ := by
          intro hn
          have z1 : σ.1 111 i = nI 0 := (by rw [(hS.2.1 i (by omega)).1, hn])
          refine a_iload B d_Mo_digest_123 rfl ?_
          refine a_aload_n B d_Mo_digest_125 rfl rfl ?_
          refine a_iload_n B d_Mo_digest_126 rfl rfl ?_
          refine a_callVI (ci := 7) B (t_Mo_nodes0 G (show i < 4 by omega) z1) d_Mo_digest_127 ok_Mo_nodes ml_Mo_123 ly_106 rfl rfl (by decide) (by decide) rfl (Nat.le_of_ble_eq_true rfl) (fun r_127 τ_127 h_127 => ?_)
          obtain ⟨hr_127, hs_127⟩ := h_127
          subst hr_127
          replace hs_127 := hs_127.symm
          subst hs_127
          first | refine b_icmp_ge B 171 d_Mo_digest_130 rfl (by omega) (by omega) (fun c_130 => ?_) (fun c_130 => ?_) | refine a_icmp_ge B 171 d_Mo_digest_130 rfl (fun c_130 => ?_) (fun c_130 => ?_)
          · skip
            first | refine b_iinc (lv1 := [(0, _), (1, _), (3, _), (4, _)]) B d_Mo_digest_171 rfl ci_1 (by decide) rfl ?_ | refine a_iinc (lv1 := [(0, _), (1, _), (3, _), (4, _)]) B d_Mo_digest_171 rfl rfl (by decide) rfl ?_
            refine a_goto B 98 d_Mo_digest_174 rfl ?_
            refine a_sub (lv1 := [(0, _), (1, _), (3, _)]) rfl ?_
            have e9 : dgTrees S (i + 1) (dgRows (sTh S) (sPl S) 10 (31 * (31 * 17 + (nI (sN S)).toInt64) + (nI (sMx S)).toInt64)) = 31 * (dgTrees S i (dgRows (sTh S) (sPl S) 10 (31 * (31 * 17 + (nI (sN S)).toInt64) + (nI (sMx S)).toInt64))) - 1 := if_pos hn
            rw [e9] at ihi
            exact ihi
          · exact absurd (show nI 0 ≥ (-1 : Int32) by decide) c_130
        refine a_aload_n B d_Mo_digest_103 rfl rfl ?_
        refine gf_Mo_sizes B d_Mo_digest_104 fl_Mo_23 ?_
        refine a_iload_n B d_Mo_digest_107 rfl rfl ?_
        refine a_iald B ly_111 _ rfl (by first | assumption | omega) d_Mo_digest_108 ?_
        rw [(hS.2.1 i (by omega)).1]
        have hb9 : tN (sT S i) < 2 ^ 31 := (by have := tM_le hS (t := i) (by omega); omega)
        first | refine b_if_ne_b B 120 d_Mo_digest_109 rfl (fun c_109 => ?_) (fun c_109 => ?_) | refine a_if_ne B 120 d_Mo_digest_109 rfl (fun c_109 => ?_) (fun c_109 => ?_)
        · skip
          refine a_iconst B d_Mo_digest_120 ci_0 ?_
          refine a_istore (lv1 := [(0, _), (1, _), (3, _), (4, _)]) B d_Mo_digest_121 (by decide) rfl ?_
          first | exact inN (fun q => c_109 (by rw [q]; rfl)) | exact inZ (nI_z hb9 c_109)
        refine a_ldc2 B d_Mo_digest_112 kl_Mo_206 ?_
        refine a_lload_n B d_Mo_digest_115 rfl rfl ?_
        refine a_lmul B d_Mo_digest_116 ?_
        refine a_lconst (v := 1) B d_Mo_digest_117 rfl ?_
        refine a_lsub B d_Mo_digest_118 ?_
        refine a_lstore_n (lv1 := [(0, _), (1, _), (3, _)]) B d_Mo_digest_119 rfl (by decide) rfl ?_
        refine a_iconst B d_Mo_digest_120 ci_0 ?_
        refine a_istore (lv1 := [(0, _), (1, _), (3, _), (4, _)]) B d_Mo_digest_121 (by decide) rfl ?_
        first | exact inN (fun q => c_109 (by rw [q]; rfl)) | exact inZ (nI_z hb9 c_109)
      · skip
        refine a_iload_n B d_Mo_digest_98 rfl rfl ?_
        refine a_iconst B d_Mo_digest_99 ci_4 ?_
        first | refine b_icmp_ge B 177 d_Mo_digest_100 rfl (by omega) (by omega) (fun c_100 => ?_) (fun c_100 => ?_) | refine a_icmp_ge B 177 d_Mo_digest_100 rfl (fun c_100 => ?_) (fun c_100 => ?_)
        · skip
          refine a_iconst B d_Mo_digest_177 ci_0 ?_
          refine a_istore_n (lv1 := [(0, _), (1, _), (3, _)]) B d_Mo_digest_178 rfl (by decide) rfl ?_
          refine a_for (lf := fun i => [(0, rV 106), (1, lV (dgW (sWo S) (sMx S) i (dgTrees S 4 (dgRows (sTh S) (sPl S) 10 (31 * (31 * 17 + (nI (sN S)).toInt64) + (nI (sMx S)).toInt64))))), (3, iV (nI i))]) (τ := fun i => σ) (sMx S) (fun i hi ihi => ?_) ?_ 0 (Nat.zero_le _)
          · skip
            refine a_iload_n B d_Mo_digest_179 rfl rfl ?_
            refine a_aload_n B d_Mo_digest_180 rfl rfl ?_
            refine gf_Mo_many B d_Mo_digest_181 fl_Mo_193 ?_
            rw [xN]
            first | refine b_icmp_ge B 233 d_Mo_digest_184 rfl (by omega) (by omega) (fun c_184 => ?_) (fun c_184 => ?_) | refine a_icmp_ge B 233 d_Mo_digest_184 rfl (fun c_184 => ?_) (fun c_184 => ?_)
            · skip
              exact absurd c_184 (by omega)
            refine a_iload_n B d_Mo_digest_187 rfl rfl ?_
            refine a_iconst B d_Mo_digest_188 ci_1 ?_
            first | refine b_iadd B d_Mo_digest_189 ?_ | refine a_iadd B d_Mo_digest_189 ?_
            refine a_istore (lv1 := [(0, _), (1, _), (3, _), (4, _)]) B d_Mo_digest_190 (by decide) rfl ?_
            refine a_for (lf := fun j => [(0, rV 106), (1, lV (dgWrow (fun b => zI (sWo S i b)) i j (dgW (sWo S) (sMx S) i (dgTrees S 4 (dgRows (sTh S) (sPl S) 10 (31 * (31 * 17 + (nI (sN S)).toInt64) + (nI (sMx S)).toInt64)))))), (3, iV (nI i)), (4, iV (nI (i + 1 + j)))]) (τ := fun j => σ) (sMx S - (i + 1)) (fun j hj ihj => ?_) ?_ 0 (Nat.zero_le _)
            · skip
              refine a_iload B d_Mo_digest_192 rfl ?_
              refine a_aload_n B d_Mo_digest_194 rfl rfl ?_
              refine gf_Mo_many B d_Mo_digest_195 fl_Mo_193 ?_
              rw [xN]
              first | refine b_icmp_ge B 227 d_Mo_digest_198 rfl (by omega) (by omega) (fun c_198 => ?_) (fun c_198 => ?_) | refine a_icmp_ge B 227 d_Mo_digest_198 rfl (fun c_198 => ?_) (fun c_198 => ?_)
              · skip
                exact absurd c_198 (by omega)
              refine a_ldc2 B d_Mo_digest_201 kl_Mo_206 ?_
              refine a_lload_n B d_Mo_digest_204 rfl rfl ?_
              refine a_lmul B d_Mo_digest_205 ?_
              refine a_aload_n B d_Mo_digest_206 rfl rfl ?_
              refine gf_Mo_worths B d_Mo_digest_207 fl_Mo_68 ?_
              refine a_bipush B d_Mo_digest_210 cb_8 ?_
              refine a_iload_n B d_Mo_digest_212 rfl rfl ?_
              first | refine b_imul B d_Mo_digest_213 ?_ | refine a_imul B d_Mo_digest_213 ?_
              refine a_iload B d_Mo_digest_214 rfl ?_
              first | refine b_iadd B d_Mo_digest_216 ?_ | refine a_iadd B d_Mo_digest_216 ?_
              refine a_iald B ly_126 _ rfl (by first | assumption | omega) d_Mo_digest_217 ?_
              rw [xw i (i + 1 + j) (by omega) (by omega)]
              refine a_i2l B d_Mo_digest_218 ?_
              refine a_ladd B d_Mo_digest_219 ?_
              refine a_lstore_n (lv1 := [(0, _), (1, _), (3, _), (4, _)]) B d_Mo_digest_220 rfl (by decide) rfl ?_
              first | refine b_iinc (lv1 := [(0, _), (1, _), (3, _), (4, _)]) B d_Mo_digest_221 rfl ci_1 (by decide) rfl ?_ | refine a_iinc (lv1 := [(0, _), (1, _), (3, _), (4, _)]) B d_Mo_digest_221 rfl rfl (by decide) rfl ?_
              refine a_goto B 192 d_Mo_digest_224 rfl ?_
              exact ihj
            · skip
              refine a_iload B d_Mo_digest_192 rfl ?_
              refine a_aload_n B d_Mo_digest_194 rfl rfl ?_
              refine gf_Mo_many B d_Mo_digest_195 fl_Mo_193 ?_
              rw [xN]
              first | refine b_icmp_ge B 227 d_Mo_digest_198 rfl (by omega) (by omega) (fun c_198 => ?_) (fun c_198 => ?_) | refine a_icmp_ge B 227 d_Mo_digest_198 rfl (fun c_198 => ?_) (fun c_198 => ?_)
              · skip
                first | refine b_iinc (lv1 := [(0, _), (1, _), (3, _), (4, _)]) B d_Mo_digest_227 rfl ci_1 (by decide) rfl ?_ | refine a_iinc (lv1 := [(0, _), (1, _), (3, _), (4, _)]) B d_Mo_digest_227 rfl rfl (by decide) rfl ?_
                refine a_goto B 179 d_Mo_digest_230 rfl ?_
                refine a_sub (lv1 := [(0, _), (1, _), (3, _)]) rfl ?_
                exact ihi
              exact absurd c_198 (by omega)
          · skip
            refine a_iload_n B d_Mo_digest_179 rfl rfl ?_
            refine a_aload_n B d_Mo_digest_180 rfl rfl ?_
            refine gf_Mo_many B d_Mo_digest_181 fl_Mo_193 ?_
            rw [xN]
            first | refine b_icmp_ge B 233 d_Mo_digest_184 rfl (by omega) (by omega) (fun c_184 => ?_) (fun c_184 => ?_) | refine a_icmp_ge B 233 d_Mo_digest_184 rfl (fun c_184 => ?_) (fun c_184 => ?_)
            · skip
              refine a_lload_n B d_Mo_digest_233 rfl rfl ?_
              exact Rt _ _ _ _ d_Mo_digest_234 ⟨rfl, rfl⟩
            exact absurd c_184 (by omega)
        exact absurd c_100 (by omega)
    exact absurd c_25 (by omega)
def bstV (W : Nat → Nat → Int) (m s a j : Nat) : Int := match bnS (fun b => W a b + ahV W m (del s b) b) s j with
  | none => if s = 0 then 0 else -100000
  | some z => z.2
theorem bst_val {W : Nat → Nat → Int} {m s a b : Nat} (hm : m ≤ 8) (hW : okW W) (hs : s < 256) : -11000 ≤ W a b + ahV W m (del s b) b ∧ W a b + ahV W m (del s b) b ≤ 11000 := by
  have h1 := hW a b
  have h2 := ahV_bd hm hW (s := del s b) (a := b) (del_lt256 hs)
  omega
theorem bst_bd {W : Nat → Nat → Int} {m s a j : Nat} (hm : m ≤ 8) (hW : okW W) (hs : s < 256) : -100000 ≤ bstV W m s a j ∧ bstV W m s a j ≤ 11000 := by
  unfold bstV
  cases h : bnS (fun b => W a b + ahV W m (del s b) b) s j with
  | none => show -100000 ≤ (if s = 0 then (0 : Int) else -100000) ∧ (if s = 0 then (0 : Int) else -100000) ≤ 11000; split <;> omega
  | some z =>
    have h3 := (bnS_ok h).2.2
    have h4 := bst_val (a := a) (b := z.1) hm hW hs
    show -100000 ≤ z.2 ∧ z.2 ≤ 11000
    omega
theorem bst_no {W : Nat → Nat → Int} {m s a j : Nat} (hm : m ≤ 8) (hW : okW W) (hs : s < 256) (h : s.testBit j = false) : bstV W m s a (j + 1) = if bstV W m s a j < -100000 then -100000 else bstV W m s a j := by
  have := bst_bd (W := W) (m := m) (s := s) (a := a) (j := j) hm hW hs
  rw [if_neg (by omega)]
  unfold bstV
  rw [bnS_no h]
theorem bst_in {W : Nat → Nat → Int} {m s a j : Nat} (hm : m ≤ 8) (hW : okW W) (hs : s < 256) (h : s.testBit j = true) : bstV W m s a (j + 1) = if bstV W m s a j < W a j + ahV W m (del s j) j then W a j + ahV W m (del s j) j else bstV W m s a j := by
  have hv := bst_val (a := a) (b := j) hm hW hs
  cases hq : bnS (fun b => W a b + ahV W m (del s b) b) s j with
  | none =>
    have e1 : bstV W m s a j = if s = 0 then 0 else -100000 := by unfold bstV; rw [hq]
    have hs0 : ¬ s = 0 := fun q => by rw [q, Nat.zero_testBit] at h; cases h
    rw [if_neg hs0] at e1
    rw [if_pos (by omega)]
    unfold bstV
    rw [bnS_first h hq]
  | some z =>
    have e1 : bstV W m s a j = z.2 := by unfold bstV; rw [hq]
    by_cases hl : z.2 < W a j + ahV W m (del s j) j
    · rw [if_pos (by omega)]
      unfold bstV
      rw [bnS_more h hq hl]
    · rw [if_neg (by omega), e1]
      unfold bstV
      rw [bnS_keep h hq (by show W a j + ahV W m (del s j) j ≤ z.2; omega)]
theorem bst_end {W : Nat → Nat → Int} {m s a : Nat} (hm : m ≤ 8) (hs : s < 256) (h : s < 2 ^ m) : bstV W m s a m = ahV W m s a := by
  rw [ahV_eq hm hs]
  unfold bstV
  cases hq : bnS (fun b => W a b + ahV W m (del s b) b) s m with
  | some z => rfl
  | none =>
    refine if_pos (Nat.eq_of_testBit_eq (fun i => ?_))
    rw [Nat.zero_testBit]
    by_cases hi : i < m
    · exact bnS_none hq i hi
    · exact Nat.testBit_lt_two_pow (Nat.lt_of_lt_of_le h (Nat.pow_le_pow_right (by decide) (by omega)))
theorem zI_100 : (-100000 : Int32) = zI (-100000) := by decide +kernel
theorem p2m {m : Nat} (hm : m ≤ 8) : 1 ≤ 2 ^ m ∧ 2 ^ m ≤ 256 := by
  have key : ∀ m, m ≤ 8 → 1 ≤ 2 ^ m ∧ 2 ^ m ≤ 256 := (by decide)
  exact key m hm
def AhT (W : Nat → Nat → Int) (m s : Nat) (τ : AH) : Prop := ∀ s', s' < s → ∀ b, b < m → τ.1 127 (8 * s' + b) = zI (ahV W m s' b)
theorem d_Mo_setAhead_0 : decode prog_9_method_58_code 0 = .ok (.iconst 0, 1) := by decide +kernel
theorem d_Mo_setAhead_1 : decode prog_9_method_58_code 1 = .ok (.istore_n 2, 1) := by decide +kernel
theorem d_Mo_setAhead_2 : decode prog_9_method_58_code 2 = .ok (.iload_n 2, 1) := by decide +kernel
theorem d_Mo_setAhead_3 : decode prog_9_method_58_code 3 = .ok (.aload_n 0, 1) := by decide +kernel
theorem d_Mo_setAhead_4 : decode prog_9_method_58_code 4 = .ok (.getfield 193, 3) := by decide +kernel
theorem d_Mo_setAhead_7 : decode prog_9_method_58_code 7 = .ok (.if_icmp .ge 111, 3) := by decide +kernel
theorem d_Mo_setAhead_10 : decode prog_9_method_58_code 10 = .ok (.iload_n 1, 1) := by decide +kernel
theorem d_Mo_setAhead_11 : decode prog_9_method_58_code 11 = .ok (.ifCond .ne 7, 3) := by decide +kernel
theorem d_Mo_setAhead_14 : decode prog_9_method_58_code 14 = .ok (.iconst 0, 1) := by decide +kernel
theorem d_Mo_setAhead_15 : decode prog_9_method_58_code 15 = .ok (.goto 5, 3) := by decide +kernel
theorem d_Mo_setAhead_18 : decode prog_9_method_58_code 18 = .ok (.ldc 199, 2) := by decide +kernel
theorem d_Mo_setAhead_20 : decode prog_9_method_58_code 20 = .ok (.istore_n 3, 1) := by decide +kernel
theorem d_Mo_setAhead_21 : decode prog_9_method_58_code 21 = .ok (.iconst 0, 1) := by decide +kernel
theorem d_Mo_setAhead_22 : decode prog_9_method_58_code 22 = .ok (.istore 4, 2) := by decide +kernel
theorem d_Mo_setAhead_24 : decode prog_9_method_58_code 24 = .ok (.iload 4, 2) := by decide +kernel
theorem d_Mo_setAhead_26 : decode prog_9_method_58_code 26 = .ok (.aload_n 0, 1) := by decide +kernel
theorem d_Mo_setAhead_27 : decode prog_9_method_58_code 27 = .ok (.getfield 193, 3) := by decide +kernel
theorem d_Mo_setAhead_30 : decode prog_9_method_58_code 30 = .ok (.if_icmp .ge 70, 3) := by decide +kernel
theorem d_Mo_setAhead_33 : decode prog_9_method_58_code 33 = .ok (.iload_n 1, 1) := by decide +kernel
theorem d_Mo_setAhead_34 : decode prog_9_method_58_code 34 = .ok (.iload 4, 2) := by decide +kernel
theorem d_Mo_setAhead_36 : decode prog_9_method_58_code 36 = .ok (.ishr, 1) := by decide +kernel
theorem d_Mo_setAhead_37 : decode prog_9_method_58_code 37 = .ok (.iconst 1, 1) := by decide +kernel
theorem d_Mo_setAhead_38 : decode prog_9_method_58_code 38 = .ok (.iand, 1) := by decide +kernel
theorem d_Mo_setAhead_39 : decode prog_9_method_58_code 39 = .ok (.ifCond .ne 8, 3) := by decide +kernel
theorem d_Mo_setAhead_42 : decode prog_9_method_58_code 42 = .ok (.ldc 199, 2) := by decide +kernel
theorem d_Mo_setAhead_44 : decode prog_9_method_58_code 44 = .ok (.goto 35, 3) := by decide +kernel
theorem d_Mo_setAhead_47 : decode prog_9_method_58_code 47 = .ok (.aload_n 0, 1) := by decide +kernel
theorem d_Mo_setAhead_48 : decode prog_9_method_58_code 48 = .ok (.getfield 68, 3) := by decide +kernel
theorem d_Mo_setAhead_51 : decode prog_9_method_58_code 51 = .ok (.bipush 8, 2) := by decide +kernel
theorem d_Mo_setAhead_53 : decode prog_9_method_58_code 53 = .ok (.iload_n 2, 1) := by decide +kernel
theorem d_Mo_setAhead_54 : decode prog_9_method_58_code 54 = .ok (.imul, 1) := by decide +kernel
theorem d_Mo_setAhead_55 : decode prog_9_method_58_code 55 = .ok (.iload 4, 2) := by decide +kernel
theorem d_Mo_setAhead_57 : decode prog_9_method_58_code 57 = .ok (.iadd, 1) := by decide +kernel
theorem d_Mo_setAhead_58 : decode prog_9_method_58_code 58 = .ok (.iaload, 1) := by decide +kernel
theorem d_Mo_setAhead_59 : decode prog_9_method_58_code 59 = .ok (.aload_n 0, 1) := by decide +kernel
theorem d_Mo_setAhead_60 : decode prog_9_method_58_code 60 = .ok (.getfield 71, 3) := by decide +kernel
theorem d_Mo_setAhead_63 : decode prog_9_method_58_code 63 = .ok (.bipush 8, 2) := by decide +kernel
theorem d_Mo_setAhead_65 : decode prog_9_method_58_code 65 = .ok (.iload_n 1, 1) := by decide +kernel
theorem d_Mo_setAhead_66 : decode prog_9_method_58_code 66 = .ok (.iconst 1, 1) := by decide +kernel
theorem d_Mo_setAhead_67 : decode prog_9_method_58_code 67 = .ok (.iload 4, 2) := by decide +kernel
theorem d_Mo_setAhead_69 : decode prog_9_method_58_code 69 = .ok (.ishl, 1) := by decide +kernel
theorem d_Mo_setAhead_70 : decode prog_9_method_58_code 70 = .ok (.iconst (-1), 1) := by decide +kernel
theorem d_Mo_setAhead_71 : decode prog_9_method_58_code 71 = .ok (.ixor, 1) := by decide +kernel
theorem d_Mo_setAhead_72 : decode prog_9_method_58_code 72 = .ok (.iand, 1) := by decide +kernel
theorem d_Mo_setAhead_73 : decode prog_9_method_58_code 73 = .ok (.imul, 1) := by decide +kernel
theorem d_Mo_setAhead_74 : decode prog_9_method_58_code 74 = .ok (.iload 4, 2) := by decide +kernel
theorem d_Mo_setAhead_76 : decode prog_9_method_58_code 76 = .ok (.iadd, 1) := by decide +kernel
theorem d_Mo_setAhead_77 : decode prog_9_method_58_code 77 = .ok (.iaload, 1) := by decide +kernel
theorem d_Mo_setAhead_78 : decode prog_9_method_58_code 78 = .ok (.iadd, 1) := by decide +kernel
theorem d_Mo_setAhead_79 : decode prog_9_method_58_code 79 = .ok (.istore 5, 2) := by decide +kernel
theorem d_Mo_setAhead_81 : decode prog_9_method_58_code 81 = .ok (.iload 5, 2) := by decide +kernel
theorem d_Mo_setAhead_83 : decode prog_9_method_58_code 83 = .ok (.iload_n 3, 1) := by decide +kernel
theorem d_Mo_setAhead_84 : decode prog_9_method_58_code 84 = .ok (.if_icmp .le 8, 3) := by decide +kernel
theorem d_Mo_setAhead_87 : decode prog_9_method_58_code 87 = .ok (.iload 5, 2) := by decide +kernel
theorem d_Mo_setAhead_89 : decode prog_9_method_58_code 89 = .ok (.goto 4, 3) := by decide +kernel
theorem d_Mo_setAhead_92 : decode prog_9_method_58_code 92 = .ok (.iload_n 3, 1) := by decide +kernel
theorem d_Mo_setAhead_93 : decode prog_9_method_58_code 93 = .ok (.istore_n 3, 1) := by decide +kernel
theorem d_Mo_setAhead_94 : decode prog_9_method_58_code 94 = .ok (.iinc 4 1, 3) := by decide +kernel
theorem d_Mo_setAhead_97 : decode prog_9_method_58_code 97 = .ok (.goto (-73), 3) := by decide +kernel
theorem d_Mo_setAhead_100 : decode prog_9_method_58_code 100 = .ok (.aload_n 0, 1) := by decide +kernel
theorem d_Mo_setAhead_101 : decode prog_9_method_58_code 101 = .ok (.getfield 71, 3) := by decide +kernel
theorem d_Mo_setAhead_104 : decode prog_9_method_58_code 104 = .ok (.bipush 8, 2) := by decide +kernel
theorem d_Mo_setAhead_106 : decode prog_9_method_58_code 106 = .ok (.iload_n 1, 1) := by decide +kernel
theorem d_Mo_setAhead_107 : decode prog_9_method_58_code 107 = .ok (.imul, 1) := by decide +kernel
theorem d_Mo_setAhead_108 : decode prog_9_method_58_code 108 = .ok (.iload_n 2, 1) := by decide +kernel
theorem d_Mo_setAhead_109 : decode prog_9_method_58_code 109 = .ok (.iadd, 1) := by decide +kernel
theorem d_Mo_setAhead_110 : decode prog_9_method_58_code 110 = .ok (.iload_n 3, 1) := by decide +kernel
theorem d_Mo_setAhead_111 : decode prog_9_method_58_code 111 = .ok (.iastore, 1) := by decide +kernel
theorem d_Mo_setAhead_112 : decode prog_9_method_58_code 112 = .ok (.iinc 2 1, 3) := by decide +kernel
theorem d_Mo_setAhead_115 : decode prog_9_method_58_code 115 = .ok (.goto (-113), 3) := by decide +kernel
theorem d_Mo_setAhead_118 : decode prog_9_method_58_code 118 = .ok (.return_, 1) := by decide +kernel
set_option maxHeartbeats 4000000 in
set_option maxRecDepth 20000 in
theorem t_Mo_setAhead {g : GG} (G : Gok g) {σ : AH} {m : Nat} {W : Nat → Nat → Int} (hA : AxM σ m W) {s : Nat} (hsm : s < 2 ^ m) (hG0 : AhT W m s σ) : TerV g 0 m_Mo_setAhead [rV 106, iV (nI s)] σ (fun τ => (∀ k, k ≠ 127 → τ.1 k = σ.1 k) ∧ AhT W m (s + 1) τ) := by
  refine TerV.mk G (by decide +kernel) rfl (Nat.le_of_ble_eq_true rfl) (fun K B Rt => ?_)
  have B : Cx g K prog_9_method_58_code 6 R_Mo 0 := B
  have Rt : RetV g K prog_9_method_58_code 6 (fun τ => (∀ k, k ≠ 127 → τ.1 k = σ.1 k) ∧ AhT W m (s + 1) τ) := Rt
  show AW g K 6 0 [(0, rV 106), (1, iV (nI s))] [] σ
  obtain ⟨hN, hm, hw, hW⟩ := id hA
  have hp2 := p2m hm
  have hs : s < 256 := by omega
  refine a_iconst B d_Mo_setAhead_0 ci_0 ?_
  refine a_istore_n (lv1 := [(0, _), (1, _), (2, _)]) B d_Mo_setAhead_1 rfl (by decide) rfl ?_
  refine a_forR m (fun a lv τ => lv = [(0, rV 106), (1, iV (nI s)), (2, iV (nI a))] ∧ (∀ k, k ≠ 127 → τ.1 k = σ.1 k) ∧ AhT W m s τ ∧ (∀ b, b < a → τ.1 127 (8 * s + b) = zI (ahV W m s b))) (fun a lv τ ha hI iha => ?_) (fun lv τ hI => ?_) 0 (Nat.zero_le _) _ _ ⟨rfl, fun _ _ => rfl, hG0, fun b hb => absurd hb (Nat.not_lt_zero b)⟩
  · skip
    obtain ⟨rfl, hO, hG, hH⟩ := hI
    refine a_iload_n B d_Mo_setAhead_2 rfl rfl ?_
    refine a_aload_n B d_Mo_setAhead_3 rfl rfl ?_
    refine gf_Mo_many B d_Mo_setAhead_4 fl_Mo_193 ?_
    rw [hO 106 (by decide), hN]
    first | refine b_icmp_ge B 118 d_Mo_setAhead_7 rfl (by omega) (by omega) (fun c_7 => ?_) (fun c_7 => ?_) | refine a_icmp_ge B 118 d_Mo_setAhead_7 rfl (fun c_7 => ?_) (fun c_7 => ?_)
    · skip
      exact absurd c_7 (by omega)
    refine a_iload_n B d_Mo_setAhead_10 rfl rfl ?_
    first | refine b_if_ne_b B 18 d_Mo_setAhead_11 rfl (fun c_11 => ?_) (fun c_11 => ?_) | refine a_if_ne B 18 d_Mo_setAhead_11 rfl (fun c_11 => ?_) (fun c_11 => ?_)
    · skip
      have hs0 : ¬ s = 0 := fun q => c_11 (by rw [q]; exact nI_0)
      refine a_ldc B d_Mo_setAhead_18 kl_Mo_199 ?_
      first | rw [show (nI 0 : Int32) = zI (bstV W m s a 0) from by rw [show bstV W m s a 0 = 0 from if_pos hs0]; rfl] | rw [show (-100000 : Int32) = zI (bstV W m s a 0) from by rw [show bstV W m s a 0 = -100000 from if_neg hs0]; exact zI_100]
      refine a_istore_n (lv1 := [(0, _), (1, _), (2, _), (3, _)]) B d_Mo_setAhead_20 rfl (by decide) rfl ?_
      refine a_iconst B d_Mo_setAhead_21 ci_0 ?_
      refine a_istore (lv1 := [(0, _), (1, _), (2, _), (3, _), (4, _)]) B d_Mo_setAhead_22 (by decide) rfl ?_
      refine a_for (lf := fun j => [(0, rV 106), (1, iV (nI s)), (2, iV (nI a)), (3, iV (zI (bstV W m s a j))), (4, iV (nI j))]) (τ := fun j => τ) m (fun j hj ihj => ?_) ?_ 0 (Nat.zero_le _)
      · skip
        refine a_iload B d_Mo_setAhead_24 rfl ?_
        refine a_aload_n B d_Mo_setAhead_26 rfl rfl ?_
        refine gf_Mo_many B d_Mo_setAhead_27 fl_Mo_193 ?_
        rw [hO 106 (by decide), hN]
        first | refine b_icmp_ge B 100 d_Mo_setAhead_30 rfl (by omega) (by omega) (fun c_30 => ?_) (fun c_30 => ?_) | refine a_icmp_ge B 100 d_Mo_setAhead_30 rfl (fun c_30 => ?_) (fun c_30 => ?_)
        · skip
          exact absurd c_30 (by omega)
        refine a_iload_n B d_Mo_setAhead_33 rfl rfl ?_
        refine a_iload B d_Mo_setAhead_34 rfl ?_
        refine a_ishr B d_Mo_setAhead_36 ?_
        refine a_iconst B d_Mo_setAhead_37 ci_1 ?_
        refine a_iand B d_Mo_setAhead_38 ?_
        rw [bit_atN (by omega) (by omega)]
        first | refine b_if_ne_b B 47 d_Mo_setAhead_39 rfl (fun c_39 => ?_) (fun c_39 => ?_) | refine a_if_ne B 47 d_Mo_setAhead_39 rfl (fun c_39 => ?_) (fun c_39 => ?_)
        · skip
          have ht : s.testBit j = true := (by cases q : s.testBit j with | true => rfl | false => (exfalso; apply c_39; rw [bit_tb, q]; exact nI_0))
          have hds := del_lt256 (a := j) hs
          refine a_aload_n B d_Mo_setAhead_47 rfl rfl ?_
          refine gf_Mo_worths B d_Mo_setAhead_48 fl_Mo_68 ?_
          refine a_bipush B d_Mo_setAhead_51 cb_8 ?_
          refine a_iload_n B d_Mo_setAhead_53 rfl rfl ?_
          first | refine b_imul B d_Mo_setAhead_54 ?_ | refine a_imul B d_Mo_setAhead_54 ?_
          refine a_iload B d_Mo_setAhead_55 rfl ?_
          first | refine b_iadd B d_Mo_setAhead_57 ?_ | refine a_iadd B d_Mo_setAhead_57 ?_
          refine a_iald B ly_126 _ rfl (by first | assumption | omega) d_Mo_setAhead_58 ?_
          rw [hO 126 (by decide), hw a j (by omega) (by omega)]
          refine a_aload_n B d_Mo_setAhead_59 rfl rfl ?_
          refine gf_Mo_ahead B d_Mo_setAhead_60 fl_Mo_71 ?_
          refine a_bipush B d_Mo_setAhead_63 cb_8 ?_
          refine a_iload_n B d_Mo_setAhead_65 rfl rfl ?_
          refine a_iconst B d_Mo_setAhead_66 ci_1 ?_
          refine a_iload B d_Mo_setAhead_67 rfl ?_
          refine a_ishl B d_Mo_setAhead_69 ?_
          refine a_iconst B d_Mo_setAhead_70 ci_m1 ?_
          refine a_ixor B d_Mo_setAhead_71 ?_
          refine a_iand B d_Mo_setAhead_72 ?_
          rw [del_jvm hs (by omega)]
          first | refine b_imul B d_Mo_setAhead_73 ?_ | refine a_imul B d_Mo_setAhead_73 ?_
          refine a_iload B d_Mo_setAhead_74 rfl ?_
          first | refine b_iadd B d_Mo_setAhead_76 ?_ | refine a_iadd B d_Mo_setAhead_76 ?_
          refine a_iald B ly_127 _ rfl (by first | assumption | omega) d_Mo_setAhead_77 ?_
          rw [hG (del s j) (del_lt hs (by omega) ht) j hj]
          first | refine b_iadd B d_Mo_setAhead_78 ?_ | refine a_iadd B d_Mo_setAhead_78 ?_
          rw [zI_add]
          have hbs := bst_in (a := a) hm hW hs ht
          have hbd : -1000000 ≤ W a j + ahV W m (del s j) j ∧ W a j + ahV W m (del s j) j ≤ 1000000 := (by have := bst_val (a := a) (b := j) hm hW hs; omega)
          refine a_istore (lv1 := [(0, _), (1, _), (2, _), (3, _), (4, _), (5, _)]) B d_Mo_setAhead_79 (by decide) rfl ?_
          refine a_iload B d_Mo_setAhead_81 rfl ?_
          refine a_iload_n B d_Mo_setAhead_83 rfl rfl ?_
          first | refine b_icmp_le B 92 d_Mo_setAhead_84 rfl (by omega) (by omega) (fun c_84 => ?_) (fun c_84 => ?_) | refine a_icmp_le B 92 d_Mo_setAhead_84 rfl (fun c_84 => ?_) (fun c_84 => ?_)
          · skip
            rw [if_neg (by have := (zI_le hbd (by have := bst_bd (W := W) (m := m) (s := s) (a := a) (j := j) hm hW hs; omega)).mp c_84; omega)] at hbs
            refine a_iload_n B d_Mo_setAhead_92 rfl rfl ?_
            refine a_istore_n (lv1 := [(0, _), (1, _), (2, _), (3, _), (4, _), (5, _)]) B d_Mo_setAhead_93 rfl (by decide) rfl ?_
            first | refine b_iinc (lv1 := [(0, _), (1, _), (2, _), (3, _), (4, _), (5, _)]) B d_Mo_setAhead_94 rfl ci_1 (by decide) rfl ?_ | refine a_iinc (lv1 := [(0, _), (1, _), (2, _), (3, _), (4, _), (5, _)]) B d_Mo_setAhead_94 rfl rfl (by decide) rfl ?_
            refine a_goto B 24 d_Mo_setAhead_97 rfl ?_
            refine a_sub (lv1 := [(0, _), (1, _), (2, _), (3, _), (4, _)]) rfl ?_
            rw [hbs] at ihj
            exact ihj
          rw [if_pos ((zI_lt (by have := bst_bd (W := W) (m := m) (s := s) (a := a) (j := j) hm hW hs; omega) hbd).mp (Int32.not_le.mp c_84))] at hbs
          refine a_iload B d_Mo_setAhead_87 rfl ?_
          refine a_goto B 93 d_Mo_setAhead_89 rfl ?_
          refine a_istore_n (lv1 := [(0, _), (1, _), (2, _), (3, _), (4, _), (5, _)]) B d_Mo_setAhead_93 rfl (by decide) rfl ?_
          first | refine b_iinc (lv1 := [(0, _), (1, _), (2, _), (3, _), (4, _), (5, _)]) B d_Mo_setAhead_94 rfl ci_1 (by decide) rfl ?_ | refine a_iinc (lv1 := [(0, _), (1, _), (2, _), (3, _), (4, _), (5, _)]) B d_Mo_setAhead_94 rfl rfl (by decide) rfl ?_
          refine a_goto B 24 d_Mo_setAhead_97 rfl ?_
          refine a_sub (lv1 := [(0, _), (1, _), (2, _), (3, _), (4, _)]) rfl ?_
          rw [hbs] at ihj
          exact ihj
        have ht : s.testBit j = false := tb_0 (fun q => by rw [q] at c_39; exact absurd c_39 (by decide))
        refine a_ldc B d_Mo_setAhead_42 kl_Mo_199 ?_
        rw [zI_100]
        have hbs := bst_no (a := a) hm hW hs ht
        have hbd : -1000000 ≤ (-100000 : Int) ∧ (-100000 : Int) ≤ 1000000 := (by decide)
        refine a_goto B 79 d_Mo_setAhead_44 rfl ?_
        refine a_istore (lv1 := [(0, _), (1, _), (2, _), (3, _), (4, _), (5, _)]) B d_Mo_setAhead_79 (by decide) rfl ?_
        refine a_iload B d_Mo_setAhead_81 rfl ?_
        refine a_iload_n B d_Mo_setAhead_83 rfl rfl ?_
        first | refine b_icmp_le B 92 d_Mo_setAhead_84 rfl (by omega) (by omega) (fun c_84 => ?_) (fun c_84 => ?_) | refine a_icmp_le B 92 d_Mo_setAhead_84 rfl (fun c_84 => ?_) (fun c_84 => ?_)
        · skip
          rw [if_neg (by have := (zI_le hbd (by have := bst_bd (W := W) (m := m) (s := s) (a := a) (j := j) hm hW hs; omega)).mp c_84; omega)] at hbs
          refine a_iload_n B d_Mo_setAhead_92 rfl rfl ?_
          refine a_istore_n (lv1 := [(0, _), (1, _), (2, _), (3, _), (4, _), (5, _)]) B d_Mo_setAhead_93 rfl (by decide) rfl ?_
          first | refine b_iinc (lv1 := [(0, _), (1, _), (2, _), (3, _), (4, _), (5, _)]) B d_Mo_setAhead_94 rfl ci_1 (by decide) rfl ?_ | refine a_iinc (lv1 := [(0, _), (1, _), (2, _), (3, _), (4, _), (5, _)]) B d_Mo_setAhead_94 rfl rfl (by decide) rfl ?_
          refine a_goto B 24 d_Mo_setAhead_97 rfl ?_
          refine a_sub (lv1 := [(0, _), (1, _), (2, _), (3, _), (4, _)]) rfl ?_
          rw [hbs] at ihj
          exact ihj
        rw [if_pos ((zI_lt (by have := bst_bd (W := W) (m := m) (s := s) (a := a) (j := j) hm hW hs; omega) hbd).mp (Int32.not_le.mp c_84))] at hbs
        refine a_iload B d_Mo_setAhead_87 rfl ?_
        refine a_goto B 93 d_Mo_setAhead_89 rfl ?_
        refine a_istore_n (lv1 := [(0, _), (1, _), (2, _), (3, _), (4, _), (5, _)]) B d_Mo_setAhead_93 rfl (by decide) rfl ?_
        first | refine b_iinc (lv1 := [(0, _), (1, _), (2, _), (3, _), (4, _), (5, _)]) B d_Mo_setAhead_94 rfl ci_1 (by decide) rfl ?_ | refine a_iinc (lv1 := [(0, _), (1, _), (2, _), (3, _), (4, _), (5, _)]) B d_Mo_setAhead_94 rfl rfl (by decide) rfl ?_
        refine a_goto B 24 d_Mo_setAhead_97 rfl ?_
        refine a_sub (lv1 := [(0, _), (1, _), (2, _), (3, _), (4, _)]) rfl ?_
        rw [hbs] at ihj
        exact ihj
      · skip
        refine a_iload B d_Mo_setAhead_24 rfl ?_
        refine a_aload_n B d_Mo_setAhead_26 rfl rfl ?_
        refine gf_Mo_many B d_Mo_setAhead_27 fl_Mo_193 ?_
        rw [hO 106 (by decide), hN]
        first | refine b_icmp_ge B 100 d_Mo_setAhead_30 rfl (by omega) (by omega) (fun c_30 => ?_) (fun c_30 => ?_) | refine a_icmp_ge B 100 d_Mo_setAhead_30 rfl (fun c_30 => ?_) (fun c_30 => ?_)
        · skip
          refine a_aload_n B d_Mo_setAhead_100 rfl rfl ?_
          refine gf_Mo_ahead B d_Mo_setAhead_101 fl_Mo_71 ?_
          refine a_bipush B d_Mo_setAhead_104 cb_8 ?_
          refine a_iload_n B d_Mo_setAhead_106 rfl rfl ?_
          first | refine b_imul B d_Mo_setAhead_107 ?_ | refine a_imul B d_Mo_setAhead_107 ?_
          refine a_iload_n B d_Mo_setAhead_108 rfl rfl ?_
          first | refine b_iadd B d_Mo_setAhead_109 ?_ | refine a_iadd B d_Mo_setAhead_109 ?_
          refine a_iload_n B d_Mo_setAhead_110 rfl rfl ?_
          refine a_iast B ly_127 _ rfl (by first | assumption | omega) d_Mo_setAhead_111 ?_
          first | refine b_iinc (lv1 := [(0, _), (1, _), (2, _), (3, _), (4, _)]) B d_Mo_setAhead_112 rfl ci_1 (by decide) rfl ?_ | refine a_iinc (lv1 := [(0, _), (1, _), (2, _), (3, _), (4, _)]) B d_Mo_setAhead_112 rfl rfl (by decide) rfl ?_
          refine a_goto B 2 d_Mo_setAhead_115 rfl ?_
          refine a_sub (lv1 := [(0, _), (1, _), (2, _)]) rfl ?_
          refine iha _ _ ⟨rfl, fun k q => by rw [up1_o q]; exact hO k q, fun s2 hs2 b hb => by rw [up1_s, upd_o (by omega)]; exact hG s2 hs2 b hb, fun b hb => ?_⟩
          rw [up1_s]
          by_cases e : b = a
          · rw [e, upd_s, bst_end hm hs hsm]
          · rw [upd_o (by omega)]; exact hH b (by omega)
        exact absurd c_30 (by omega)
    have hs0 : s = 0 := nI_z (by omega) c_11
    refine a_iconst B d_Mo_setAhead_14 ci_0 ?_
    refine a_goto B 20 d_Mo_setAhead_15 rfl ?_
    first | rw [show (nI 0 : Int32) = zI (bstV W m s a 0) from by rw [show bstV W m s a 0 = 0 from if_pos hs0]; rfl] | rw [show (-100000 : Int32) = zI (bstV W m s a 0) from by rw [show bstV W m s a 0 = -100000 from if_neg hs0]; exact zI_100]
    refine a_istore_n (lv1 := [(0, _), (1, _), (2, _), (3, _)]) B d_Mo_setAhead_20 rfl (by decide) rfl ?_
    refine a_iconst B d_Mo_setAhead_21 ci_0 ?_
    refine a_istore (lv1 := [(0, _), (1, _), (2, _), (3, _), (4, _)]) B d_Mo_setAhead_22 (by decide) rfl ?_
    refine a_for (lf := fun j => [(0, rV 106), (1, iV (nI s)), (2, iV (nI a)), (3, iV (zI (bstV W m s a j))), (4, iV (nI j))]) (τ := fun j => τ) m (fun j hj ihj => ?_) ?_ 0 (Nat.zero_le _)
    · skip
      refine a_iload B d_Mo_setAhead_24 rfl ?_
      refine a_aload_n B d_Mo_setAhead_26 rfl rfl ?_
      refine gf_Mo_many B d_Mo_setAhead_27 fl_Mo_193 ?_
      rw [hO 106 (by decide), hN]
      first | refine b_icmp_ge B 100 d_Mo_setAhead_30 rfl (by omega) (by omega) (fun c_30 => ?_) (fun c_30 => ?_) | refine a_icmp_ge B 100 d_Mo_setAhead_30 rfl (fun c_30 => ?_) (fun c_30 => ?_)
      · skip
        exact absurd c_30 (by omega)
      refine a_iload_n B d_Mo_setAhead_33 rfl rfl ?_
      refine a_iload B d_Mo_setAhead_34 rfl ?_
      refine a_ishr B d_Mo_setAhead_36 ?_
      refine a_iconst B d_Mo_setAhead_37 ci_1 ?_
      refine a_iand B d_Mo_setAhead_38 ?_
      rw [bit_atN (by omega) (by omega)]
      first | refine b_if_ne_b B 47 d_Mo_setAhead_39 rfl (fun c_39 => ?_) (fun c_39 => ?_) | refine a_if_ne B 47 d_Mo_setAhead_39 rfl (fun c_39 => ?_) (fun c_39 => ?_)
      · skip
        have ht : s.testBit j = true := (by cases q : s.testBit j with | true => rfl | false => (exfalso; apply c_39; rw [bit_tb, q]; exact nI_0))
        have hds := del_lt256 (a := j) hs
        refine a_aload_n B d_Mo_setAhead_47 rfl rfl ?_
        refine gf_Mo_worths B d_Mo_setAhead_48 fl_Mo_68 ?_
        refine a_bipush B d_Mo_setAhead_51 cb_8 ?_
        refine a_iload_n B d_Mo_setAhead_53 rfl rfl ?_
        first | refine b_imul B d_Mo_setAhead_54 ?_ | refine a_imul B d_Mo_setAhead_54 ?_
        refine a_iload B d_Mo_setAhead_55 rfl ?_
        first | refine b_iadd B d_Mo_setAhead_57 ?_ | refine a_iadd B d_Mo_setAhead_57 ?_
        refine a_iald B ly_126 _ rfl (by first | assumption | omega) d_Mo_setAhead_58 ?_
        rw [hO 126 (by decide), hw a j (by omega) (by omega)]
        refine a_aload_n B d_Mo_setAhead_59 rfl rfl ?_
        refine gf_Mo_ahead B d_Mo_setAhead_60 fl_Mo_71 ?_
        refine a_bipush B d_Mo_setAhead_63 cb_8 ?_
        refine a_iload_n B d_Mo_setAhead_65 rfl rfl ?_
        refine a_iconst B d_Mo_setAhead_66 ci_1 ?_
        refine a_iload B d_Mo_setAhead_67 rfl ?_
        refine a_ishl B d_Mo_setAhead_69 ?_
        refine a_iconst B d_Mo_setAhead_70 ci_m1 ?_
        refine a_ixor B d_Mo_setAhead_71 ?_
        refine a_iand B d_Mo_setAhead_72 ?_
        rw [del_jvm hs (by omega)]
        first | refine b_imul B d_Mo_setAhead_73 ?_ | refine a_imul B d_Mo_setAhead_73 ?_
        refine a_iload B d_Mo_setAhead_74 rfl ?_
        first | refine b_iadd B d_Mo_setAhead_76 ?_ | refine a_iadd B d_Mo_setAhead_76 ?_
        refine a_iald B ly_127 _ rfl (by first | assumption | omega) d_Mo_setAhead_77 ?_
        rw [hG (del s j) (del_lt hs (by omega) ht) j hj]
        first | refine b_iadd B d_Mo_setAhead_78 ?_ | refine a_iadd B d_Mo_setAhead_78 ?_
        rw [zI_add]
        have hbs := bst_in (a := a) hm hW hs ht
        have hbd : -1000000 ≤ W a j + ahV W m (del s j) j ∧ W a j + ahV W m (del s j) j ≤ 1000000 := (by have := bst_val (a := a) (b := j) hm hW hs; omega)
        refine a_istore (lv1 := [(0, _), (1, _), (2, _), (3, _), (4, _), (5, _)]) B d_Mo_setAhead_79 (by decide) rfl ?_
        refine a_iload B d_Mo_setAhead_81 rfl ?_
        refine a_iload_n B d_Mo_setAhead_83 rfl rfl ?_
        first | refine b_icmp_le B 92 d_Mo_setAhead_84 rfl (by omega) (by omega) (fun c_84 => ?_) (fun c_84 => ?_) | refine a_icmp_le B 92 d_Mo_setAhead_84 rfl (fun c_84 => ?_) (fun c_84 => ?_)
        · skip
          rw [if_neg (by have := (zI_le hbd (by have := bst_bd (W := W) (m := m) (s := s) (a := a) (j := j) hm hW hs; omega)).mp c_84; omega)] at hbs
          refine a_iload_n B d_Mo_setAhead_92 rfl rfl ?_
          refine a_istore_n (lv1 := [(0, _), (1, _), (2, _), (3, _), (4, _), (5, _)]) B d_Mo_setAhead_93 rfl (by decide) rfl ?_
          first | refine b_iinc (lv1 := [(0, _), (1, _), (2, _), (3, _), (4, _), (5, _)]) B d_Mo_setAhead_94 rfl ci_1 (by decide) rfl ?_ | refine a_iinc (lv1 := [(0, _), (1, _), (2, _), (3, _), (4, _), (5, _)]) B d_Mo_setAhead_94 rfl rfl (by decide) rfl ?_
          refine a_goto B 24 d_Mo_setAhead_97 rfl ?_
          refine a_sub (lv1 := [(0, _), (1, _), (2, _), (3, _), (4, _)]) rfl ?_
          rw [hbs] at ihj
          exact ihj
        rw [if_pos ((zI_lt (by have := bst_bd (W := W) (m := m) (s := s) (a := a) (j := j) hm hW hs; omega) hbd).mp (Int32.not_le.mp c_84))] at hbs
        refine a_iload B d_Mo_setAhead_87 rfl ?_
        refine a_goto B 93 d_Mo_setAhead_89 rfl ?_
        refine a_istore_n (lv1 := [(0, _), (1, _), (2, _), (3, _), (4, _), (5, _)]) B d_Mo_setAhead_93 rfl (by decide) rfl ?_
        first | refine b_iinc (lv1 := [(0, _), (1, _), (2, _), (3, _), (4, _), (5, _)]) B d_Mo_setAhead_94 rfl ci_1 (by decide) rfl ?_ | refine a_iinc (lv1 := [(0, _), (1, _), (2, _), (3, _), (4, _), (5, _)]) B d_Mo_setAhead_94 rfl rfl (by decide) rfl ?_
        refine a_goto B 24 d_Mo_setAhead_97 rfl ?_
        refine a_sub (lv1 := [(0, _), (1, _), (2, _), (3, _), (4, _)]) rfl ?_
        rw [hbs] at ihj
        exact ihj
      have ht : s.testBit j = false := tb_0 (fun q => by rw [q] at c_39; exact absurd c_39 (by decide))
      refine a_ldc B d_Mo_setAhead_42 kl_Mo_199 ?_
      rw [zI_100]
      have hbs := bst_no (a := a) hm hW hs ht
      have hbd : -1000000 ≤ (-100000 : Int) ∧ (-100000 : Int) ≤ 1000000 := (by decide)
      refine a_goto B 79 d_Mo_setAhead_44 rfl ?_
      refine a_istore (lv1 := [(0, _), (1, _), (2, _), (3, _), (4, _), (5, _)]) B d_Mo_setAhead_79 (by decide) rfl ?_
      refine a_iload B d_Mo_setAhead_81 rfl ?_
      refine a_iload_n B d_Mo_setAhead_83 rfl rfl ?_
      first | refine b_icmp_le B 92 d_Mo_setAhead_84 rfl (by omega) (by omega) (fun c_84 => ?_) (fun c_84 => ?_) | refine a_icmp_le B 92 d_Mo_setAhead_84 rfl (fun c_84 => ?_) (fun c_84 => ?_)
      · skip
        rw [if_neg (by have := (zI_le hbd (by have := bst_bd (W := W) (m := m) (s := s) (a := a) (j := j) hm hW hs; omega)).mp c_84; omega)] at hbs
        refine a_iload_n B d_Mo_setAhead_92 rfl rfl ?_
        refine a_istore_n (lv1 := [(0, _), (1, _), (2, _), (3, _), (4, _), (5, _)]) B d_Mo_setAhead_93 rfl (by decide) rfl ?_
        first | refine b_iinc (lv1 := [(0, _), (1, _), (2, _), (3, _), (4, _), (5, _)]) B d_Mo_setAhead_94 rfl ci_1 (by decide) rfl ?_ | refine a_iinc (lv1 := [(0, _), (1, _), (2, _), (3, _), (4, _), (5, _)]) B d_Mo_setAhead_94 rfl rfl (by decide) rfl ?_
        refine a_goto B 24 d_Mo_setAhead_97 rfl ?_
        refine a_sub (lv1 := [(0, _), (1, _), (2, _), (3, _), (4, _)]) rfl ?_
        rw [hbs] at ihj
        exact ihj
      rw [if_pos ((zI_lt (by have := bst_bd (W := W) (m := m) (s := s) (a := a) (j := j) hm hW hs; omega) hbd).mp (Int32.not_le.mp c_84))] at hbs
      refine a_iload B d_Mo_setAhead_87 rfl ?_
      refine a_goto B 93 d_Mo_setAhead_89 rfl ?_
      refine a_istore_n (lv1 := [(0, _), (1, _), (2, _), (3, _), (4, _), (5, _)]) B d_Mo_setAhead_93 rfl (by decide) rfl ?_
      first | refine b_iinc (lv1 := [(0, _), (1, _), (2, _), (3, _), (4, _), (5, _)]) B d_Mo_setAhead_94 rfl ci_1 (by decide) rfl ?_ | refine a_iinc (lv1 := [(0, _), (1, _), (2, _), (3, _), (4, _), (5, _)]) B d_Mo_setAhead_94 rfl rfl (by decide) rfl ?_
      refine a_goto B 24 d_Mo_setAhead_97 rfl ?_
      refine a_sub (lv1 := [(0, _), (1, _), (2, _), (3, _), (4, _)]) rfl ?_
      rw [hbs] at ihj
      exact ihj
    · skip
      refine a_iload B d_Mo_setAhead_24 rfl ?_
      refine a_aload_n B d_Mo_setAhead_26 rfl rfl ?_
      refine gf_Mo_many B d_Mo_setAhead_27 fl_Mo_193 ?_
      rw [hO 106 (by decide), hN]
      first | refine b_icmp_ge B 100 d_Mo_setAhead_30 rfl (by omega) (by omega) (fun c_30 => ?_) (fun c_30 => ?_) | refine a_icmp_ge B 100 d_Mo_setAhead_30 rfl (fun c_30 => ?_) (fun c_30 => ?_)
      · skip
        refine a_aload_n B d_Mo_setAhead_100 rfl rfl ?_
        refine gf_Mo_ahead B d_Mo_setAhead_101 fl_Mo_71 ?_
        refine a_bipush B d_Mo_setAhead_104 cb_8 ?_
        refine a_iload_n B d_Mo_setAhead_106 rfl rfl ?_
        first | refine b_imul B d_Mo_setAhead_107 ?_ | refine a_imul B d_Mo_setAhead_107 ?_
        refine a_iload_n B d_Mo_setAhead_108 rfl rfl ?_
        first | refine b_iadd B d_Mo_setAhead_109 ?_ | refine a_iadd B d_Mo_setAhead_109 ?_
        refine a_iload_n B d_Mo_setAhead_110 rfl rfl ?_
        refine a_iast B ly_127 _ rfl (by first | assumption | omega) d_Mo_setAhead_111 ?_
        first | refine b_iinc (lv1 := [(0, _), (1, _), (2, _), (3, _), (4, _)]) B d_Mo_setAhead_112 rfl ci_1 (by decide) rfl ?_ | refine a_iinc (lv1 := [(0, _), (1, _), (2, _), (3, _), (4, _)]) B d_Mo_setAhead_112 rfl rfl (by decide) rfl ?_
        refine a_goto B 2 d_Mo_setAhead_115 rfl ?_
        refine a_sub (lv1 := [(0, _), (1, _), (2, _)]) rfl ?_
        refine iha _ _ ⟨rfl, fun k q => by rw [up1_o q]; exact hO k q, fun s2 hs2 b hb => by rw [up1_s, upd_o (by omega)]; exact hG s2 hs2 b hb, fun b hb => ?_⟩
        rw [up1_s]
        by_cases e : b = a
        · rw [e, upd_s, bst_end hm hs hsm]
        · rw [upd_o (by omega)]; exact hH b (by omega)
      exact absurd c_30 (by omega)
  · skip
    obtain ⟨rfl, hO, hG, hH⟩ := hI
    refine a_iload_n B d_Mo_setAhead_2 rfl rfl ?_
    refine a_aload_n B d_Mo_setAhead_3 rfl rfl ?_
    refine gf_Mo_many B d_Mo_setAhead_4 fl_Mo_193 ?_
    rw [hO 106 (by decide), hN]
    first | refine b_icmp_ge B 118 d_Mo_setAhead_7 rfl (by omega) (by omega) (fun c_7 => ?_) (fun c_7 => ?_) | refine a_icmp_ge B 118 d_Mo_setAhead_7 rfl (fun c_7 => ?_) (fun c_7 => ?_)
    · skip
      exact Rt _ _ _ d_Mo_setAhead_118 ⟨hO, fun s2 hs2 b hb => by (by_cases e : s2 = s; rw [e]; exact hH b hb; exact hG s2 (by omega) b hb)⟩
    exact absurd c_7 (by omega)
def mstV (W : Nat → Nat → Int) (m i : Nat) : Int32 := if i = 0 then nI 0 else zI (lyG W m)
theorem lyG_1 {W : Nat → Nat → Int} {m : Nat} {z : Nat × Int} (h : bnS (nxV W m none (2 ^ m - 1)) (2 ^ m - 1) m = some z) : lyG W m = z.2 := by
  unfold lyG
  rw [h]
theorem lyG_0 {W : Nat → Nat → Int} : lyG W 0 = 0 := rfl
theorem RelM_lay {S : Sp} {σ τ : AH} (h : RelM S σ) (e29 : τ.1 106 29 = nI (sMx S)) (e128 : ∀ j, j < sMx S → τ.1 128 j = nI ((lyS (sWo S) (sMx S) (sMx S)).1 j)) (e : ∀ k, k ≠ 106 → k ≠ 127 → k ≠ 128 → τ.1 k = σ.1 k) (f : ∀ j, j ≠ 29 → τ.1 106 j = σ.1 106 j) : RelM (pL S (sMx S) (lyS (sWo S) (sMx S) (sMx S)).1) τ := by
  obtain ⟨h1, h2, h3, h4⟩ := h
  refine ⟨h1.of (f _ (by decide)) (e _ (by decide) (by decide) (by decide)) (e _ (by decide) (by decide) (by decide)), fun t ht => (h2 t ht).of (fun k q1 q2 => e k (by omega) (by omega) (by omega)), ?_, h4.of (f _ (by decide)) (e _ (by decide) (by decide) (by decide))⟩
  obtain ⟨m1, m2, m3, m4, m5, m6, m7, m8, m9, m10⟩ := h3
  exact ⟨by rw [f _ (by decide)]; exact m1, by rw [e _ (by decide) (by decide) (by decide)]; exact m2, by rw [f _ (by decide)]; exact m3, by rw [f _ (by decide)]; exact m4, m5, by rw [e _ (by decide) (by decide) (by decide)]; exact m6, by rw [f _ (by decide), e _ (by decide) (by decide) (by decide)]; exact m7, e29, h4.2.1, e128⟩
theorem nxV_bd {W : Nat → Nat → Int} {m s b : Nat} {p : Option Nat} (hm : m ≤ 8) (hW : okW W) (hs : s < 256) : -1000000 ≤ nxV W m p s b ∧ nxV W m p s b ≤ 1000000 := by
  have h1 := wbV_bd hW p b
  have h2 := ahV_bd hm hW (s := del s b) (a := b) (del_lt256 hs)
  unfold nxV
  omega
theorem d_Mo_laying_0 : decode prog_9_method_59_code 0 = .ok (.iconst 1, 1) := by decide +kernel
theorem d_Mo_laying_1 : decode prog_9_method_59_code 1 = .ok (.aload_n 0, 1) := by decide +kernel
theorem d_Mo_laying_2 : decode prog_9_method_59_code 2 = .ok (.getfield 193, 3) := by decide +kernel
theorem d_Mo_laying_5 : decode prog_9_method_59_code 5 = .ok (.ishl, 1) := by decide +kernel
theorem d_Mo_laying_6 : decode prog_9_method_59_code 6 = .ok (.iconst 1, 1) := by decide +kernel
theorem d_Mo_laying_7 : decode prog_9_method_59_code 7 = .ok (.isub, 1) := by decide +kernel
theorem d_Mo_laying_8 : decode prog_9_method_59_code 8 = .ok (.istore_n 1, 1) := by decide +kernel
theorem d_Mo_laying_9 : decode prog_9_method_59_code 9 = .ok (.iconst 0, 1) := by decide +kernel
theorem d_Mo_laying_10 : decode prog_9_method_59_code 10 = .ok (.istore_n 2, 1) := by decide +kernel
theorem d_Mo_laying_11 : decode prog_9_method_59_code 11 = .ok (.iload_n 2, 1) := by decide +kernel
theorem d_Mo_laying_12 : decode prog_9_method_59_code 12 = .ok (.iload_n 1, 1) := by decide +kernel
theorem d_Mo_laying_13 : decode prog_9_method_59_code 13 = .ok (.if_icmp .gt 14, 3) := by decide +kernel
theorem d_Mo_laying_16 : decode prog_9_method_59_code 16 = .ok (.aload_n 0, 1) := by decide +kernel
theorem d_Mo_laying_17 : decode prog_9_method_59_code 17 = .ok (.iload_n 2, 1) := by decide +kernel
theorem d_Mo_laying_18 : decode prog_9_method_59_code 18 = .ok (.invokevirtual 200, 3) := by decide +kernel
theorem d_Mo_laying_21 : decode prog_9_method_59_code 21 = .ok (.iinc 2 1, 3) := by decide +kernel
theorem d_Mo_laying_24 : decode prog_9_method_59_code 24 = .ok (.goto (-13), 3) := by decide +kernel
theorem d_Mo_laying_27 : decode prog_9_method_59_code 27 = .ok (.aload_n 0, 1) := by decide +kernel
theorem d_Mo_laying_28 : decode prog_9_method_59_code 28 = .ok (.aload_n 0, 1) := by decide +kernel
theorem d_Mo_laying_29 : decode prog_9_method_59_code 29 = .ok (.getfield 193, 3) := by decide +kernel
theorem d_Mo_laying_32 : decode prog_9_method_59_code 32 = .ok (.putfield 203, 3) := by decide +kernel
theorem d_Mo_laying_35 : decode prog_9_method_59_code 35 = .ok (.iload_n 1, 1) := by decide +kernel
theorem d_Mo_laying_36 : decode prog_9_method_59_code 36 = .ok (.istore_n 2, 1) := by decide +kernel
theorem d_Mo_laying_37 : decode prog_9_method_59_code 37 = .ok (.iconst 0, 1) := by decide +kernel
theorem d_Mo_laying_38 : decode prog_9_method_59_code 38 = .ok (.istore_n 3, 1) := by decide +kernel
theorem d_Mo_laying_39 : decode prog_9_method_59_code 39 = .ok (.iconst 0, 1) := by decide +kernel
theorem d_Mo_laying_40 : decode prog_9_method_59_code 40 = .ok (.istore 4, 2) := by decide +kernel
theorem d_Mo_laying_42 : decode prog_9_method_59_code 42 = .ok (.iload 4, 2) := by decide +kernel
theorem d_Mo_laying_44 : decode prog_9_method_59_code 44 = .ok (.aload_n 0, 1) := by decide +kernel
theorem d_Mo_laying_45 : decode prog_9_method_59_code 45 = .ok (.getfield 193, 3) := by decide +kernel
theorem d_Mo_laying_48 : decode prog_9_method_59_code 48 = .ok (.if_icmp .ge 145, 3) := by decide +kernel
theorem d_Mo_laying_51 : decode prog_9_method_59_code 51 = .ok (.bipush (-9), 2) := by decide +kernel
theorem d_Mo_laying_53 : decode prog_9_method_59_code 53 = .ok (.istore 5, 2) := by decide +kernel
theorem d_Mo_laying_55 : decode prog_9_method_59_code 55 = .ok (.iconst 0, 1) := by decide +kernel
theorem d_Mo_laying_56 : decode prog_9_method_59_code 56 = .ok (.istore 6, 2) := by decide +kernel
theorem d_Mo_laying_58 : decode prog_9_method_59_code 58 = .ok (.iconst 0, 1) := by decide +kernel
theorem d_Mo_laying_59 : decode prog_9_method_59_code 59 = .ok (.istore 7, 2) := by decide +kernel
theorem d_Mo_laying_61 : decode prog_9_method_59_code 61 = .ok (.iload 7, 2) := by decide +kernel
theorem d_Mo_laying_63 : decode prog_9_method_59_code 63 = .ok (.aload_n 0, 1) := by decide +kernel
theorem d_Mo_laying_64 : decode prog_9_method_59_code 64 = .ok (.getfield 193, 3) := by decide +kernel
theorem d_Mo_laying_67 : decode prog_9_method_59_code 67 = .ok (.if_icmp .ge 90, 3) := by decide +kernel
theorem d_Mo_laying_70 : decode prog_9_method_59_code 70 = .ok (.iload_n 2, 1) := by decide +kernel
theorem d_Mo_laying_71 : decode prog_9_method_59_code 71 = .ok (.iload 7, 2) := by decide +kernel
theorem d_Mo_laying_73 : decode prog_9_method_59_code 73 = .ok (.ishr, 1) := by decide +kernel
theorem d_Mo_laying_74 : decode prog_9_method_59_code 74 = .ok (.iconst 1, 1) := by decide +kernel
theorem d_Mo_laying_75 : decode prog_9_method_59_code 75 = .ok (.iand, 1) := by decide +kernel
theorem d_Mo_laying_76 : decode prog_9_method_59_code 76 = .ok (.iconst 1, 1) := by decide +kernel
theorem d_Mo_laying_77 : decode prog_9_method_59_code 77 = .ok (.if_icmp .ne 74, 3) := by decide +kernel
theorem d_Mo_laying_80 : decode prog_9_method_59_code 80 = .ok (.iload 4, 2) := by decide +kernel
theorem d_Mo_laying_82 : decode prog_9_method_59_code 82 = .ok (.ifCond .ne 7, 3) := by decide +kernel
theorem d_Mo_laying_85 : decode prog_9_method_59_code 85 = .ok (.iconst 0, 1) := by decide +kernel
theorem d_Mo_laying_86 : decode prog_9_method_59_code 86 = .ok (.goto 23, 3) := by decide +kernel
theorem d_Mo_laying_89 : decode prog_9_method_59_code 89 = .ok (.aload_n 0, 1) := by decide +kernel
theorem d_Mo_laying_90 : decode prog_9_method_59_code 90 = .ok (.getfield 68, 3) := by decide +kernel
theorem d_Mo_laying_93 : decode prog_9_method_59_code 93 = .ok (.bipush 8, 2) := by decide +kernel
theorem d_Mo_laying_95 : decode prog_9_method_59_code 95 = .ok (.aload_n 0, 1) := by decide +kernel
theorem d_Mo_laying_96 : decode prog_9_method_59_code 96 = .ok (.getfield 74, 3) := by decide +kernel
theorem d_Mo_laying_99 : decode prog_9_method_59_code 99 = .ok (.iload 4, 2) := by decide +kernel
theorem d_Mo_laying_101 : decode prog_9_method_59_code 101 = .ok (.iconst 1, 1) := by decide +kernel
theorem d_Mo_laying_102 : decode prog_9_method_59_code 102 = .ok (.isub, 1) := by decide +kernel
theorem d_Mo_laying_103 : decode prog_9_method_59_code 103 = .ok (.iaload, 1) := by decide +kernel
theorem d_Mo_laying_104 : decode prog_9_method_59_code 104 = .ok (.imul, 1) := by decide +kernel
theorem d_Mo_laying_105 : decode prog_9_method_59_code 105 = .ok (.iload 7, 2) := by decide +kernel
theorem d_Mo_laying_107 : decode prog_9_method_59_code 107 = .ok (.iadd, 1) := by decide +kernel
theorem d_Mo_laying_108 : decode prog_9_method_59_code 108 = .ok (.iaload, 1) := by decide +kernel
theorem d_Mo_laying_109 : decode prog_9_method_59_code 109 = .ok (.aload_n 0, 1) := by decide +kernel
theorem d_Mo_laying_110 : decode prog_9_method_59_code 110 = .ok (.getfield 71, 3) := by decide +kernel
theorem d_Mo_laying_113 : decode prog_9_method_59_code 113 = .ok (.bipush 8, 2) := by decide +kernel
theorem d_Mo_laying_115 : decode prog_9_method_59_code 115 = .ok (.iload_n 2, 1) := by decide +kernel
theorem d_Mo_laying_116 : decode prog_9_method_59_code 116 = .ok (.iconst 1, 1) := by decide +kernel
theorem d_Mo_laying_117 : decode prog_9_method_59_code 117 = .ok (.iload 7, 2) := by decide +kernel
theorem d_Mo_laying_119 : decode prog_9_method_59_code 119 = .ok (.ishl, 1) := by decide +kernel
theorem d_Mo_laying_120 : decode prog_9_method_59_code 120 = .ok (.iconst (-1), 1) := by decide +kernel
theorem d_Mo_laying_121 : decode prog_9_method_59_code 121 = .ok (.ixor, 1) := by decide +kernel
theorem d_Mo_laying_122 : decode prog_9_method_59_code 122 = .ok (.iand, 1) := by decide +kernel
theorem d_Mo_laying_123 : decode prog_9_method_59_code 123 = .ok (.imul, 1) := by decide +kernel
theorem d_Mo_laying_124 : decode prog_9_method_59_code 124 = .ok (.iload 7, 2) := by decide +kernel
theorem d_Mo_laying_126 : decode prog_9_method_59_code 126 = .ok (.iadd, 1) := by decide +kernel
theorem d_Mo_laying_127 : decode prog_9_method_59_code 127 = .ok (.iaload, 1) := by decide +kernel
theorem d_Mo_laying_128 : decode prog_9_method_59_code 128 = .ok (.iadd, 1) := by decide +kernel
theorem d_Mo_laying_129 : decode prog_9_method_59_code 129 = .ok (.istore 8, 2) := by decide +kernel
theorem d_Mo_laying_131 : decode prog_9_method_59_code 131 = .ok (.iload 5, 2) := by decide +kernel
theorem d_Mo_laying_133 : decode prog_9_method_59_code 133 = .ok (.ifCond .lt 10, 3) := by decide +kernel
theorem d_Mo_laying_136 : decode prog_9_method_59_code 136 = .ok (.iload 8, 2) := by decide +kernel
theorem d_Mo_laying_138 : decode prog_9_method_59_code 138 = .ok (.iload 6, 2) := by decide +kernel
theorem d_Mo_laying_140 : decode prog_9_method_59_code 140 = .ok (.if_icmp .le 11, 3) := by decide +kernel
theorem d_Mo_laying_143 : decode prog_9_method_59_code 143 = .ok (.iload 7, 2) := by decide +kernel
theorem d_Mo_laying_145 : decode prog_9_method_59_code 145 = .ok (.istore 5, 2) := by decide +kernel
theorem d_Mo_laying_147 : decode prog_9_method_59_code 147 = .ok (.iload 8, 2) := by decide +kernel
theorem d_Mo_laying_149 : decode prog_9_method_59_code 149 = .ok (.istore 6, 2) := by decide +kernel
theorem d_Mo_laying_151 : decode prog_9_method_59_code 151 = .ok (.iinc 7 1, 3) := by decide +kernel
theorem d_Mo_laying_154 : decode prog_9_method_59_code 154 = .ok (.goto (-93), 3) := by decide +kernel
theorem d_Mo_laying_157 : decode prog_9_method_59_code 157 = .ok (.iload 4, 2) := by decide +kernel
theorem d_Mo_laying_159 : decode prog_9_method_59_code 159 = .ok (.ifCond .ne 8, 3) := by decide +kernel
theorem d_Mo_laying_162 : decode prog_9_method_59_code 162 = .ok (.iload 6, 2) := by decide +kernel
theorem d_Mo_laying_164 : decode prog_9_method_59_code 164 = .ok (.goto 4, 3) := by decide +kernel
theorem d_Mo_laying_167 : decode prog_9_method_59_code 167 = .ok (.iload_n 3, 1) := by decide +kernel
theorem d_Mo_laying_168 : decode prog_9_method_59_code 168 = .ok (.istore_n 3, 1) := by decide +kernel
theorem d_Mo_laying_169 : decode prog_9_method_59_code 169 = .ok (.aload_n 0, 1) := by decide +kernel
theorem d_Mo_laying_170 : decode prog_9_method_59_code 170 = .ok (.getfield 74, 3) := by decide +kernel
theorem d_Mo_laying_173 : decode prog_9_method_59_code 173 = .ok (.iload 4, 2) := by decide +kernel
theorem d_Mo_laying_175 : decode prog_9_method_59_code 175 = .ok (.iload 5, 2) := by decide +kernel
theorem d_Mo_laying_177 : decode prog_9_method_59_code 177 = .ok (.iastore, 1) := by decide +kernel
theorem d_Mo_laying_178 : decode prog_9_method_59_code 178 = .ok (.iload_n 2, 1) := by decide +kernel
theorem d_Mo_laying_179 : decode prog_9_method_59_code 179 = .ok (.iconst 1, 1) := by decide +kernel
theorem d_Mo_laying_180 : decode prog_9_method_59_code 180 = .ok (.iload 5, 2) := by decide +kernel
theorem d_Mo_laying_182 : decode prog_9_method_59_code 182 = .ok (.ishl, 1) := by decide +kernel
theorem d_Mo_laying_183 : decode prog_9_method_59_code 183 = .ok (.iconst (-1), 1) := by decide +kernel
theorem d_Mo_laying_184 : decode prog_9_method_59_code 184 = .ok (.ixor, 1) := by decide +kernel
theorem d_Mo_laying_185 : decode prog_9_method_59_code 185 = .ok (.iand, 1) := by decide +kernel
theorem d_Mo_laying_186 : decode prog_9_method_59_code 186 = .ok (.istore_n 2, 1) := by decide +kernel
theorem d_Mo_laying_187 : decode prog_9_method_59_code 187 = .ok (.iinc 4 1, 3) := by decide +kernel
theorem d_Mo_laying_190 : decode prog_9_method_59_code 190 = .ok (.goto (-148), 3) := by decide +kernel
theorem d_Mo_laying_193 : decode prog_9_method_59_code 193 = .ok (.aload_n 0, 1) := by decide +kernel
theorem d_Mo_laying_194 : decode prog_9_method_59_code 194 = .ok (.iload_n 3, 1) := by decide +kernel
theorem d_Mo_laying_195 : decode prog_9_method_59_code 195 = .ok (.aload_n 0, 1) := by decide +kernel
theorem d_Mo_laying_196 : decode prog_9_method_59_code 196 = .ok (.getfield 193, 3) := by decide +kernel
theorem d_Mo_laying_199 : decode prog_9_method_59_code 199 = .ok (.invokevirtual 108, 3) := by decide +kernel
theorem d_Mo_laying_202 : decode prog_9_method_59_code 202 = .ok (.ireturn, 1) := by decide +kernel
set_option maxHeartbeats 4000000 in
set_option maxRecDepth 20000 in
theorem tM_laying {g : GG} (G : Gok g) {σ : AH} {S : Sp} (hS : RelM S σ) : TerI g 1 m_Mo_laying [rV 106] σ (fun r τ => r = (sp_laying S).1 ∧ RelM (sp_laying S).2 τ ∧ frM σ τ) := by
  refine TerI.mk G (by decide +kernel) rfl (Nat.le_of_ble_eq_true rfl) (fun K B Rt => ?_)
  have B : Cx g K prog_9_method_59_code 9 R_Mo 1 := B
  have Rt : RetI g K prog_9_method_59_code 9 (fun r τ => r = (sp_laying S).1 ∧ RelM (sp_laying S).2 τ ∧ frM σ τ) := Rt
  show AW g K 9 0 [(0, rV 106)] [] σ
  have hA := hS.2.2.2
  obtain ⟨hN, hm, hw, hW⟩ := id hA
  have hp2 := p2m hm
  refine a_iconst B d_Mo_laying_0 ci_1 ?_
  refine a_aload_n B d_Mo_laying_1 rfl rfl ?_
  refine gf_Mo_many B d_Mo_laying_2 fl_Mo_193 ?_
  rw [hN]
  refine a_ishl B d_Mo_laying_5 ?_
  rw [nI_pow' hm]
  refine a_iconst B d_Mo_laying_6 ci_1 ?_
  first | refine b_isub B (by omega) d_Mo_laying_7 ?_ | refine a_isub B d_Mo_laying_7 ?_
  refine a_istore_n (lv1 := [(0, _), (1, _)]) B d_Mo_laying_8 rfl (by decide) rfl ?_
  refine a_iconst B d_Mo_laying_9 ci_0 ?_
  refine a_istore_n (lv1 := [(0, _), (1, _), (2, _)]) B d_Mo_laying_10 rfl (by decide) rfl ?_
  refine a_forR (2 ^ sMx S) (fun s lv τ => lv = [(0, rV 106), (1, iV (nI (2 ^ sMx S - 1))), (2, iV (nI s))] ∧ (∀ k, k ≠ 127 → τ.1 k = σ.1 k) ∧ AhT (sWo S) (sMx S) s τ) (fun s lv τ hs hI ihs => ?_) (fun lv τ1 hI => ?_) 0 (Nat.zero_le _) _ _ ⟨rfl, fun _ _ => rfl, fun s hs => absurd hs (Nat.not_lt_zero s)⟩
  · skip
    obtain ⟨rfl, hT0, hTab⟩ := hI
    refine a_iload_n B d_Mo_laying_11 rfl rfl ?_
    refine a_iload_n B d_Mo_laying_12 rfl rfl ?_
    first | refine b_icmp_gt B 27 d_Mo_laying_13 rfl (by omega) (by omega) (fun c_13 => ?_) (fun c_13 => ?_) | refine a_icmp_gt B 27 d_Mo_laying_13 rfl (fun c_13 => ?_) (fun c_13 => ?_)
    · skip
      exact absurd c_13 (by omega)
    refine a_aload_n B d_Mo_laying_16 rfl rfl ?_
    refine a_iload_n B d_Mo_laying_17 rfl rfl ?_
    refine a_callVV (ci := 7) B (t_Mo_setAhead G (hA.of (by rw [hT0 106 (by decide)]) (hT0 126 (by decide))) hs hTab) d_Mo_laying_18 ok_Mo_setAhead ml_Mo_200 ly_106 rfl rfl (by decide) (by decide) rfl (Nat.le_of_ble_eq_true rfl) (fun τ_18 h_18 => ?_)
    first | refine b_iinc (lv1 := [(0, _), (1, _), (2, _)]) B d_Mo_laying_21 rfl ci_1 (by decide) rfl ?_ | refine a_iinc (lv1 := [(0, _), (1, _), (2, _)]) B d_Mo_laying_21 rfl rfl (by decide) rfl ?_
    refine a_goto B 11 d_Mo_laying_24 rfl ?_
    exact ihs _ _ ⟨rfl, fun k q => (h_18.1 k q).trans (hT0 k q), h_18.2⟩
  · skip
    obtain ⟨rfl, hT0, hTab⟩ := hI
    refine a_iload_n B d_Mo_laying_11 rfl rfl ?_
    refine a_iload_n B d_Mo_laying_12 rfl rfl ?_
    first | refine b_icmp_gt B 27 d_Mo_laying_13 rfl (by omega) (by omega) (fun c_13 => ?_) (fun c_13 => ?_) | refine a_icmp_gt B 27 d_Mo_laying_13 rfl (fun c_13 => ?_) (fun c_13 => ?_)
    · skip
      refine a_aload_n B d_Mo_laying_27 rfl rfl ?_
      refine a_aload_n B d_Mo_laying_28 rfl rfl ?_
      refine gf_Mo_many B d_Mo_laying_29 fl_Mo_193 ?_
      rw [hT0 106 (by decide), hN]
      refine pf_Mo_laid B d_Mo_laying_32 fl_Mo_203 ?_
      skip
      refine a_iload_n B d_Mo_laying_35 rfl rfl ?_
      refine a_istore_n (lv1 := [(0, _), (1, _), (2, _)]) B d_Mo_laying_36 rfl (by decide) rfl ?_
      refine a_iconst B d_Mo_laying_37 ci_0 ?_
      refine a_istore_n (lv1 := [(0, _), (1, _), (2, _), (3, _)]) B d_Mo_laying_38 rfl (by decide) rfl ?_
      refine a_iconst B d_Mo_laying_39 ci_0 ?_
      refine a_istore (lv1 := [(0, _), (1, _), (2, _), (3, _), (4, _)]) B d_Mo_laying_40 (by decide) rfl ?_
      refine a_forR (sMx S) (fun i lv τ => lv = [(0, rV 106), (1, iV (nI (2 ^ sMx S - 1))), (2, iV (nI (lyS (sWo S) (sMx S) i).2.1)), (3, iV (mstV (sWo S) (sMx S) i)), (4, iV (nI i))] ∧ (∀ j, j < i → τ.1 128 j = nI ((lyS (sWo S) (sMx S) i).1 j)) ∧ (∀ k, k ≠ 128 → τ.1 k = (up1 τ1 106 (upd (τ1.1 106) 29 (nI (sMx S)))).1 k)) (fun i lv τ hi hI ihi => ?_) (fun lv τ hI => ?_) 0 (Nat.zero_le _) _ _ ⟨rfl, fun j hj => absurd hj (Nat.not_lt_zero j), fun _ _ => rfl⟩
      · skip
        obtain ⟨rfl, hF, hO⟩ := hI
        refine a_iload B d_Mo_laying_42 rfl ?_
        refine a_aload_n B d_Mo_laying_44 rfl rfl ?_
        refine gf_Mo_many B d_Mo_laying_45 fl_Mo_193 ?_
        rw [hO 106 (by decide), up1_s, upd_o (by decide), hT0 106 (by decide), hN]
        first | refine b_icmp_ge B 193 d_Mo_laying_48 rfl (by omega) (by omega) (fun c_48 => ?_) (fun c_48 => ?_) | refine a_icmp_ge B 193 d_Mo_laying_48 rfl (fun c_48 => ?_) (fun c_48 => ?_)
        · skip
          exact absurd c_48 (by omega)
        obtain ⟨q1, q2, q3⟩ := lyS_ok (W := sWo S) hm i (by omega)
        have qlt := lyS_lt (W := sWo S) (m := sMx S) i
        obtain ⟨z, hz, hl⟩ := lyS_next (W := sWo S) hm hi
        have zok := bnS_ok hz
        have zok1 := zok.1
        refine a_bipush B d_Mo_laying_51 cb_m9 ?_
        refine a_istore (lv1 := [(0, _), (1, _), (2, _), (3, _), (4, _), (5, _)]) B d_Mo_laying_53 (by decide) rfl ?_
        refine a_iconst B d_Mo_laying_55 ci_0 ?_
        refine a_istore (lv1 := [(0, _), (1, _), (2, _), (3, _), (4, _), (5, _), (6, _)]) B d_Mo_laying_56 (by decide) rfl ?_
        refine a_iconst B d_Mo_laying_58 ci_0 ?_
        refine a_istore (lv1 := [(0, _), (1, _), (2, _), (3, _), (4, _), (5, _), (6, _), (7, _)]) B d_Mo_laying_59 (by decide) rfl ?_
        refine a_for (lf := fun j => [(0, rV 106), (1, iV (nI (2 ^ sMx S - 1))), (2, iV (nI (lyS (sWo S) (sMx S) i).2.1)), (3, iV (mstV (sWo S) (sMx S) i)), (4, iV (nI i)), (5, iV (bA (bnS (nxV (sWo S) (sMx S) (if i = 0 then none else some ((lyS (sWo S) (sMx S) i).1 (i - 1))) (lyS (sWo S) (sMx S) i).2.1) (lyS (sWo S) (sMx S) i).2.1 j))), (6, iV (zI (bV (bnS (nxV (sWo S) (sMx S) (if i = 0 then none else some ((lyS (sWo S) (sMx S) i).1 (i - 1))) (lyS (sWo S) (sMx S) i).2.1) (lyS (sWo S) (sMx S) i).2.1 j)))), (7, iV (nI j))]) (τ := fun j => τ) (sMx S) (fun j hj ihj => ?_) ?_ 0 (Nat.zero_le _)
        · skip
          refine a_iload B d_Mo_laying_61 rfl ?_
          refine a_aload_n B d_Mo_laying_63 rfl rfl ?_
          refine gf_Mo_many B d_Mo_laying_64 fl_Mo_193 ?_
          rw [hO 106 (by decide), up1_s, upd_o (by decide), hT0 106 (by decide), hN]
          first | refine b_icmp_ge B 157 d_Mo_laying_67 rfl (by omega) (by omega) (fun c_67 => ?_) (fun c_67 => ?_) | refine a_icmp_ge B 157 d_Mo_laying_67 rfl (fun c_67 => ?_) (fun c_67 => ?_)
          · skip
            exact absurd c_67 (by omega)
          refine a_iload_n B d_Mo_laying_70 rfl rfl ?_
          refine a_iload B d_Mo_laying_71 rfl ?_
          refine a_ishr B d_Mo_laying_73 ?_
          refine a_iconst B d_Mo_laying_74 ci_1 ?_
          refine a_iand B d_Mo_laying_75 ?_
          rw [bit_atN (by omega) (by omega)]
          refine a_iconst B d_Mo_laying_76 ci_1 ?_
          first | refine b_icmp_ne B 151 d_Mo_laying_77 rfl (by omega) (by omega) (fun c_77 => ?_) (fun c_77 => ?_) | refine a_icmp_ne B 151 d_Mo_laying_77 rfl (fun c_77 => ?_) (fun c_77 => ?_)
          · skip
            have ht : (lyS (sWo S) (sMx S) i).2.1.testBit j = false := tb_0 (fun q => c_77 q)
            have hst := bnS_no (val := (nxV (sWo S) (sMx S) (if i = 0 then none else some ((lyS (sWo S) (sMx S) i).1 (i - 1))) (lyS (sWo S) (sMx S) i).2.1)) ht
            first | refine b_iinc (lv1 := [(0, _), (1, _), (2, _), (3, _), (4, _), (5, _), (6, _), (7, _)]) B d_Mo_laying_151 rfl ci_1 (by decide) rfl ?_ | refine a_iinc (lv1 := [(0, _), (1, _), (2, _), (3, _), (4, _), (5, _), (6, _), (7, _)]) B d_Mo_laying_151 rfl rfl (by decide) rfl ?_
            refine a_goto B 61 d_Mo_laying_154 rfl ?_
            refine a_sub (lv1 := [(0, _), (1, _), (2, _), (3, _), (4, _), (5, _), (6, _), (7, _)]) rfl ?_
            rw [hst] at ihj
            first | exact ihj | (rw [hq]; exact ihj)
          have ht : (lyS (sWo S) (sMx S) i).2.1.testBit j = true := tb_1 c_77
          have hds := del_lt256 (a := j) q1
          refine a_iload B d_Mo_laying_80 rfl ?_
          first | refine b_if_ne_b B 89 d_Mo_laying_82 rfl (fun c_82 => ?_) (fun c_82 => ?_) | refine a_if_ne B 89 d_Mo_laying_82 rfl (fun c_82 => ?_) (fun c_82 => ?_)
          · skip
            have hi0 : ¬ i = 0 := fun q => c_82 (by rw [q]; exact nI_0)
            have hq3 := q3 (i - 1) (by omega)
            refine a_aload_n B d_Mo_laying_89 rfl rfl ?_
            refine gf_Mo_worths B d_Mo_laying_90 fl_Mo_68 ?_
            refine a_bipush B d_Mo_laying_93 cb_8 ?_
            refine a_aload_n B d_Mo_laying_95 rfl rfl ?_
            refine gf_Mo_laying B d_Mo_laying_96 fl_Mo_74 ?_
            refine a_iload B d_Mo_laying_99 rfl ?_
            refine a_iconst B d_Mo_laying_101 ci_1 ?_
            first | refine b_isub B (by omega) d_Mo_laying_102 ?_ | refine a_isub B d_Mo_laying_102 ?_
            refine a_iald B ly_128 _ rfl (by first | assumption | omega) d_Mo_laying_103 ?_
            rw [hF (i - 1) (by omega)]
            first | refine b_imul B d_Mo_laying_104 ?_ | refine a_imul B d_Mo_laying_104 ?_
            refine a_iload B d_Mo_laying_105 rfl ?_
            first | refine b_iadd B d_Mo_laying_107 ?_ | refine a_iadd B d_Mo_laying_107 ?_
            refine a_iald B ly_126 _ rfl (by first | assumption | omega) d_Mo_laying_108 ?_
            rw [hO 126 (by decide), up1_o (by decide), hT0 126 (by decide), hw _ j (by omega) (by omega)]
            rw [show zI (sWo S ((lyS (sWo S) (sMx S) i).1 (i - 1)) j) = zI (wbV (sWo S) (if i = 0 then none else some ((lyS (sWo S) (sMx S) i).1 (i - 1))) j) from by rw [if_neg hi0]; rfl]
            refine a_aload_n B d_Mo_laying_109 rfl rfl ?_
            refine gf_Mo_ahead B d_Mo_laying_110 fl_Mo_71 ?_
            refine a_bipush B d_Mo_laying_113 cb_8 ?_
            refine a_iload_n B d_Mo_laying_115 rfl rfl ?_
            refine a_iconst B d_Mo_laying_116 ci_1 ?_
            refine a_iload B d_Mo_laying_117 rfl ?_
            refine a_ishl B d_Mo_laying_119 ?_
            refine a_iconst B d_Mo_laying_120 ci_m1 ?_
            refine a_ixor B d_Mo_laying_121 ?_
            refine a_iand B d_Mo_laying_122 ?_
            rw [del_jvm q1 (by omega)]
            first | refine b_imul B d_Mo_laying_123 ?_ | refine a_imul B d_Mo_laying_123 ?_
            refine a_iload B d_Mo_laying_124 rfl ?_
            first | refine b_iadd B d_Mo_laying_126 ?_ | refine a_iadd B d_Mo_laying_126 ?_
            refine a_iald B ly_127 _ rfl (by first | assumption | omega) d_Mo_laying_127 ?_
            rw [hO 127 (by decide), up1_o (by decide), hTab (del (lyS (sWo S) (sMx S) i).2.1 j) (by have := del_lt q1 (by omega) ht; omega) j hj]
            first | refine b_iadd B d_Mo_laying_128 ?_ | refine a_iadd B d_Mo_laying_128 ?_
            rw [zI_add]
            rw [show wbV (sWo S) (if i = 0 then none else some ((lyS (sWo S) (sMx S) i).1 (i - 1))) j + ahV (sWo S) (sMx S) (del (lyS (sWo S) (sMx S) i).2.1 j) j = nxV (sWo S) (sMx S) (if i = 0 then none else some ((lyS (sWo S) (sMx S) i).1 (i - 1))) (lyS (sWo S) (sMx S) i).2.1 j from rfl]
            refine a_istore (lv1 := [(0, _), (1, _), (2, _), (3, _), (4, _), (5, _), (6, _), (7, _), (8, _)]) B d_Mo_laying_129 (by decide) rfl ?_
            cases hq : (bnS (nxV (sWo S) (sMx S) (if i = 0 then none else some ((lyS (sWo S) (sMx S) i).1 (i - 1))) (lyS (sWo S) (sMx S) i).2.1) (lyS (sWo S) (sMx S) i).2.1 j)
            · skip
              have hst := bnS_first (val := (nxV (sWo S) (sMx S) (if i = 0 then none else some ((lyS (sWo S) (sMx S) i).1 (i - 1))) (lyS (sWo S) (sMx S) i).2.1)) ht hq
              refine a_iload B d_Mo_laying_131 rfl ?_
              refine a_if_lt B 143 d_Mo_laying_133 rfl (fun _ => ?_) (fun c9 => absurd (by decide) c9)
              refine a_iload B d_Mo_laying_143 rfl ?_
              refine a_istore (lv1 := [(0, _), (1, _), (2, _), (3, _), (4, _), (5, _), (6, _), (7, _), (8, _)]) B d_Mo_laying_145 (by decide) rfl ?_
              refine a_iload B d_Mo_laying_147 rfl ?_
              refine a_istore (lv1 := [(0, _), (1, _), (2, _), (3, _), (4, _), (5, _), (6, _), (7, _), (8, _)]) B d_Mo_laying_149 (by decide) rfl ?_
              first | refine b_iinc (lv1 := [(0, _), (1, _), (2, _), (3, _), (4, _), (5, _), (6, _), (7, _), (8, _)]) B d_Mo_laying_151 rfl ci_1 (by decide) rfl ?_ | refine a_iinc (lv1 := [(0, _), (1, _), (2, _), (3, _), (4, _), (5, _), (6, _), (7, _), (8, _)]) B d_Mo_laying_151 rfl rfl (by decide) rfl ?_
              refine a_goto B 61 d_Mo_laying_154 rfl ?_
              refine a_sub (lv1 := [(0, _), (1, _), (2, _), (3, _), (4, _), (5, _), (6, _), (7, _)]) rfl ?_
              rw [hst] at ihj
              first | exact ihj | (rw [hq]; exact ihj)
            · skip
              rename_i z0
              have hz0 := bnS_ok hq
              have hz1 : z0.1 < 2 ^ 31 := by have := hz0.1; omega
              refine a_iload B d_Mo_laying_131 rfl ?_
              refine b_if_lt B 143 d_Mo_laying_133 rfl (by first | assumption | omega) ?_
              refine a_iload B d_Mo_laying_136 rfl ?_
              refine a_iload B d_Mo_laying_138 rfl ?_
              first | refine b_icmp_le B 151 d_Mo_laying_140 rfl (by omega) (by omega) (fun c_140 => ?_) (fun c_140 => ?_) | refine a_icmp_le B 151 d_Mo_laying_140 rfl (fun c_140 => ?_) (fun c_140 => ?_)
              · skip
                have hst := bnS_keep (val := (nxV (sWo S) (sMx S) (if i = 0 then none else some ((lyS (sWo S) (sMx S) i).1 (i - 1))) (lyS (sWo S) (sMx S) i).2.1)) ht hq ((zI_le (nxV_bd hm hW q1) (by rw [hz0.2.2]; exact nxV_bd hm hW q1)).mp c_140)
                first | refine b_iinc (lv1 := [(0, _), (1, _), (2, _), (3, _), (4, _), (5, _), (6, _), (7, _), (8, _)]) B d_Mo_laying_151 rfl ci_1 (by decide) rfl ?_ | refine a_iinc (lv1 := [(0, _), (1, _), (2, _), (3, _), (4, _), (5, _), (6, _), (7, _), (8, _)]) B d_Mo_laying_151 rfl rfl (by decide) rfl ?_
                refine a_goto B 61 d_Mo_laying_154 rfl ?_
                refine a_sub (lv1 := [(0, _), (1, _), (2, _), (3, _), (4, _), (5, _), (6, _), (7, _)]) rfl ?_
                rw [hst] at ihj
                first | exact ihj | (rw [hq]; exact ihj)
              have hst := bnS_more (val := (nxV (sWo S) (sMx S) (if i = 0 then none else some ((lyS (sWo S) (sMx S) i).1 (i - 1))) (lyS (sWo S) (sMx S) i).2.1)) ht hq ((zI_lt (by rw [hz0.2.2]; exact nxV_bd hm hW q1) (nxV_bd hm hW q1)).mp (Int32.not_le.mp c_140))
              refine a_iload B d_Mo_laying_143 rfl ?_
              refine a_istore (lv1 := [(0, _), (1, _), (2, _), (3, _), (4, _), (5, _), (6, _), (7, _), (8, _)]) B d_Mo_laying_145 (by decide) rfl ?_
              refine a_iload B d_Mo_laying_147 rfl ?_
              refine a_istore (lv1 := [(0, _), (1, _), (2, _), (3, _), (4, _), (5, _), (6, _), (7, _), (8, _)]) B d_Mo_laying_149 (by decide) rfl ?_
              first | refine b_iinc (lv1 := [(0, _), (1, _), (2, _), (3, _), (4, _), (5, _), (6, _), (7, _), (8, _)]) B d_Mo_laying_151 rfl ci_1 (by decide) rfl ?_ | refine a_iinc (lv1 := [(0, _), (1, _), (2, _), (3, _), (4, _), (5, _), (6, _), (7, _), (8, _)]) B d_Mo_laying_151 rfl rfl (by decide) rfl ?_
              refine a_goto B 61 d_Mo_laying_154 rfl ?_
              refine a_sub (lv1 := [(0, _), (1, _), (2, _), (3, _), (4, _), (5, _), (6, _), (7, _)]) rfl ?_
              rw [hst] at ihj
              first | exact ihj | (rw [hq]; exact ihj)
          have hi0 : i = 0 := nI_z (by omega) c_82
          refine a_iconst B d_Mo_laying_85 ci_0 ?_
          rw [show (nI 0 : Int32) = zI (wbV (sWo S) (if i = 0 then none else some ((lyS (sWo S) (sMx S) i).1 (i - 1))) j) from by rw [if_pos hi0]; rfl]
          refine a_goto B 109 d_Mo_laying_86 rfl ?_
          refine a_aload_n B d_Mo_laying_109 rfl rfl ?_
          refine gf_Mo_ahead B d_Mo_laying_110 fl_Mo_71 ?_
          refine a_bipush B d_Mo_laying_113 cb_8 ?_
          refine a_iload_n B d_Mo_laying_115 rfl rfl ?_
          refine a_iconst B d_Mo_laying_116 ci_1 ?_
          refine a_iload B d_Mo_laying_117 rfl ?_
          refine a_ishl B d_Mo_laying_119 ?_
          refine a_iconst B d_Mo_laying_120 ci_m1 ?_
          refine a_ixor B d_Mo_laying_121 ?_
          refine a_iand B d_Mo_laying_122 ?_
          rw [del_jvm q1 (by omega)]
          first | refine b_imul B d_Mo_laying_123 ?_ | refine a_imul B d_Mo_laying_123 ?_
          refine a_iload B d_Mo_laying_124 rfl ?_
          first | refine b_iadd B d_Mo_laying_126 ?_ | refine a_iadd B d_Mo_laying_126 ?_
          refine a_iald B ly_127 _ rfl (by first | assumption | omega) d_Mo_laying_127 ?_
          rw [hO 127 (by decide), up1_o (by decide), hTab (del (lyS (sWo S) (sMx S) i).2.1 j) (by have := del_lt q1 (by omega) ht; omega) j hj]
          first | refine b_iadd B d_Mo_laying_128 ?_ | refine a_iadd B d_Mo_laying_128 ?_
          rw [zI_add]
          rw [show wbV (sWo S) (if i = 0 then none else some ((lyS (sWo S) (sMx S) i).1 (i - 1))) j + ahV (sWo S) (sMx S) (del (lyS (sWo S) (sMx S) i).2.1 j) j = nxV (sWo S) (sMx S) (if i = 0 then none else some ((lyS (sWo S) (sMx S) i).1 (i - 1))) (lyS (sWo S) (sMx S) i).2.1 j from rfl]
          refine a_istore (lv1 := [(0, _), (1, _), (2, _), (3, _), (4, _), (5, _), (6, _), (7, _), (8, _)]) B d_Mo_laying_129 (by decide) rfl ?_
          cases hq : (bnS (nxV (sWo S) (sMx S) (if i = 0 then none else some ((lyS (sWo S) (sMx S) i).1 (i - 1))) (lyS (sWo S) (sMx S) i).2.1) (lyS (sWo S) (sMx S) i).2.1 j)
          · skip
            have hst := bnS_first (val := (nxV (sWo S) (sMx S) (if i = 0 then none else some ((lyS (sWo S) (sMx S) i).1 (i - 1))) (lyS (sWo S) (sMx S) i).2.1)) ht hq
            refine a_iload B d_Mo_laying_131 rfl ?_
            refine a_if_lt B 143 d_Mo_laying_133 rfl (fun _ => ?_) (fun c9 => absurd (by decide) c9)
            refine a_iload B d_Mo_laying_143 rfl ?_
            refine a_istore (lv1 := [(0, _), (1, _), (2, _), (3, _), (4, _), (5, _), (6, _), (7, _), (8, _)]) B d_Mo_laying_145 (by decide) rfl ?_
            refine a_iload B d_Mo_laying_147 rfl ?_
            refine a_istore (lv1 := [(0, _), (1, _), (2, _), (3, _), (4, _), (5, _), (6, _), (7, _), (8, _)]) B d_Mo_laying_149 (by decide) rfl ?_
            first | refine b_iinc (lv1 := [(0, _), (1, _), (2, _), (3, _), (4, _), (5, _), (6, _), (7, _), (8, _)]) B d_Mo_laying_151 rfl ci_1 (by decide) rfl ?_ | refine a_iinc (lv1 := [(0, _), (1, _), (2, _), (3, _), (4, _), (5, _), (6, _), (7, _), (8, _)]) B d_Mo_laying_151 rfl rfl (by decide) rfl ?_
            refine a_goto B 61 d_Mo_laying_154 rfl ?_
            refine a_sub (lv1 := [(0, _), (1, _), (2, _), (3, _), (4, _), (5, _), (6, _), (7, _)]) rfl ?_
            rw [hst] at ihj
            first | exact ihj | (rw [hq]; exact ihj)
          · skip
            rename_i z0
            have hz0 := bnS_ok hq
            have hz1 : z0.1 < 2 ^ 31 := by have := hz0.1; omega
            refine a_iload B d_Mo_laying_131 rfl ?_
            refine b_if_lt B 143 d_Mo_laying_133 rfl (by first | assumption | omega) ?_
            refine a_iload B d_Mo_laying_136 rfl ?_
            refine a_iload B d_Mo_laying_138 rfl ?_
            first | refine b_icmp_le B 151 d_Mo_laying_140 rfl (by omega) (by omega) (fun c_140 => ?_) (fun c_140 => ?_) | refine a_icmp_le B 151 d_Mo_laying_140 rfl (fun c_140 => ?_) (fun c_140 => ?_)
            · skip
              have hst := bnS_keep (val := (nxV (sWo S) (sMx S) (if i = 0 then none else some ((lyS (sWo S) (sMx S) i).1 (i - 1))) (lyS (sWo S) (sMx S) i).2.1)) ht hq ((zI_le (nxV_bd hm hW q1) (by rw [hz0.2.2]; exact nxV_bd hm hW q1)).mp c_140)
              first | refine b_iinc (lv1 := [(0, _), (1, _), (2, _), (3, _), (4, _), (5, _), (6, _), (7, _), (8, _)]) B d_Mo_laying_151 rfl ci_1 (by decide) rfl ?_ | refine a_iinc (lv1 := [(0, _), (1, _), (2, _), (3, _), (4, _), (5, _), (6, _), (7, _), (8, _)]) B d_Mo_laying_151 rfl rfl (by decide) rfl ?_
              refine a_goto B 61 d_Mo_laying_154 rfl ?_
              refine a_sub (lv1 := [(0, _), (1, _), (2, _), (3, _), (4, _), (5, _), (6, _), (7, _)]) rfl ?_
              rw [hst] at ihj
              first | exact ihj | (rw [hq]; exact ihj)
            have hst := bnS_more (val := (nxV (sWo S) (sMx S) (if i = 0 then none else some ((lyS (sWo S) (sMx S) i).1 (i - 1))) (lyS (sWo S) (sMx S) i).2.1)) ht hq ((zI_lt (by rw [hz0.2.2]; exact nxV_bd hm hW q1) (nxV_bd hm hW q1)).mp (Int32.not_le.mp c_140))
            refine a_iload B d_Mo_laying_143 rfl ?_
            refine a_istore (lv1 := [(0, _), (1, _), (2, _), (3, _), (4, _), (5, _), (6, _), (7, _), (8, _)]) B d_Mo_laying_145 (by decide) rfl ?_
            refine a_iload B d_Mo_laying_147 rfl ?_
            refine a_istore (lv1 := [(0, _), (1, _), (2, _), (3, _), (4, _), (5, _), (6, _), (7, _), (8, _)]) B d_Mo_laying_149 (by decide) rfl ?_
            first | refine b_iinc (lv1 := [(0, _), (1, _), (2, _), (3, _), (4, _), (5, _), (6, _), (7, _), (8, _)]) B d_Mo_laying_151 rfl ci_1 (by decide) rfl ?_ | refine a_iinc (lv1 := [(0, _), (1, _), (2, _), (3, _), (4, _), (5, _), (6, _), (7, _), (8, _)]) B d_Mo_laying_151 rfl rfl (by decide) rfl ?_
            refine a_goto B 61 d_Mo_laying_154 rfl ?_
            refine a_sub (lv1 := [(0, _), (1, _), (2, _), (3, _), (4, _), (5, _), (6, _), (7, _)]) rfl ?_
            rw [hst] at ihj
            first | exact ihj | (rw [hq]; exact ihj)
        · skip
          refine a_iload B d_Mo_laying_61 rfl ?_
          refine a_aload_n B d_Mo_laying_63 rfl rfl ?_
          refine gf_Mo_many B d_Mo_laying_64 fl_Mo_193 ?_
          rw [hO 106 (by decide), up1_s, upd_o (by decide), hT0 106 (by decide), hN]
          first | refine b_icmp_ge B 157 d_Mo_laying_67 rfl (by omega) (by omega) (fun c_67 => ?_) (fun c_67 => ?_) | refine a_icmp_ge B 157 d_Mo_laying_67 rfl (fun c_67 => ?_) (fun c_67 => ?_)
          · skip
            rw [hz]
            show AW g K 9 _ [(0, rV 106), (1, iV (nI (2 ^ sMx S - 1))), (2, iV (nI (lyS (sWo S) (sMx S) i).2.1)), (3, iV (mstV (sWo S) (sMx S) i)), (4, iV (nI i)), (5, iV (nI z.1)), (6, iV (zI z.2)), (7, iV (nI (sMx S)))] [] τ
            refine a_iload B d_Mo_laying_157 rfl ?_
            first | refine b_if_ne_b B 167 d_Mo_laying_159 rfl (fun c_159 => ?_) (fun c_159 => ?_) | refine a_if_ne B 167 d_Mo_laying_159 rfl (fun c_159 => ?_) (fun c_159 => ?_)
            · skip
              have hi0 : ¬ i = 0 := fun q => c_159 (by rw [q]; exact nI_0)
              have hmo : True := trivial
              rw [show mstV (sWo S) (sMx S) i = zI (lyG (sWo S) (sMx S)) from if_neg hi0]
              refine a_iload_n B d_Mo_laying_167 rfl rfl ?_
              refine a_istore_n (lv1 := [(0, _), (1, _), (2, _), (3, _), (4, _), (5, _), (6, _), (7, _)]) B d_Mo_laying_168 rfl (by decide) rfl ?_
              refine a_aload_n B d_Mo_laying_169 rfl rfl ?_
              refine gf_Mo_laying B d_Mo_laying_170 fl_Mo_74 ?_
              refine a_iload B d_Mo_laying_173 rfl ?_
              refine a_iload B d_Mo_laying_175 rfl ?_
              refine a_iast B ly_128 _ rfl (by first | assumption | omega) d_Mo_laying_177 ?_
              refine a_iload_n B d_Mo_laying_178 rfl rfl ?_
              refine a_iconst B d_Mo_laying_179 ci_1 ?_
              refine a_iload B d_Mo_laying_180 rfl ?_
              refine a_ishl B d_Mo_laying_182 ?_
              refine a_iconst B d_Mo_laying_183 ci_m1 ?_
              refine a_ixor B d_Mo_laying_184 ?_
              refine a_iand B d_Mo_laying_185 ?_
              rw [del_jvm q1 (by omega)]
              refine a_istore_n (lv1 := [(0, _), (1, _), (2, _), (3, _), (4, _), (5, _), (6, _), (7, _)]) B d_Mo_laying_186 rfl (by decide) rfl ?_
              first | refine b_iinc (lv1 := [(0, _), (1, _), (2, _), (3, _), (4, _), (5, _), (6, _), (7, _)]) B d_Mo_laying_187 rfl ci_1 (by decide) rfl ?_ | refine a_iinc (lv1 := [(0, _), (1, _), (2, _), (3, _), (4, _), (5, _), (6, _), (7, _)]) B d_Mo_laying_187 rfl rfl (by decide) rfl ?_
              refine a_goto B 42 d_Mo_laying_190 rfl ?_
              refine a_sub (lv1 := [(0, _), (1, _), (2, _), (3, _), (4, _)]) rfl ?_
              refine ihi _ _ ⟨by rw [hl, show mstV (sWo S) (sMx S) (i + 1) = zI (lyG (sWo S) (sMx S)) from if_neg (Nat.succ_ne_zero i)]; try first | rw [hmo] | rfl, fun j hj => ?_, fun k q => by rw [up1_o q]; exact hO k q⟩
              rw [up1_s, hl]
              show _ = nI (va_up _ i z.1 j)
              by_cases e : j = i
              · rw [e, upd_s, va_up_s]
              · rw [upd_o e, va_up_o e]; exact hF j (by omega)
            have hi0 : i = 0 := nI_z (by omega) c_159
            have hmo : lyG (sWo S) (sMx S) = z.2 := lyG_1 (by subst hi0; exact hz)
            refine a_iload B d_Mo_laying_162 rfl ?_
            refine a_goto B 168 d_Mo_laying_164 rfl ?_
            refine a_istore_n (lv1 := [(0, _), (1, _), (2, _), (3, _), (4, _), (5, _), (6, _), (7, _)]) B d_Mo_laying_168 rfl (by decide) rfl ?_
            refine a_aload_n B d_Mo_laying_169 rfl rfl ?_
            refine gf_Mo_laying B d_Mo_laying_170 fl_Mo_74 ?_
            refine a_iload B d_Mo_laying_173 rfl ?_
            refine a_iload B d_Mo_laying_175 rfl ?_
            refine a_iast B ly_128 _ rfl (by first | assumption | omega) d_Mo_laying_177 ?_
            refine a_iload_n B d_Mo_laying_178 rfl rfl ?_
            refine a_iconst B d_Mo_laying_179 ci_1 ?_
            refine a_iload B d_Mo_laying_180 rfl ?_
            refine a_ishl B d_Mo_laying_182 ?_
            refine a_iconst B d_Mo_laying_183 ci_m1 ?_
            refine a_ixor B d_Mo_laying_184 ?_
            refine a_iand B d_Mo_laying_185 ?_
            rw [del_jvm q1 (by omega)]
            refine a_istore_n (lv1 := [(0, _), (1, _), (2, _), (3, _), (4, _), (5, _), (6, _), (7, _)]) B d_Mo_laying_186 rfl (by decide) rfl ?_
            first | refine b_iinc (lv1 := [(0, _), (1, _), (2, _), (3, _), (4, _), (5, _), (6, _), (7, _)]) B d_Mo_laying_187 rfl ci_1 (by decide) rfl ?_ | refine a_iinc (lv1 := [(0, _), (1, _), (2, _), (3, _), (4, _), (5, _), (6, _), (7, _)]) B d_Mo_laying_187 rfl rfl (by decide) rfl ?_
            refine a_goto B 42 d_Mo_laying_190 rfl ?_
            refine a_sub (lv1 := [(0, _), (1, _), (2, _), (3, _), (4, _)]) rfl ?_
            refine ihi _ _ ⟨by rw [hl, show mstV (sWo S) (sMx S) (i + 1) = zI (lyG (sWo S) (sMx S)) from if_neg (Nat.succ_ne_zero i)]; try first | rw [hmo] | rfl, fun j hj => ?_, fun k q => by rw [up1_o q]; exact hO k q⟩
            rw [up1_s, hl]
            show _ = nI (va_up _ i z.1 j)
            by_cases e : j = i
            · rw [e, upd_s, va_up_s]
            · rw [upd_o e, va_up_o e]; exact hF j (by omega)
          exact absurd c_67 (by omega)
      · skip
        obtain ⟨rfl, hF, hO⟩ := hI
        refine a_iload B d_Mo_laying_42 rfl ?_
        refine a_aload_n B d_Mo_laying_44 rfl rfl ?_
        refine gf_Mo_many B d_Mo_laying_45 fl_Mo_193 ?_
        rw [hO 106 (by decide), up1_s, upd_o (by decide), hT0 106 (by decide), hN]
        first | refine b_icmp_ge B 193 d_Mo_laying_48 rfl (by omega) (by omega) (fun c_48 => ?_) (fun c_48 => ?_) | refine a_icmp_ge B 193 d_Mo_laying_48 rfl (fun c_48 => ?_) (fun c_48 => ?_)
        · skip
          have hmv : mstV (sWo S) (sMx S) (sMx S) = zI (lyG (sWo S) (sMx S)) := (by unfold mstV; by_cases e : sMx S = 0; (rw [if_pos e, e]; rfl); rw [if_neg e])
          rw [hmv]
          refine a_aload_n B d_Mo_laying_193 rfl rfl ?_
          refine a_iload_n B d_Mo_laying_194 rfl rfl ?_
          refine a_aload_n B d_Mo_laying_195 rfl rfl ?_
          refine gf_Mo_many B d_Mo_laying_196 fl_Mo_193 ?_
          rw [hO 106 (by decide), up1_s, upd_o (by decide), hT0 106 (by decide), hN]
          refine a_callVI (ci := 7) B (t_Mo_ask G (zI (lyG (sWo S) (sMx S))) (nI (sMx S))) d_Mo_laying_199 ok_Mo_ask ml_Mo_108 ly_106 rfl rfl (by decide) (by decide) rfl (Nat.le_of_ble_eq_true rfl) (fun r_199 τ_199 h_199 => ?_)
          obtain ⟨hr_199, hs_199⟩ := h_199
          subst hr_199
          subst hs_199
          exact Rt _ _ _ _ d_Mo_laying_202 ⟨rfl, RelM_asked (RelM_lay hS (by rw [hO 106 (by decide), up1_s, upd_s]) hF (fun k a b c => by rw [hO k c, up1_o a]; exact hT0 k b) (fun j hj => by rw [hO 106 (by decide), up1_s, upd_o hj, hT0 106 (by decide)])), fun k hk => by rw [askH_o (by omega), hO k (by omega), up1_o (by omega)]; exact hT0 k (by omega)⟩
        exact absurd c_48 (by omega)
    exact absurd c_13 (by omega)
