/-! the reference: trees made -/
def JmK (σ : AH) (t n k : Nat) (S : MS) : Prop :=
  σ.1 111 t = nI n ∧
  (∀ l, l < n → σ.1 112 (20 * t + l) = -9 ∧ σ.1 113 (20 * t + l) = -9) ∧
  (∀ j, n ≤ j → j < k → σ.1 112 (20 * t + j) = nI (mL S j) ∧ σ.1 113 (20 * t + j) = nI (mR S j)) ∧
  (∀ v, v < 2 * n - 1 → σ.1 114 (20 * t + v) = oI (mU S v)) ∧
  (∀ v, v < 2 * n - 1 → σ.1 115 (20 * t + v) = nI (mH S v)) ∧
  (∀ v, v < k → σ.1 118 (20 * t + v) = nI (mM S v)) ∧
  (∀ v, v < 2 * n - 1 → σ.1 116 (20 * t + v) = 0 ∧ σ.1 117 (20 * t + v) = 0) ∧
  (∀ a, a < n → σ.1 119 a = oI (mD S a))
theorem JmK.of {σ τ : AH} {t n k : Nat} {S : MS} (h : JmK σ t n k S) (e : ∀ j, 111 ≤ j → j ≤ 119 → τ.1 j = σ.1 j) : JmK τ t n k S := by
  unfold JmK at h ⊢
  rw [e 111 (by decide) (by decide), e 112 (by decide) (by decide), e 113 (by decide) (by decide), e 114 (by decide) (by decide), e 115 (by decide) (by decide), e 116 (by decide) (by decide), e 117 (by decide) (by decide), e 118 (by decide) (by decide), e 119 (by decide) (by decide)]
  exact h
def farR (σ τ : AH) : Prop := (∀ k, k ≠ 106 → τ.1 k = σ.1 k) ∧ ∀ j, j ≠ 15 → j ≠ 16 → τ.1 106 j = σ.1 106 j
theorem farR_h {σ τ : AH} {x y : Int32} (h : farR σ τ) : farR σ (farH τ x y) := ⟨fun k q => (farH_o q).trans (h.1 k q), fun j a b => (farH_f a b).trans (h.2 j a b)⟩
theorem farR_wk {σ τ : AH} (h : farR σ τ) : wkM σ τ := ⟨fun k a _ _ _ => h.1 k a, h.2⟩
theorem farR_R {σ τ : AH} {n : Nat} {th : Nat → Bool} {pl : Nat → Nat → Nat} (h : farR σ τ) (hR : RoM σ n th pl) : RoM τ n th pl := hR.of (h.2 3 (by decide) (by decide)) (h.1 108 (by decide)) (h.1 109 (by decide))
theorem jm_end {σ τ : AH} {t n k : Nat} {S : MS} {z : Nat × Nat × Nat × Nat} (h10 : n ≤ 10) (hK : JmK σ t n k S) (hI : InvM n k S) (hk : n ≤ k) (hk2 : k < 2 * n - 1) (z1 : z.1 < z.2.1) (z2 : z.2.1 < n) (z3 : actM S z.1 = true) (z4 : actM S z.2.1 = true)
    (e111 : τ.1 111 = σ.1 111) (e112 : τ.1 112 = upd (σ.1 112) (20 * t + k) (nI (ndM S z.1))) (e113 : τ.1 113 = upd (σ.1 113) (20 * t + k) (nI (ndM S z.2.1))) (e114 : τ.1 114 = upd (upd (σ.1 114) (20 * t + ndM S z.1) (nI k)) (20 * t + ndM S z.2.1) (nI k)) (e115 : τ.1 115 = upd (σ.1 115) (20 * t + k) (nI (z.2.2.1 / z.2.2.2))) (e116 : τ.1 116 = σ.1 116) (e117 : τ.1 117 = σ.1 117) (e118 : τ.1 118 = upd (σ.1 118) (20 * t + k) (nI (mM S (ndM S z.1) ||| mM S (ndM S z.2.1)))) (e119 : τ.1 119 = upd (upd (σ.1 119) z.1 (nI k)) z.2.1 (-9)) : JmK τ t n (k + 1) (joinZ S k z) := by
  obtain ⟨k1, k2, k3, k4, k5, k6, k7, k8⟩ := hK
  have dA := nd_some z3
  have dB := nd_some z4
  have lA := (hI.1 _ _ dA).2
  have lB := (hI.1 _ _ dB).2
  refine ⟨by rw [e111]; exact k1, fun l hl => ?_, fun j hj hjk => ?_, fun v hv => ?_, fun v hv => ?_, fun v hv => ?_, by rw [e116, e117]; exact k7, fun c hc => ?_⟩
  · rw [e112, e113, upd_o (by omega), upd_o (by omega)]
    exact k2 l hl
  · rw [e112, e113]
    show upd (σ.1 112) (20 * t + k) (nI (ndM S z.1)) (20 * t + j) = nI (va_up (mL S) k (ndM S z.1) j) ∧ upd (σ.1 113) (20 * t + k) (nI (ndM S z.2.1)) (20 * t + j) = nI (va_up (mR S) k (ndM S z.2.1) j)
    by_cases e : j = k
    · rw [e, upd_s, upd_s, va_up_s, va_up_s]; exact ⟨rfl, rfl⟩
    · rw [upd_o (by omega), upd_o (by omega), va_up_o e, va_up_o e]; exact k3 j hj (by omega)
  · rw [e114]
    show _ = oI (va_up (va_up (mU S) (ndM S z.1) (some k)) (ndM S z.2.1) (some k) v)
    by_cases e1 : v = ndM S z.2.1
    · rw [e1, upd_s, va_up_s]; rfl
    · rw [upd_o (by omega), va_up_o e1]
      by_cases e2 : v = ndM S z.1
      · rw [e2, upd_s, va_up_s]; rfl
      · rw [upd_o (by omega), va_up_o e2]; exact k4 v hv
  · rw [e115]
    show _ = nI (va_up (mH S) k (z.2.2.1 / z.2.2.2) v)
    by_cases e : v = k
    · rw [e, upd_s, va_up_s]
    · rw [upd_o (by omega), va_up_o e]; exact k5 v hv
  · rw [e118]
    show _ = nI (va_up (mM S) k (mM S (ndM S z.1) ||| mM S (ndM S z.2.1)) v)
    by_cases e : v = k
    · rw [e, upd_s, va_up_s]
    · rw [upd_o (by omega), va_up_o e]; exact k6 v (by omega)
  · rw [e119]
    show _ = oI (va_up (va_up (mD S) z.1 (some k)) z.2.1 none c)
    by_cases e1 : c = z.2.1
    · rw [e1, upd_s, va_up_s]; rfl
    · rw [upd_o e1, va_up_o e1]
      by_cases e2 : c = z.1
      · rw [e2, upd_s, va_up_s]; rfl
      · rw [upd_o e2, va_up_o e2]; exact k8 c hc
theorem d_Mo_join_0 : decode prog_9_method_22_code 0 = .ok (.bipush (-9), 2) := by decide +kernel
theorem d_Mo_join_2 : decode prog_9_method_22_code 2 = .ok (.istore 4, 2) := by decide +kernel
theorem d_Mo_join_4 : decode prog_9_method_22_code 4 = .ok (.bipush (-9), 2) := by decide +kernel
theorem d_Mo_join_6 : decode prog_9_method_22_code 6 = .ok (.istore 5, 2) := by decide +kernel
theorem d_Mo_join_8 : decode prog_9_method_22_code 8 = .ok (.iconst 0, 1) := by decide +kernel
theorem d_Mo_join_9 : decode prog_9_method_22_code 9 = .ok (.istore 6, 2) := by decide +kernel
theorem d_Mo_join_11 : decode prog_9_method_22_code 11 = .ok (.iconst 1, 1) := by decide +kernel
theorem d_Mo_join_12 : decode prog_9_method_22_code 12 = .ok (.istore 7, 2) := by decide +kernel
theorem d_Mo_join_14 : decode prog_9_method_22_code 14 = .ok (.iconst 0, 1) := by decide +kernel
theorem d_Mo_join_15 : decode prog_9_method_22_code 15 = .ok (.istore 8, 2) := by decide +kernel
theorem d_Mo_join_17 : decode prog_9_method_22_code 17 = .ok (.iload 8, 2) := by decide +kernel
theorem d_Mo_join_19 : decode prog_9_method_22_code 19 = .ok (.aload_n 0, 1) := by decide +kernel
theorem d_Mo_join_20 : decode prog_9_method_22_code 20 = .ok (.getfield 84, 3) := by decide +kernel
theorem d_Mo_join_23 : decode prog_9_method_22_code 23 = .ok (.if_icmp .ge 136, 3) := by decide +kernel
theorem d_Mo_join_26 : decode prog_9_method_22_code 26 = .ok (.iload 8, 2) := by decide +kernel
theorem d_Mo_join_28 : decode prog_9_method_22_code 28 = .ok (.iconst 1, 1) := by decide +kernel
theorem d_Mo_join_29 : decode prog_9_method_22_code 29 = .ok (.iadd, 1) := by decide +kernel
theorem d_Mo_join_30 : decode prog_9_method_22_code 30 = .ok (.istore 9, 2) := by decide +kernel
theorem d_Mo_join_32 : decode prog_9_method_22_code 32 = .ok (.iload 9, 2) := by decide +kernel
theorem d_Mo_join_34 : decode prog_9_method_22_code 34 = .ok (.aload_n 0, 1) := by decide +kernel
theorem d_Mo_join_35 : decode prog_9_method_22_code 35 = .ok (.getfield 84, 3) := by decide +kernel
theorem d_Mo_join_38 : decode prog_9_method_22_code 38 = .ok (.if_icmp .ge 115, 3) := by decide +kernel
theorem d_Mo_join_41 : decode prog_9_method_22_code 41 = .ok (.aload_n 0, 1) := by decide +kernel
theorem d_Mo_join_42 : decode prog_9_method_22_code 42 = .ok (.getfield 47, 3) := by decide +kernel
theorem d_Mo_join_45 : decode prog_9_method_22_code 45 = .ok (.iload 8, 2) := by decide +kernel
theorem d_Mo_join_47 : decode prog_9_method_22_code 47 = .ok (.iaload, 1) := by decide +kernel
theorem d_Mo_join_48 : decode prog_9_method_22_code 48 = .ok (.ifCond .lt 99, 3) := by decide +kernel
theorem d_Mo_join_51 : decode prog_9_method_22_code 51 = .ok (.aload_n 0, 1) := by decide +kernel
theorem d_Mo_join_52 : decode prog_9_method_22_code 52 = .ok (.getfield 47, 3) := by decide +kernel
theorem d_Mo_join_55 : decode prog_9_method_22_code 55 = .ok (.iload 9, 2) := by decide +kernel
theorem d_Mo_join_57 : decode prog_9_method_22_code 57 = .ok (.iaload, 1) := by decide +kernel
theorem d_Mo_join_58 : decode prog_9_method_22_code 58 = .ok (.ifCond .lt 89, 3) := by decide +kernel
theorem d_Mo_join_61 : decode prog_9_method_22_code 61 = .ok (.aload_n 0, 1) := by decide +kernel
theorem d_Mo_join_62 : decode prog_9_method_22_code 62 = .ok (.aload_n 0, 1) := by decide +kernel
theorem d_Mo_join_63 : decode prog_9_method_22_code 63 = .ok (.getfield 44, 3) := by decide +kernel
theorem d_Mo_join_66 : decode prog_9_method_22_code 66 = .ok (.bipush 20, 2) := by decide +kernel
theorem d_Mo_join_68 : decode prog_9_method_22_code 68 = .ok (.iload_n 1, 1) := by decide +kernel
theorem d_Mo_join_69 : decode prog_9_method_22_code 69 = .ok (.imul, 1) := by decide +kernel
theorem d_Mo_join_70 : decode prog_9_method_22_code 70 = .ok (.aload_n 0, 1) := by decide +kernel
theorem d_Mo_join_71 : decode prog_9_method_22_code 71 = .ok (.getfield 47, 3) := by decide +kernel
theorem d_Mo_join_74 : decode prog_9_method_22_code 74 = .ok (.iload 8, 2) := by decide +kernel
theorem d_Mo_join_76 : decode prog_9_method_22_code 76 = .ok (.iaload, 1) := by decide +kernel
theorem d_Mo_join_77 : decode prog_9_method_22_code 77 = .ok (.iadd, 1) := by decide +kernel
theorem d_Mo_join_78 : decode prog_9_method_22_code 78 = .ok (.iaload, 1) := by decide +kernel
theorem d_Mo_join_79 : decode prog_9_method_22_code 79 = .ok (.aload_n 0, 1) := by decide +kernel
theorem d_Mo_join_80 : decode prog_9_method_22_code 80 = .ok (.getfield 44, 3) := by decide +kernel
theorem d_Mo_join_83 : decode prog_9_method_22_code 83 = .ok (.bipush 20, 2) := by decide +kernel
theorem d_Mo_join_85 : decode prog_9_method_22_code 85 = .ok (.iload_n 1, 1) := by decide +kernel
theorem d_Mo_join_86 : decode prog_9_method_22_code 86 = .ok (.imul, 1) := by decide +kernel
theorem d_Mo_join_87 : decode prog_9_method_22_code 87 = .ok (.aload_n 0, 1) := by decide +kernel
theorem d_Mo_join_88 : decode prog_9_method_22_code 88 = .ok (.getfield 47, 3) := by decide +kernel
theorem d_Mo_join_91 : decode prog_9_method_22_code 91 = .ok (.iload 9, 2) := by decide +kernel
theorem d_Mo_join_93 : decode prog_9_method_22_code 93 = .ok (.iaload, 1) := by decide +kernel
theorem d_Mo_join_94 : decode prog_9_method_22_code 94 = .ok (.iadd, 1) := by decide +kernel
theorem d_Mo_join_95 : decode prog_9_method_22_code 95 = .ok (.iaload, 1) := by decide +kernel
theorem d_Mo_join_96 : decode prog_9_method_22_code 96 = .ok (.iload_n 3, 1) := by decide +kernel
theorem d_Mo_join_97 : decode prog_9_method_22_code 97 = .ok (.invokevirtual 130, 3) := by decide +kernel
theorem d_Mo_join_100 : decode prog_9_method_22_code 100 = .ok (.iload 4, 2) := by decide +kernel
theorem d_Mo_join_102 : decode prog_9_method_22_code 102 = .ok (.ifCond .lt 25, 3) := by decide +kernel
theorem d_Mo_join_105 : decode prog_9_method_22_code 105 = .ok (.aload_n 0, 1) := by decide +kernel
theorem d_Mo_join_106 : decode prog_9_method_22_code 106 = .ok (.getfield 114, 3) := by decide +kernel
theorem d_Mo_join_109 : decode prog_9_method_22_code 109 = .ok (.i2l, 1) := by decide +kernel
theorem d_Mo_join_110 : decode prog_9_method_22_code 110 = .ok (.iload 7, 2) := by decide +kernel
theorem d_Mo_join_112 : decode prog_9_method_22_code 112 = .ok (.i2l, 1) := by decide +kernel
theorem d_Mo_join_113 : decode prog_9_method_22_code 113 = .ok (.lmul, 1) := by decide +kernel
theorem d_Mo_join_114 : decode prog_9_method_22_code 114 = .ok (.iload 6, 2) := by decide +kernel
theorem d_Mo_join_116 : decode prog_9_method_22_code 116 = .ok (.i2l, 1) := by decide +kernel
theorem d_Mo_join_117 : decode prog_9_method_22_code 117 = .ok (.aload_n 0, 1) := by decide +kernel
theorem d_Mo_join_118 : decode prog_9_method_22_code 118 = .ok (.getfield 120, 3) := by decide +kernel
theorem d_Mo_join_121 : decode prog_9_method_22_code 121 = .ok (.i2l, 1) := by decide +kernel
theorem d_Mo_join_122 : decode prog_9_method_22_code 122 = .ok (.lmul, 1) := by decide +kernel
theorem d_Mo_join_123 : decode prog_9_method_22_code 123 = .ok (.lcmp, 1) := by decide +kernel
theorem d_Mo_join_124 : decode prog_9_method_22_code 124 = .ok (.ifCond .ge 23, 3) := by decide +kernel
theorem d_Mo_join_127 : decode prog_9_method_22_code 127 = .ok (.iload 8, 2) := by decide +kernel
theorem d_Mo_join_129 : decode prog_9_method_22_code 129 = .ok (.istore 4, 2) := by decide +kernel
theorem d_Mo_join_131 : decode prog_9_method_22_code 131 = .ok (.iload 9, 2) := by decide +kernel
theorem d_Mo_join_133 : decode prog_9_method_22_code 133 = .ok (.istore 5, 2) := by decide +kernel
theorem d_Mo_join_135 : decode prog_9_method_22_code 135 = .ok (.aload_n 0, 1) := by decide +kernel
theorem d_Mo_join_136 : decode prog_9_method_22_code 136 = .ok (.getfield 114, 3) := by decide +kernel
theorem d_Mo_join_139 : decode prog_9_method_22_code 139 = .ok (.istore 6, 2) := by decide +kernel
theorem d_Mo_join_141 : decode prog_9_method_22_code 141 = .ok (.aload_n 0, 1) := by decide +kernel
theorem d_Mo_join_142 : decode prog_9_method_22_code 142 = .ok (.getfield 120, 3) := by decide +kernel
theorem d_Mo_join_145 : decode prog_9_method_22_code 145 = .ok (.istore 7, 2) := by decide +kernel
theorem d_Mo_join_147 : decode prog_9_method_22_code 147 = .ok (.iinc 9 1, 3) := by decide +kernel
theorem d_Mo_join_150 : decode prog_9_method_22_code 150 = .ok (.goto (-118), 3) := by decide +kernel
theorem d_Mo_join_153 : decode prog_9_method_22_code 153 = .ok (.iinc 8 1, 3) := by decide +kernel
theorem d_Mo_join_156 : decode prog_9_method_22_code 156 = .ok (.goto (-139), 3) := by decide +kernel
theorem d_Mo_join_159 : decode prog_9_method_22_code 159 = .ok (.bipush 20, 2) := by decide +kernel
theorem d_Mo_join_161 : decode prog_9_method_22_code 161 = .ok (.iload_n 1, 1) := by decide +kernel
theorem d_Mo_join_162 : decode prog_9_method_22_code 162 = .ok (.imul, 1) := by decide +kernel
theorem d_Mo_join_163 : decode prog_9_method_22_code 163 = .ok (.iload_n 2, 1) := by decide +kernel
theorem d_Mo_join_164 : decode prog_9_method_22_code 164 = .ok (.iadd, 1) := by decide +kernel
theorem d_Mo_join_165 : decode prog_9_method_22_code 165 = .ok (.istore 8, 2) := by decide +kernel
theorem d_Mo_join_167 : decode prog_9_method_22_code 167 = .ok (.aload_n 0, 1) := by decide +kernel
theorem d_Mo_join_168 : decode prog_9_method_22_code 168 = .ok (.getfield 26, 3) := by decide +kernel
theorem d_Mo_join_171 : decode prog_9_method_22_code 171 = .ok (.iload 8, 2) := by decide +kernel
theorem d_Mo_join_173 : decode prog_9_method_22_code 173 = .ok (.aload_n 0, 1) := by decide +kernel
theorem d_Mo_join_174 : decode prog_9_method_22_code 174 = .ok (.getfield 47, 3) := by decide +kernel
theorem d_Mo_join_177 : decode prog_9_method_22_code 177 = .ok (.iload 4, 2) := by decide +kernel
theorem d_Mo_join_179 : decode prog_9_method_22_code 179 = .ok (.iaload, 1) := by decide +kernel
theorem d_Mo_join_180 : decode prog_9_method_22_code 180 = .ok (.iastore, 1) := by decide +kernel
theorem d_Mo_join_181 : decode prog_9_method_22_code 181 = .ok (.aload_n 0, 1) := by decide +kernel
theorem d_Mo_join_182 : decode prog_9_method_22_code 182 = .ok (.getfield 29, 3) := by decide +kernel
theorem d_Mo_join_185 : decode prog_9_method_22_code 185 = .ok (.iload 8, 2) := by decide +kernel
theorem d_Mo_join_187 : decode prog_9_method_22_code 187 = .ok (.aload_n 0, 1) := by decide +kernel
theorem d_Mo_join_188 : decode prog_9_method_22_code 188 = .ok (.getfield 47, 3) := by decide +kernel
theorem d_Mo_join_191 : decode prog_9_method_22_code 191 = .ok (.iload 5, 2) := by decide +kernel
theorem d_Mo_join_193 : decode prog_9_method_22_code 193 = .ok (.iaload, 1) := by decide +kernel
theorem d_Mo_join_194 : decode prog_9_method_22_code 194 = .ok (.iastore, 1) := by decide +kernel
theorem d_Mo_join_195 : decode prog_9_method_22_code 195 = .ok (.aload_n 0, 1) := by decide +kernel
theorem d_Mo_join_196 : decode prog_9_method_22_code 196 = .ok (.getfield 35, 3) := by decide +kernel
theorem d_Mo_join_199 : decode prog_9_method_22_code 199 = .ok (.iload 8, 2) := by decide +kernel
theorem d_Mo_join_201 : decode prog_9_method_22_code 201 = .ok (.iload 6, 2) := by decide +kernel
theorem d_Mo_join_203 : decode prog_9_method_22_code 203 = .ok (.iload 7, 2) := by decide +kernel
theorem d_Mo_join_205 : decode prog_9_method_22_code 205 = .ok (.idiv, 1) := by decide +kernel
theorem d_Mo_join_206 : decode prog_9_method_22_code 206 = .ok (.iastore, 1) := by decide +kernel
theorem d_Mo_join_207 : decode prog_9_method_22_code 207 = .ok (.aload_n 0, 1) := by decide +kernel
theorem d_Mo_join_208 : decode prog_9_method_22_code 208 = .ok (.getfield 44, 3) := by decide +kernel
theorem d_Mo_join_211 : decode prog_9_method_22_code 211 = .ok (.iload 8, 2) := by decide +kernel
theorem d_Mo_join_213 : decode prog_9_method_22_code 213 = .ok (.aload_n 0, 1) := by decide +kernel
theorem d_Mo_join_214 : decode prog_9_method_22_code 214 = .ok (.getfield 44, 3) := by decide +kernel
theorem d_Mo_join_217 : decode prog_9_method_22_code 217 = .ok (.bipush 20, 2) := by decide +kernel
theorem d_Mo_join_219 : decode prog_9_method_22_code 219 = .ok (.iload_n 1, 1) := by decide +kernel
theorem d_Mo_join_220 : decode prog_9_method_22_code 220 = .ok (.imul, 1) := by decide +kernel
theorem d_Mo_join_221 : decode prog_9_method_22_code 221 = .ok (.aload_n 0, 1) := by decide +kernel
theorem d_Mo_join_222 : decode prog_9_method_22_code 222 = .ok (.getfield 47, 3) := by decide +kernel
theorem d_Mo_join_225 : decode prog_9_method_22_code 225 = .ok (.iload 4, 2) := by decide +kernel
theorem d_Mo_join_227 : decode prog_9_method_22_code 227 = .ok (.iaload, 1) := by decide +kernel
theorem d_Mo_join_228 : decode prog_9_method_22_code 228 = .ok (.iadd, 1) := by decide +kernel
theorem d_Mo_join_229 : decode prog_9_method_22_code 229 = .ok (.iaload, 1) := by decide +kernel
theorem d_Mo_join_230 : decode prog_9_method_22_code 230 = .ok (.aload_n 0, 1) := by decide +kernel
theorem d_Mo_join_231 : decode prog_9_method_22_code 231 = .ok (.getfield 44, 3) := by decide +kernel
theorem d_Mo_join_234 : decode prog_9_method_22_code 234 = .ok (.bipush 20, 2) := by decide +kernel
theorem d_Mo_join_236 : decode prog_9_method_22_code 236 = .ok (.iload_n 1, 1) := by decide +kernel
theorem d_Mo_join_237 : decode prog_9_method_22_code 237 = .ok (.imul, 1) := by decide +kernel
theorem d_Mo_join_238 : decode prog_9_method_22_code 238 = .ok (.aload_n 0, 1) := by decide +kernel
theorem d_Mo_join_239 : decode prog_9_method_22_code 239 = .ok (.getfield 47, 3) := by decide +kernel
theorem d_Mo_join_242 : decode prog_9_method_22_code 242 = .ok (.iload 5, 2) := by decide +kernel
theorem d_Mo_join_244 : decode prog_9_method_22_code 244 = .ok (.iaload, 1) := by decide +kernel
theorem d_Mo_join_245 : decode prog_9_method_22_code 245 = .ok (.iadd, 1) := by decide +kernel
theorem d_Mo_join_246 : decode prog_9_method_22_code 246 = .ok (.iaload, 1) := by decide +kernel
theorem d_Mo_join_247 : decode prog_9_method_22_code 247 = .ok (.ior, 1) := by decide +kernel
theorem d_Mo_join_248 : decode prog_9_method_22_code 248 = .ok (.iastore, 1) := by decide +kernel
theorem d_Mo_join_249 : decode prog_9_method_22_code 249 = .ok (.aload_n 0, 1) := by decide +kernel
theorem d_Mo_join_250 : decode prog_9_method_22_code 250 = .ok (.getfield 32, 3) := by decide +kernel
theorem d_Mo_join_253 : decode prog_9_method_22_code 253 = .ok (.bipush 20, 2) := by decide +kernel
theorem d_Mo_join_255 : decode prog_9_method_22_code 255 = .ok (.iload_n 1, 1) := by decide +kernel
theorem d_Mo_join_256 : decode prog_9_method_22_code 256 = .ok (.imul, 1) := by decide +kernel
theorem d_Mo_join_257 : decode prog_9_method_22_code 257 = .ok (.aload_n 0, 1) := by decide +kernel
theorem d_Mo_join_258 : decode prog_9_method_22_code 258 = .ok (.getfield 47, 3) := by decide +kernel
theorem d_Mo_join_261 : decode prog_9_method_22_code 261 = .ok (.iload 4, 2) := by decide +kernel
theorem d_Mo_join_263 : decode prog_9_method_22_code 263 = .ok (.iaload, 1) := by decide +kernel
theorem d_Mo_join_264 : decode prog_9_method_22_code 264 = .ok (.iadd, 1) := by decide +kernel
theorem d_Mo_join_265 : decode prog_9_method_22_code 265 = .ok (.iload_n 2, 1) := by decide +kernel
theorem d_Mo_join_266 : decode prog_9_method_22_code 266 = .ok (.iastore, 1) := by decide +kernel
theorem d_Mo_join_267 : decode prog_9_method_22_code 267 = .ok (.aload_n 0, 1) := by decide +kernel
theorem d_Mo_join_268 : decode prog_9_method_22_code 268 = .ok (.getfield 32, 3) := by decide +kernel
theorem d_Mo_join_271 : decode prog_9_method_22_code 271 = .ok (.bipush 20, 2) := by decide +kernel
theorem d_Mo_join_273 : decode prog_9_method_22_code 273 = .ok (.iload_n 1, 1) := by decide +kernel
theorem d_Mo_join_274 : decode prog_9_method_22_code 274 = .ok (.imul, 1) := by decide +kernel
theorem d_Mo_join_275 : decode prog_9_method_22_code 275 = .ok (.aload_n 0, 1) := by decide +kernel
theorem d_Mo_join_276 : decode prog_9_method_22_code 276 = .ok (.getfield 47, 3) := by decide +kernel
theorem d_Mo_join_279 : decode prog_9_method_22_code 279 = .ok (.iload 5, 2) := by decide +kernel
theorem d_Mo_join_281 : decode prog_9_method_22_code 281 = .ok (.iaload, 1) := by decide +kernel
theorem d_Mo_join_282 : decode prog_9_method_22_code 282 = .ok (.iadd, 1) := by decide +kernel
theorem d_Mo_join_283 : decode prog_9_method_22_code 283 = .ok (.iload_n 2, 1) := by decide +kernel
theorem d_Mo_join_284 : decode prog_9_method_22_code 284 = .ok (.iastore, 1) := by decide +kernel
theorem d_Mo_join_285 : decode prog_9_method_22_code 285 = .ok (.aload_n 0, 1) := by decide +kernel
theorem d_Mo_join_286 : decode prog_9_method_22_code 286 = .ok (.getfield 47, 3) := by decide +kernel
theorem d_Mo_join_289 : decode prog_9_method_22_code 289 = .ok (.iload 4, 2) := by decide +kernel
theorem d_Mo_join_291 : decode prog_9_method_22_code 291 = .ok (.iload_n 2, 1) := by decide +kernel
theorem d_Mo_join_292 : decode prog_9_method_22_code 292 = .ok (.iastore, 1) := by decide +kernel
theorem d_Mo_join_293 : decode prog_9_method_22_code 293 = .ok (.aload_n 0, 1) := by decide +kernel
theorem d_Mo_join_294 : decode prog_9_method_22_code 294 = .ok (.getfield 47, 3) := by decide +kernel
theorem d_Mo_join_297 : decode prog_9_method_22_code 297 = .ok (.iload 5, 2) := by decide +kernel
theorem d_Mo_join_299 : decode prog_9_method_22_code 299 = .ok (.bipush (-9), 2) := by decide +kernel
theorem d_Mo_join_301 : decode prog_9_method_22_code 301 = .ok (.iastore, 1) := by decide +kernel
theorem d_Mo_join_302 : decode prog_9_method_22_code 302 = .ok (.return_, 1) := by decide +kernel
set_option maxHeartbeats 4000000 in
set_option maxRecDepth 20000 in
theorem t_Mo_join {g : GG} (G : Gok g) {σ : AH} {t n k w : Nat} {S : MS} {th : Nat → Bool} {pl : Nat → Nat → Nat} (ht : t < 4) (hw : w < 3) (hR : RoM σ n th pl) (hK : JmK σ t n k S) (hI : InvM n k S) (hk : n ≤ k) (hk2 : k < 2 * n - 1) : TerV g 2 m_Mo_join [rV 106, iV (nI t), iV (nI k), iV (nI w)] σ (fun τ => JmK τ t n (k + 1) (joinM (unl n th pl) w n S k) ∧ tfM t σ τ) := by
  refine TerV.mk G (by decide +kernel) rfl (Nat.le_of_ble_eq_true rfl) (fun K B Rt => ?_)
  have B : Cx g K prog_9_method_22_code 10 R_Mo 2 := B
  have Rt : RetV g K prog_9_method_22_code 10 (fun τ => JmK τ t n (k + 1) (joinM (unl n th pl) w n S k) ∧ tfM t σ τ) := Rt
  show AW g K 10 0 [(0, rV 106), (1, iV (nI t)), (2, iV (nI k)), (3, iV (nI w))] [] σ
  obtain ⟨hN, hn, hth, hpl, hbd⟩ := id hR
  obtain ⟨k1, k2, k3, k4, k5, k6, k7, k8⟩ := id hK
  refine a_bipush B d_Mo_join_0 cb_m9 ?_
  refine a_istore (lv1 := [(0, _), (1, _), (2, _), (3, _), (4, _)]) B d_Mo_join_2 (by decide) rfl ?_
  refine a_bipush B d_Mo_join_4 cb_m9 ?_
  refine a_istore (lv1 := [(0, _), (1, _), (2, _), (3, _), (4, _), (5, _)]) B d_Mo_join_6 (by decide) rfl ?_
  refine a_iconst B d_Mo_join_8 ci_0 ?_
  refine a_istore (lv1 := [(0, _), (1, _), (2, _), (3, _), (4, _), (5, _), (6, _)]) B d_Mo_join_9 (by decide) rfl ?_
  refine a_iconst B d_Mo_join_11 ci_1 ?_
  refine a_istore (lv1 := [(0, _), (1, _), (2, _), (3, _), (4, _), (5, _), (6, _), (7, _)]) B d_Mo_join_12 (by decide) rfl ?_
  refine a_iconst B d_Mo_join_14 ci_0 ?_
  refine a_istore (lv1 := [(0, _), (1, _), (2, _), (3, _), (4, _), (5, _), (6, _), (7, _), (8, _)]) B d_Mo_join_15 (by decide) rfl ?_
  refine a_forR n (fun i lv τ => lv = [(0, rV 106), (1, iV (nI t)), (2, iV (nI k)), (3, iV (nI w)), (4, iV (sA (scO (qM (unl n th pl) w S) (actM S) n i))), (5, iV (sB (scO (qM (unl n th pl) w S) (actM S) n i))), (6, iV (nI (sU (scO (qM (unl n th pl) w S) (actM S) n i)))), (7, iV (nI (sL (scO (qM (unl n th pl) w S) (actM S) n i)))), (8, iV (nI i))] ∧ farR σ τ) (fun i lv τ hi hI9 ihi => ?_) (fun lv τ hI9 => ?_) 0 (Nat.zero_le _) _ _ ⟨rfl, fun _ _ => rfl, fun _ _ _ => rfl⟩
  · skip
    obtain ⟨rfl, hF⟩ := hI9
    refine a_iload B d_Mo_join_17 rfl ?_
    refine a_aload_n B d_Mo_join_19 rfl rfl ?_
    refine gf_Mo_leaves B d_Mo_join_20 fl_Mo_84 ?_
    rw [hF.2 3 (by decide) (by decide), hN]
    first | refine b_icmp_ge B 159 d_Mo_join_23 rfl (by omega) (by omega) (fun c_23 => ?_) (fun c_23 => ?_) | refine a_icmp_ge B 159 d_Mo_join_23 rfl (fun c_23 => ?_) (fun c_23 => ?_)
    · skip
      exact absurd c_23 (by omega)
    refine a_iload B d_Mo_join_26 rfl ?_
    refine a_iconst B d_Mo_join_28 ci_1 ?_
    first | refine b_iadd B d_Mo_join_29 ?_ | refine a_iadd B d_Mo_join_29 ?_
    refine a_istore (lv1 := [(0, _), (1, _), (2, _), (3, _), (4, _), (5, _), (6, _), (7, _), (8, _), (9, _)]) B d_Mo_join_30 (by decide) rfl ?_
    refine a_forR (n - (i + 1)) (fun j lv τ => lv = [(0, rV 106), (1, iV (nI t)), (2, iV (nI k)), (3, iV (nI w)), (4, iV (sA (scI (qM (unl n th pl) w S) (actM S) i j (scO (qM (unl n th pl) w S) (actM S) n i)))), (5, iV (sB (scI (qM (unl n th pl) w S) (actM S) i j (scO (qM (unl n th pl) w S) (actM S) n i)))), (6, iV (nI (sU (scI (qM (unl n th pl) w S) (actM S) i j (scO (qM (unl n th pl) w S) (actM S) n i))))), (7, iV (nI (sL (scI (qM (unl n th pl) w S) (actM S) i j (scO (qM (unl n th pl) w S) (actM S) n i))))), (8, iV (nI i)), (9, iV (nI (i + 1 + j)))] ∧ farR σ τ) (fun j lv τ hj hI9 ihj => ?_) (fun lv τ hI9 => ?_) 0 (Nat.zero_le _) _ _ ⟨rfl, hF⟩
    · skip
      obtain ⟨rfl, hF⟩ := hI9
      refine a_iload B d_Mo_join_32 rfl ?_
      refine a_aload_n B d_Mo_join_34 rfl rfl ?_
      refine gf_Mo_leaves B d_Mo_join_35 fl_Mo_84 ?_
      rw [hF.2 3 (by decide) (by decide), hN]
      first | refine b_icmp_ge B 153 d_Mo_join_38 rfl (by omega) (by omega) (fun c_38 => ?_) (fun c_38 => ?_) | refine a_icmp_ge B 153 d_Mo_join_38 rfl (fun c_38 => ?_) (fun c_38 => ?_)
      · skip
        exact absurd c_38 (by omega)
      refine a_aload_n B d_Mo_join_41 rfl rfl ?_
      refine gf_Mo_groupNode B d_Mo_join_42 fl_Mo_47 ?_
      refine a_iload B d_Mo_join_45 rfl ?_
      refine a_iald B ly_119 _ rfl (by first | assumption | omega) d_Mo_join_47 ?_
      rw [hF.1 119 (by decide), k8 i (by omega)]
      cases hdA : mD S i
      · skip
        have hst : scI (qM (unl n th pl) w S) (actM S) i (j + 1) (scO (qM (unl n th pl) w S) (actM S) n i) = (scI (qM (unl n th pl) w S) (actM S) i j (scO (qM (unl n th pl) w S) (actM S) n i)) := by
          show stepS _ _ _ _ _ = _
          rw [stepS, if_neg (by simp [actM, hdA])]
        show AW g K 10 _ _ [iV (-9)] _
        refine a_if_lt B 147 d_Mo_join_48 rfl (fun _ => ?_) (fun c9 => absurd (by decide) c9)
        first | refine b_iinc (lv1 := [(0, _), (1, _), (2, _), (3, _), (4, _), (5, _), (6, _), (7, _), (8, _), (9, _)]) B d_Mo_join_147 rfl ci_1 (by decide) rfl ?_ | refine a_iinc (lv1 := [(0, _), (1, _), (2, _), (3, _), (4, _), (5, _), (6, _), (7, _), (8, _), (9, _)]) B d_Mo_join_147 rfl rfl (by decide) rfl ?_
        refine a_goto B 32 d_Mo_join_150 rfl ?_
        refine a_sub (lv1 := [(0, _), (1, _), (2, _), (3, _), (4, _), (5, _), (6, _), (7, _), (8, _), (9, _)]) rfl ?_
        first | exact ihj _ _ ⟨by rw [hst] <;> rfl, hF2⟩ | exact ihj _ _ ⟨by rw [hst] <;> rfl, hF⟩
      · skip
        rename_i va
        have hA : actM S i = true := by simp [actM, hdA]
        have dA := nd_some hA
        have vA := (hI.1 i _ dA).2
        have vA9 : va < 2 ^ 31 := by have := (hI.1 i _ hdA).2; omega
        show AW g K 10 _ _ [iV (nI va)] _
        refine b_if_lt B 147 d_Mo_join_48 rfl (by first | assumption | omega) ?_
        refine a_aload_n B d_Mo_join_51 rfl rfl ?_
        refine gf_Mo_groupNode B d_Mo_join_52 fl_Mo_47 ?_
        refine a_iload B d_Mo_join_55 rfl ?_
        refine a_iald B ly_119 _ rfl (by first | assumption | omega) d_Mo_join_57 ?_
        rw [hF.1 119 (by decide), k8 (i + 1 + j) (by omega)]
        cases hdB : mD S (i + 1 + j)
        · skip
          have hst : scI (qM (unl n th pl) w S) (actM S) i (j + 1) (scO (qM (unl n th pl) w S) (actM S) n i) = (scI (qM (unl n th pl) w S) (actM S) i j (scO (qM (unl n th pl) w S) (actM S) n i)) := by
            show stepS _ _ _ _ _ = _
            rw [stepS, if_neg (by simp [actM, hdB])]
          show AW g K 10 _ _ [iV (-9)] _
          refine a_if_lt B 147 d_Mo_join_58 rfl (fun _ => ?_) (fun c9 => absurd (by decide) c9)
          first | refine b_iinc (lv1 := [(0, _), (1, _), (2, _), (3, _), (4, _), (5, _), (6, _), (7, _), (8, _), (9, _)]) B d_Mo_join_147 rfl ci_1 (by decide) rfl ?_ | refine a_iinc (lv1 := [(0, _), (1, _), (2, _), (3, _), (4, _), (5, _), (6, _), (7, _), (8, _), (9, _)]) B d_Mo_join_147 rfl rfl (by decide) rfl ?_
          refine a_goto B 32 d_Mo_join_150 rfl ?_
          refine a_sub (lv1 := [(0, _), (1, _), (2, _), (3, _), (4, _), (5, _), (6, _), (7, _), (8, _), (9, _)]) rfl ?_
          first | exact ihj _ _ ⟨by rw [hst] <;> rfl, hF2⟩ | exact ihj _ _ ⟨by rw [hst] <;> rfl, hF⟩
        · skip
          rename_i vb
          have hB : actM S (i + 1 + j) = true := by simp [actM, hdB]
          have dB := nd_some hB
          have vB := (hI.1 _ _ dB).2
          have vB9 : vb < 2 ^ 31 := by have := (hI.1 _ _ hdB).2; omega
          show AW g K 10 _ _ [iV (nI vb)] _
          refine b_if_lt B 147 d_Mo_join_58 rfl (by first | assumption | omega) ?_
          refine a_aload_n B d_Mo_join_61 rfl rfl ?_
          refine a_aload_n B d_Mo_join_62 rfl rfl ?_
          refine gf_Mo_below B d_Mo_join_63 fl_Mo_44 ?_
          refine a_bipush B d_Mo_join_66 cb_20 ?_
          refine a_iload_n B d_Mo_join_68 rfl rfl ?_
          first | refine b_imul B d_Mo_join_69 ?_ | refine a_imul B d_Mo_join_69 ?_
          refine a_aload_n B d_Mo_join_70 rfl rfl ?_
          refine gf_Mo_groupNode B d_Mo_join_71 fl_Mo_47 ?_
          refine a_iload B d_Mo_join_74 rfl ?_
          refine a_iald B ly_119 _ rfl (by first | assumption | omega) d_Mo_join_76 ?_
          rw [hF.1 119 (by decide), k8 i (by omega), dA]
          show AW g K 10 _ _ (iV (nI (ndM S i)) :: _) _
          first | refine b_iadd B d_Mo_join_77 ?_ | refine a_iadd B d_Mo_join_77 ?_
          refine a_iald B ly_118 _ rfl (by first | assumption | omega) d_Mo_join_78 ?_
          rw [hF.1 118 (by decide), k6 _ vA]
          refine a_aload_n B d_Mo_join_79 rfl rfl ?_
          refine gf_Mo_below B d_Mo_join_80 fl_Mo_44 ?_
          refine a_bipush B d_Mo_join_83 cb_20 ?_
          refine a_iload_n B d_Mo_join_85 rfl rfl ?_
          first | refine b_imul B d_Mo_join_86 ?_ | refine a_imul B d_Mo_join_86 ?_
          refine a_aload_n B d_Mo_join_87 rfl rfl ?_
          refine gf_Mo_groupNode B d_Mo_join_88 fl_Mo_47 ?_
          refine a_iload B d_Mo_join_91 rfl ?_
          refine a_iald B ly_119 _ rfl (by first | assumption | omega) d_Mo_join_93 ?_
          rw [hF.1 119 (by decide), k8 (i + 1 + j) (by omega), dB]
          show AW g K 10 _ _ (iV (nI (ndM S (i + 1 + j))) :: _) _
          first | refine b_iadd B d_Mo_join_94 ?_ | refine a_iadd B d_Mo_join_94 ?_
          refine a_iald B ly_118 _ rfl (by first | assumption | omega) d_Mo_join_95 ?_
          rw [hF.1 118 (by decide), k6 _ vB]
          refine a_iload_n B d_Mo_join_96 rfl rfl ?_
          refine a_callVV (ci := 7) B (t_Mo_setFar G (farR_R hF hR) (hI.2.2.2.2.2.2.2.2.1 _ vA).1 (hI.2.2.2.2.2.2.2.2.1 _ vB).1 (hI.2.2.2.2.2.2.2.2.1 _ vA).2 (hI.2.2.2.2.2.2.2.2.1 _ vB).2 hw) d_Mo_join_97 ok_Mo_setFar ml_Mo_130 ly_106 rfl rfl (by decide) (by decide) rfl (Nat.le_of_ble_eq_true rfl) (fun τ_97 h_97 => ?_)
          subst h_97
          have hF2 : farR σ (farH τ (nI (fUp (unl n th pl) w (mM S (ndM S i)) (mM S (ndM S (i + 1 + j))))) (nI (fLow w (mM S (ndM S i)) (mM S (ndM S (i + 1 + j)))))) := farR_h hF
          have hfu := fUp_le (u := (unl n th pl)) (unl_le hbd) w (mM S (ndM S i)) (mM S (ndM S (i + 1 + j)))
          have hfl := fLow_le w (mM S (ndM S i)) (mM S (ndM S (i + 1 + j)))
          cases hs : (scI (qM (unl n th pl) w S) (actM S) i j (scO (qM (unl n th pl) w S) (actM S) n i))
          · skip
            have hst : scI (qM (unl n th pl) w S) (actM S) i (j + 1) (scO (qM (unl n th pl) w S) (actM S) n i) = some (i, i + 1 + j, ((qM (unl n th pl) w S) i (i + 1 + j)).1, ((qM (unl n th pl) w S) i (i + 1 + j)).2) := by
              show stepS _ _ _ _ _ = _
              rw [stepS, hs, if_pos (by rw [hA, hB]; rfl)]; rfl
            refine a_iload B d_Mo_join_100 rfl ?_
            refine a_if_lt B 127 d_Mo_join_102 rfl (fun _ => ?_) (fun c9 => absurd (by decide) c9)
            refine a_iload B d_Mo_join_127 rfl ?_
            refine a_istore (lv1 := [(0, _), (1, _), (2, _), (3, _), (4, _), (5, _), (6, _), (7, _), (8, _), (9, _)]) B d_Mo_join_129 (by decide) rfl ?_
            refine a_iload B d_Mo_join_131 rfl ?_
            refine a_istore (lv1 := [(0, _), (1, _), (2, _), (3, _), (4, _), (5, _), (6, _), (7, _), (8, _), (9, _)]) B d_Mo_join_133 (by decide) rfl ?_
            refine a_aload_n B d_Mo_join_135 rfl rfl ?_
            refine gf_Mo_farUp B d_Mo_join_136 fl_Mo_114 ?_
            rw [farH_15]
            refine a_istore (lv1 := [(0, _), (1, _), (2, _), (3, _), (4, _), (5, _), (6, _), (7, _), (8, _), (9, _)]) B d_Mo_join_139 (by decide) rfl ?_
            refine a_aload_n B d_Mo_join_141 rfl rfl ?_
            refine gf_Mo_farLow B d_Mo_join_142 fl_Mo_120 ?_
            rw [farH_16]
            refine a_istore (lv1 := [(0, _), (1, _), (2, _), (3, _), (4, _), (5, _), (6, _), (7, _), (8, _), (9, _)]) B d_Mo_join_145 (by decide) rfl ?_
            first | refine b_iinc (lv1 := [(0, _), (1, _), (2, _), (3, _), (4, _), (5, _), (6, _), (7, _), (8, _), (9, _)]) B d_Mo_join_147 rfl ci_1 (by decide) rfl ?_ | refine a_iinc (lv1 := [(0, _), (1, _), (2, _), (3, _), (4, _), (5, _), (6, _), (7, _), (8, _), (9, _)]) B d_Mo_join_147 rfl rfl (by decide) rfl ?_
            refine a_goto B 32 d_Mo_join_150 rfl ?_
            refine a_sub (lv1 := [(0, _), (1, _), (2, _), (3, _), (4, _), (5, _), (6, _), (7, _), (8, _), (9, _)]) rfl ?_
            first | exact ihj _ _ ⟨by rw [hst] <;> rfl, hF2⟩ | exact ihj _ _ ⟨by rw [hst] <;> rfl, hF⟩
          · skip
            rename_i z
            have hz := scI_ok (scO_ok (q := (qM (unl n th pl) w S)) (act := (actM S)) (n := n) i) j (by omega) z hs
            have hz1 : z.1 < 2 ^ 31 := by have := hz.1; have := hz.2.1; omega
            have hz5 : z.2.2.1 ≤ 1000000 := by rw [hz.2.2.2.2.1]; exact fUp_le (unl_le hbd) _ _ _
            have hz6 : z.2.2.2 ≤ 100 := by rw [hz.2.2.2.2.2]; exact fLow_le _ _ _
            have hb1 := Nat.mul_le_mul hfu hz6
            have hb2 := Nat.mul_le_mul hz5 hfl
            show AW g K 10 _ [(0, rV 106), (1, iV (nI t)), (2, iV (nI k)), (3, iV (nI w)), (4, iV (nI z.1)), (5, iV (nI z.2.1)), (6, iV (nI z.2.2.1)), (7, iV (nI z.2.2.2)), (8, iV (nI i)), (9, iV (nI (i + 1 + j)))] [] _
            refine a_iload B d_Mo_join_100 rfl ?_
            refine b_if_lt B 127 d_Mo_join_102 rfl (by first | assumption | omega) ?_
            refine a_aload_n B d_Mo_join_105 rfl rfl ?_
            refine gf_Mo_farUp B d_Mo_join_106 fl_Mo_114 ?_
            rw [farH_15]
            refine a_i2l B d_Mo_join_109 ?_
            rw [nI_l (by omega)]
            refine a_iload B d_Mo_join_110 rfl ?_
            refine a_i2l B d_Mo_join_112 ?_
            rw [nI_l (by omega)]
            refine a_lmul B d_Mo_join_113 ?_
            rw [lN_mul]
            refine a_iload B d_Mo_join_114 rfl ?_
            refine a_i2l B d_Mo_join_116 ?_
            rw [nI_l (by omega)]
            refine a_aload_n B d_Mo_join_117 rfl rfl ?_
            refine gf_Mo_farLow B d_Mo_join_118 fl_Mo_120 ?_
            rw [farH_16]
            refine a_i2l B d_Mo_join_121 ?_
            rw [nI_l (by omega)]
            refine a_lmul B d_Mo_join_122 ?_
            rw [lN_mul]
            refine a_lcmp B d_Mo_join_123 ?_
            refine a_if_ge B 147 d_Mo_join_124 rfl (fun c_124 => ?_) (fun c_124 => ?_)
            · skip
              have c9 : z.2.2.1 * (fLow w (mM S (ndM S i)) (mM S (ndM S (i + 1 + j)))) ≤ (fUp (unl n th pl) w (mM S (ndM S i)) (mM S (ndM S (i + 1 + j)))) * z.2.2.2 := (pk_lLE (by omega) (by omega)).mp ((lg_cmp_ge _ _).mp c_124)
              have hst : scI (qM (unl n th pl) w S) (actM S) i (j + 1) (scO (qM (unl n th pl) w S) (actM S) n i) = some z := by
                show stepS _ _ _ _ _ = _
                rw [stepS, hs, if_pos (by rw [hA, hB]; rfl), if_neg (fun q9 : betS _ _ _ (some z) = true => absurd (of_decide_eq_true q9) (Nat.not_lt.mpr c9))]
              first | refine b_iinc (lv1 := [(0, _), (1, _), (2, _), (3, _), (4, _), (5, _), (6, _), (7, _), (8, _), (9, _)]) B d_Mo_join_147 rfl ci_1 (by decide) rfl ?_ | refine a_iinc (lv1 := [(0, _), (1, _), (2, _), (3, _), (4, _), (5, _), (6, _), (7, _), (8, _), (9, _)]) B d_Mo_join_147 rfl rfl (by decide) rfl ?_
              refine a_goto B 32 d_Mo_join_150 rfl ?_
              refine a_sub (lv1 := [(0, _), (1, _), (2, _), (3, _), (4, _), (5, _), (6, _), (7, _), (8, _), (9, _)]) rfl ?_
              first | exact ihj _ _ ⟨by rw [hst] <;> rfl, hF2⟩ | exact ihj _ _ ⟨by rw [hst] <;> rfl, hF⟩
            have c9 : (fUp (unl n th pl) w (mM S (ndM S i)) (mM S (ndM S (i + 1 + j)))) * z.2.2.2 < z.2.2.1 * (fLow w (mM S (ndM S i)) (mM S (ndM S (i + 1 + j)))) := Nat.lt_of_not_le (fun q9 => c_124 ((lg_cmp_ge _ _).mpr ((pk_lLE (by omega) (by omega)).mpr q9)))
            have hst : scI (qM (unl n th pl) w S) (actM S) i (j + 1) (scO (qM (unl n th pl) w S) (actM S) n i) = some (i, i + 1 + j, ((qM (unl n th pl) w S) i (i + 1 + j)).1, ((qM (unl n th pl) w S) i (i + 1 + j)).2) := by
              show stepS _ _ _ _ _ = _
              rw [stepS, hs, if_pos (by rw [hA, hB]; rfl), if_pos (show betS _ _ _ (some z) = true from decide_eq_true c9)]
            refine a_iload B d_Mo_join_127 rfl ?_
            refine a_istore (lv1 := [(0, _), (1, _), (2, _), (3, _), (4, _), (5, _), (6, _), (7, _), (8, _), (9, _)]) B d_Mo_join_129 (by decide) rfl ?_
            refine a_iload B d_Mo_join_131 rfl ?_
            refine a_istore (lv1 := [(0, _), (1, _), (2, _), (3, _), (4, _), (5, _), (6, _), (7, _), (8, _), (9, _)]) B d_Mo_join_133 (by decide) rfl ?_
            refine a_aload_n B d_Mo_join_135 rfl rfl ?_
            refine gf_Mo_farUp B d_Mo_join_136 fl_Mo_114 ?_
            rw [farH_15]
            refine a_istore (lv1 := [(0, _), (1, _), (2, _), (3, _), (4, _), (5, _), (6, _), (7, _), (8, _), (9, _)]) B d_Mo_join_139 (by decide) rfl ?_
            refine a_aload_n B d_Mo_join_141 rfl rfl ?_
            refine gf_Mo_farLow B d_Mo_join_142 fl_Mo_120 ?_
            rw [farH_16]
            refine a_istore (lv1 := [(0, _), (1, _), (2, _), (3, _), (4, _), (5, _), (6, _), (7, _), (8, _), (9, _)]) B d_Mo_join_145 (by decide) rfl ?_
            first | refine b_iinc (lv1 := [(0, _), (1, _), (2, _), (3, _), (4, _), (5, _), (6, _), (7, _), (8, _), (9, _)]) B d_Mo_join_147 rfl ci_1 (by decide) rfl ?_ | refine a_iinc (lv1 := [(0, _), (1, _), (2, _), (3, _), (4, _), (5, _), (6, _), (7, _), (8, _), (9, _)]) B d_Mo_join_147 rfl rfl (by decide) rfl ?_
            refine a_goto B 32 d_Mo_join_150 rfl ?_
            refine a_sub (lv1 := [(0, _), (1, _), (2, _), (3, _), (4, _), (5, _), (6, _), (7, _), (8, _), (9, _)]) rfl ?_
            first | exact ihj _ _ ⟨by rw [hst] <;> rfl, hF2⟩ | exact ihj _ _ ⟨by rw [hst] <;> rfl, hF⟩
    · skip
      obtain ⟨rfl, hF⟩ := hI9
      refine a_iload B d_Mo_join_32 rfl ?_
      refine a_aload_n B d_Mo_join_34 rfl rfl ?_
      refine gf_Mo_leaves B d_Mo_join_35 fl_Mo_84 ?_
      rw [hF.2 3 (by decide) (by decide), hN]
      first | refine b_icmp_ge B 153 d_Mo_join_38 rfl (by omega) (by omega) (fun c_38 => ?_) (fun c_38 => ?_) | refine a_icmp_ge B 153 d_Mo_join_38 rfl (fun c_38 => ?_) (fun c_38 => ?_)
      · skip
        first | refine b_iinc (lv1 := [(0, _), (1, _), (2, _), (3, _), (4, _), (5, _), (6, _), (7, _), (8, _), (9, _)]) B d_Mo_join_153 rfl ci_1 (by decide) rfl ?_ | refine a_iinc (lv1 := [(0, _), (1, _), (2, _), (3, _), (4, _), (5, _), (6, _), (7, _), (8, _), (9, _)]) B d_Mo_join_153 rfl rfl (by decide) rfl ?_
        refine a_goto B 17 d_Mo_join_156 rfl ?_
        refine a_sub (lv1 := [(0, _), (1, _), (2, _), (3, _), (4, _), (5, _), (6, _), (7, _), (8, _)]) rfl ?_
        exact ihi _ _ ⟨rfl, hF⟩
      exact absurd c_38 (by omega)
  · skip
    obtain ⟨rfl, hF⟩ := hI9
    refine a_iload B d_Mo_join_17 rfl ?_
    refine a_aload_n B d_Mo_join_19 rfl rfl ?_
    refine gf_Mo_leaves B d_Mo_join_20 fl_Mo_84 ?_
    rw [hF.2 3 (by decide) (by decide), hN]
    first | refine b_icmp_ge B 159 d_Mo_join_23 rfl (by omega) (by omega) (fun c_23 => ?_) (fun c_23 => ?_) | refine a_icmp_ge B 159 d_Mo_join_23 rfl (fun c_23 => ?_) (fun c_23 => ?_)
    · skip
      obtain ⟨z, hz, z1, z2, z3, z4, z5, z6⟩ := pick_some (u := (unl n th pl)) (w := w) hI (by omega)
      have hz8 : scO (qM (unl n th pl) w S) (actM S) n n = some z := hz
      rw [hz8]
      have dA := nd_some z3
      have dB := nd_some z4
      have vA := (hI.1 _ _ dA).2
      have vB := (hI.1 _ _ dB).2
      have hlo : 0 < z.2.2.2 := by
        rw [z6]
        show 0 < fLow _ _ _
        unfold fLow
        split
        · exact Nat.mul_pos (hI.2.2.2.2.2.2.2.2.1 _ vA).2 (hI.2.2.2.2.2.2.2.2.1 _ vB).2
        · omega
      have hl9 : z.2.2.2 ≤ 100 := by rw [z6]; exact fLow_le _ _ _
      have hu9 : z.2.2.1 ≤ 1000000 := by rw [z5]; exact fUp_le (unl_le hbd) _ _ _
      show AW g K 10 _ [(0, rV 106), (1, iV (nI t)), (2, iV (nI k)), (3, iV (nI w)), (4, iV (nI z.1)), (5, iV (nI z.2.1)), (6, iV (nI z.2.2.1)), (7, iV (nI z.2.2.2)), (8, iV (nI n))] [] τ
      refine a_bipush B d_Mo_join_159 cb_20 ?_
      refine a_iload_n B d_Mo_join_161 rfl rfl ?_
      first | refine b_imul B d_Mo_join_162 ?_ | refine a_imul B d_Mo_join_162 ?_
      refine a_iload_n B d_Mo_join_163 rfl rfl ?_
      first | refine b_iadd B d_Mo_join_164 ?_ | refine a_iadd B d_Mo_join_164 ?_
      refine a_istore (lv1 := [(0, _), (1, _), (2, _), (3, _), (4, _), (5, _), (6, _), (7, _), (8, _)]) B d_Mo_join_165 (by decide) rfl ?_
      refine a_aload_n B d_Mo_join_167 rfl rfl ?_
      refine gf_Mo_firsts B d_Mo_join_168 fl_Mo_26 ?_
      refine a_iload B d_Mo_join_171 rfl ?_
      refine a_aload_n B d_Mo_join_173 rfl rfl ?_
      refine gf_Mo_groupNode B d_Mo_join_174 fl_Mo_47 ?_
      refine a_iload B d_Mo_join_177 rfl ?_
      refine a_iald B ly_119 _ rfl (by first | assumption | omega) d_Mo_join_179 ?_
      rw [hF.1 119 (by decide), k8 z.1 (by omega), dA]
      show AW g K 10 _ _ (iV (nI (ndM S z.1)) :: _) _
      refine a_iast B ly_112 _ rfl (by first | assumption | omega) d_Mo_join_180 ?_
      refine a_aload_n B d_Mo_join_181 rfl rfl ?_
      refine gf_Mo_others B d_Mo_join_182 fl_Mo_29 ?_
      refine a_iload B d_Mo_join_185 rfl ?_
      refine a_aload_n B d_Mo_join_187 rfl rfl ?_
      refine gf_Mo_groupNode B d_Mo_join_188 fl_Mo_47 ?_
      refine a_iload B d_Mo_join_191 rfl ?_
      refine a_iald B ly_119 _ rfl (by first | assumption | omega) d_Mo_join_193 ?_
      rw [up1_o (by decide), hF.1 119 (by decide), k8 z.2.1 (by omega), dB]
      show AW g K 10 _ _ (iV (nI (ndM S z.2.1)) :: _) _
      refine a_iast B ly_113 _ rfl (by first | assumption | omega) d_Mo_join_194 ?_
      refine a_aload_n B d_Mo_join_195 rfl rfl ?_
      refine gf_Mo_heights B d_Mo_join_196 fl_Mo_35 ?_
      refine a_iload B d_Mo_join_199 rfl ?_
      refine a_iload B d_Mo_join_201 rfl ?_
      refine a_iload B d_Mo_join_203 rfl ?_
      refine a_idiv B d_Mo_join_205 (fun q => by have := nI_z (by omega) q; omega) ?_
      rw [nI_div (by omega) (by omega)]
      refine a_iast B ly_115 _ rfl (by first | assumption | omega) d_Mo_join_206 ?_
      refine a_aload_n B d_Mo_join_207 rfl rfl ?_
      refine gf_Mo_below B d_Mo_join_208 fl_Mo_44 ?_
      refine a_iload B d_Mo_join_211 rfl ?_
      refine a_aload_n B d_Mo_join_213 rfl rfl ?_
      refine gf_Mo_below B d_Mo_join_214 fl_Mo_44 ?_
      refine a_bipush B d_Mo_join_217 cb_20 ?_
      refine a_iload_n B d_Mo_join_219 rfl rfl ?_
      first | refine b_imul B d_Mo_join_220 ?_ | refine a_imul B d_Mo_join_220 ?_
      refine a_aload_n B d_Mo_join_221 rfl rfl ?_
      refine gf_Mo_groupNode B d_Mo_join_222 fl_Mo_47 ?_
      refine a_iload B d_Mo_join_225 rfl ?_
      refine a_iald B ly_119 _ rfl (by first | assumption | omega) d_Mo_join_227 ?_
      rw [up1_o (by decide), up1_o (by decide), up1_o (by decide), hF.1 119 (by decide), k8 z.1 (by omega), dA]
      show AW g K 10 _ _ (iV (nI (ndM S z.1)) :: _) _
      first | refine b_iadd B d_Mo_join_228 ?_ | refine a_iadd B d_Mo_join_228 ?_
      refine a_iald B ly_118 _ rfl (by first | assumption | omega) d_Mo_join_229 ?_
      rw [up1_o (by decide), up1_o (by decide), up1_o (by decide), hF.1 118 (by decide), k6 _ vA]
      refine a_aload_n B d_Mo_join_230 rfl rfl ?_
      refine gf_Mo_below B d_Mo_join_231 fl_Mo_44 ?_
      refine a_bipush B d_Mo_join_234 cb_20 ?_
      refine a_iload_n B d_Mo_join_236 rfl rfl ?_
      first | refine b_imul B d_Mo_join_237 ?_ | refine a_imul B d_Mo_join_237 ?_
      refine a_aload_n B d_Mo_join_238 rfl rfl ?_
      refine gf_Mo_groupNode B d_Mo_join_239 fl_Mo_47 ?_
      refine a_iload B d_Mo_join_242 rfl ?_
      refine a_iald B ly_119 _ rfl (by first | assumption | omega) d_Mo_join_244 ?_
      rw [up1_o (by decide), up1_o (by decide), up1_o (by decide), hF.1 119 (by decide), k8 z.2.1 (by omega), dB]
      show AW g K 10 _ _ (iV (nI (ndM S z.2.1)) :: _) _
      first | refine b_iadd B d_Mo_join_245 ?_ | refine a_iadd B d_Mo_join_245 ?_
      refine a_iald B ly_118 _ rfl (by first | assumption | omega) d_Mo_join_246 ?_
      rw [up1_o (by decide), up1_o (by decide), up1_o (by decide), hF.1 118 (by decide), k6 _ vB]
      refine a_ior B d_Mo_join_247 ?_
      rw [nI_or]
      refine a_iast B ly_118 _ rfl (by first | assumption | omega) d_Mo_join_248 ?_
      refine a_aload_n B d_Mo_join_249 rfl rfl ?_
      refine gf_Mo_ups B d_Mo_join_250 fl_Mo_32 ?_
      refine a_bipush B d_Mo_join_253 cb_20 ?_
      refine a_iload_n B d_Mo_join_255 rfl rfl ?_
      first | refine b_imul B d_Mo_join_256 ?_ | refine a_imul B d_Mo_join_256 ?_
      refine a_aload_n B d_Mo_join_257 rfl rfl ?_
      refine gf_Mo_groupNode B d_Mo_join_258 fl_Mo_47 ?_
      refine a_iload B d_Mo_join_261 rfl ?_
      refine a_iald B ly_119 _ rfl (by first | assumption | omega) d_Mo_join_263 ?_
      rw [up1_o (by decide), up1_o (by decide), up1_o (by decide), up1_o (by decide), hF.1 119 (by decide), k8 z.1 (by omega), dA]
      show AW g K 10 _ _ (iV (nI (ndM S z.1)) :: _) _
      first | refine b_iadd B d_Mo_join_264 ?_ | refine a_iadd B d_Mo_join_264 ?_
      refine a_iload_n B d_Mo_join_265 rfl rfl ?_
      refine a_iast B ly_114 _ rfl (by first | assumption | omega) d_Mo_join_266 ?_
      refine a_aload_n B d_Mo_join_267 rfl rfl ?_
      refine gf_Mo_ups B d_Mo_join_268 fl_Mo_32 ?_
      refine a_bipush B d_Mo_join_271 cb_20 ?_
      refine a_iload_n B d_Mo_join_273 rfl rfl ?_
      first | refine b_imul B d_Mo_join_274 ?_ | refine a_imul B d_Mo_join_274 ?_
      refine a_aload_n B d_Mo_join_275 rfl rfl ?_
      refine gf_Mo_groupNode B d_Mo_join_276 fl_Mo_47 ?_
      refine a_iload B d_Mo_join_279 rfl ?_
      refine a_iald B ly_119 _ rfl (by first | assumption | omega) d_Mo_join_281 ?_
      rw [up1_o (by decide), up1_o (by decide), up1_o (by decide), up1_o (by decide), up1_o (by decide), hF.1 119 (by decide), k8 z.2.1 (by omega), dB]
      show AW g K 10 _ _ (iV (nI (ndM S z.2.1)) :: _) _
      first | refine b_iadd B d_Mo_join_282 ?_ | refine a_iadd B d_Mo_join_282 ?_
      refine a_iload_n B d_Mo_join_283 rfl rfl ?_
      refine a_iast B ly_114 _ rfl (by first | assumption | omega) d_Mo_join_284 ?_
      refine a_aload_n B d_Mo_join_285 rfl rfl ?_
      refine gf_Mo_groupNode B d_Mo_join_286 fl_Mo_47 ?_
      refine a_iload B d_Mo_join_289 rfl ?_
      refine a_iload_n B d_Mo_join_291 rfl rfl ?_
      refine a_iast B ly_119 _ rfl (by first | assumption | omega) d_Mo_join_292 ?_
      refine a_aload_n B d_Mo_join_293 rfl rfl ?_
      refine gf_Mo_groupNode B d_Mo_join_294 fl_Mo_47 ?_
      refine a_iload B d_Mo_join_297 rfl ?_
      refine a_bipush B d_Mo_join_299 cb_m9 ?_
      refine a_iast B ly_119 _ rfl (by first | assumption | omega) d_Mo_join_301 ?_
      exact Rt _ _ _ d_Mo_join_302 ⟨by (rw [show joinM (unl n th pl) w n S k = joinZ S k z from by unfold joinM; rw [hz]]; exact jm_end hn (hK.of (fun j a b => hF.1 j (by omega))) hI hk hk2 z1 z2 z3 z4 (by simp [up1_g]) (by simp [up1_g]) (by simp [up1_g]) (by simp [up1_g]) (by simp [up1_g]) (by simp [up1_g]) (by simp [up1_g]) (by simp [up1_g]) (by simp [up1_g])), tfM_tr (tfM_tr (tfM_tr (tfM_tr (tfM_tr (tfM_tr (tfM_tr (tfM_tr (tfM_wk (farR_wk hF)) (tfM_up (by decide) (by decide) (by omega))) (tfM_up (by decide) (by decide) (by omega))) (tfM_up (by decide) (by decide) (by omega))) (tfM_up (by decide) (by decide) (by omega))) (tfM_up (by decide) (by decide) (by omega))) (tfM_up (by decide) (by decide) (by omega))) (tfM_wk (wkM_up (by decide)))) (tfM_wk (wkM_up (by decide)))⟩
    exact absurd c_23 (by omega)
def JiQ (σ : AH) (t n v : Nat) : Prop := σ.1 112 (20 * t + v) = -9 ∧ σ.1 113 (20 * t + v) = -9 ∧ σ.1 114 (20 * t + v) = -9 ∧ σ.1 115 (20 * t + v) = 0 ∧ σ.1 116 (20 * t + v) = 0 ∧ σ.1 117 (20 * t + v) = 0 ∧ (v < n → σ.1 118 (20 * t + v) = nI (2 ^ v))
theorem JiQ_s {σ τ : AH} {t n i : Nat} {x : Int32} (h : ∀ v, v < i → JiQ σ t n v) (e112 : τ.1 112 = upd (σ.1 112) (20 * t + i) (-9)) (e113 : τ.1 113 = upd (σ.1 113) (20 * t + i) (-9)) (e114 : τ.1 114 = upd (σ.1 114) (20 * t + i) (-9)) (e115 : τ.1 115 = upd (σ.1 115) (20 * t + i) (nI 0)) (e116 : τ.1 116 = upd (σ.1 116) (20 * t + i) (nI 0)) (e117 : τ.1 117 = upd (σ.1 117) (20 * t + i) (nI 0)) (e118 : τ.1 118 = upd (σ.1 118) (20 * t + i) x) (hx : i < n → x = nI (2 ^ i)) : ∀ v, v < i + 1 → JiQ τ t n v := by
  intro v hv
  unfold JiQ
  rw [e112, e113, e114, e115, e116, e117, e118]
  by_cases e : v = i
  · subst e
    rw [upd_s, upd_s, upd_s, upd_s, upd_s, upd_s, upd_s]
    exact ⟨rfl, rfl, rfl, rfl, rfl, rfl, hx⟩
  · rw [upd_o (by omega), upd_o (by omega), upd_o (by omega), upd_o (by omega), upd_o (by omega), upd_o (by omega), upd_o (by omega)]
    exact h v (by omega)
theorem JmK_init {σ : AH} {t n : Nat} (e111 : σ.1 111 t = nI n) (hQ : ∀ v, v < 2 * n - 1 → JiQ σ t n v) (h119 : ∀ x, x < n → σ.1 119 x = nI x) (h1 : 1 ≤ n) : JmK σ t n n (initM n) := by
  refine ⟨e111, fun l hl => ⟨(hQ l (by omega)).1, (hQ l (by omega)).2.1⟩, fun j a b => by omega, fun v hv => (hQ v hv).2.2.1, fun v hv => (hQ v hv).2.2.2.1, fun v hv => (hQ v (by omega)).2.2.2.2.2.2 hv, fun v hv => ⟨(hQ v hv).2.2.2.2.1, (hQ v hv).2.2.2.2.2.1⟩, fun a ha => ?_⟩
  rw [h119 a ha]
  show _ = oI (if a < n then some a else none)
  rw [if_pos ha]
  rfl
theorem JmK_fin {σ : AH} {t n w : Nat} {u : Nat → Nat → Nat} (hu : ∀ a b, u a b ≤ 10000) (h1 : 1 ≤ n) (h10 : n ≤ 10) (h : JmK σ t n (2 * n - 1) (mkM u w n (n - 1))) : TrM σ t (makeT u w n) := by
  obtain ⟨k1, k2, k3, k4, k5, k6, k7, k8⟩ := h
  obtain ⟨m1, m2⟩ := make_top hu (w := w) h1 h10
  refine ⟨k1, fun _ => ⟨Wf_make hu h1 h10, ⟨k1, fun v hv => ?_, ?_, fun v hv => k5 v hv, fun v hv => (k7 v hv).2, fun v hv => k6 v hv⟩, ⟨k2, k3⟩, fun v hv => (k7 v hv).1⟩⟩
  · have hv : v < 2 * n - 2 := hv
    rw [k4 v (by omega), m2 v hv]
    rfl
  · show σ.1 114 (20 * t + (2 * n - 2)) = -9
    rw [k4 _ (by omega), m1]
    rfl
theorem tfM_R {t : Nat} {σ τ : AH} {n : Nat} {th : Nat → Bool} {pl : Nat → Nat → Nat} (h : tfM t σ τ) (hR : RoM σ n th pl) : RoM τ n th pl := hR.of (h.2.1 3 (by decide) (by decide)) (h.1 108 (by decide) (by decide) (by decide) (by decide)) (h.1 109 (by decide) (by decide) (by decide) (by decide))
theorem d_Mo_make_0 : decode prog_9_method_21_code 0 = .ok (.iload_n 1, 1) := by decide +kernel
theorem d_Mo_make_1 : decode prog_9_method_21_code 1 = .ok (.invokestatic 111, 3) := by decide +kernel
theorem d_Mo_make_4 : decode prog_9_method_21_code 4 = .ok (.ifCond .eq 12, 3) := by decide +kernel
theorem d_Mo_make_7 : decode prog_9_method_21_code 7 = .ok (.iload_n 2, 1) := by decide +kernel
theorem d_Mo_make_8 : decode prog_9_method_21_code 8 = .ok (.iconst 0, 1) := by decide +kernel
theorem d_Mo_make_9 : decode prog_9_method_21_code 9 = .ok (.iconst 2, 1) := by decide +kernel
theorem d_Mo_make_10 : decode prog_9_method_21_code 10 = .ok (.invokestatic 87, 3) := by decide +kernel
theorem d_Mo_make_13 : decode prog_9_method_21_code 13 = .ok (.ifCond .ne 5, 3) := by decide +kernel
theorem d_Mo_make_16 : decode prog_9_method_21_code 16 = .ok (.iconst (-1), 1) := by decide +kernel
theorem d_Mo_make_17 : decode prog_9_method_21_code 17 = .ok (.ireturn, 1) := by decide +kernel
theorem d_Mo_make_18 : decode prog_9_method_21_code 18 = .ok (.aload_n 0, 1) := by decide +kernel
theorem d_Mo_make_19 : decode prog_9_method_21_code 19 = .ok (.getfield 84, 3) := by decide +kernel
theorem d_Mo_make_22 : decode prog_9_method_21_code 22 = .ok (.ifCond .ne 6, 3) := by decide +kernel
theorem d_Mo_make_25 : decode prog_9_method_21_code 25 = .ok (.bipush (-4), 2) := by decide +kernel
theorem d_Mo_make_27 : decode prog_9_method_21_code 27 = .ok (.ireturn, 1) := by decide +kernel
theorem d_Mo_make_28 : decode prog_9_method_21_code 28 = .ok (.aload_n 0, 1) := by decide +kernel
theorem d_Mo_make_29 : decode prog_9_method_21_code 29 = .ok (.getfield 23, 3) := by decide +kernel
theorem d_Mo_make_32 : decode prog_9_method_21_code 32 = .ok (.iload_n 1, 1) := by decide +kernel
theorem d_Mo_make_33 : decode prog_9_method_21_code 33 = .ok (.aload_n 0, 1) := by decide +kernel
theorem d_Mo_make_34 : decode prog_9_method_21_code 34 = .ok (.getfield 84, 3) := by decide +kernel
theorem d_Mo_make_37 : decode prog_9_method_21_code 37 = .ok (.iastore, 1) := by decide +kernel
theorem d_Mo_make_38 : decode prog_9_method_21_code 38 = .ok (.iconst 0, 1) := by decide +kernel
theorem d_Mo_make_39 : decode prog_9_method_21_code 39 = .ok (.istore_n 3, 1) := by decide +kernel
theorem d_Mo_make_40 : decode prog_9_method_21_code 40 = .ok (.iload_n 3, 1) := by decide +kernel
theorem d_Mo_make_41 : decode prog_9_method_21_code 41 = .ok (.aload_n 0, 1) := by decide +kernel
theorem d_Mo_make_42 : decode prog_9_method_21_code 42 = .ok (.iload_n 1, 1) := by decide +kernel
theorem d_Mo_make_43 : decode prog_9_method_21_code 43 = .ok (.invokevirtual 123, 3) := by decide +kernel
theorem d_Mo_make_46 : decode prog_9_method_21_code 46 = .ok (.if_icmp .ge 90, 3) := by decide +kernel
theorem d_Mo_make_49 : decode prog_9_method_21_code 49 = .ok (.bipush 20, 2) := by decide +kernel
theorem d_Mo_make_51 : decode prog_9_method_21_code 51 = .ok (.iload_n 1, 1) := by decide +kernel
theorem d_Mo_make_52 : decode prog_9_method_21_code 52 = .ok (.imul, 1) := by decide +kernel
theorem d_Mo_make_53 : decode prog_9_method_21_code 53 = .ok (.iload_n 3, 1) := by decide +kernel
theorem d_Mo_make_54 : decode prog_9_method_21_code 54 = .ok (.iadd, 1) := by decide +kernel
theorem d_Mo_make_55 : decode prog_9_method_21_code 55 = .ok (.istore 4, 2) := by decide +kernel
theorem d_Mo_make_57 : decode prog_9_method_21_code 57 = .ok (.aload_n 0, 1) := by decide +kernel
theorem d_Mo_make_58 : decode prog_9_method_21_code 58 = .ok (.getfield 26, 3) := by decide +kernel
theorem d_Mo_make_61 : decode prog_9_method_21_code 61 = .ok (.iload 4, 2) := by decide +kernel
theorem d_Mo_make_63 : decode prog_9_method_21_code 63 = .ok (.bipush (-9), 2) := by decide +kernel
theorem d_Mo_make_65 : decode prog_9_method_21_code 65 = .ok (.iastore, 1) := by decide +kernel
theorem d_Mo_make_66 : decode prog_9_method_21_code 66 = .ok (.aload_n 0, 1) := by decide +kernel
theorem d_Mo_make_67 : decode prog_9_method_21_code 67 = .ok (.getfield 29, 3) := by decide +kernel
theorem d_Mo_make_70 : decode prog_9_method_21_code 70 = .ok (.iload 4, 2) := by decide +kernel
theorem d_Mo_make_72 : decode prog_9_method_21_code 72 = .ok (.bipush (-9), 2) := by decide +kernel
theorem d_Mo_make_74 : decode prog_9_method_21_code 74 = .ok (.iastore, 1) := by decide +kernel
theorem d_Mo_make_75 : decode prog_9_method_21_code 75 = .ok (.aload_n 0, 1) := by decide +kernel
theorem d_Mo_make_76 : decode prog_9_method_21_code 76 = .ok (.getfield 32, 3) := by decide +kernel
theorem d_Mo_make_79 : decode prog_9_method_21_code 79 = .ok (.iload 4, 2) := by decide +kernel
theorem d_Mo_make_81 : decode prog_9_method_21_code 81 = .ok (.bipush (-9), 2) := by decide +kernel
theorem d_Mo_make_83 : decode prog_9_method_21_code 83 = .ok (.iastore, 1) := by decide +kernel
theorem d_Mo_make_84 : decode prog_9_method_21_code 84 = .ok (.aload_n 0, 1) := by decide +kernel
theorem d_Mo_make_85 : decode prog_9_method_21_code 85 = .ok (.getfield 35, 3) := by decide +kernel
theorem d_Mo_make_88 : decode prog_9_method_21_code 88 = .ok (.iload 4, 2) := by decide +kernel
theorem d_Mo_make_90 : decode prog_9_method_21_code 90 = .ok (.iconst 0, 1) := by decide +kernel
theorem d_Mo_make_91 : decode prog_9_method_21_code 91 = .ok (.iastore, 1) := by decide +kernel
theorem d_Mo_make_92 : decode prog_9_method_21_code 92 = .ok (.aload_n 0, 1) := by decide +kernel
theorem d_Mo_make_93 : decode prog_9_method_21_code 93 = .ok (.getfield 38, 3) := by decide +kernel
theorem d_Mo_make_96 : decode prog_9_method_21_code 96 = .ok (.iload 4, 2) := by decide +kernel
theorem d_Mo_make_98 : decode prog_9_method_21_code 98 = .ok (.iconst 0, 1) := by decide +kernel
theorem d_Mo_make_99 : decode prog_9_method_21_code 99 = .ok (.iastore, 1) := by decide +kernel
theorem d_Mo_make_100 : decode prog_9_method_21_code 100 = .ok (.aload_n 0, 1) := by decide +kernel
theorem d_Mo_make_101 : decode prog_9_method_21_code 101 = .ok (.getfield 41, 3) := by decide +kernel
theorem d_Mo_make_104 : decode prog_9_method_21_code 104 = .ok (.iload 4, 2) := by decide +kernel
theorem d_Mo_make_106 : decode prog_9_method_21_code 106 = .ok (.iconst 0, 1) := by decide +kernel
theorem d_Mo_make_107 : decode prog_9_method_21_code 107 = .ok (.bastore, 1) := by decide +kernel
theorem d_Mo_make_108 : decode prog_9_method_21_code 108 = .ok (.aload_n 0, 1) := by decide +kernel
theorem d_Mo_make_109 : decode prog_9_method_21_code 109 = .ok (.getfield 44, 3) := by decide +kernel
theorem d_Mo_make_112 : decode prog_9_method_21_code 112 = .ok (.iload 4, 2) := by decide +kernel
theorem d_Mo_make_114 : decode prog_9_method_21_code 114 = .ok (.iload_n 3, 1) := by decide +kernel
theorem d_Mo_make_115 : decode prog_9_method_21_code 115 = .ok (.aload_n 0, 1) := by decide +kernel
theorem d_Mo_make_116 : decode prog_9_method_21_code 116 = .ok (.getfield 84, 3) := by decide +kernel
theorem d_Mo_make_119 : decode prog_9_method_21_code 119 = .ok (.if_icmp .ge 9, 3) := by decide +kernel
theorem d_Mo_make_122 : decode prog_9_method_21_code 122 = .ok (.iconst 1, 1) := by decide +kernel
theorem d_Mo_make_123 : decode prog_9_method_21_code 123 = .ok (.iload_n 3, 1) := by decide +kernel
theorem d_Mo_make_124 : decode prog_9_method_21_code 124 = .ok (.ishl, 1) := by decide +kernel
theorem d_Mo_make_125 : decode prog_9_method_21_code 125 = .ok (.goto 4, 3) := by decide +kernel
theorem d_Mo_make_128 : decode prog_9_method_21_code 128 = .ok (.iconst 0, 1) := by decide +kernel
theorem d_Mo_make_129 : decode prog_9_method_21_code 129 = .ok (.iastore, 1) := by decide +kernel
theorem d_Mo_make_130 : decode prog_9_method_21_code 130 = .ok (.iinc 3 1, 3) := by decide +kernel
theorem d_Mo_make_133 : decode prog_9_method_21_code 133 = .ok (.goto (-93), 3) := by decide +kernel
theorem d_Mo_make_136 : decode prog_9_method_21_code 136 = .ok (.iconst 0, 1) := by decide +kernel
theorem d_Mo_make_137 : decode prog_9_method_21_code 137 = .ok (.istore_n 3, 1) := by decide +kernel
theorem d_Mo_make_138 : decode prog_9_method_21_code 138 = .ok (.iload_n 3, 1) := by decide +kernel
theorem d_Mo_make_139 : decode prog_9_method_21_code 139 = .ok (.aload_n 0, 1) := by decide +kernel
theorem d_Mo_make_140 : decode prog_9_method_21_code 140 = .ok (.getfield 84, 3) := by decide +kernel
theorem d_Mo_make_143 : decode prog_9_method_21_code 143 = .ok (.if_icmp .ge 16, 3) := by decide +kernel
theorem d_Mo_make_146 : decode prog_9_method_21_code 146 = .ok (.aload_n 0, 1) := by decide +kernel
theorem d_Mo_make_147 : decode prog_9_method_21_code 147 = .ok (.getfield 47, 3) := by decide +kernel
theorem d_Mo_make_150 : decode prog_9_method_21_code 150 = .ok (.iload_n 3, 1) := by decide +kernel
theorem d_Mo_make_151 : decode prog_9_method_21_code 151 = .ok (.iload_n 3, 1) := by decide +kernel
theorem d_Mo_make_152 : decode prog_9_method_21_code 152 = .ok (.iastore, 1) := by decide +kernel
theorem d_Mo_make_153 : decode prog_9_method_21_code 153 = .ok (.iinc 3 1, 3) := by decide +kernel
theorem d_Mo_make_156 : decode prog_9_method_21_code 156 = .ok (.goto (-18), 3) := by decide +kernel
theorem d_Mo_make_159 : decode prog_9_method_21_code 159 = .ok (.aload_n 0, 1) := by decide +kernel
theorem d_Mo_make_160 : decode prog_9_method_21_code 160 = .ok (.getfield 84, 3) := by decide +kernel
theorem d_Mo_make_163 : decode prog_9_method_21_code 163 = .ok (.istore_n 3, 1) := by decide +kernel
theorem d_Mo_make_164 : decode prog_9_method_21_code 164 = .ok (.iload_n 3, 1) := by decide +kernel
theorem d_Mo_make_165 : decode prog_9_method_21_code 165 = .ok (.aload_n 0, 1) := by decide +kernel
theorem d_Mo_make_166 : decode prog_9_method_21_code 166 = .ok (.iload_n 1, 1) := by decide +kernel
theorem d_Mo_make_167 : decode prog_9_method_21_code 167 = .ok (.invokevirtual 123, 3) := by decide +kernel
theorem d_Mo_make_170 : decode prog_9_method_21_code 170 = .ok (.if_icmp .ge 16, 3) := by decide +kernel
theorem d_Mo_make_173 : decode prog_9_method_21_code 173 = .ok (.aload_n 0, 1) := by decide +kernel
theorem d_Mo_make_174 : decode prog_9_method_21_code 174 = .ok (.iload_n 1, 1) := by decide +kernel
theorem d_Mo_make_175 : decode prog_9_method_21_code 175 = .ok (.iload_n 3, 1) := by decide +kernel
theorem d_Mo_make_176 : decode prog_9_method_21_code 176 = .ok (.iload_n 2, 1) := by decide +kernel
theorem d_Mo_make_177 : decode prog_9_method_21_code 177 = .ok (.invokevirtual 126, 3) := by decide +kernel
theorem d_Mo_make_180 : decode prog_9_method_21_code 180 = .ok (.iinc 3 1, 3) := by decide +kernel
theorem d_Mo_make_183 : decode prog_9_method_21_code 183 = .ok (.goto (-19), 3) := by decide +kernel
theorem d_Mo_make_186 : decode prog_9_method_21_code 186 = .ok (.aload_n 0, 1) := by decide +kernel
theorem d_Mo_make_187 : decode prog_9_method_21_code 187 = .ok (.iload_n 1, 1) := by decide +kernel
theorem d_Mo_make_188 : decode prog_9_method_21_code 188 = .ok (.invokevirtual 123, 3) := by decide +kernel
theorem d_Mo_make_191 : decode prog_9_method_21_code 191 = .ok (.ireturn, 1) := by decide +kernel
set_option maxHeartbeats 4000000 in
set_option maxRecDepth 20000 in
theorem tM_make {g : GG} (G : Gok g) {σ : AH} {S : Sp} (hS : RelM S σ) (x y : Int32) : TerI g 3 m_Mo_make [rV 106, iV x, iV y] σ (fun r τ => r = (sp_make S x y).1 ∧ RelM (sp_make S x y).2 τ ∧ frM σ τ) := by
  refine TerI.mk G (by decide +kernel) rfl (Nat.le_of_ble_eq_true rfl) (fun K B Rt => ?_)
  have B : Cx g K prog_9_method_21_code 5 R_Mo 3 := B
  have Rt : RetI g K prog_9_method_21_code 5 (fun r τ => r = (sp_make S x y).1 ∧ RelM (sp_make S x y).2 τ ∧ frM σ τ) := Rt
  show AW g K 5 0 [(0, rV 106), (1, iV x), (2, iV y)] [] σ
  obtain ⟨hN, hn, hth, hpl, hbd⟩ := id hS.1
  refine a_iload_n B d_Mo_make_0 rfl rfl ?_
  refine a_callSI B (t_Mo_isTree G x) d_Mo_make_1 ok_Mo_isTree ml_Mo_111 rfl (by decide) (by decide) rfl (Nat.le_of_ble_eq_true rfl) (fun r_1 τ_1 h_1 => ?_)
  obtain ⟨hr_1, hs_1⟩ := h_1
  subst hr_1
  replace hs_1 := hs_1.symm
  subst hs_1
  first | refine b_if_eq_b B 16 d_Mo_make_4 rfl (fun c_4 => ?_) (fun c_4 => ?_) | refine a_if_eq B 16 d_Mo_make_4 rfl (fun c_4 => ?_) (fun c_4 => ?_)
  · skip
    have hqt := isS_f c_4
    refine a_iconst B d_Mo_make_16 ci_m1 ?_
    exact Rt _ _ _ _ d_Mo_make_17 (by first | exact (by have e : sp_make S x y = RB S := (by rw [sp_make, hqt]); rw [e]; exact ⟨rfl, hS, (fun _ _ => rfl)⟩) | exact (by have e : sp_make S (nI t) y = RB S := (by rw [sp_make, hqt, hqw]); rw [e]; exact ⟨rfl, hS, (fun _ _ => rfl)⟩))
  obtain ⟨t, hqt⟩ := isS_t c_4
  obtain ⟨ht, rfl⟩ := rngQ_some (by omega) hqt
  refine a_iload_n B d_Mo_make_7 rfl rfl ?_
  refine a_iconst B d_Mo_make_8 ci_0 ?_
  refine a_iconst B d_Mo_make_9 ci_2 ?_
  refine a_callSI B (t_Mo_in G y (nI 0) (nI 2)) d_Mo_make_10 ok_Mo_in ml_Mo_87 rfl (by decide) (by decide) rfl (Nat.le_of_ble_eq_true rfl) (fun r_10 τ_10 h_10 => ?_)
  obtain ⟨hr_10, hs_10⟩ := h_10
  subst hr_10
  replace hs_10 := hs_10.symm
  subst hs_10
  first | refine b_if_ne_b B 18 d_Mo_make_13 rfl (fun c_13 => ?_) (fun c_13 => ?_) | refine a_if_ne B 18 d_Mo_make_13 rfl (fun c_13 => ?_) (fun c_13 => ?_)
  · skip
    obtain ⟨w, hqw⟩ := isS_t ((in_rngP (n := 3) (by decide) (by decide)).symm.trans c_13)
    obtain ⟨hw, rfl⟩ := rngQ_some (by decide) hqw
    refine a_aload_n B d_Mo_make_18 rfl rfl ?_
    refine gf_Mo_leaves B d_Mo_make_19 fl_Mo_84 ?_
    rw [hN]
    first | refine b_if_ne_b B 28 d_Mo_make_22 rfl (fun c_22 => ?_) (fun c_22 => ?_) | refine a_if_ne B 28 d_Mo_make_22 rfl (fun c_22 => ?_) (fun c_22 => ?_)
    · skip
      have hn0 : ¬ sN S = 0 := fun q => c_22 (by rw [q]; exact nI_0)
      have hn1 : 1 ≤ sN S := by omega
      refine a_aload_n B d_Mo_make_28 rfl rfl ?_
      refine gf_Mo_sizes B d_Mo_make_29 fl_Mo_23 ?_
      refine a_iload_n B d_Mo_make_32 rfl rfl ?_
      refine a_aload_n B d_Mo_make_33 rfl rfl ?_
      refine gf_Mo_leaves B d_Mo_make_34 fl_Mo_84 ?_
      rw [hN]
      refine a_iast B ly_111 _ rfl (by first | assumption | omega) d_Mo_make_37 ?_
      refine a_iconst B d_Mo_make_38 ci_0 ?_
      refine a_istore_n (lv1 := [(0, _), (1, _), (2, _), (3, _)]) B d_Mo_make_39 rfl (by decide) rfl ?_
      refine a_forR (2 * sN S - 1) (fun i lv τ => lv = [(0, rV 106), (1, iV (nI t)), (2, iV (nI w)), (3, iV (nI i))] ∧ tfM t σ τ ∧ τ.1 111 t = nI (sN S) ∧ ∀ v, v < i → JiQ τ t (sN S) v) (fun i lv τ hi hI ihi => ?_) (fun lv τ1 hI => ?_) 0 (Nat.zero_le _) _ _ ⟨rfl, tfM_sz, by rw [up1_s, upd_s], fun _ h => absurd h (Nat.not_lt_zero _)⟩
      · skip
        obtain ⟨rfl, hT, z1, hQ⟩ := hI
        refine a_iload_n B d_Mo_make_40 rfl rfl ?_
        refine a_aload_n B d_Mo_make_41 rfl rfl ?_
        refine a_iload_n B d_Mo_make_42 rfl rfl ?_
        refine a_callVI (ci := 7) B (t_Mo_nodes G ht hn1 hn z1) d_Mo_make_43 ok_Mo_nodes ml_Mo_123 ly_106 rfl rfl (by decide) (by decide) rfl (Nat.le_of_ble_eq_true rfl) (fun r_43 τ_43 h_43 => ?_)
        obtain ⟨hr_43, hs_43⟩ := h_43
        subst hr_43
        replace hs_43 := hs_43.symm
        subst hs_43
        first | refine b_icmp_ge B 136 d_Mo_make_46 rfl (by omega) (by omega) (fun c_46 => ?_) (fun c_46 => ?_) | refine a_icmp_ge B 136 d_Mo_make_46 rfl (fun c_46 => ?_) (fun c_46 => ?_)
        · skip
          exact absurd c_46 (by omega)
        refine a_bipush B d_Mo_make_49 cb_20 ?_
        refine a_iload_n B d_Mo_make_51 rfl rfl ?_
        first | refine b_imul B d_Mo_make_52 ?_ | refine a_imul B d_Mo_make_52 ?_
        refine a_iload_n B d_Mo_make_53 rfl rfl ?_
        first | refine b_iadd B d_Mo_make_54 ?_ | refine a_iadd B d_Mo_make_54 ?_
        refine a_istore (lv1 := [(0, _), (1, _), (2, _), (3, _), (4, _)]) B d_Mo_make_55 (by decide) rfl ?_
        refine a_aload_n B d_Mo_make_57 rfl rfl ?_
        refine gf_Mo_firsts B d_Mo_make_58 fl_Mo_26 ?_
        refine a_iload B d_Mo_make_61 rfl ?_
        refine a_bipush B d_Mo_make_63 cb_m9 ?_
        refine a_iast B ly_112 _ rfl (by first | assumption | omega) d_Mo_make_65 ?_
        refine a_aload_n B d_Mo_make_66 rfl rfl ?_
        refine gf_Mo_others B d_Mo_make_67 fl_Mo_29 ?_
        refine a_iload B d_Mo_make_70 rfl ?_
        refine a_bipush B d_Mo_make_72 cb_m9 ?_
        refine a_iast B ly_113 _ rfl (by first | assumption | omega) d_Mo_make_74 ?_
        refine a_aload_n B d_Mo_make_75 rfl rfl ?_
        refine gf_Mo_ups B d_Mo_make_76 fl_Mo_32 ?_
        refine a_iload B d_Mo_make_79 rfl ?_
        refine a_bipush B d_Mo_make_81 cb_m9 ?_
        refine a_iast B ly_114 _ rfl (by first | assumption | omega) d_Mo_make_83 ?_
        refine a_aload_n B d_Mo_make_84 rfl rfl ?_
        refine gf_Mo_heights B d_Mo_make_85 fl_Mo_35 ?_
        refine a_iload B d_Mo_make_88 rfl ?_
        refine a_iconst B d_Mo_make_90 ci_0 ?_
        refine a_iast B ly_115 _ rfl (by first | assumption | omega) d_Mo_make_91 ?_
        refine a_aload_n B d_Mo_make_92 rfl rfl ?_
        refine gf_Mo_turned B d_Mo_make_93 fl_Mo_38 ?_
        refine a_iload B d_Mo_make_96 rfl ?_
        refine a_iconst B d_Mo_make_98 ci_0 ?_
        refine a_iast B ly_116 _ rfl (by first | assumption | omega) d_Mo_make_99 ?_
        refine a_aload_n B d_Mo_make_100 rfl rfl ?_
        refine gf_Mo_isHeld B d_Mo_make_101 fl_Mo_41 ?_
        refine a_iload B d_Mo_make_104 rfl ?_
        refine a_iconst B d_Mo_make_106 ci_0 ?_
        refine a_zast B ly_117 _ rfl (by first | assumption | omega) rfl d_Mo_make_107 ?_
        refine a_aload_n B d_Mo_make_108 rfl rfl ?_
        refine gf_Mo_below B d_Mo_make_109 fl_Mo_44 ?_
        refine a_iload B d_Mo_make_112 rfl ?_
        refine a_iload_n B d_Mo_make_114 rfl rfl ?_
        refine a_aload_n B d_Mo_make_115 rfl rfl ?_
        refine gf_Mo_leaves B d_Mo_make_116 fl_Mo_84 ?_
        rw [up1_o (by decide), up1_o (by decide), up1_o (by decide), up1_o (by decide), up1_o (by decide), up1_o (by decide), hT.2.1 3 (by decide) (by decide), hN]
        first | refine b_icmp_ge B 128 d_Mo_make_119 rfl (by omega) (by omega) (fun c_119 => ?_) (fun c_119 => ?_) | refine a_icmp_ge B 128 d_Mo_make_119 rfl (fun c_119 => ?_) (fun c_119 => ?_)
        · skip
          refine a_iconst B d_Mo_make_128 ci_0 ?_
          refine a_iast B ly_118 _ rfl (by first | assumption | omega) d_Mo_make_129 ?_
          first | refine b_iinc (lv1 := [(0, _), (1, _), (2, _), (3, _), (4, _)]) B d_Mo_make_130 rfl ci_1 (by decide) rfl ?_ | refine a_iinc (lv1 := [(0, _), (1, _), (2, _), (3, _), (4, _)]) B d_Mo_make_130 rfl rfl (by decide) rfl ?_
          refine a_goto B 40 d_Mo_make_133 rfl ?_
          refine a_sub (lv1 := [(0, _), (1, _), (2, _), (3, _)]) rfl ?_
          first | (have c9 : i < sN S := c_119; exact ihi _ _ ⟨rfl, tfM_tr (tfM_tr (tfM_tr (tfM_tr (tfM_tr (tfM_tr (tfM_tr hT (tfM_up (by decide) (by decide) (by omega))) (tfM_up (by decide) (by decide) (by omega))) (tfM_up (by decide) (by decide) (by omega))) (tfM_up (by decide) (by decide) (by omega))) (tfM_up (by decide) (by decide) (by omega))) (tfM_up (by decide) (by decide) (by omega))) (tfM_up (by decide) (by decide) (by omega)), (show _ = τ.1 111 t from by simp [up1_g]).trans z1, JiQ_s (x := nI (2 ^ i)) hQ (by simp [up1_g]) (by simp [up1_g]) (by simp [up1_g]) (by simp [up1_g]) (by simp [up1_g]) (by simp [up1_g]) (by simp [up1_g]) (fun _ => rfl)⟩) | (have c9 : sN S ≤ i := c_119; exact ihi _ _ ⟨rfl, tfM_tr (tfM_tr (tfM_tr (tfM_tr (tfM_tr (tfM_tr (tfM_tr hT (tfM_up (by decide) (by decide) (by omega))) (tfM_up (by decide) (by decide) (by omega))) (tfM_up (by decide) (by decide) (by omega))) (tfM_up (by decide) (by decide) (by omega))) (tfM_up (by decide) (by decide) (by omega))) (tfM_up (by decide) (by decide) (by omega))) (tfM_up (by decide) (by decide) (by omega)), (show _ = τ.1 111 t from by simp [up1_g]).trans z1, JiQ_s (x := nI 0) hQ (by simp [up1_g]) (by simp [up1_g]) (by simp [up1_g]) (by simp [up1_g]) (by simp [up1_g]) (by simp [up1_g]) (by simp [up1_g]) (fun q => absurd q (by omega))⟩)
        refine a_iconst B d_Mo_make_122 ci_1 ?_
        refine a_iload_n B d_Mo_make_123 rfl rfl ?_
        refine a_ishl B d_Mo_make_124 ?_
        rw [show nI 1 <<< (nI i &&& 31) = nI (2 ^ i) from nI_pow (by omega)]
        refine a_goto B 129 d_Mo_make_125 rfl ?_
        refine a_iast B ly_118 _ rfl (by first | assumption | omega) d_Mo_make_129 ?_
        first | refine b_iinc (lv1 := [(0, _), (1, _), (2, _), (3, _), (4, _)]) B d_Mo_make_130 rfl ci_1 (by decide) rfl ?_ | refine a_iinc (lv1 := [(0, _), (1, _), (2, _), (3, _), (4, _)]) B d_Mo_make_130 rfl rfl (by decide) rfl ?_
        refine a_goto B 40 d_Mo_make_133 rfl ?_
        refine a_sub (lv1 := [(0, _), (1, _), (2, _), (3, _)]) rfl ?_
        first | (have c9 : i < sN S := c_119; exact ihi _ _ ⟨rfl, tfM_tr (tfM_tr (tfM_tr (tfM_tr (tfM_tr (tfM_tr (tfM_tr hT (tfM_up (by decide) (by decide) (by omega))) (tfM_up (by decide) (by decide) (by omega))) (tfM_up (by decide) (by decide) (by omega))) (tfM_up (by decide) (by decide) (by omega))) (tfM_up (by decide) (by decide) (by omega))) (tfM_up (by decide) (by decide) (by omega))) (tfM_up (by decide) (by decide) (by omega)), (show _ = τ.1 111 t from by simp [up1_g]).trans z1, JiQ_s (x := nI (2 ^ i)) hQ (by simp [up1_g]) (by simp [up1_g]) (by simp [up1_g]) (by simp [up1_g]) (by simp [up1_g]) (by simp [up1_g]) (by simp [up1_g]) (fun _ => rfl)⟩) | (have c9 : sN S ≤ i := c_119; exact ihi _ _ ⟨rfl, tfM_tr (tfM_tr (tfM_tr (tfM_tr (tfM_tr (tfM_tr (tfM_tr hT (tfM_up (by decide) (by decide) (by omega))) (tfM_up (by decide) (by decide) (by omega))) (tfM_up (by decide) (by decide) (by omega))) (tfM_up (by decide) (by decide) (by omega))) (tfM_up (by decide) (by decide) (by omega))) (tfM_up (by decide) (by decide) (by omega))) (tfM_up (by decide) (by decide) (by omega)), (show _ = τ.1 111 t from by simp [up1_g]).trans z1, JiQ_s (x := nI 0) hQ (by simp [up1_g]) (by simp [up1_g]) (by simp [up1_g]) (by simp [up1_g]) (by simp [up1_g]) (by simp [up1_g]) (by simp [up1_g]) (fun q => absurd q (by omega))⟩)
      · skip
        obtain ⟨rfl, hT, z1, hQ⟩ := hI
        refine a_iload_n B d_Mo_make_40 rfl rfl ?_
        refine a_aload_n B d_Mo_make_41 rfl rfl ?_
        refine a_iload_n B d_Mo_make_42 rfl rfl ?_
        refine a_callVI (ci := 7) B (t_Mo_nodes G ht hn1 hn z1) d_Mo_make_43 ok_Mo_nodes ml_Mo_123 ly_106 rfl rfl (by decide) (by decide) rfl (Nat.le_of_ble_eq_true rfl) (fun r_43 τ_43 h_43 => ?_)
        obtain ⟨hr_43, hs_43⟩ := h_43
        subst hr_43
        replace hs_43 := hs_43.symm
        subst hs_43
        first | refine b_icmp_ge B 136 d_Mo_make_46 rfl (by omega) (by omega) (fun c_46 => ?_) (fun c_46 => ?_) | refine a_icmp_ge B 136 d_Mo_make_46 rfl (fun c_46 => ?_) (fun c_46 => ?_)
        · skip
          refine a_iconst B d_Mo_make_136 ci_0 ?_
          refine a_istore_n (lv1 := [(0, _), (1, _), (2, _), (3, _)]) B d_Mo_make_137 rfl (by decide) rfl ?_
          have hT1 := hT
          refine a_forR (sN S) (fun i lv τ => lv = [(0, rV 106), (1, iV (nI t)), (2, iV (nI w)), (3, iV (nI i))] ∧ (∀ k, k ≠ 119 → τ.1 k = τ1.1 k) ∧ ∀ x, x < i → τ.1 119 x = nI x) (fun i lv τ hi hI ihi => ?_) (fun lv τ hI => ?_) 0 (Nat.zero_le _) _ _ ⟨rfl, fun _ _ => rfl, fun _ h => absurd h (Nat.not_lt_zero _)⟩
          · skip
            obtain ⟨rfl, hG, hX⟩ := hI
            refine a_iload_n B d_Mo_make_138 rfl rfl ?_
            refine a_aload_n B d_Mo_make_139 rfl rfl ?_
            refine gf_Mo_leaves B d_Mo_make_140 fl_Mo_84 ?_
            rw [hG 106 (by decide), hT1.2.1 3 (by decide) (by decide), hN]
            first | refine b_icmp_ge B 159 d_Mo_make_143 rfl (by omega) (by omega) (fun c_143 => ?_) (fun c_143 => ?_) | refine a_icmp_ge B 159 d_Mo_make_143 rfl (fun c_143 => ?_) (fun c_143 => ?_)
            · skip
              exact absurd c_143 (by omega)
            refine a_aload_n B d_Mo_make_146 rfl rfl ?_
            refine gf_Mo_groupNode B d_Mo_make_147 fl_Mo_47 ?_
            refine a_iload_n B d_Mo_make_150 rfl rfl ?_
            refine a_iload_n B d_Mo_make_151 rfl rfl ?_
            refine a_iast B ly_119 _ rfl (by first | assumption | omega) d_Mo_make_152 ?_
            first | refine b_iinc (lv1 := [(0, _), (1, _), (2, _), (3, _)]) B d_Mo_make_153 rfl ci_1 (by decide) rfl ?_ | refine a_iinc (lv1 := [(0, _), (1, _), (2, _), (3, _)]) B d_Mo_make_153 rfl rfl (by decide) rfl ?_
            refine a_goto B 138 d_Mo_make_156 rfl ?_
            refine ihi _ _ ⟨rfl, fun k q => by rw [up1_o q]; exact hG k q, fun x hx => ?_⟩
            rw [up1_s]
            by_cases e : x = i
            · rw [e, upd_s]
            · rw [upd_o e]; exact hX x (by omega)
          · skip
            obtain ⟨rfl, hG, hX⟩ := hI
            refine a_iload_n B d_Mo_make_138 rfl rfl ?_
            refine a_aload_n B d_Mo_make_139 rfl rfl ?_
            refine gf_Mo_leaves B d_Mo_make_140 fl_Mo_84 ?_
            rw [hG 106 (by decide), hT1.2.1 3 (by decide) (by decide), hN]
            first | refine b_icmp_ge B 159 d_Mo_make_143 rfl (by omega) (by omega) (fun c_143 => ?_) (fun c_143 => ?_) | refine a_icmp_ge B 159 d_Mo_make_143 rfl (fun c_143 => ?_) (fun c_143 => ?_)
            · skip
              refine a_aload_n B d_Mo_make_159 rfl rfl ?_
              refine gf_Mo_leaves B d_Mo_make_160 fl_Mo_84 ?_
              rw [hG 106 (by decide), hT1.2.1 3 (by decide) (by decide), hN]
              refine a_istore_n (lv1 := [(0, _), (1, _), (2, _), (3, _)]) B d_Mo_make_163 rfl (by decide) rfl ?_
              refine a_forR (sN S - 1) (fun i lv τ => lv = [(0, rV 106), (1, iV (nI t)), (2, iV (nI w)), (3, iV (nI (sN S + i)))] ∧ JmK τ t (sN S) (sN S + i) (mkM (uS S) w (sN S) i) ∧ tfM t σ τ) (fun i lv τ hi hI ihi => ?_) (fun lv τ hI => ?_) 0 (Nat.zero_le _) _ _ ⟨rfl, JmK_init (by rw [hG 111 (by decide)]; exact z1) (fun v hv => by unfold JiQ; rw [hG 112 (by decide), hG 113 (by decide), hG 114 (by decide), hG 115 (by decide), hG 116 (by decide), hG 117 (by decide), hG 118 (by decide)]; exact hQ v hv) hX hn1, tfM_tr hT1 (tfM_wk ⟨fun k a b c d => hG k (by omega), fun j _ _ => by rw [hG 106 (by decide)]⟩)⟩
              · skip
                obtain ⟨rfl, hJ, hT⟩ := hI
                refine a_iload_n B d_Mo_make_164 rfl rfl ?_
                refine a_aload_n B d_Mo_make_165 rfl rfl ?_
                refine a_iload_n B d_Mo_make_166 rfl rfl ?_
                refine a_callVI (ci := 7) B (t_Mo_nodes G ht hn1 hn hJ.1) d_Mo_make_167 ok_Mo_nodes ml_Mo_123 ly_106 rfl rfl (by decide) (by decide) rfl (Nat.le_of_ble_eq_true rfl) (fun r_167 τ_167 h_167 => ?_)
                obtain ⟨hr_167, hs_167⟩ := h_167
                subst hr_167
                replace hs_167 := hs_167.symm
                subst hs_167
                first | refine b_icmp_ge B 186 d_Mo_make_170 rfl (by omega) (by omega) (fun c_170 => ?_) (fun c_170 => ?_) | refine a_icmp_ge B 186 d_Mo_make_170 rfl (fun c_170 => ?_) (fun c_170 => ?_)
                · skip
                  exact absurd c_170 (by omega)
                refine a_aload_n B d_Mo_make_173 rfl rfl ?_
                refine a_iload_n B d_Mo_make_174 rfl rfl ?_
                refine a_iload_n B d_Mo_make_175 rfl rfl ?_
                refine a_iload_n B d_Mo_make_176 rfl rfl ?_
                refine a_callVV (ci := 7) B (t_Mo_join G ht hw (tfM_R hT hS.1) hJ (InvM_mk (unl_le hbd) hn1 hn i (by omega)) (by omega) (by omega)) d_Mo_make_177 ok_Mo_join ml_Mo_126 ly_106 rfl rfl (by decide) (by decide) rfl (Nat.le_of_ble_eq_true rfl) (fun τ_177 h_177 => ?_)
                first | refine b_iinc (lv1 := [(0, _), (1, _), (2, _), (3, _)]) B d_Mo_make_180 rfl ci_1 (by decide) rfl ?_ | refine a_iinc (lv1 := [(0, _), (1, _), (2, _), (3, _)]) B d_Mo_make_180 rfl rfl (by decide) rfl ?_
                refine a_goto B 164 d_Mo_make_183 rfl ?_
                obtain ⟨q1, q2⟩ := h_177
                exact ihi _ _ ⟨rfl, q1, tfM_tr hT q2⟩
              · skip
                obtain ⟨rfl, hJ, hT⟩ := hI
                refine a_iload_n B d_Mo_make_164 rfl rfl ?_
                refine a_aload_n B d_Mo_make_165 rfl rfl ?_
                refine a_iload_n B d_Mo_make_166 rfl rfl ?_
                refine a_callVI (ci := 7) B (t_Mo_nodes G ht hn1 hn hJ.1) d_Mo_make_167 ok_Mo_nodes ml_Mo_123 ly_106 rfl rfl (by decide) (by decide) rfl (Nat.le_of_ble_eq_true rfl) (fun r_167 τ_167 h_167 => ?_)
                obtain ⟨hr_167, hs_167⟩ := h_167
                subst hr_167
                replace hs_167 := hs_167.symm
                subst hs_167
                first | refine b_icmp_ge B 186 d_Mo_make_170 rfl (by omega) (by omega) (fun c_170 => ?_) (fun c_170 => ?_) | refine a_icmp_ge B 186 d_Mo_make_170 rfl (fun c_170 => ?_) (fun c_170 => ?_)
                · skip
                  refine a_aload_n B d_Mo_make_186 rfl rfl ?_
                  refine a_iload_n B d_Mo_make_187 rfl rfl ?_
                  refine a_callVI (ci := 7) B (t_Mo_nodes G ht hn1 hn hJ.1) d_Mo_make_188 ok_Mo_nodes ml_Mo_123 ly_106 rfl rfl (by decide) (by decide) rfl (Nat.le_of_ble_eq_true rfl) (fun r_188 τ_188 h_188 => ?_)
                  obtain ⟨hr_188, hs_188⟩ := h_188
                  subst hr_188
                  replace hs_188 := hs_188.symm
                  subst hs_188
                  exact Rt _ _ _ _ d_Mo_make_191 (by have e : sp_make S (nI t) (nI w) = (nI (2 * sN S - 1), pT S t (makeT (uS S) w (sN S))) := (by rw [sp_make, hqt, hqw]; show (if _ then _ else _) = _; exact if_neg hn0); rw [e]; exact ⟨rfl, RelM_tree hS (JmK_fin (unl_le hbd) hn1 hn (by (rw [show sN S + (sN S - 1) = 2 * sN S - 1 by omega] at hJ; exact hJ))) hT, tfM_fr hT⟩)
                exact absurd c_170 (by omega)
            exact absurd c_143 (by omega)
        exact absurd c_46 (by omega)
    have hn0 : sN S = 0 := nI_z (by omega) c_22
    refine a_bipush B d_Mo_make_25 cb_m4 ?_
    exact Rt _ _ _ _ d_Mo_make_27 (by have e : sp_make S (nI t) (nI w) = RS S := (by rw [sp_make, hqt, hqw]; show (if _ then _ else _) = _; exact if_pos hn0); rw [e]; exact ⟨rfl, hS, (fun _ _ => rfl)⟩)
  have hqw := isS_f ((in_rngP (n := 3) (by decide) (by decide)).symm.trans c_13)
  refine a_iconst B d_Mo_make_16 ci_m1 ?_
  exact Rt _ _ _ _ d_Mo_make_17 (by first | exact (by have e : sp_make S x y = RB S := (by rw [sp_make, hqt]); rw [e]; exact ⟨rfl, hS, (fun _ _ => rfl)⟩) | exact (by have e : sp_make S (nI t) y = RB S := (by rw [sp_make, hqt, hqw]); rw [e]; exact ⟨rfl, hS, (fun _ _ => rfl)⟩))
