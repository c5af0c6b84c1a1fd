/-! The reference: split, inverse, trace -/
theorem ml_set {σ : st_T} {q : Nat} {f : Nat → Nat} (hq : q < σ 205 1) : ml_v (st_rw σ (300 + (8 + q)) f) = (ml_v σ).set q (σ 206 q, σ 207 q, f) := by
  have h205 : st_rw σ (300 + (8 + q)) f 205 = σ 205 := st_rw_row (by omega)
  apply List.ext_getElem?
  intro t
  by_cases ht : t < σ 205 1
  · rw [ml_v_at _ (by rw [h205]; exact ht)]
    by_cases he : t = q
    · subst he
      rw [List.getElem?_set_self (by rw [ml_v_len]; exact ht)]
      unfold mv_t
      rw [st_rw_row (by omega), st_rw_row (by omega), st_rw_at]
    · rw [List.getElem?_set_ne (Ne.symm he), ml_v_at _ ht]
      unfold mv_t
      rw [st_rw_row (by omega), st_rw_row (by omega), st_rw_row (by omega)]
  · rw [List.getElem?_eq_none (by rw [ml_v_len, h205]; omega), List.getElem?_eq_none (by rw [List.length_set, ml_v_len]; omega)]
theorem sp_is_ct {P : Nat} {M : Nat → Nat} {v : Nat} (hv : v < P) (hM : 1 < sp_sz M 31) : sp_is P M (va_up (fun _ => 0) 0 v) (pz_ct v) := by
  have hok := sp_ct_ok hv
  refine ⟨hok, ?_, ?_⟩
  · have h2 : sp_sz (va_up (fun _ => 0) 0 v) 31 ≤ 1 := sp_sz_lt (fun i hi => by rw [va_up_ne _ _ (by omega)])
    omega
  · have e : pe_f (va_up (fun _ => 0) 0 v) = pz_ct v := pz_ext (fun i => by
      rw [pe_at hok]
      show ((va_up (fun _ => 0) 0 v i : Nat) : Int) = if i = 0 then (v : Int) else 0
      unfold va_up
      split <;> rfl)
    rw [e]
    exact @ag_rf pz_T pz_R _ (pz_I_ok P _) _
theorem sp_is_add1 {P : Nat} (hP : 2 ≤ P) {m a b : Nat → Nat} {x y : pz_T} (ha : sp_is P m a x) (hb : sp_is P m b y) : sp_is P m (sp_add P a b 1) (pz_ad x y) := by
  have h := sp_is_add (show 0 < P by omega) ha hb 1
  have e : pz_ml (pz_ct ((1 : Nat) : Int)) y = y := pz_R.one_mul y
  rwa [e] at h
theorem dm_Model_split_0 : decode bm_Model_split 0 = .ok (.aload_n 0, 1) := by decide +kernel
theorem dm_Model_split_1 : decode bm_Model_split 1 = .ok (.iload_n 1, 1) := by decide +kernel
theorem dm_Model_split_2 : decode bm_Model_split 2 = .ok (.invokevirtual 107, 3) := by decide +kernel
theorem dm_Model_split_5 : decode bm_Model_split 5 = .ok (.ifCond .eq 27, 3) := by decide +kernel
theorem dm_Model_split_8 : decode bm_Model_split 8 = .ok (.iload_n 2, 1) := by decide +kernel
theorem dm_Model_split_9 : decode bm_Model_split 9 = .ok (.invokestatic 69, 3) := by decide +kernel
theorem dm_Model_split_12 : decode bm_Model_split 12 = .ok (.ifCond .eq 20, 3) := by decide +kernel
theorem dm_Model_split_15 : decode bm_Model_split 15 = .ok (.aload_n 0, 1) := by decide +kernel
theorem dm_Model_split_16 : decode bm_Model_split 16 = .ok (.bipush 8, 2) := by decide +kernel
theorem dm_Model_split_18 : decode bm_Model_split 18 = .ok (.iload_n 1, 1) := by decide +kernel
theorem dm_Model_split_19 : decode bm_Model_split 19 = .ok (.iadd, 1) := by decide +kernel
theorem dm_Model_split_20 : decode bm_Model_split 20 = .ok (.invokevirtual 42, 3) := by decide +kernel
theorem dm_Model_split_23 : decode bm_Model_split 23 = .ok (.aload_n 0, 1) := by decide +kernel
theorem dm_Model_split_24 : decode bm_Model_split 24 = .ok (.getfield 16, 3) := by decide +kernel
theorem dm_Model_split_27 : decode bm_Model_split 27 = .ok (.iload_n 1, 1) := by decide +kernel
theorem dm_Model_split_28 : decode bm_Model_split 28 = .ok (.iaload, 1) := by decide +kernel
theorem dm_Model_split_29 : decode bm_Model_split 29 = .ok (.if_icmp .ne 5, 3) := by decide +kernel
theorem dm_Model_split_32 : decode bm_Model_split 32 = .ok (.iconst (-1), 1) := by decide +kernel
theorem dm_Model_split_33 : decode bm_Model_split 33 = .ok (.ireturn, 1) := by decide +kernel
theorem dm_Model_split_34 : decode bm_Model_split 34 = .ok (.bipush 8, 2) := by decide +kernel
theorem dm_Model_split_36 : decode bm_Model_split 36 = .ok (.iload_n 1, 1) := by decide +kernel
theorem dm_Model_split_37 : decode bm_Model_split 37 = .ok (.iadd, 1) := by decide +kernel
theorem dm_Model_split_38 : decode bm_Model_split 38 = .ok (.istore_n 3, 1) := by decide +kernel
theorem dm_Model_split_39 : decode bm_Model_split 39 = .ok (.aload_n 0, 1) := by decide +kernel
theorem dm_Model_split_40 : decode bm_Model_split 40 = .ok (.getfield 23, 3) := by decide +kernel
theorem dm_Model_split_43 : decode bm_Model_split 43 = .ok (.iconst 2, 1) := by decide +kernel
theorem dm_Model_split_44 : decode bm_Model_split 44 = .ok (.if_icmp .ne 65, 3) := by decide +kernel
theorem dm_Model_split_47 : decode bm_Model_split 47 = .ok (.aload_n 0, 1) := by decide +kernel
theorem dm_Model_split_48 : decode bm_Model_split 48 = .ok (.iload_n 2, 1) := by decide +kernel
theorem dm_Model_split_49 : decode bm_Model_split 49 = .ok (.bipush 26, 2) := by decide +kernel
theorem dm_Model_split_51 : decode bm_Model_split 51 = .ok (.invokevirtual 55, 3) := by decide +kernel
theorem dm_Model_split_54 : decode bm_Model_split 54 = .ok (.aload_n 0, 1) := by decide +kernel
theorem dm_Model_split_55 : decode bm_Model_split 55 = .ok (.bipush 26, 2) := by decide +kernel
theorem dm_Model_split_57 : decode bm_Model_split 57 = .ok (.iload_n 3, 1) := by decide +kernel
theorem dm_Model_split_58 : decode bm_Model_split 58 = .ok (.invokevirtual 52, 3) := by decide +kernel
theorem dm_Model_split_61 : decode bm_Model_split 61 = .ok (.aload_n 0, 1) := by decide +kernel
theorem dm_Model_split_62 : decode bm_Model_split 62 = .ok (.bipush 25, 2) := by decide +kernel
theorem dm_Model_split_64 : decode bm_Model_split 64 = .ok (.iconst 0, 1) := by decide +kernel
theorem dm_Model_split_65 : decode bm_Model_split 65 = .ok (.invokevirtual 38, 3) := by decide +kernel
theorem dm_Model_split_68 : decode bm_Model_split 68 = .ok (.iconst 0, 1) := by decide +kernel
theorem dm_Model_split_69 : decode bm_Model_split 69 = .ok (.istore 4, 2) := by decide +kernel
theorem dm_Model_split_71 : decode bm_Model_split 71 = .ok (.iload 4, 2) := by decide +kernel
theorem dm_Model_split_73 : decode bm_Model_split 73 = .ok (.aload_n 0, 1) := by decide +kernel
theorem dm_Model_split_74 : decode bm_Model_split 74 = .ok (.getfield 16, 3) := by decide +kernel
theorem dm_Model_split_77 : decode bm_Model_split 77 = .ok (.iload_n 1, 1) := by decide +kernel
theorem dm_Model_split_78 : decode bm_Model_split 78 = .ok (.iaload, 1) := by decide +kernel
theorem dm_Model_split_79 : decode bm_Model_split 79 = .ok (.if_icmp .ge 27, 3) := by decide +kernel
theorem dm_Model_split_82 : decode bm_Model_split 82 = .ok (.aload_n 0, 1) := by decide +kernel
theorem dm_Model_split_83 : decode bm_Model_split 83 = .ok (.bipush 25, 2) := by decide +kernel
theorem dm_Model_split_85 : decode bm_Model_split 85 = .ok (.bipush 26, 2) := by decide +kernel
theorem dm_Model_split_87 : decode bm_Model_split 87 = .ok (.iconst 1, 1) := by decide +kernel
theorem dm_Model_split_88 : decode bm_Model_split 88 = .ok (.invokevirtual 78, 3) := by decide +kernel
theorem dm_Model_split_91 : decode bm_Model_split 91 = .ok (.aload_n 0, 1) := by decide +kernel
theorem dm_Model_split_92 : decode bm_Model_split 92 = .ok (.bipush 26, 2) := by decide +kernel
theorem dm_Model_split_94 : decode bm_Model_split 94 = .ok (.bipush 26, 2) := by decide +kernel
theorem dm_Model_split_96 : decode bm_Model_split 96 = .ok (.iload_n 3, 1) := by decide +kernel
theorem dm_Model_split_97 : decode bm_Model_split 97 = .ok (.invokevirtual 62, 3) := by decide +kernel
theorem dm_Model_split_100 : decode bm_Model_split 100 = .ok (.iinc 4 1, 3) := by decide +kernel
theorem dm_Model_split_103 : decode bm_Model_split 103 = .ok (.goto (-32), 3) := by decide +kernel
theorem dm_Model_split_106 : decode bm_Model_split 106 = .ok (.goto 68, 3) := by decide +kernel
theorem dm_Model_split_109 : decode bm_Model_split 109 = .ok (.aload_n 0, 1) := by decide +kernel
theorem dm_Model_split_110 : decode bm_Model_split 110 = .ok (.iload_n 2, 1) := by decide +kernel
theorem dm_Model_split_111 : decode bm_Model_split 111 = .ok (.aload_n 0, 1) := by decide +kernel
theorem dm_Model_split_112 : decode bm_Model_split 112 = .ok (.getfield 16, 3) := by decide +kernel
theorem dm_Model_split_115 : decode bm_Model_split 115 = .ok (.iload_n 1, 1) := by decide +kernel
theorem dm_Model_split_116 : decode bm_Model_split 116 = .ok (.iaload, 1) := by decide +kernel
theorem dm_Model_split_117 : decode bm_Model_split 117 = .ok (.iload_n 3, 1) := by decide +kernel
theorem dm_Model_split_118 : decode bm_Model_split 118 = .ok (.invokevirtual 110, 3) := by decide +kernel
theorem dm_Model_split_121 : decode bm_Model_split 121 = .ok (.aload_n 0, 1) := by decide +kernel
theorem dm_Model_split_122 : decode bm_Model_split 122 = .ok (.bipush 27, 2) := by decide +kernel
theorem dm_Model_split_124 : decode bm_Model_split 124 = .ok (.bipush 25, 2) := by decide +kernel
theorem dm_Model_split_126 : decode bm_Model_split 126 = .ok (.invokevirtual 55, 3) := by decide +kernel
theorem dm_Model_split_129 : decode bm_Model_split 129 = .ok (.aload_n 0, 1) := by decide +kernel
theorem dm_Model_split_130 : decode bm_Model_split 130 = .ok (.bipush 25, 2) := by decide +kernel
theorem dm_Model_split_132 : decode bm_Model_split 132 = .ok (.aload_n 0, 1) := by decide +kernel
theorem dm_Model_split_133 : decode bm_Model_split 133 = .ok (.getfield 23, 3) := by decide +kernel
theorem dm_Model_split_136 : decode bm_Model_split 136 = .ok (.iconst 1, 1) := by decide +kernel
theorem dm_Model_split_137 : decode bm_Model_split 137 = .ok (.isub, 1) := by decide +kernel
theorem dm_Model_split_138 : decode bm_Model_split 138 = .ok (.iconst 2, 1) := by decide +kernel
theorem dm_Model_split_139 : decode bm_Model_split 139 = .ok (.idiv, 1) := by decide +kernel
theorem dm_Model_split_140 : decode bm_Model_split 140 = .ok (.i2l, 1) := by decide +kernel
theorem dm_Model_split_141 : decode bm_Model_split 141 = .ok (.iload_n 3, 1) := by decide +kernel
theorem dm_Model_split_142 : decode bm_Model_split 142 = .ok (.invokevirtual 65, 3) := by decide +kernel
theorem dm_Model_split_145 : decode bm_Model_split 145 = .ok (.aload_n 0, 1) := by decide +kernel
theorem dm_Model_split_146 : decode bm_Model_split 146 = .ok (.bipush 28, 2) := by decide +kernel
theorem dm_Model_split_148 : decode bm_Model_split 148 = .ok (.bipush 25, 2) := by decide +kernel
theorem dm_Model_split_150 : decode bm_Model_split 150 = .ok (.invokevirtual 55, 3) := by decide +kernel
theorem dm_Model_split_153 : decode bm_Model_split 153 = .ok (.aload_n 0, 1) := by decide +kernel
theorem dm_Model_split_154 : decode bm_Model_split 154 = .ok (.bipush 27, 2) := by decide +kernel
theorem dm_Model_split_156 : decode bm_Model_split 156 = .ok (.iconst 1, 1) := by decide +kernel
theorem dm_Model_split_157 : decode bm_Model_split 157 = .ok (.invokevirtual 38, 3) := by decide +kernel
theorem dm_Model_split_160 : decode bm_Model_split 160 = .ok (.aload_n 0, 1) := by decide +kernel
theorem dm_Model_split_161 : decode bm_Model_split 161 = .ok (.bipush 25, 2) := by decide +kernel
theorem dm_Model_split_163 : decode bm_Model_split 163 = .ok (.bipush 27, 2) := by decide +kernel
theorem dm_Model_split_165 : decode bm_Model_split 165 = .ok (.aload_n 0, 1) := by decide +kernel
theorem dm_Model_split_166 : decode bm_Model_split 166 = .ok (.getfield 23, 3) := by decide +kernel
theorem dm_Model_split_169 : decode bm_Model_split 169 = .ok (.iconst 1, 1) := by decide +kernel
theorem dm_Model_split_170 : decode bm_Model_split 170 = .ok (.isub, 1) := by decide +kernel
theorem dm_Model_split_171 : decode bm_Model_split 171 = .ok (.invokevirtual 78, 3) := by decide +kernel
theorem dm_Model_split_174 : decode bm_Model_split 174 = .ok (.aload_n 0, 1) := by decide +kernel
theorem dm_Model_split_175 : decode bm_Model_split 175 = .ok (.bipush 25, 2) := by decide +kernel
theorem dm_Model_split_177 : decode bm_Model_split 177 = .ok (.iload_n 3, 1) := by decide +kernel
theorem dm_Model_split_178 : decode bm_Model_split 178 = .ok (.invokevirtual 81, 3) := by decide +kernel
theorem dm_Model_split_181 : decode bm_Model_split 181 = .ok (.aload_n 0, 1) := by decide +kernel
theorem dm_Model_split_182 : decode bm_Model_split 182 = .ok (.bipush 30, 2) := by decide +kernel
theorem dm_Model_split_184 : decode bm_Model_split 184 = .ok (.invokevirtual 42, 3) := by decide +kernel
theorem dm_Model_split_187 : decode bm_Model_split 187 = .ok (.iconst 1, 1) := by decide +kernel
theorem dm_Model_split_188 : decode bm_Model_split 188 = .ok (.if_icmp .lt 17, 3) := by decide +kernel
theorem dm_Model_split_191 : decode bm_Model_split 191 = .ok (.aload_n 0, 1) := by decide +kernel
theorem dm_Model_split_192 : decode bm_Model_split 192 = .ok (.bipush 30, 2) := by decide +kernel
theorem dm_Model_split_194 : decode bm_Model_split 194 = .ok (.invokevirtual 42, 3) := by decide +kernel
theorem dm_Model_split_197 : decode bm_Model_split 197 = .ok (.aload_n 0, 1) := by decide +kernel
theorem dm_Model_split_198 : decode bm_Model_split 198 = .ok (.iload_n 3, 1) := by decide +kernel
theorem dm_Model_split_199 : decode bm_Model_split 199 = .ok (.invokevirtual 42, 3) := by decide +kernel
theorem dm_Model_split_202 : decode bm_Model_split 202 = .ok (.if_icmp .ne 5, 3) := by decide +kernel
theorem dm_Model_split_205 : decode bm_Model_split 205 = .ok (.iconst 0, 1) := by decide +kernel
theorem dm_Model_split_206 : decode bm_Model_split 206 = .ok (.ireturn, 1) := by decide +kernel
theorem dm_Model_split_207 : decode bm_Model_split 207 = .ok (.aload_n 0, 1) := by decide +kernel
theorem dm_Model_split_208 : decode bm_Model_split 208 = .ok (.bipush 30, 2) := by decide +kernel
theorem dm_Model_split_210 : decode bm_Model_split 210 = .ok (.bipush 26, 2) := by decide +kernel
theorem dm_Model_split_212 : decode bm_Model_split 212 = .ok (.invokevirtual 55, 3) := by decide +kernel
theorem dm_Model_split_215 : decode bm_Model_split 215 = .ok (.aload_n 0, 1) := by decide +kernel
theorem dm_Model_split_216 : decode bm_Model_split 216 = .ok (.iload_n 1, 1) := by decide +kernel
theorem dm_Model_split_217 : decode bm_Model_split 217 = .ok (.iconst 1, 1) := by decide +kernel
theorem dm_Model_split_218 : decode bm_Model_split 218 = .ok (.iadd, 1) := by decide +kernel
theorem dm_Model_split_219 : decode bm_Model_split 219 = .ok (.invokevirtual 91, 3) := by decide +kernel
theorem dm_Model_split_222 : decode bm_Model_split 222 = .ok (.aload_n 0, 1) := by decide +kernel
theorem dm_Model_split_223 : decode bm_Model_split 223 = .ok (.getfield 13, 3) := by decide +kernel
theorem dm_Model_split_226 : decode bm_Model_split 226 = .ok (.iload_n 1, 1) := by decide +kernel
theorem dm_Model_split_227 : decode bm_Model_split 227 = .ok (.iconst 1, 1) := by decide +kernel
theorem dm_Model_split_228 : decode bm_Model_split 228 = .ok (.iadd, 1) := by decide +kernel
theorem dm_Model_split_229 : decode bm_Model_split 229 = .ok (.aload_n 0, 1) := by decide +kernel
theorem dm_Model_split_230 : decode bm_Model_split 230 = .ok (.getfield 13, 3) := by decide +kernel
theorem dm_Model_split_233 : decode bm_Model_split 233 = .ok (.iload_n 1, 1) := by decide +kernel
theorem dm_Model_split_234 : decode bm_Model_split 234 = .ok (.iaload, 1) := by decide +kernel
theorem dm_Model_split_235 : decode bm_Model_split 235 = .ok (.iastore, 1) := by decide +kernel
theorem dm_Model_split_236 : decode bm_Model_split 236 = .ok (.aload_n 0, 1) := by decide +kernel
theorem dm_Model_split_237 : decode bm_Model_split 237 = .ok (.getfield 16, 3) := by decide +kernel
theorem dm_Model_split_240 : decode bm_Model_split 240 = .ok (.iload_n 1, 1) := by decide +kernel
theorem dm_Model_split_241 : decode bm_Model_split 241 = .ok (.iconst 1, 1) := by decide +kernel
theorem dm_Model_split_242 : decode bm_Model_split 242 = .ok (.iadd, 1) := by decide +kernel
theorem dm_Model_split_243 : decode bm_Model_split 243 = .ok (.aload_n 0, 1) := by decide +kernel
theorem dm_Model_split_244 : decode bm_Model_split 244 = .ok (.getfield 16, 3) := by decide +kernel
theorem dm_Model_split_247 : decode bm_Model_split 247 = .ok (.iload_n 1, 1) := by decide +kernel
theorem dm_Model_split_248 : decode bm_Model_split 248 = .ok (.iaload, 1) := by decide +kernel
theorem dm_Model_split_249 : decode bm_Model_split 249 = .ok (.iastore, 1) := by decide +kernel
theorem dm_Model_split_250 : decode bm_Model_split 250 = .ok (.aload_n 0, 1) := by decide +kernel
theorem dm_Model_split_251 : decode bm_Model_split 251 = .ok (.iload_n 3, 1) := by decide +kernel
theorem dm_Model_split_252 : decode bm_Model_split 252 = .ok (.bipush 25, 2) := by decide +kernel
theorem dm_Model_split_254 : decode bm_Model_split 254 = .ok (.invokevirtual 55, 3) := by decide +kernel
theorem dm_Model_split_257 : decode bm_Model_split 257 = .ok (.aload_n 0, 1) := by decide +kernel
theorem dm_Model_split_258 : decode bm_Model_split 258 = .ok (.bipush 25, 2) := by decide +kernel
theorem dm_Model_split_260 : decode bm_Model_split 260 = .ok (.bipush 26, 2) := by decide +kernel
theorem dm_Model_split_262 : decode bm_Model_split 262 = .ok (.invokevirtual 52, 3) := by decide +kernel
theorem dm_Model_split_265 : decode bm_Model_split 265 = .ok (.aload_n 0, 1) := by decide +kernel
theorem dm_Model_split_266 : decode bm_Model_split 266 = .ok (.bipush 32, 2) := by decide +kernel
theorem dm_Model_split_268 : decode bm_Model_split 268 = .ok (.iload_n 3, 1) := by decide +kernel
theorem dm_Model_split_269 : decode bm_Model_split 269 = .ok (.iconst 1, 1) := by decide +kernel
theorem dm_Model_split_270 : decode bm_Model_split 270 = .ok (.iadd, 1) := by decide +kernel
theorem dm_Model_split_271 : decode bm_Model_split 271 = .ok (.invokevirtual 55, 3) := by decide +kernel
theorem dm_Model_split_274 : decode bm_Model_split 274 = .ok (.aload_n 0, 1) := by decide +kernel
theorem dm_Model_split_275 : decode bm_Model_split 275 = .ok (.bipush 26, 2) := by decide +kernel
theorem dm_Model_split_277 : decode bm_Model_split 277 = .ok (.iload_n 3, 1) := by decide +kernel
theorem dm_Model_split_278 : decode bm_Model_split 278 = .ok (.invokevirtual 55, 3) := by decide +kernel
theorem dm_Model_split_281 : decode bm_Model_split 281 = .ok (.iconst 1, 1) := by decide +kernel
theorem dm_Model_split_282 : decode bm_Model_split 282 = .ok (.ireturn, 1) := by decide +kernel
set_option maxHeartbeats 4000000 in
set_option maxRecDepth 100000 in
theorem mm_Model_split (l : Launch) (D : va_G) (k : ClassId × ClassId × ClassId) (g : Nat → Nat) (σ : st_T) {P : Nat} (hw : md_wf P σ) (hP : ag_pr P) (hP31 : P < 2147483648) (hrg : ∀ n, n < 8 → sp_sz (σ (300 + n)) 31 ≤ 16) (hcc : σ 205 1 ≤ 15) (hpt : ∀ t, t < σ 205 1 → 1 < sp_sz (mv_t σ t).2.2 31 ∧ sp_sz (mv_t σ t).2.2 31 ≤ 16 ∧ 1 ≤ (mv_t σ t).2.1 ∧ (mv_t σ t).2.1 ≤ 31) {a b : Int32} : mt_I l D k g ym_Model_split wm_Model_split rm_Model_split [.ref (g 149), .int a, .int b] σ (fun r σ1 => (¬ ((∃ n, n < σ 205 1 ∧ a = nI n) ∧ rk_r b) ∧ r = -1 ∧ σ1 = σ) ∨ ∃ a0 b0, (a0 < σ 205 1 ∧ a = nI a0) ∧ (b0 < 8 ∧ b = nI b0) ∧ ((sp_sz (σ (300 + (8 + a0))) 31 = σ 207 a0 + 1 ∧ r = -1 ∧ σ1 = σ) ∨ (sp_sz (σ (300 + (8 + a0))) 31 ≠ σ 207 a0 + 1 ∧ (md_wf P σ1 ∧ (∀ j, j ≠ 1 → σ1 205 j = σ 205 j) ∧ md_sm mt_X σ σ1) ∧ ∃ U, sp_is P (σ (300 + (8 + a0))) U (sep_z P (pe_f (σ (300 + b0))) (σ 207 a0)) ∧ ((r = nI 0 ∧ (sp_sz (sp_gcd P U (σ (300 + (8 + a0)))) 31 ≤ 1 ∨ sp_sz (σ (300 + (8 + a0))) 31 ≤ sp_sz (sp_gcd P U (σ (300 + (8 + a0)))) 31) ∧ ml_v σ1 = ml_v σ) ∨ (r = nI 1 ∧ 1 < sp_sz (sp_gcd P U (σ (300 + (8 + a0)))) 31 ∧ sp_sz (sp_gcd P U (σ (300 + (8 + a0)))) 31 < sp_sz (σ (300 + (8 + a0))) 31 ∧ ml_v σ1 = ((ml_v σ).set a0 (σ 206 a0, σ 207 a0, sp_gcd P U (σ (300 + (8 + a0))))).take (a0 + 1) ++ (σ 206 a0, σ 207 a0, sp_quo P (σ (300 + (8 + a0))) (sp_gcd P U (σ (300 + (8 + a0))))) :: ((ml_v σ).set a0 (σ 206 a0, σ 207 a0, sp_gcd P U (σ (300 + (8 + a0))))).drop (a0 + 1)))))) := by
  refine ct_I_in (cc := bm_Model_split) (maxL := 5) (by decide) rfl (Nat.le_of_ble_eq_true rfl) ?_
  intro p e s m args below meth c A ls Q S hl hW hret
  have S : pw_S p m c bm_Model_split 5 s args wa_g rc_Model D cl_s (ty_s k) := S
  have hx := S.1.1
  have hb := S.1.2.1
  have hl : lv_has ls 5 [(0, .ref (g (149))), (1, .int (a)), (2, .int (b))] := hl
  have hP2 := hP.1
  refine lv_aload_n hx hb dm_Model_split_0 rfl (lv_at hl 0 rfl) ?_
  refine lv_iload_n hx hb dm_Model_split_1 rfl (lv_at hl 1 rfl) ?_
  refine pw_callVI (rest := []) S hW (mm_Model_isPart l D k g σ (x := a) hcc) (cv_Model_107 S.1.2.2.2.2 ⟨by decide, by decide⟩) (by decide) en_Model rfl rfl hl.1 rfl (lv_room (Nat.le_of_ble_eq_true rfl)) ⟨Nat.zero_le _, Nat.zero_le _⟩ dm_Model_split_2 (fun r σ1 H locs hp hW => ?_)
  obtain ⟨hp, h9⟩ := hp
  rw [h9] at hW
  rcases hp with ⟨hr, a0, ha0, rfl⟩ | ⟨hr, hno⟩
  · subst hr
    have hl : lv_has ls 5 [(0, .ref (g (149))), (1, .int (nI (a0))), (2, .int (b))] := hl
    refine wi_if_eq (tgt := 32) S (nn_T (by omega)) dm_Model_split_5 (by decide) (fun hc => ?_) (fun hc => ?_)
    · exfalso
      omega
    · refine lv_iload_n hx hb dm_Model_split_8 rfl (lv_at hl 2 rfl) ?_
      refine pw_callSI (rest := []) S hW (mm_Model_isRegister l D k g σ (x := b)) (cv_Model_69 S.1.2.2.2.2 ⟨by decide, by decide⟩) rfl hl.1 rfl (lv_room (Nat.le_of_ble_eq_true rfl)) ⟨Nat.zero_le _, Nat.zero_le _⟩ dm_Model_split_9 (fun r σ1 H locs hp hW => ?_)
      obtain ⟨hp, h9⟩ := hp
      rw [h9] at hW
      rcases hp with ⟨hr, b0, hb0, rfl⟩ | ⟨hr, hno⟩
      · subst hr
        have hl : lv_has ls 5 [(0, .ref (g (149))), (1, .int (nI (a0))), (2, .int (nI (b0)))] := hl
        refine wi_if_eq (tgt := 32) S (nn_T (by omega)) dm_Model_split_12 (by decide) (fun hc => ?_) (fun hc => ?_)
        · exfalso
          omega
        · obtain ⟨t1, t2, t3, t4⟩ := hpt a0 ha0
          have t1 : 1 < sp_sz (σ (300 + (8 + a0))) 31 := t1
          have t2 : sp_sz (σ (300 + (8 + a0))) 31 ≤ 16 := t2
          have t3 : 1 ≤ σ 207 a0 := t3
          have t4 : σ 207 a0 ≤ 31 := t4
          have hMo := hw.2 (8 + a0) (by omega)
          have hI := pz_I_ok P (pe_f (σ (300 + (8 + a0))))
          have hb16 := hrg b0 hb0
          refine lv_aload_n hx hb dm_Model_split_15 rfl (lv_at hl 0 rfl) ?_
          refine lv_bipush (v := nI (8)) hx hb dm_Model_split_16 (by decide) ?_
          refine lv_iload_n hx hb dm_Model_split_18 rfl (lv_at hl 1 rfl) ?_
          refine wn_iadd S dm_Model_split_19 ?_
          refine pw_callVI (rest := []) S hW (mm_Model_degree l D k g σ (s0 := (8) + (a0)) (P := P) (by omega) (hw.2 ((8) + (a0)) (by omega)) hP31) (cv_Model_42 S.1.2.2.2.2 ⟨by decide, by decide⟩) (by decide) en_Model rfl rfl hl.1 rfl (lv_room (Nat.le_of_ble_eq_true rfl)) ⟨Nat.zero_le _, Nat.zero_le _⟩ dm_Model_split_20 (fun r σ1 H locs hp hW => ?_)
          obtain ⟨hr, hp⟩ := hp
          rw [hp] at hW
          subst hr
          refine lv_aload_n hx hb dm_Model_split_23 rfl (lv_at hl 0 rfl) ?_
          refine md_degrees S hW (wa_in 565 (by decide +kernel) rfl) dm_Model_split_24 ?_
          refine lv_iload_n hx hb dm_Model_split_27 rfl (lv_at hl 1 rfl) ?_
          refine md_ald S hW (by omega) dm_Model_split_28 ?_
          refine wi_icmp_ne (tgt := 34) S (sd_T (by omega)) (nn_T (by omega)) dm_Model_split_29 (by decide) (fun hc => ?_) (fun hc => ?_)
          · refine lv_bipush (v := nI (8)) hx hb dm_Model_split_34 (by decide) ?_
            refine lv_iload_n hx hb dm_Model_split_36 rfl (lv_at hl 1 rfl) ?_
            refine wn_iadd S dm_Model_split_37 ?_
            refine lv_istore_n hx hb dm_Model_split_38 rfl hl (by decide) rfl (fun ls hl => ?_)
            have hl : lv_has ls 5 [(3, .int (nI (8 + a0))), (0, .ref (g (149))), (1, .int (nI (a0))), (2, .int (nI (b0)))] := hl
            have hl : lv_has ls 5 [(3, .int (nI (8 + a0))), (0, .ref (g (149))), (1, .int (nI (a0))), (2, .int (nI (b0)))] := lv_sub hl [0, 1, 2, 3] rfl
            have tail : ∀ (τ : st_T), md_wf P τ → md_sm [300 + 25, 300 + 26, 300 + 27, 300 + 28, 300 + 31, 300 + 32] σ τ → sp_is P (σ (300 + (8 + a0))) (τ (300 + 25)) (sep_z P (pe_f (σ (300 + b0))) (σ 207 a0)) → ∀ (ls : Array Slot) (H : Heap) (locs : List Loc), lv_has ls 5 [(3, .int (nI (8 + a0))), (0, .ref (g (149))), (1, .int (nI (a0))), (2, .int (nI (b0)))] → pw_H D cl_s A s.heap g 153 (en_s k g (τ)) H locs → W p l e rm_Model_split s m args below meth c H locs 0 0 Q (F0 m 174 ls []) := by
              intro τ wτ sτ hU ls H locs hl hW
              have t8 : τ (300 + (8 + a0)) = σ (300 + (8 + a0)) := sτ _ (by simp only [List.mem_cons, List.not_mem_nil, or_false]; omega)
              refine lv_aload_n hx hb dm_Model_split_174 rfl (lv_at hl 1 rfl) ?_
              refine lv_bipush (v := nI (25)) hx hb dm_Model_split_175 (by decide) ?_
              refine lv_iload_n hx hb dm_Model_split_177 rfl (lv_at hl 0 rfl) ?_
              refine pw_callV (rest := []) S hW (mm_Model_commonOf l D k g τ wτ hP hP31 (a := 25) (b := 8 + a0) (by omega) (by omega) (by omega)) (cv_Model_81 S.1.2.2.2.2 ⟨by decide, by decide⟩) (by decide) en_Model rfl rfl hl.1 rfl (lv_room (Nat.le_of_ble_eq_true rfl)) ⟨Nat.zero_le _, Nat.zero_le _⟩ dm_Model_split_178 (fun σ41 H locs hp41 hW => ?_)
              obtain ⟨w41, e41, s41⟩ := hp41
              have k41_25 : σ41 (300 + (25)) = τ (300 + 25) := by rw [s41 _ (by simp only [List.mem_cons, List.not_mem_nil, or_false]; omega)]
              have k41_8a0 : σ41 (300 + (8 + a0)) = σ (300 + (8 + a0)) := by rw [s41 _ (by simp only [List.mem_cons, List.not_mem_nil, or_false]; omega)]; exact t8
              have k41_30 : σ41 (300 + (30)) = sp_gcd P (τ (300 + 25)) (σ (300 + (8 + a0))) := by rw [e41, t8]
              have gok := sp_gcd_ok hP hU.1 hMo
              have gsz := sp_dvd_sz hP gok.1 hMo (by omega) gok.2.2.1
              have smW : md_sm mk_W σ σ41 := md_sm_tr sτ s41 (by decide +kernel) (by decide +kernel)
              have hm4 := ml_sm smW mk_W_no (by omega)
              have q205 : σ41 205 = σ 205 := hm4.2.1
              refine lv_aload_n hx hb dm_Model_split_181 rfl (lv_at hl 1 rfl) ?_
              refine lv_bipush (v := nI (30)) hx hb dm_Model_split_182 (by decide) ?_
              refine pw_callVI (rest := []) S hW (mm_Model_degree l D k g σ41 (s0 := 30) (P := P) (by omega) (w41.2 (30) (by omega)) hP31) (cv_Model_42 S.1.2.2.2.2 ⟨by decide, by decide⟩) (by decide) en_Model rfl rfl hl.1 rfl (lv_room (Nat.le_of_ble_eq_true rfl)) ⟨Nat.zero_le _, Nat.zero_le _⟩ dm_Model_split_184 (fun r σ1 H locs hp hW => ?_)
              obtain ⟨hr, hp⟩ := hp
              rw [hp] at hW
              subst hr
              rw [k41_30]
              refine lv_iconst (v := nI (1)) hx hb dm_Model_split_187 (by decide) ?_
              refine wi_icmp_lt (tgt := 205) S (sd_T (by omega)) (nn_T (by omega)) dm_Model_split_188 (by decide) (fun hc => ?_) (fun hc => ?_)
              · refine lv_iconst (v := nI (0)) hx hb dm_Model_split_205 (by decide) ?_
                exact hret _ _ _ _ _ _ dm_Model_split_206 (Or.inr ⟨a0, b0, ⟨ha0, rfl⟩, ⟨hb0, rfl⟩, Or.inr ⟨by omega, ⟨w41, fun j hj => by rw [q205], md_sm_mo smW (fun _ h => mk_W_in h)⟩, _, hU, Or.inl ⟨rfl, by omega, hm4.1⟩⟩⟩) hW
              · refine lv_aload_n hx hb dm_Model_split_191 rfl (lv_at hl 1 rfl) ?_
                refine lv_bipush (v := nI (30)) hx hb dm_Model_split_192 (by decide) ?_
                refine pw_callVI (rest := []) S hW (mm_Model_degree l D k g σ41 (s0 := 30) (P := P) (by omega) (w41.2 (30) (by omega)) hP31) (cv_Model_42 S.1.2.2.2.2 ⟨by decide, by decide⟩) (by decide) en_Model rfl rfl hl.1 rfl (lv_room (Nat.le_of_ble_eq_true rfl)) ⟨Nat.zero_le _, Nat.zero_le _⟩ dm_Model_split_194 (fun r σ1 H locs hp hW => ?_)
                obtain ⟨hr, hp⟩ := hp
                rw [hp] at hW
                subst hr
                rw [k41_30]
                refine lv_aload_n hx hb dm_Model_split_197 rfl (lv_at hl 1 rfl) ?_
                refine lv_iload_n hx hb dm_Model_split_198 rfl (lv_at hl 0 rfl) ?_
                refine pw_callVI (rest := [.int (sd_i (sp_sz (sp_gcd P (τ (300 + 25)) (σ (300 + (8 + a0)))) 31))]) S hW (mm_Model_degree l D k g σ41 (s0 := 8 + a0) (P := P) (by omega) (w41.2 (8 + a0) (by omega)) hP31) (cv_Model_42 S.1.2.2.2.2 ⟨by decide, by decide⟩) (by decide) en_Model rfl rfl hl.1 rfl (lv_room (Nat.le_of_ble_eq_true rfl)) ⟨Nat.zero_le _, Nat.zero_le _⟩ dm_Model_split_199 (fun r σ1 H locs hp hW => ?_)
                obtain ⟨hr, hp⟩ := hp
                rw [hp] at hW
                subst hr
                rw [k41_8a0]
                refine wi_icmp_ne (tgt := 207) S (sd_T (by omega)) (sd_T (by omega)) dm_Model_split_202 (by decide) (fun hc => ?_) (fun hc => ?_)
                · have hne : sp_sz (sp_gcd P (τ (300 + 25)) (σ (300 + (8 + a0)))) 31 < sp_sz (σ (300 + (8 + a0))) 31 := by omega
                  refine lv_aload_n hx hb dm_Model_split_207 rfl (lv_at hl 1 rfl) ?_
                  refine lv_bipush (v := nI (30)) hx hb dm_Model_split_208 (by decide) ?_
                  refine lv_bipush (v := nI (26)) hx hb dm_Model_split_210 (by decide) ?_
                  refine pw_callV (rest := []) S hW (mm_Model_copy l D k g σ41 w41 (a := 30) (b := 26) (by omega) (by omega)) (cv_Model_55 S.1.2.2.2.2 ⟨by decide, by decide⟩) (by decide) en_Model rfl rfl hl.1 rfl (lv_room (Nat.le_of_ble_eq_true rfl)) ⟨Nat.zero_le _, Nat.zero_le _⟩ dm_Model_split_212 (fun σ42 H locs hp42 hW => ?_)
                  obtain ⟨w42, e42, s42⟩ := hp42
                  have k42_8a0 : σ42 (300 + (8 + a0)) = σ (300 + (8 + a0)) := by rw [s42 _ (by simp only [List.mem_cons, List.not_mem_nil, or_false]; omega)]; exact k41_8a0
                  have k42_26 : σ42 (300 + (26)) = sp_gcd P (τ (300 + 25)) (σ (300 + (8 + a0))) := by rw [e42, k41_30]
                  have m42 : md_sm [300 + (29), 300 + (30), 300 + (31), 300 + (32), 300 + (26)] τ σ42 := md_sm_tr s41 s42 (by intro x9 hx9; simp only [List.mem_cons, List.not_mem_nil, or_false] at hx9 ⊢; omega) (by intro x9 hx9; simp only [List.mem_cons, List.not_mem_nil, or_false] at hx9 ⊢; omega)
                  have smX : md_sm mk_W σ σ42 := md_sm_tr sτ m42 (by decide +kernel) (by decide +kernel)
                  have hm5 := ml_sm smX mk_W_no (by omega)
                  refine lv_aload_n hx hb dm_Model_split_215 rfl (lv_at hl 1 rfl) ?_
                  refine lv_iload_n hx hb dm_Model_split_216 rfl (lv_at hl 2 rfl) ?_
                  refine lv_iconst (v := nI (1)) hx hb dm_Model_split_217 (by decide) ?_
                  refine wn_iadd S dm_Model_split_218 ?_
                  refine pw_callV (rest := []) S hW (mm_Model_shift l D k g σ42 (at0 := a0 + 1) w42 (by rw [hm5.2.1]; omega) (by rw [hm5.2.1]; omega)) (cv_Model_91 S.1.2.2.2.2 ⟨by decide, by decide⟩) (by decide) en_Model rfl rfl hl.1 rfl (lv_room (Nat.le_of_ble_eq_true rfl)) ⟨Nat.zero_le _, Nat.zero_le _⟩ dm_Model_split_219 (fun σ60 H locs hp60 hW => ?_)
                  obtain ⟨w60, ⟨c60, j60⟩, h3, h4, s60⟩ := hp60
                  rw [hm5.2.1] at c60 h4
                  have o60 : mv_t σ60 a0 = mv_t σ a0 := by rw [h3 a0 (by omega), hm5.2.2 a0 (by omega)]
                  have o6 : σ60 206 a0 = σ 206 a0 := congrArg Prod.fst o60
                  have d6 : σ60 207 a0 = σ 207 a0 := congrArg (fun p : pv_T => p.2.1) o60
                  have r8 : σ60 (300 + (8 + a0)) = σ (300 + (8 + a0)) := congrArg (fun p : pv_T => p.2.2) o60
                  have r26 : σ60 (300 + 26) = sp_gcd P (τ (300 + 25)) (σ (300 + (8 + a0))) := by rw [s60 _ (by decide +kernel)]; exact k42_26
                  refine lv_aload_n hx hb dm_Model_split_222 rfl (lv_at hl 1 rfl) ?_
                  refine md_often S hW (wa_in 564 (by decide +kernel) rfl) dm_Model_split_223 ?_
                  refine lv_iload_n hx hb dm_Model_split_226 rfl (lv_at hl 2 rfl) ?_
                  refine lv_iconst (v := nI (1)) hx hb dm_Model_split_227 (by decide) ?_
                  refine wn_iadd S dm_Model_split_228 ?_
                  refine lv_aload_n hx hb dm_Model_split_229 rfl (lv_at hl 1 rfl) ?_
                  refine md_often S hW (wa_in 564 (by decide +kernel) rfl) dm_Model_split_230 ?_
                  refine lv_iload_n hx hb dm_Model_split_233 rfl (lv_at hl 2 rfl) ?_
                  refine mo_ald S hW (by omega) dm_Model_split_234 ?_
                  rw [o6]
                  refine mo_ast S hW (by omega) dm_Model_split_235 (fun H locs hW => ?_)
                  refine lv_aload_n hx hb dm_Model_split_236 rfl (lv_at hl 1 rfl) ?_
                  refine md_degrees S hW (wa_in 565 (by decide +kernel) rfl) dm_Model_split_237 ?_
                  refine lv_iload_n hx hb dm_Model_split_240 rfl (lv_at hl 2 rfl) ?_
                  refine lv_iconst (v := nI (1)) hx hb dm_Model_split_241 (by decide) ?_
                  refine wn_iadd S dm_Model_split_242 ?_
                  refine lv_aload_n hx hb dm_Model_split_243 rfl (lv_at hl 1 rfl) ?_
                  refine md_degrees S hW (wa_in 565 (by decide +kernel) rfl) dm_Model_split_244 ?_
                  refine lv_iload_n hx hb dm_Model_split_247 rfl (lv_at hl 2 rfl) ?_
                  refine md_ald S hW (by omega) dm_Model_split_248 ?_
                  rw [show (st_up σ60 206 (a0 + 1) (σ 206 a0)) 207 = σ60 207 from st_up_row (by omega), d6]
                  refine md_ast S hW (by omega) dm_Model_split_249 (fun H locs hW => ?_)
                  have r : ∀ a, 300 ≤ a → (st_up (st_up σ60 206 (a0 + 1) (σ 206 a0)) 207 (a0 + 1) (σ 207 a0)) a = σ60 a := fun a ha => by rw [st_up_row (by omega), st_up_row (by omega)]
                  have w61 : md_wf P (st_up (st_up σ60 206 (a0 + 1) (σ 206 a0)) 207 (a0 + 1) (σ 207 a0)) := ⟨by rw [st_up_row (by omega), st_up_row (by omega)]; exact w60.1, fun s hs => by rw [r _ (by omega)]; exact w60.2 s hs⟩
                  have r8 : (st_up (st_up σ60 206 (a0 + 1) (σ 206 a0)) 207 (a0 + 1) (σ 207 a0)) (300 + (8 + a0)) = σ (300 + (8 + a0)) := by rw [r _ (by omega)]; exact r8
                  have r26 : (st_up (st_up σ60 206 (a0 + 1) (σ 206 a0)) 207 (a0 + 1) (σ 207 a0)) (300 + 26) = sp_gcd P (τ (300 + 25)) (σ (300 + (8 + a0))) := by rw [r _ (by omega)]; exact r26
                  have t206 : ∀ t, (st_up (st_up σ60 206 (a0 + 1) (σ 206 a0)) 207 (a0 + 1) (σ 207 a0)) 206 t = if t = a0 + 1 then σ 206 a0 else σ60 206 t := fun t => by
                    rw [st_up_row (by omega), st_up_at]
                    rfl
                  have t207 : ∀ t, (st_up (st_up σ60 206 (a0 + 1) (σ 206 a0)) 207 (a0 + 1) (σ 207 a0)) 207 t = if t = a0 + 1 then σ 207 a0 else σ60 207 t := fun t => by
                    rw [st_up_at]
                    unfold va_up
                    split
                    · rfl
                    · rw [st_up_row (by omega)]
                  have q5 : (st_up (st_up σ60 206 (a0 + 1) (σ 206 a0)) 207 (a0 + 1) (σ 207 a0)) 205 = σ60 205 := by rw [st_up_row (by omega), st_up_row (by omega)]
                  have s61 : ∀ a, a ≠ 206 → a ≠ 207 → (st_up (st_up σ60 206 (a0 + 1) (σ 206 a0)) 207 (a0 + 1) (σ 207 a0)) a = σ60 a := fun a h1 h2 => by rw [st_up_row h2, st_up_row h1]
                  generalize (st_up (st_up σ60 206 (a0 + 1) (σ 206 a0)) 207 (a0 + 1) (σ 207 a0)) = σ61 at hW r w61 r8 r26 t206 t207 q5 s61
                  refine lv_aload_n hx hb dm_Model_split_250 rfl (lv_at hl 1 rfl) ?_
                  refine lv_iload_n hx hb dm_Model_split_251 rfl (lv_at hl 0 rfl) ?_
                  refine lv_bipush (v := nI (25)) hx hb dm_Model_split_252 (by decide) ?_
                  refine pw_callV (rest := []) S hW (mm_Model_copy l D k g σ61 w61 (a := 8 + a0) (b := 25) (by omega) (by omega)) (cv_Model_55 S.1.2.2.2.2 ⟨by decide, by decide⟩) (by decide) en_Model rfl rfl hl.1 rfl (lv_room (Nat.le_of_ble_eq_true rfl)) ⟨Nat.zero_le _, Nat.zero_le _⟩ dm_Model_split_254 (fun σ62 H locs hp62 hW => ?_)
                  obtain ⟨w62, e62, s62⟩ := hp62
                  have k62_8a0 : σ62 (300 + (8 + a0)) = σ (300 + (8 + a0)) := by rw [s62 _ (by simp only [List.mem_cons, List.not_mem_nil, or_false]; omega)]; exact r8
                  have k62_26 : σ62 (300 + (26)) = sp_gcd P (τ (300 + 25)) (σ (300 + (8 + a0))) := by rw [s62 _ (by simp only [List.mem_cons, List.not_mem_nil, or_false]; omega)]; exact r26
                  have k62_25 : σ62 (300 + (25)) = σ (300 + (8 + a0)) := by rw [e62, r8]
                  refine lv_aload_n hx hb dm_Model_split_257 rfl (lv_at hl 1 rfl) ?_
                  refine lv_bipush (v := nI (25)) hx hb dm_Model_split_258 (by decide) ?_
                  refine lv_bipush (v := nI (26)) hx hb dm_Model_split_260 (by decide) ?_
                  refine pw_callV (rest := []) S hW (mm_Model_rest l D k g σ62 w62 hP hP31 (a := 25) (b := 26) (by omega) (by omega) (by omega) (by omega) (by omega) (by rw [k62_26]; omega)) (cv_Model_52 S.1.2.2.2.2 ⟨by decide, by decide⟩) (by decide) en_Model rfl rfl hl.1 rfl (lv_room (Nat.le_of_ble_eq_true rfl)) ⟨Nat.zero_le _, Nat.zero_le _⟩ dm_Model_split_262 (fun σ63 H locs hp63 hW => ?_)
                  obtain ⟨w63, e63, s63⟩ := hp63
                  have k63_8a0 : σ63 (300 + (8 + a0)) = σ (300 + (8 + a0)) := by rw [s63 _ (by simp only [List.mem_cons, List.not_mem_nil, or_false]; omega)]; exact k62_8a0
                  have k63_26 : σ63 (300 + (26)) = sp_gcd P (τ (300 + 25)) (σ (300 + (8 + a0))) := by rw [s63 _ (by simp only [List.mem_cons, List.not_mem_nil, or_false]; omega)]; exact k62_26
                  have k63_25 : σ63 (300 + (25)) = sp_rest P (σ (300 + (8 + a0))) (sp_gcd P (τ (300 + 25)) (σ (300 + (8 + a0)))) := by rw [e63.1, k62_25, k62_26]
                  have k63_32 : σ63 (300 + (32)) = sp_quo P (σ (300 + (8 + a0))) (sp_gcd P (τ (300 + 25)) (σ (300 + (8 + a0)))) := by rw [e63.2, k62_25, k62_26]
                  have m63 : md_sm [300 + (25), 300 + (32)] σ61 σ63 := md_sm_tr s62 s63 (by intro x9 hx9; simp only [List.mem_cons, List.not_mem_nil, or_false] at hx9 ⊢; omega) (by intro x9 hx9; simp only [List.mem_cons, List.not_mem_nil, or_false] at hx9 ⊢; omega)
                  refine lv_aload_n hx hb dm_Model_split_265 rfl (lv_at hl 1 rfl) ?_
                  refine lv_bipush (v := nI (32)) hx hb dm_Model_split_266 (by decide) ?_
                  refine lv_iload_n hx hb dm_Model_split_268 rfl (lv_at hl 0 rfl) ?_
                  refine lv_iconst (v := nI (1)) hx hb dm_Model_split_269 (by decide) ?_
                  refine wn_iadd S dm_Model_split_270 ?_
                  refine pw_callV (rest := []) S hW (mm_Model_copy l D k g σ63 w63 (a := 32) (b := (8 + a0) + (1)) (by omega) (by omega)) (cv_Model_55 S.1.2.2.2.2 ⟨by decide, by decide⟩) (by decide) en_Model rfl rfl hl.1 rfl (lv_room (Nat.le_of_ble_eq_true rfl)) ⟨Nat.zero_le _, Nat.zero_le _⟩ dm_Model_split_271 (fun σ64 H locs hp64 hW => ?_)
                  obtain ⟨w64, e64, s64⟩ := hp64
                  have k64_26 : σ64 (300 + (26)) = sp_gcd P (τ (300 + 25)) (σ (300 + (8 + a0))) := by rw [s64 _ (by simp only [List.mem_cons, List.not_mem_nil, or_false]; omega)]; exact k63_26
                  have k64_32 : σ64 (300 + (32)) = sp_quo P (σ (300 + (8 + a0))) (sp_gcd P (τ (300 + 25)) (σ (300 + (8 + a0)))) := by rw [s64 _ (by simp only [List.mem_cons, List.not_mem_nil, or_false]; omega)]; exact k63_32
                  have k64_8a01 : σ64 (300 + ((8 + a0) + (1))) = sp_quo P (σ (300 + (8 + a0))) (sp_gcd P (τ (300 + 25)) (σ (300 + (8 + a0)))) := by rw [e64, k63_32]
                  have m64 : md_sm [300 + (25), 300 + (32), 300 + ((8 + a0) + (1))] σ61 σ64 := md_sm_tr m63 s64 (by intro x9 hx9; simp only [List.mem_cons, List.not_mem_nil, or_false] at hx9 ⊢; omega) (by intro x9 hx9; simp only [List.mem_cons, List.not_mem_nil, or_false] at hx9 ⊢; omega)
                  refine lv_aload_n hx hb dm_Model_split_274 rfl (lv_at hl 1 rfl) ?_
                  refine lv_bipush (v := nI (26)) hx hb dm_Model_split_275 (by decide) ?_
                  refine lv_iload_n hx hb dm_Model_split_277 rfl (lv_at hl 0 rfl) ?_
                  refine pw_callV (rest := []) S hW (mm_Model_copy l D k g σ64 w64 (a := 26) (b := 8 + a0) (by omega) (by omega)) (cv_Model_55 S.1.2.2.2.2 ⟨by decide, by decide⟩) (by decide) en_Model rfl rfl hl.1 rfl (lv_room (Nat.le_of_ble_eq_true rfl)) ⟨Nat.zero_le _, Nat.zero_le _⟩ dm_Model_split_278 (fun σ65 H locs hp65 hW => ?_)
                  obtain ⟨w65, e65, s65⟩ := hp65
                  have k65_8a01 : σ65 (300 + ((8 + a0) + (1))) = sp_quo P (σ (300 + (8 + a0))) (sp_gcd P (τ (300 + 25)) (σ (300 + (8 + a0)))) := by rw [s65 _ (by simp only [List.mem_cons, List.not_mem_nil, or_false]; omega)]; exact k64_8a01
                  have k65_8a0 : σ65 (300 + (8 + a0)) = sp_gcd P (τ (300 + 25)) (σ (300 + (8 + a0))) := by rw [e65, k64_26]
                  have m65 : md_sm [300 + (25), 300 + (32), 300 + ((8 + a0) + (1)), 300 + (8 + a0)] σ61 σ65 := md_sm_tr m64 s65 (by intro x9 hx9; simp only [List.mem_cons, List.not_mem_nil, or_false] at hx9 ⊢; omega) (by intro x9 hx9; simp only [List.mem_cons, List.not_mem_nil, or_false] at hx9 ⊢; omega)
                  refine lv_iconst (v := nI (1)) hx hb dm_Model_split_281 (by decide) ?_
                  have n205 : σ65 205 = σ60 205 := by rw [m65 _ (by simp only [List.mem_cons, List.not_mem_nil, or_false]; omega), q5]
                  have n206 : σ65 206 = σ61 206 := m65 _ (by simp only [List.mem_cons, List.not_mem_nil, or_false]; omega)
                  have n207 : σ65 207 = σ61 207 := m65 _ (by simp only [List.mem_cons, List.not_mem_nil, or_false]; omega)
                  have nrow : ∀ t, t ≠ a0 → t ≠ a0 + 1 → t < 16 → σ65 (300 + (8 + t)) = σ60 (300 + (8 + t)) := fun t h1 h2 h3 => by rw [m65 _ (by simp only [List.mem_cons, List.not_mem_nil, or_false]; omega), r _ (by omega)]
                  have v0 : mv_t σ65 a0 = (σ 206 a0, σ 207 a0, sp_gcd P (τ (300 + 25)) (σ (300 + (8 + a0)))) := by
                    unfold mv_t
                    rw [n206, n207, t206, t207, if_neg (by omega), if_neg (by omega), o6, d6, k65_8a0]
                  have v1 : mv_t σ65 (a0 + 1) = (σ 206 a0, σ 207 a0, sp_quo P (σ (300 + (8 + a0))) (sp_gcd P (τ (300 + 25)) (σ (300 + (8 + a0))))) := by
                    unfold mv_t
                    rw [n206, n207, t206, t207, if_pos rfl, if_pos rfl, show 300 + (8 + (a0 + 1)) = 300 + (8 + a0 + 1) by omega, k65_8a01]
                  have v2 : ∀ t, t ≠ a0 → t ≠ a0 + 1 → t < 16 → mv_t σ65 t = mv_t σ60 t := fun t h1 h2 h3 => by
                    unfold mv_t
                    rw [n206, n207, t206, t207, if_neg h2, if_neg h2, nrow t h1 h2 h3]
                  have hrw : ∀ t, t ≠ a0 → mv_t (st_rw σ (300 + (8 + a0)) (sp_gcd P (τ (300 + 25)) (σ (300 + (8 + a0))))) t = mv_t σ t := fun t h1 => by
                    unfold mv_t
                    rw [st_rw_row (by omega), st_rw_row (by omega), st_rw_row (by omega)]
                  have hrw0 : mv_t (st_rw σ (300 + (8 + a0)) (sp_gcd P (τ (300 + 25)) (σ (300 + (8 + a0))))) a0 = (σ 206 a0, σ 207 a0, sp_gcd P (τ (300 + 25)) (σ (300 + (8 + a0)))) := by
                    unfold mv_t
                    rw [st_rw_row (by omega), st_rw_row (by omega), st_rw_at]
                  have h205 : st_rw σ (300 + (8 + a0)) (sp_gcd P (τ (300 + 25)) (σ (300 + (8 + a0)))) 205 = σ 205 := st_rw_row (by omega)
                  have hins := ml_ins (σ := st_rw σ (300 + (8 + a0)) (sp_gcd P (τ (300 + 25)) (σ (300 + (8 + a0))))) (τ := σ65) (at0 := a0 + 1) (by rw [h205]; omega) (by rw [n205, c60, h205]) (fun t ht => by
                    by_cases h9 : t = a0
                    · rw [h9, v0, hrw0]
                    · rw [v2 t h9 (by omega) (by omega), hrw t h9, h3 t (by omega), hm5.2.2 t (by omega)]) v1 (fun t h8 h9 => by
                    rw [h205] at h9
                    rw [v2 t (by omega) (by omega) (by omega), hrw (t - 1) (by omega), h4 t h8 h9, hm5.2.2 (t - 1) (by omega)])
                  rw [ml_set ha0] at hins
                  refine hret _ _ _ _ _ _ dm_Model_split_282 (Or.inr ⟨a0, b0, ⟨ha0, rfl⟩, ⟨hb0, rfl⟩, Or.inr ⟨by omega, ⟨w65, fun j hj => by rw [n205, j60 j hj, hm5.2.1], fun a ha => ?_⟩, _, hU, Or.inr ⟨rfl, by omega, hne, hins⟩⟩⟩) hW
                  have x206 : a ≠ 206 := fun z => ha (by rw [z]; decide +kernel)
                  have x207 : a ≠ 207 := fun z => ha (by rw [z]; decide +kernel)
                  have xw : a ∉ mk_W := fun z => ha (mk_W_in z)
                  have xp : a ∉ mp_X := fun z => ha (mp_X_in z)
                  have xr : ∀ t, t < 16 → a ≠ 300 + (8 + t) := fun t ht z => xp (by rw [z]; exact List.mem_append_right _ (mp_in ht))
                  have x1 := xr a0 (by omega)
                  have x2 := xr (a0 + 1) (by omega)
                  have x25 : a ≠ 300 + 25 := fun z => xw (by rw [z]; decide)
                  have x32 : a ≠ 300 + 32 := fun z => xw (by rw [z]; decide)
                  rw [m65 a (by simp only [List.mem_cons, List.not_mem_nil, or_false]; omega), s61 a x206 x207, s60 a xp, smX a xw]
                · refine lv_iconst (v := nI (0)) hx hb dm_Model_split_205 (by decide) ?_
                  exact hret _ _ _ _ _ _ dm_Model_split_206 (Or.inr ⟨a0, b0, ⟨ha0, rfl⟩, ⟨hb0, rfl⟩, Or.inr ⟨by omega, ⟨w41, fun j hj => by rw [q205], md_sm_mo smW (fun _ h => mk_W_in h)⟩, _, hU, Or.inl ⟨rfl, by omega, hm4.1⟩⟩⟩) hW
            refine lv_aload_n hx hb dm_Model_split_39 rfl (lv_at hl 1 rfl) ?_
            refine md_p S hW (wa_in 561 (by decide +kernel) rfl) dm_Model_split_40 ?_
            rw [hw.1]
            refine lv_iconst (v := nI (2)) hx hb dm_Model_split_43 (by decide) ?_
            refine wi_icmp_ne (tgt := 109) S (nn_T (by omega)) (nn_T (by omega)) dm_Model_split_44 (by decide) (fun hc => ?_) (fun hc => ?_)
            · refine lv_aload_n hx hb dm_Model_split_109 rfl (lv_at hl 1 rfl) ?_
              refine lv_iload_n hx hb dm_Model_split_110 rfl (lv_at hl 3 rfl) ?_
              refine lv_aload_n hx hb dm_Model_split_111 rfl (lv_at hl 1 rfl) ?_
              refine md_degrees S hW (wa_in 565 (by decide +kernel) rfl) dm_Model_split_112 ?_
              refine lv_iload_n hx hb dm_Model_split_115 rfl (lv_at hl 2 rfl) ?_
              refine md_ald S hW (by omega) dm_Model_split_116 ?_
              refine lv_iload_n hx hb dm_Model_split_117 rfl (lv_at hl 0 rfl) ?_
              refine pw_callV (rest := []) S hW (mm_Model_chain l D k g σ hw hP hP31 (a := b0) (m0 := 8 + a0) (n0 := σ 207 a0) (by omega) (by omega) (by omega) (by omega) (by omega) (by omega) (by omega) (by omega) (by omega) (by omega)) (cv_Model_110 S.1.2.2.2.2 ⟨by decide, by decide⟩) (by decide) en_Model rfl rfl hl.1 rfl (lv_room (Nat.le_of_ble_eq_true rfl)) ⟨Nat.zero_le _, Nat.zero_le _⟩ dm_Model_split_118 (fun σ2 H locs hp2 hW => ?_)
              obtain ⟨w2, ⟨e2, -⟩, s2⟩ := hp2
              have k2_8a0 : σ2 (300 + (8 + a0)) = σ (300 + (8 + a0)) := by rw [s2 _ (by simp only [List.mem_cons, List.not_mem_nil, or_false]; omega)]
              have zc := e2.2.1
              refine lv_aload_n hx hb dm_Model_split_121 rfl (lv_at hl 1 rfl) ?_
              refine lv_bipush (v := nI (27)) hx hb dm_Model_split_122 (by decide) ?_
              refine lv_bipush (v := nI (25)) hx hb dm_Model_split_124 (by decide) ?_
              refine pw_callV (rest := []) S hW (mm_Model_copy l D k g σ2 w2 (a := 27) (b := 25) (by omega) (by omega)) (cv_Model_55 S.1.2.2.2.2 ⟨by decide, by decide⟩) (by decide) en_Model rfl rfl hl.1 rfl (lv_room (Nat.le_of_ble_eq_true rfl)) ⟨Nat.zero_le _, Nat.zero_le _⟩ dm_Model_split_126 (fun σ3 H locs hp3 hW => ?_)
              obtain ⟨w3, e3, s3⟩ := hp3
              have k3_8a0 : σ3 (300 + (8 + a0)) = σ (300 + (8 + a0)) := by rw [s3 _ (by simp only [List.mem_cons, List.not_mem_nil, or_false]; omega)]; exact k2_8a0
              have k3_27 : σ3 (300 + (27)) = σ2 (300 + 27) := by rw [s3 _ (by simp only [List.mem_cons, List.not_mem_nil, or_false]; omega)]
              have k3_25 : σ3 (300 + (25)) = σ2 (300 + 27) := by rw [e3]
              have m3 : md_sm [300 + (26), 300 + (27), 300 + (28), 300 + (31), 300 + (32), 300 + (25)] σ σ3 := md_sm_tr s2 s3 (by intro x9 hx9; simp only [List.mem_cons, List.not_mem_nil, or_false] at hx9 ⊢; omega) (by intro x9 hx9; simp only [List.mem_cons, List.not_mem_nil, or_false] at hx9 ⊢; omega)
              refine lv_aload_n hx hb dm_Model_split_129 rfl (lv_at hl 1 rfl) ?_
              refine lv_bipush (v := nI (25)) hx hb dm_Model_split_130 (by decide) ?_
              refine lv_aload_n hx hb dm_Model_split_132 rfl (lv_at hl 1 rfl) ?_
              refine md_p S hW (wa_in 561 (by decide +kernel) rfl) dm_Model_split_133 ?_
              rw [w3.1]
              refine lv_iconst (v := nI (1)) hx hb dm_Model_split_136 (by decide) ?_
              refine wn_isub S (by omega) dm_Model_split_137 ?_
              refine lv_iconst (v := nI (2)) hx hb dm_Model_split_138 (by decide) ?_
              refine wn_idiv S (by omega) (by omega) (by omega) dm_Model_split_139 ?_
              refine wn_i2l S (by omega) dm_Model_split_140 ?_
              refine lv_iload_n hx hb dm_Model_split_141 rfl (lv_at hl 0 rfl) ?_
              refine pw_callV (rest := []) S hW (mm_Model_power2 l D k g σ3 w3 hP hP31 (a := 25) (m0 := 8 + a0) (n0 := (P - 1) / 2) (by omega) (by omega) (by omega) (by omega) (by omega) (by omega) (by omega) (by omega) (by rw [k3_8a0]; omega) (by rw [k3_8a0]; omega) (by rw [k3_8a0, k3_25]; omega) (by omega)) (cv_Model_65 S.1.2.2.2.2 ⟨by decide, by decide⟩) (by decide) en_Model rfl rfl hl.1 rfl (lv_room (Nat.le_of_ble_eq_true rfl)) ⟨Nat.zero_le _, Nat.zero_le _⟩ dm_Model_split_142 (fun σ4 H locs hp4 hW => ?_)
              obtain ⟨w4, e4, s4⟩ := hp4
              have k4_8a0 : σ4 (300 + (8 + a0)) = σ (300 + (8 + a0)) := by rw [s4 _ (by simp only [List.mem_cons, List.not_mem_nil, or_false]; omega)]; exact k3_8a0
              have k4_27 : σ4 (300 + (27)) = σ2 (300 + 27) := by rw [s4 _ (by simp only [List.mem_cons, List.not_mem_nil, or_false]; omega)]; exact k3_27
              have k4_25 : σ4 (300 + (25)) = σ2 (300 + 27) := by rw [s4 _ (by simp only [List.mem_cons, List.not_mem_nil, or_false]; omega)]; exact k3_25
              have m4 : md_sm [300 + (26), 300 + (27), 300 + (28), 300 + (31), 300 + (32), 300 + (25)] σ σ4 := md_sm_tr m3 s4 (by intro x9 hx9; simp only [List.mem_cons, List.not_mem_nil, or_false] at hx9 ⊢; omega) (by intro x9 hx9; simp only [List.mem_cons, List.not_mem_nil, or_false] at hx9 ⊢; omega)
              rw [k3_8a0, k3_25] at e4
              have hpw := sp_is_q e4 (@ag_pw pz_T pz_R _ hI _ _ e2.2.2 ((P - 1) / 2))
              refine lv_aload_n hx hb dm_Model_split_145 rfl (lv_at hl 1 rfl) ?_
              refine lv_bipush (v := nI (28)) hx hb dm_Model_split_146 (by decide) ?_
              refine lv_bipush (v := nI (25)) hx hb dm_Model_split_148 (by decide) ?_
              refine pw_callV (rest := []) S hW (mm_Model_copy l D k g σ4 w4 (a := 28) (b := 25) (by omega) (by omega)) (cv_Model_55 S.1.2.2.2.2 ⟨by decide, by decide⟩) (by decide) en_Model rfl rfl hl.1 rfl (lv_room (Nat.le_of_ble_eq_true rfl)) ⟨Nat.zero_le _, Nat.zero_le _⟩ dm_Model_split_150 (fun σ5 H locs hp5 hW => ?_)
              obtain ⟨w5, e5, s5⟩ := hp5
              have k5_8a0 : σ5 (300 + (8 + a0)) = σ (300 + (8 + a0)) := by rw [s5 _ (by simp only [List.mem_cons, List.not_mem_nil, or_false]; omega)]; exact k4_8a0
              have k5_28 : σ5 (300 + (28)) = σ4 (300 + 28) := by rw [s5 _ (by simp only [List.mem_cons, List.not_mem_nil, or_false]; omega)]
              have k5_25 : σ5 (300 + (25)) = σ4 (300 + 28) := by rw [e5]
              have m5 : md_sm [300 + (26), 300 + (27), 300 + (28), 300 + (31), 300 + (32), 300 + (25)] σ σ5 := md_sm_tr m4 s5 (by intro x9 hx9; simp only [List.mem_cons, List.not_mem_nil, or_false] at hx9 ⊢; omega) (by intro x9 hx9; simp only [List.mem_cons, List.not_mem_nil, or_false] at hx9 ⊢; omega)
              refine lv_aload_n hx hb dm_Model_split_153 rfl (lv_at hl 1 rfl) ?_
              refine lv_bipush (v := nI (27)) hx hb dm_Model_split_154 (by decide) ?_
              refine lv_iconst (v := nI (1)) hx hb dm_Model_split_156 (by decide) ?_
              refine pw_callV (rest := []) S hW (mm_Model_number l D k g σ5 w5 (s0 := 27) (v := 1) (by omega) (by omega)) (cv_Model_38 S.1.2.2.2.2 ⟨by decide, by decide⟩) (by decide) en_Model rfl rfl hl.1 rfl (lv_room (Nat.le_of_ble_eq_true rfl)) ⟨Nat.zero_le _, Nat.zero_le _⟩ dm_Model_split_157 (fun σ6 H locs hp6 hW => ?_)
              obtain ⟨w6, e6, s6⟩ := hp6
              have k6_8a0 : σ6 (300 + (8 + a0)) = σ (300 + (8 + a0)) := by rw [s6 _ (by simp only [List.mem_cons, List.not_mem_nil, or_false]; omega)]; exact k5_8a0
              have k6_25 : σ6 (300 + (25)) = σ4 (300 + 28) := by rw [s6 _ (by simp only [List.mem_cons, List.not_mem_nil, or_false]; omega)]; exact k5_25
              have k6_27 : σ6 (300 + (27)) = va_up (fun _ => 0) 0 (1) := by rw [e6]
              have m6 : md_sm [300 + (26), 300 + (27), 300 + (28), 300 + (31), 300 + (32), 300 + (25)] σ σ6 := md_sm_tr m5 s6 (by intro x9 hx9; simp only [List.mem_cons, List.not_mem_nil, or_false] at hx9 ⊢; omega) (by intro x9 hx9; simp only [List.mem_cons, List.not_mem_nil, or_false] at hx9 ⊢; omega)
              refine lv_aload_n hx hb dm_Model_split_160 rfl (lv_at hl 1 rfl) ?_
              refine lv_bipush (v := nI (25)) hx hb dm_Model_split_161 (by decide) ?_
              refine lv_bipush (v := nI (27)) hx hb dm_Model_split_163 (by decide) ?_
              refine lv_aload_n hx hb dm_Model_split_165 rfl (lv_at hl 1 rfl) ?_
              refine md_p S hW (wa_in 561 (by decide +kernel) rfl) dm_Model_split_166 ?_
              rw [w6.1]
              refine lv_iconst (v := nI (1)) hx hb dm_Model_split_169 (by decide) ?_
              refine wn_isub S (by omega) dm_Model_split_170 ?_
              refine pw_callV (rest := []) S hW (mm_Model_plus l D k g σ6 w6 (by omega) hP31 (a := 25) (b := 27) (K := (P) - (1)) (by omega) (by omega) (by omega)) (cv_Model_78 S.1.2.2.2.2 ⟨by decide, by decide⟩) (by decide) en_Model rfl rfl hl.1 rfl (lv_room (Nat.le_of_ble_eq_true rfl)) ⟨Nat.zero_le _, Nat.zero_le _⟩ dm_Model_split_171 (fun σ7 H locs hp7 hW => ?_)
              obtain ⟨w7, e7, s7⟩ := hp7
              have k7_8a0 : σ7 (300 + (8 + a0)) = σ (300 + (8 + a0)) := by rw [s7 _ (by simp only [List.mem_cons, List.not_mem_nil, or_false]; omega)]; exact k6_8a0
              have k7_27 : σ7 (300 + (27)) = va_up (fun _ => 0) 0 (1) := by rw [s7 _ (by simp only [List.mem_cons, List.not_mem_nil, or_false]; omega)]; exact k6_27
              have k7_25 : σ7 (300 + (25)) = sp_add P (σ4 (300 + 28)) (va_up (fun _ => 0) 0 (1)) ((P) - (1)) := by rw [e7, k6_25, k6_27]
              have m7 : md_sm [300 + (26), 300 + (27), 300 + (28), 300 + (31), 300 + (32), 300 + (25)] σ σ7 := md_sm_tr m6 s7 (by intro x9 hx9; simp only [List.mem_cons, List.not_mem_nil, or_false] at hx9 ⊢; omega) (by intro x9 hx9; simp only [List.mem_cons, List.not_mem_nil, or_false] at hx9 ⊢; omega)
              have hadd := sp_is_add (show 0 < P by omega) hpw (sp_is_ct (M := σ (300 + (8 + a0))) (v := 1) (by omega) t1) (P - 1)
              refine tail σ7 w7 (md_sm_mo m7 (by intro x9 hx9; simp only [List.mem_cons, List.not_mem_nil, or_false] at hx9 ⊢; omega)) ?_ ls _ _ (lv_sub hl [0, 1, 2, 3] rfl) hW
              rw [k7_25]
              unfold sep_z
              rw [if_neg (by omega)]
              exact hadd
            · refine lv_aload_n hx hb dm_Model_split_47 rfl (lv_at hl 1 rfl) ?_
              refine lv_iload_n hx hb dm_Model_split_48 rfl (lv_at hl 3 rfl) ?_
              refine lv_bipush (v := nI (26)) hx hb dm_Model_split_49 (by decide) ?_
              refine pw_callV (rest := []) S hW (mm_Model_copy l D k g σ hw (a := b0) (b := 26) (by omega) (by omega)) (cv_Model_55 S.1.2.2.2.2 ⟨by decide, by decide⟩) (by decide) en_Model rfl rfl hl.1 rfl (lv_room (Nat.le_of_ble_eq_true rfl)) ⟨Nat.zero_le _, Nat.zero_le _⟩ dm_Model_split_51 (fun σ2 H locs hp2 hW => ?_)
              obtain ⟨w2, e2, s2⟩ := hp2
              have k2_8a0 : σ2 (300 + (8 + a0)) = σ (300 + (8 + a0)) := by rw [s2 _ (by simp only [List.mem_cons, List.not_mem_nil, or_false]; omega)]
              have k2_26 : σ2 (300 + (26)) = σ (300 + (b0)) := by rw [e2]
              refine lv_aload_n hx hb dm_Model_split_54 rfl (lv_at hl 1 rfl) ?_
              refine lv_bipush (v := nI (26)) hx hb dm_Model_split_55 (by decide) ?_
              refine lv_iload_n hx hb dm_Model_split_57 rfl (lv_at hl 0 rfl) ?_
              refine pw_callV (rest := []) S hW (mm_Model_rest l D k g σ2 w2 hP hP31 (a := 26) (b := 8 + a0) (by omega) (by omega) (by omega) (by omega) (by omega) (by rw [k2_8a0]; omega)) (cv_Model_52 S.1.2.2.2.2 ⟨by decide, by decide⟩) (by decide) en_Model rfl rfl hl.1 rfl (lv_room (Nat.le_of_ble_eq_true rfl)) ⟨Nat.zero_le _, Nat.zero_le _⟩ dm_Model_split_58 (fun σ3 H locs hp3 hW => ?_)
              obtain ⟨w3, e3, s3⟩ := hp3
              have k3_8a0 : σ3 (300 + (8 + a0)) = σ (300 + (8 + a0)) := by rw [s3 _ (by simp only [List.mem_cons, List.not_mem_nil, or_false]; omega)]; exact k2_8a0
              have k3_26 : σ3 (300 + (26)) = sp_rest P (σ (300 + (b0))) (σ (300 + (8 + a0))) := by rw [e3.1, k2_26, k2_8a0]
              have k3_32 : σ3 (300 + (32)) = sp_quo P (σ (300 + (b0))) (σ (300 + (8 + a0))) := by rw [e3.2, k2_26, k2_8a0]
              have m3 : md_sm [300 + (26), 300 + (32)] σ σ3 := md_sm_tr s2 s3 (by intro x9 hx9; simp only [List.mem_cons, List.not_mem_nil, or_false] at hx9 ⊢; omega) (by intro x9 hx9; simp only [List.mem_cons, List.not_mem_nil, or_false] at hx9 ⊢; omega)
              refine lv_aload_n hx hb dm_Model_split_61 rfl (lv_at hl 1 rfl) ?_
              refine lv_bipush (v := nI (25)) hx hb dm_Model_split_62 (by decide) ?_
              refine lv_iconst (v := nI (0)) hx hb dm_Model_split_64 (by decide) ?_
              refine pw_callV (rest := []) S hW (mm_Model_number l D k g σ3 w3 (s0 := 25) (v := 0) (by omega) (by omega)) (cv_Model_38 S.1.2.2.2.2 ⟨by decide, by decide⟩) (by decide) en_Model rfl rfl hl.1 rfl (lv_room (Nat.le_of_ble_eq_true rfl)) ⟨Nat.zero_le _, Nat.zero_le _⟩ dm_Model_split_65 (fun σ4 H locs hp4 hW => ?_)
              obtain ⟨w4, e4, s4⟩ := hp4
              have k4_8a0 : σ4 (300 + (8 + a0)) = σ (300 + (8 + a0)) := by rw [s4 _ (by simp only [List.mem_cons, List.not_mem_nil, or_false]; omega)]; exact k3_8a0
              have k4_26 : σ4 (300 + (26)) = sp_rest P (σ (300 + (b0))) (σ (300 + (8 + a0))) := by rw [s4 _ (by simp only [List.mem_cons, List.not_mem_nil, or_false]; omega)]; exact k3_26
              have k4_32 : σ4 (300 + (32)) = sp_quo P (σ (300 + (b0))) (σ (300 + (8 + a0))) := by rw [s4 _ (by simp only [List.mem_cons, List.not_mem_nil, or_false]; omega)]; exact k3_32
              have k4_25 : σ4 (300 + (25)) = va_up (fun _ => 0) 0 (0) := by rw [e4]
              have m4 : md_sm [300 + (26), 300 + (32), 300 + (25)] σ σ4 := md_sm_tr m3 s4 (by intro x9 hx9; simp only [List.mem_cons, List.not_mem_nil, or_false] at hx9 ⊢; omega) (by intro x9 hx9; simp only [List.mem_cons, List.not_mem_nil, or_false] at hx9 ⊢; omega)
              refine lv_iconst (v := nI (0)) hx hb dm_Model_split_68 (by decide) ?_
              refine lv_istore hx hb dm_Model_split_69 hl (by decide) rfl (fun ls hl => ?_)
              have hl : lv_has ls 5 [(4, .int (nI (0))), (3, .int (nI (8 + a0))), (0, .ref (g (149))), (1, .int (nI (a0))), (2, .int (nI (b0)))] := hl
              have hl : lv_has ls 5 [(4, .int (nI (0))), (3, .int (nI (8 + a0))), (0, .ref (g (149))), (1, .int (nI (a0))), (2, .int (nI (b0)))] := lv_sub hl [0, 1, 2, 3, 4] rfl
              have loop : ∀ (q9 i : Nat) (τ : st_T), i + q9 = σ 207 a0 → md_wf P τ → md_sm [300 + 25, 300 + 26, 300 + 27, 300 + 28, 300 + 31, 300 + 32] σ τ → sp_is P (σ (300 + (8 + a0))) (τ (300 + 25)) (@ag_sm pz_T pz_R (fun j => pz_pw (pe_f (σ (300 + b0))) (P ^ j)) i) → sp_is P (σ (300 + (8 + a0))) (τ (300 + 26)) (pz_pw (pe_f (σ (300 + b0))) (P ^ i)) → ∀ (ls : Array Slot) (H : Heap) (locs : List Loc), lv_has ls 5 [(4, .int (nI (i))), (3, .int (nI (8 + a0))), (0, .ref (g (149))), (1, .int (nI (a0))), (2, .int (nI (b0)))] → pw_H D cl_s A s.heap g 153 (en_s k g (τ)) H locs → W p l e rm_Model_split s m args below meth c H locs 0 0 Q (F0 m 71 ls []) := by
                intro q9
                induction q9 with
                | zero =>
                  intro i τ hi wτ sτ h25 h26 ls H locs hl hW
                  have t8 : τ (300 + (8 + a0)) = σ (300 + (8 + a0)) := sτ _ (by simp only [List.mem_cons, List.not_mem_nil, or_false]; omega)
                  have q207 : τ 207 = σ 207 := sτ 207 (by decide)
                  refine lv_iload hx hb dm_Model_split_71 (lv_at hl 0 rfl) ?_
                  refine lv_aload_n hx hb dm_Model_split_73 rfl (lv_at hl 2 rfl) ?_
                  refine md_degrees S hW (wa_in 565 (by decide +kernel) rfl) dm_Model_split_74 ?_
                  refine lv_iload_n hx hb dm_Model_split_77 rfl (lv_at hl 3 rfl) ?_
                  refine md_ald S hW (by omega) dm_Model_split_78 ?_
                  rw [q207]
                  refine wi_icmp_ge (tgt := 106) S (nn_T (by omega)) (nn_T (by omega)) dm_Model_split_79 (by decide) (fun hc => ?_) (fun hc => ?_)
                  · refine lv_goto (tgt := 174) hx hb dm_Model_split_106 (by decide) ?_
                    have hi : i = σ 207 a0 := by omega
                    rw [hi] at h25
                    refine tail τ wτ sτ ?_ ls _ _ (lv_sub hl [1, 2, 3, 4] rfl) hW
                    unfold sep_z fb_acc
                    rw [if_pos (by omega), if_neg (by omega)]
                    exact h25
                  · exfalso
                    omega
                | succ q9 ih =>
                  intro i τ hi wτ sτ h25 h26 ls H locs hl hW
                  have t8 : τ (300 + (8 + a0)) = σ (300 + (8 + a0)) := sτ _ (by simp only [List.mem_cons, List.not_mem_nil, or_false]; omega)
                  have q207 : τ 207 = σ 207 := sτ 207 (by decide)
                  refine lv_iload hx hb dm_Model_split_71 (lv_at hl 0 rfl) ?_
                  refine lv_aload_n hx hb dm_Model_split_73 rfl (lv_at hl 2 rfl) ?_
                  refine md_degrees S hW (wa_in 565 (by decide +kernel) rfl) dm_Model_split_74 ?_
                  refine lv_iload_n hx hb dm_Model_split_77 rfl (lv_at hl 3 rfl) ?_
                  refine md_ald S hW (by omega) dm_Model_split_78 ?_
                  rw [q207]
                  refine wi_icmp_ge (tgt := 106) S (nn_T (by omega)) (nn_T (by omega)) dm_Model_split_79 (by decide) (fun hc => ?_) (fun hc => ?_)
                  · exfalso
                    omega
                  · have z26 := h26.2.1
                    refine lv_aload_n hx hb dm_Model_split_82 rfl (lv_at hl 2 rfl) ?_
                    refine lv_bipush (v := nI (25)) hx hb dm_Model_split_83 (by decide) ?_
                    refine lv_bipush (v := nI (26)) hx hb dm_Model_split_85 (by decide) ?_
                    refine lv_iconst (v := nI (1)) hx hb dm_Model_split_87 (by decide) ?_
                    refine pw_callV (rest := []) S hW (mm_Model_plus l D k g τ wτ (by omega) hP31 (a := 25) (b := 26) (K := 1) (by omega) (by omega) (by omega)) (cv_Model_78 S.1.2.2.2.2 ⟨by decide, by decide⟩) (by decide) en_Model rfl rfl hl.1 rfl (lv_room (Nat.le_of_ble_eq_true rfl)) ⟨Nat.zero_le _, Nat.zero_le _⟩ dm_Model_split_88 (fun σ11 H locs hp11 hW => ?_)
                    obtain ⟨w11, e11, s11⟩ := hp11
                    have k11_26 : σ11 (300 + (26)) = τ (300 + 26) := by rw [s11 _ (by simp only [List.mem_cons, List.not_mem_nil, or_false]; omega)]
                    have k11_8a0 : σ11 (300 + (8 + a0)) = σ (300 + (8 + a0)) := by rw [s11 _ (by simp only [List.mem_cons, List.not_mem_nil, or_false]; omega)]; exact t8
                    have k11_25 : σ11 (300 + (25)) = sp_add P (τ (300 + 25)) (τ (300 + 26)) (1) := by rw [e11]
                    refine lv_aload_n hx hb dm_Model_split_91 rfl (lv_at hl 2 rfl) ?_
                    refine lv_bipush (v := nI (26)) hx hb dm_Model_split_92 (by decide) ?_
                    refine lv_bipush (v := nI (26)) hx hb dm_Model_split_94 (by decide) ?_
                    refine lv_iload_n hx hb dm_Model_split_96 rfl (lv_at hl 1 rfl) ?_
                    refine pw_callV (rest := []) S hW (mm_Model_timesBy l D k g σ11 w11 hP hP31 (a := 26) (b := 26) (m0 := 8 + a0) (by omega) (by omega) (by omega) (by omega) (by omega) (by omega) (by omega) (by rw [k11_26]; omega) (by rw [k11_8a0]; omega)) (cv_Model_62 S.1.2.2.2.2 ⟨by decide, by decide⟩) (by decide) en_Model rfl rfl hl.1 rfl (lv_room (Nat.le_of_ble_eq_true rfl)) ⟨Nat.zero_le _, Nat.zero_le _⟩ dm_Model_split_97 (fun σ12 H locs hp12 hW => ?_)
                    obtain ⟨w12, e12, s12⟩ := hp12
                    have k12_8a0 : σ12 (300 + (8 + a0)) = σ (300 + (8 + a0)) := by rw [s12 _ (by simp only [List.mem_cons, List.not_mem_nil, or_false]; omega)]; exact k11_8a0
                    have k12_25 : σ12 (300 + (25)) = sp_add P (τ (300 + 25)) (τ (300 + 26)) (1) := by rw [s12 _ (by simp only [List.mem_cons, List.not_mem_nil, or_false]; omega)]; exact k11_25
                    have k12_26 : σ12 (300 + (26)) = sp_rest P (sp_mul P (τ (300 + 26)) (τ (300 + 26))) (σ (300 + (8 + a0))) := by rw [e12, k11_26, k11_8a0]
                    have m12 : md_sm [300 + (25), 300 + (26), 300 + (31), 300 + (32)] τ σ12 := md_sm_tr s11 s12 (by intro x9 hx9; simp only [List.mem_cons, List.not_mem_nil, or_false] at hx9 ⊢; omega) (by intro x9 hx9; simp only [List.mem_cons, List.not_mem_nil, or_false] at hx9 ⊢; omega)
                    refine lv_iinc (k := 0) (v := nI (i + 1)) hx hb dm_Model_split_100 hl rfl (by rw [show Int32.ofInt 1 = nI 1 from rfl, nI_add]) (by decide) rfl (fun ls hl => ?_)
                    have hl : lv_has ls 5 [(4, .int (nI (i + 1))), (3, .int (nI (8 + a0))), (0, .ref (g (149))), (1, .int (nI (a0))), (2, .int (nI (b0)))] := hl
                    refine lv_goto (tgt := 71) hx hb dm_Model_split_103 (by decide) ?_
                    have hl : lv_has ls 5 [(4, .int (nI (i + 1))), (3, .int (nI (8 + a0))), (0, .ref (g (149))), (1, .int (nI (a0))), (2, .int (nI (b0)))] := lv_sub hl [0, 1, 2, 3, 4] rfl
                    have hsq := sp_mr hP h26.1 h26.1 hMo (by omega) (by omega) h26.2.2 h26.2.2
                    refine ih (i + 1) σ12 (by omega) w12 (md_sm_tr sτ m12 (fun _ h => h) (by intro x9 hx9; simp only [List.mem_cons, List.not_mem_nil, or_false] at hx9 ⊢; omega)) ?_ ?_ ls _ _ hl hW
                    · rw [k12_25]
                      exact sp_is_add1 hP2 h25 h26
                    · rw [k12_26]
                      refine sp_is_q hsq (@ag_of_eq pz_T pz_R _ hI _ _ ?_)
                      rw [Nat.pow_succ, show P ^ i * P = P ^ i + P ^ i by rw [show P = 2 by omega, Nat.mul_two]]
                      exact (@Lean.Grind.Semiring.pow_add pz_T pz_R.toSemiring _ _ _).symm
              have hr := sp_rest_is hP (hw.2 b0 (by omega)) hMo (by omega)
              refine loop (σ 207 a0) 0 σ4 (by omega) w4 (md_sm_mo m4 (by intro x9 hx9; simp only [List.mem_cons, List.not_mem_nil, or_false] at hx9 ⊢; omega)) ?_ ?_ ls _ _ hl hW
              · rw [k4_25]
                exact sp_is_ct (v := 0) (by omega) t1
              · rw [k4_26, Nat.pow_zero]
                have e1 : pz_pw (pe_f (σ (300 + b0))) 1 = pe_f (σ (300 + b0)) := pz_R.one_mul _
                rw [e1]
                exact hr
          · refine lv_iconst (v := -1) hx hb dm_Model_split_32 (by decide) ?_
            exact hret _ _ _ _ _ _ dm_Model_split_33 (Or.inr ⟨a0, b0, ⟨ha0, rfl⟩, ⟨hb0, rfl⟩, Or.inl ⟨by omega, rfl, rfl⟩⟩) hW
      · subst hr
        refine wi_if_eq (tgt := 32) S (nn_T (by omega)) dm_Model_split_12 (by decide) (fun hc => ?_) (fun hc => ?_)
        · refine lv_iconst (v := -1) hx hb dm_Model_split_32 (by decide) ?_
          exact hret _ _ _ _ _ _ dm_Model_split_33 (Or.inl ⟨fun z => hno z.2, rfl, rfl⟩) hW
        · exfalso
          omega
  · subst hr
    refine wi_if_eq (tgt := 32) S (nn_T (by omega)) dm_Model_split_5 (by decide) (fun hc => ?_) (fun hc => ?_)
    · refine lv_iconst (v := -1) hx hb dm_Model_split_32 (by decide) ?_
      exact hret _ _ _ _ _ _ dm_Model_split_33 (Or.inl ⟨fun z => hno z.1, rfl, rfl⟩) hW
    · exfalso
      omega
